/-! PURE: a flame trimmed -/
theorem RR.fl0 {c jn : Nat} {P : Nat → Nat} {u v : St} (hC : RCourt c jn P u v) (R : Rest c jn u v) {g t : Nat} (hg : g < 2 * c) (ht : t ≤ 3) : RR (sta u 0 (nI g) (nI t)) (sta v 0 (nI (0 + g)) (nI t)) := by
  obtain ⟨c1, c2, ⟨p1, p2, p3, p4, p5, p6, p7⟩, ⟨y1, y2, y3, y4, y5, y6, y7, y8, y9⟩, c5, c6, c7⟩ := hC
  refine ⟨c, jn, pu P (0 + g) t, ⟨c1, c2, ⟨by rw [pu_n P (by omega)]; exact p1, by rw [pu_n P (by omega)]; exact p2, fun f hf => ?_, fun f hf => ?_, fun f hf => ?_, fun f hf => ?_, fun f hf => ?_⟩, ⟨y1, y2, by rw [pu_n P (by omega)]; exact y3, by rw [pu_n P (by omega)]; exact y4, fun f hf => ?_, fun f hf => ?_, fun f hf => ?_, fun f hf => ?_, fun f hf => ?_⟩, c5, c6, c7.pu (k := 0 + g) (by omega)⟩, ?_⟩
  · rw [pu_n P (show 8 + f ≠ 0 + g by omega), pu_n P (show 16 + f ≠ 0 + g by omega)]
    obtain ⟨w0, w1, w2⟩ := p3 f hf
    have w : pu P (0 + g) t (f) ≤ 3 := by
      by_cases w : f = g
      · rw [w, Nat.zero_add, pu_s]; exact ht
      · rw [pu_n P (by omega)]; omega
    exact ⟨w, w1, w2⟩
  · rw [pu_n P (by omega), pu_n P (by omega), pu_n P (by omega), pu_n P (by omega)]; exact p4 f hf
  · rw [pu_n P (by omega), pu_n P (by omega)]; exact p5 f hf
  · rw [pu_n P (by omega)] at hf
    rw [pu_n P (by omega), pu_n P (by omega)]; exact p6 f hf
  · rw [pu_n P (by omega)] at hf
    rw [pu_n P (by omega), pu_n P (by omega)]; exact p7 f hf
  · rw [pu_n P (show 8 + f ≠ 0 + g by omega), pu_n P (show 16 + f ≠ 0 + g by omega)]
    obtain ⟨w0, w1, w2⟩ := y5 f hf
    have w : (sta u 0 (nI g) (nI t)).2 0 f = nI (pu P (0 + g) t (f)) := by
      rw [sta_h _ _ (by omega)]
      by_cases w : f = g
      · rw [if_pos w, w, Nat.zero_add, pu_s]
      · rw [if_neg w, pu_n P (by omega)]; exact w0
    exact ⟨w, w1, w2⟩
  · rw [pu_n P (by omega), pu_n P (by omega), pu_n P (by omega), pu_n P (by omega)]; exact y6 f hf
  · rw [pu_n P (by omega), pu_n P (by omega)]; exact y7 f hf
  · rw [pu_n P (by omega)] at hf
    rw [pu_n P (by omega), pu_n P (by omega)]; exact y8 f hf
  · rw [pu_n P (by omega)] at hf
    rw [pu_n P (by omega), pu_n P (by omega)]; exact y9 f hf
  · exact R.fr (fun k hk => rfl) (fun k hk => by rw [sta_m _ _ _ (by omega)]) (fun k hk => rfl) (fun k hk => by rw [sta_m _ _ _ hk]) (fun i hi => by rw [sta_h _ _ (by omega), if_neg (by omega)])
theorem RR.fl1 {c jn : Nat} {P : Nat → Nat} {u v : St} (hC : RCourt c jn P u v) (R : Rest c jn u v) {g t : Nat} (hg : g < 2 * c) (ht : t ≤ 99) : RR (sta u 1 (nI g) (nI t)) (sta v 0 (nI (8 + g)) (nI t)) := by
  obtain ⟨c1, c2, ⟨p1, p2, p3, p4, p5, p6, p7⟩, ⟨y1, y2, y3, y4, y5, y6, y7, y8, y9⟩, c5, c6, c7⟩ := hC
  refine ⟨c, jn, pu P (8 + g) t, ⟨c1, c2, ⟨by rw [pu_n P (by omega)]; exact p1, by rw [pu_n P (by omega)]; exact p2, fun f hf => ?_, fun f hf => ?_, fun f hf => ?_, fun f hf => ?_, fun f hf => ?_⟩, ⟨y1, y2, by rw [pu_n P (by omega)]; exact y3, by rw [pu_n P (by omega)]; exact y4, fun f hf => ?_, fun f hf => ?_, fun f hf => ?_, fun f hf => ?_, fun f hf => ?_⟩, c5, c6, c7.pu (k := 8 + g) (by omega)⟩, ?_⟩
  · rw [pu_n P (show f ≠ 8 + g by omega), pu_n P (show 16 + f ≠ 8 + g by omega)]
    obtain ⟨w0, w1, w2⟩ := p3 f hf
    have w : pu P (8 + g) t (8 + f) ≤ 99 := by
      by_cases w : f = g
      · rw [w, show 8 + g = 8 + g by omega, pu_s]; exact ht
      · rw [pu_n P (by omega)]; omega
    exact ⟨w0, w, w2⟩
  · rw [pu_n P (by omega), pu_n P (by omega), pu_n P (by omega), pu_n P (by omega)]; exact p4 f hf
  · rw [pu_n P (by omega), pu_n P (by omega)]; exact p5 f hf
  · rw [pu_n P (by omega)] at hf
    rw [pu_n P (by omega), pu_n P (by omega)]; exact p6 f hf
  · rw [pu_n P (by omega)] at hf
    rw [pu_n P (by omega), pu_n P (by omega)]; exact p7 f hf
  · rw [pu_n P (show f ≠ 8 + g by omega), pu_n P (show 16 + f ≠ 8 + g by omega)]
    obtain ⟨w0, w1, w2⟩ := y5 f hf
    have w : (sta u 1 (nI g) (nI t)).2 1 f = nI (pu P (8 + g) t (8 + f)) := by
      rw [sta_h _ _ (by omega)]
      by_cases w : f = g
      · rw [if_pos w, w, show 8 + g = 8 + g by omega, pu_s]
      · rw [if_neg w, pu_n P (by omega)]; exact w1
    exact ⟨w0, w, w2⟩
  · rw [pu_n P (by omega), pu_n P (by omega), pu_n P (by omega), pu_n P (by omega)]; exact y6 f hf
  · rw [pu_n P (by omega), pu_n P (by omega)]; exact y7 f hf
  · rw [pu_n P (by omega)] at hf
    rw [pu_n P (by omega), pu_n P (by omega)]; exact y8 f hf
  · rw [pu_n P (by omega)] at hf
    rw [pu_n P (by omega), pu_n P (by omega)]; exact y9 f hf
  · exact R.fr (fun k hk => rfl) (fun k hk => by rw [sta_m _ _ _ (by omega)]) (fun k hk => rfl) (fun k hk => by rw [sta_m _ _ _ hk]) (fun i hi => by rw [sta_h _ _ (by omega), if_neg (by omega)])
theorem RR.fl2 {c jn : Nat} {P : Nat → Nat} {u v : St} (hC : RCourt c jn P u v) (R : Rest c jn u v) {g t : Nat} (hg : g < 2 * c) (ht : t ≤ 9) : RR (sta u 2 (nI g) (nI t)) (sta v 0 (nI (16 + g)) (nI t)) := by
  obtain ⟨c1, c2, ⟨p1, p2, p3, p4, p5, p6, p7⟩, ⟨y1, y2, y3, y4, y5, y6, y7, y8, y9⟩, c5, c6, c7⟩ := hC
  refine ⟨c, jn, pu P (16 + g) t, ⟨c1, c2, ⟨by rw [pu_n P (by omega)]; exact p1, by rw [pu_n P (by omega)]; exact p2, fun f hf => ?_, fun f hf => ?_, fun f hf => ?_, fun f hf => ?_, fun f hf => ?_⟩, ⟨y1, y2, by rw [pu_n P (by omega)]; exact y3, by rw [pu_n P (by omega)]; exact y4, fun f hf => ?_, fun f hf => ?_, fun f hf => ?_, fun f hf => ?_, fun f hf => ?_⟩, c5, c6, c7.pu (k := 16 + g) (by omega)⟩, ?_⟩
  · rw [pu_n P (show f ≠ 16 + g by omega), pu_n P (show 8 + f ≠ 16 + g by omega)]
    obtain ⟨w0, w1, w2⟩ := p3 f hf
    have w : pu P (16 + g) t (16 + f) ≤ 9 := by
      by_cases w : f = g
      · rw [w, show 16 + g = 16 + g by omega, pu_s]; exact ht
      · rw [pu_n P (by omega)]; omega
    exact ⟨w0, w1, w⟩
  · rw [pu_n P (by omega), pu_n P (by omega), pu_n P (by omega), pu_n P (by omega)]; exact p4 f hf
  · rw [pu_n P (by omega), pu_n P (by omega)]; exact p5 f hf
  · rw [pu_n P (by omega)] at hf
    rw [pu_n P (by omega), pu_n P (by omega)]; exact p6 f hf
  · rw [pu_n P (by omega)] at hf
    rw [pu_n P (by omega), pu_n P (by omega)]; exact p7 f hf
  · rw [pu_n P (show f ≠ 16 + g by omega), pu_n P (show 8 + f ≠ 16 + g by omega)]
    obtain ⟨w0, w1, w2⟩ := y5 f hf
    have w : (sta u 2 (nI g) (nI t)).2 2 f = nI (pu P (16 + g) t (16 + f)) := by
      rw [sta_h _ _ (by omega)]
      by_cases w : f = g
      · rw [if_pos w, w, show 16 + g = 16 + g by omega, pu_s]
      · rw [if_neg w, pu_n P (by omega)]; exact w2
    exact ⟨w0, w1, w⟩
  · rw [pu_n P (by omega), pu_n P (by omega), pu_n P (by omega), pu_n P (by omega)]; exact y6 f hf
  · rw [pu_n P (by omega), pu_n P (by omega)]; exact y7 f hf
  · rw [pu_n P (by omega)] at hf
    rw [pu_n P (by omega), pu_n P (by omega)]; exact y8 f hf
  · rw [pu_n P (by omega)] at hf
    rw [pu_n P (by omega), pu_n P (by omega)]; exact y9 f hf
  · exact R.fr (fun k hk => rfl) (fun k hk => by rw [sta_m _ _ _ (by omega)]) (fun k hk => rfl) (fun k hk => by rw [sta_m _ _ _ hk]) (fun i hi => by rw [sta_h _ _ (by omega), if_neg (by omega)])
