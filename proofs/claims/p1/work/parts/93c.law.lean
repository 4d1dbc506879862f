/-! THE CLAIM OUT OF ONE WALK OF THE LAW'S BODY. Your part is whole_start (and what it stands on); all else here is the same for every law, but numbers. -/
def R_law : String := "SnuffCourtLaw"
def lw_P (b : Addr) (xs : List Int32) (args : Array Value) (s : State) : Prop := args = #[.ref b] ∧ s.IntsAt b xs ∧ xs.length ≤ 6 ∧ (Jvm.Cond.and given_1 narrow_1).before args s = true
def lw_Q (_ : Array Value) (s : State) (o : Outcome) (t : State) : Prop := o = .returned (some (.int 1)) ∧ Framed s o t [] 91 1902
def lw_Z (below : List Frame) (a : Array Value) (s : State) : State → Prop := fun t => ∃ o, t.status = .running ∧ Ended t below o ∧ lw_Q a s o t
/-- the law's own end, with 1 on the stack, nothing written that was there before, its room as the claim has it -/
theorem lw_ret {p : Program} {l : Launch} {e : Env} {s : State} {m : MethodId} {below : List Frame} {meth : Method} {c : Code} {b : Nat} (hx : p.tables.exec = Jvm.exec) (hb : c.code = code) (hr : meth.sig.returnType = ret) (hlocks : meth.locks = false) {pc : Nat} {H : Heap} {ls : Array Slot} (hdg : decode code pc = .ok (.ireturn, 1)) : W p l e room_1 s m #[Value.ref b] below meth c H [] 91 1902 (lw_Z below #[Value.ref b] s) (F0 m pc ls [.int 1]) := by
  intro T hT X
  obtain ⟨fs, hret, hrun, hended, hW, hframe⟩ := X.leave (v := some (.int 1)) (hlocks := hlocks) (fun h => by rw [hr] at h; cases h)
  have hmeth' : T.vm.method? m = some meth := X.method'
  refine ⟨T.setFrames fs, ?_, .returned (some (.int 1)), hrun, hended, rfl, ⟨_, rfl⟩, hW, hframe⟩
  jvm_step X.here [X.here.top, hx, hb, hdg, hmeth', hr, ret, narrow_b1]
  (try refine ⟨rfl, ?_⟩); (try refine ⟨rfl, ?_⟩)
  first | (intro acts; rw [hret _ acts rfl rfl rfl]) | rw [hret _ _ rfl rfl rfl]
  exact Steps.refl _
/-- what holds at the law's entry: the machine, the code, the tables' words (any of lw_tbl by 'hts w (by decide +kernel)'), the script of L ints xs at the cell b, what the Statement gives of the start (any of its parts by flat_of_before) -/
def lw_At (p : Program) (s : State) (m : MethodId) (meth : Method) (c : Code) (b L : Nat) (xs : Nat → Int32) : Prop :=
  p.tables.exec = Jvm.exec ∧ c.code = code ∧ meth.sig.returnType = ret ∧ c.maxLocals = 4 ∧ s.vm.findClass R_law = some m.cls ∧ (∀ w ∈ lw_tbl, w.before #[Value.ref b] s = true) ∧ va_X b L xs s s.heap ∧ b < s.heap.size ∧ meth.locks = false ∧ (Jvm.Cond.and given_1 narrow_1).before #[Value.ref b] s = true
theorem l_in {i L : Nat} (hL : L ≤ 384) (h6 : i + 6 ≤ L) (k : Nat) (hk : k < 6) : vp_in (nI i + nI k) L := by
  rw [nI_add]
  exact vp_in_nI (by omega) (by omega)
set_option maxRecDepth 100000 in
set_option maxHeartbeats 4000000 in
theorem law_c0 {p : Program} {l : Launch} {e : Env} {s : State} {m : MethodId} {below : List Frame} {meth : Method} {c : Code} {D : va_G} {cI cZ : ClassId} {ad ad2 : Nat → Nat} {tBURNS tFLAME_BOUNDS : Nat} {tS : Option Nat} {adK adV : Nat → Nat} {b L : Nat} {xs : Nat → Int32} (hL : L ≤ 384) (hX : va_X b L xs s s.heap) (hbl : b < s.heap.size) (hbA : ¬ s.heap.size ≤ b) (C : Cx p s m #[Value.ref b] meth c D [(cI, .int), (cZ, .boolean)] (EX tBURNS tFLAME_BOUNDS tS adK adV) (fun q : Nat => s.heap.size ≤ q) cL_law 4 (some .boolean) RL wsL_law) {i : Nat} (h6 : i + 6 ≤ L) {u v u' v' : St} {r : Int32} (e1 : pX6_feed LF (xs (nI i + 1).toNatClampNeg) u = some (r, u')) (e2 : pX7_feed LF (xs (nI i + 1).toNatClampNeg) v = some (r, v')) (k : KX p l e room_1 s m #[Value.ref b] below meth c D (fun q : Nat => s.heap.size ≤ q) 4 91 1902 (lw_Z below #[Value.ref b] s) 1725 [(0, .ref b), (1, .ref (ad 0)), (2, .ref (ad2 0)), (3, .int (nI i))] [] (wX ad cI cZ u' ++ wM ad2 cI cZ v')) : KX p l e room_1 s m #[Value.ref b] below meth c D (fun q : Nat => s.heap.size ≤ q) 4 91 1902 (lw_Z below #[Value.ref b] s) 228 [(0, .ref b), (1, .ref (ad 0)), (2, .ref (ad2 0)), (3, .int (nI i))] [] (wX ad cI cZ u ++ wM ad2 cI cZ v) := by
  have C0 := C.env (EV2 := E0) trivial
  have hi := hL
  refine k_aload_n C 228 1 dL_law_228 rfl ?_
  refine k_aload_n C 229 0 dL_law_229 rfl ?_
  refine k_iload_n C 230 3 dL_law_230 rfl ?_
  refine k_iconst C 231 1 dL_law_231 rfl ?_
  refine k_iadd C 232 dL_law_232 ?_
  refine k_sld C 233 hX hbl hbA (l_in hi h6 1 (by decide)) dL_law_233 ?_
  refine k_callVi (st := []) (As := [.int (xs (nI i + 1).toNatClampNeg)]) C EX_ok EX_vm 234 1 (tX6_feed (ad := ad) LF (xs (nI i + 1).toNatClampNeg) u) e1 rfl gL_law_X6_feed rfl rfl rfl (by decide +kernel) ⟨Nat.le_of_ble_eq_true rfl, Nat.le_of_ble_eq_true rfl⟩ ⟨Nat.le_of_ble_eq_true rfl, Nat.le_of_ble_eq_true rfl⟩ rfl rfl rfl (Nat.le_of_ble_eq_true rfl) dL_law_234 ?_
  refine k_aload_n C 237 2 dL_law_237 rfl ?_
  refine k_aload_n C 238 0 dL_law_238 rfl ?_
  refine k_iload_n C 239 3 dL_law_239 rfl ?_
  refine k_iconst C 240 1 dL_law_240 rfl ?_
  refine k_iadd C 241 dL_law_241 ?_
  refine k_sld C 242 hX hbl hbA (l_in hi h6 1 (by decide)) dL_law_242 ?_
  refine k_swap ?_
  refine k_callVi (st := [.int r]) (As := [.int (xs (nI i + 1).toNatClampNeg)]) C0 E0_ok E0_vm 243 1 (tX7_feed (ad := ad2) LF (xs (nI i + 1).toNatClampNeg) v) e2 rfl gL_law_X7_feed rfl rfl rfl (by decide +kernel) ⟨Nat.le_of_ble_eq_true rfl, Nat.le_of_ble_eq_true rfl⟩ ⟨Nat.le_of_ble_eq_true rfl, Nat.le_of_ble_eq_true rfl⟩ rfl rfl rfl (Nat.le_of_ble_eq_true rfl) dL_law_243 ?_
  refine k_swap ?_
  exact k_icmp_eqT C 246 1725 dL_law_246 (by decide) k
set_option maxRecDepth 100000 in
set_option maxHeartbeats 4000000 in
theorem law_c1 {p : Program} {l : Launch} {e : Env} {s : State} {m : MethodId} {below : List Frame} {meth : Method} {c : Code} {D : va_G} {cI cZ : ClassId} {ad ad2 : Nat → Nat} {tBURNS tFLAME_BOUNDS : Nat} {tS : Option Nat} {adK adV : Nat → Nat} {b L : Nat} {xs : Nat → Int32} (hL : L ≤ 384) (hX : va_X b L xs s s.heap) (hbl : b < s.heap.size) (hbA : ¬ s.heap.size ≤ b) (C : Cx p s m #[Value.ref b] meth c D [(cI, .int), (cZ, .boolean)] (EX tBURNS tFLAME_BOUNDS tS adK adV) (fun q : Nat => s.heap.size ≤ q) cL_law 4 (some .boolean) RL wsL_law) {i : Nat} (h6 : i + 6 ≤ L) {u v u' v' : St} {r : Int32} (e1 : pX6_end LF (xs (nI i + 1).toNatClampNeg) u = some (r, u')) (e2 : pX7_end LF (xs (nI i + 1).toNatClampNeg) v = some (r, v')) (k : KX p l e room_1 s m #[Value.ref b] below meth c D (fun q : Nat => s.heap.size ≤ q) 4 91 1902 (lw_Z below #[Value.ref b] s) 1725 [(0, .ref b), (1, .ref (ad 0)), (2, .ref (ad2 0)), (3, .int (nI i))] [] (wX ad cI cZ u' ++ wM ad2 cI cZ v')) : KX p l e room_1 s m #[Value.ref b] below meth c D (fun q : Nat => s.heap.size ≤ q) 4 91 1902 (lw_Z below #[Value.ref b] s) 251 [(0, .ref b), (1, .ref (ad 0)), (2, .ref (ad2 0)), (3, .int (nI i))] [] (wX ad cI cZ u ++ wM ad2 cI cZ v) := by
  have C0 := C.env (EV2 := E0) trivial
  have hi := hL
  refine k_aload_n C 251 1 dL_law_251 rfl ?_
  refine k_aload_n C 252 0 dL_law_252 rfl ?_
  refine k_iload_n C 253 3 dL_law_253 rfl ?_
  refine k_iconst C 254 1 dL_law_254 rfl ?_
  refine k_iadd C 255 dL_law_255 ?_
  refine k_sld C 256 hX hbl hbA (l_in hi h6 1 (by decide)) dL_law_256 ?_
  refine k_callVi (st := []) (As := [.int (xs (nI i + 1).toNatClampNeg)]) C EX_ok EX_vm 257 1 (tX6_end (ad := ad) LF (xs (nI i + 1).toNatClampNeg) u) e1 rfl gL_law_X6_end rfl rfl rfl (by decide +kernel) ⟨Nat.le_of_ble_eq_true rfl, Nat.le_of_ble_eq_true rfl⟩ ⟨Nat.le_of_ble_eq_true rfl, Nat.le_of_ble_eq_true rfl⟩ rfl rfl rfl (Nat.le_of_ble_eq_true rfl) dL_law_257 ?_
  refine k_aload_n C 260 2 dL_law_260 rfl ?_
  refine k_aload_n C 261 0 dL_law_261 rfl ?_
  refine k_iload_n C 262 3 dL_law_262 rfl ?_
  refine k_iconst C 263 1 dL_law_263 rfl ?_
  refine k_iadd C 264 dL_law_264 ?_
  refine k_sld C 265 hX hbl hbA (l_in hi h6 1 (by decide)) dL_law_265 ?_
  refine k_swap ?_
  refine k_callVi (st := [.int r]) (As := [.int (xs (nI i + 1).toNatClampNeg)]) C0 E0_ok E0_vm 266 1 (tX7_end (ad := ad2) LF (xs (nI i + 1).toNatClampNeg) v) e2 rfl gL_law_X7_end rfl rfl rfl (by decide +kernel) ⟨Nat.le_of_ble_eq_true rfl, Nat.le_of_ble_eq_true rfl⟩ ⟨Nat.le_of_ble_eq_true rfl, Nat.le_of_ble_eq_true rfl⟩ rfl rfl rfl (Nat.le_of_ble_eq_true rfl) dL_law_266 ?_
  refine k_swap ?_
  exact k_icmp_eqT C 269 1725 dL_law_269 (by decide) k
set_option maxRecDepth 100000 in
set_option maxHeartbeats 4000000 in
theorem law_c2 {p : Program} {l : Launch} {e : Env} {s : State} {m : MethodId} {below : List Frame} {meth : Method} {c : Code} {D : va_G} {cI cZ : ClassId} {ad ad2 : Nat → Nat} {tBURNS tFLAME_BOUNDS : Nat} {tS : Option Nat} {adK adV : Nat → Nat} {b L : Nat} {xs : Nat → Int32} (hL : L ≤ 384) (hX : va_X b L xs s s.heap) (hbl : b < s.heap.size) (hbA : ¬ s.heap.size ≤ b) (C : Cx p s m #[Value.ref b] meth c D [(cI, .int), (cZ, .boolean)] (EX tBURNS tFLAME_BOUNDS tS adK adV) (fun q : Nat => s.heap.size ≤ q) cL_law 4 (some .boolean) RL wsL_law) {i : Nat} (h6 : i + 6 ≤ L) {u v u' v' : St} {r : Int32} (e1 : pX6_text LF u = some (r, u')) (e2 : pX7_text LF v = some (r, v')) (k : KX p l e room_1 s m #[Value.ref b] below meth c D (fun q : Nat => s.heap.size ≤ q) 4 91 1902 (lw_Z below #[Value.ref b] s) 1725 [(0, .ref b), (1, .ref (ad 0)), (2, .ref (ad2 0)), (3, .int (nI i))] [] (wX ad cI cZ u' ++ wM ad2 cI cZ v')) : KX p l e room_1 s m #[Value.ref b] below meth c D (fun q : Nat => s.heap.size ≤ q) 4 91 1902 (lw_Z below #[Value.ref b] s) 274 [(0, .ref b), (1, .ref (ad 0)), (2, .ref (ad2 0)), (3, .int (nI i))] [] (wX ad cI cZ u ++ wM ad2 cI cZ v) := by
  have C0 := C.env (EV2 := E0) trivial
  have hi := hL
  refine k_aload_n C 274 1 dL_law_274 rfl ?_
  refine k_callVi (st := []) (As := []) C EX_ok EX_vm 275 0 (tX6_text (ad := ad) LF u) e1 rfl gL_law_X6_text rfl rfl rfl (by decide +kernel) ⟨Nat.le_of_ble_eq_true rfl, Nat.le_of_ble_eq_true rfl⟩ ⟨Nat.le_of_ble_eq_true rfl, Nat.le_of_ble_eq_true rfl⟩ rfl rfl rfl (Nat.le_of_ble_eq_true rfl) dL_law_275 ?_
  refine k_aload_n C 278 2 dL_law_278 rfl ?_
  refine k_swap ?_
  refine k_callVi (st := [.int r]) (As := []) C0 E0_ok E0_vm 279 0 (tX7_text (ad := ad2) LF v) e2 rfl gL_law_X7_text rfl rfl rfl (by decide +kernel) ⟨Nat.le_of_ble_eq_true rfl, Nat.le_of_ble_eq_true rfl⟩ ⟨Nat.le_of_ble_eq_true rfl, Nat.le_of_ble_eq_true rfl⟩ rfl rfl rfl (Nat.le_of_ble_eq_true rfl) dL_law_279 ?_
  refine k_swap ?_
  exact k_icmp_eqT C 282 1725 dL_law_282 (by decide) k
set_option maxRecDepth 100000 in
set_option maxHeartbeats 4000000 in
theorem law_c3 {p : Program} {l : Launch} {e : Env} {s : State} {m : MethodId} {below : List Frame} {meth : Method} {c : Code} {D : va_G} {cI cZ : ClassId} {ad ad2 : Nat → Nat} {tBURNS tFLAME_BOUNDS : Nat} {tS : Option Nat} {adK adV : Nat → Nat} {b L : Nat} {xs : Nat → Int32} (hL : L ≤ 384) (hX : va_X b L xs s s.heap) (hbl : b < s.heap.size) (hbA : ¬ s.heap.size ≤ b) (C : Cx p s m #[Value.ref b] meth c D [(cI, .int), (cZ, .boolean)] (EX tBURNS tFLAME_BOUNDS tS adK adV) (fun q : Nat => s.heap.size ≤ q) cL_law 4 (some .boolean) RL wsL_law) {i : Nat} (h6 : i + 6 ≤ L) {u v u' v' : St} {r : Int32} (e1 : pX6_fault LF u = some (r, u')) (e2 : pX7_fault LF v = some (r, v')) (k : KX p l e room_1 s m #[Value.ref b] below meth c D (fun q : Nat => s.heap.size ≤ q) 4 91 1902 (lw_Z below #[Value.ref b] s) 1725 [(0, .ref b), (1, .ref (ad 0)), (2, .ref (ad2 0)), (3, .int (nI i))] [] (wX ad cI cZ u' ++ wM ad2 cI cZ v')) : KX p l e room_1 s m #[Value.ref b] below meth c D (fun q : Nat => s.heap.size ≤ q) 4 91 1902 (lw_Z below #[Value.ref b] s) 287 [(0, .ref b), (1, .ref (ad 0)), (2, .ref (ad2 0)), (3, .int (nI i))] [] (wX ad cI cZ u ++ wM ad2 cI cZ v) := by
  have C0 := C.env (EV2 := E0) trivial
  have hi := hL
  refine k_aload_n C 287 1 dL_law_287 rfl ?_
  refine k_callVi (st := []) (As := []) C EX_ok EX_vm 288 0 (tX6_fault (ad := ad) LF u) e1 rfl gL_law_X6_fault rfl rfl rfl (by decide +kernel) ⟨Nat.le_of_ble_eq_true rfl, Nat.le_of_ble_eq_true rfl⟩ ⟨Nat.le_of_ble_eq_true rfl, Nat.le_of_ble_eq_true rfl⟩ rfl rfl rfl (Nat.le_of_ble_eq_true rfl) dL_law_288 ?_
  refine k_aload_n C 291 2 dL_law_291 rfl ?_
  refine k_swap ?_
  refine k_callVi (st := [.int r]) (As := []) C0 E0_ok E0_vm 292 0 (tX7_fault (ad := ad2) LF v) e2 rfl gL_law_X7_fault rfl rfl rfl (by decide +kernel) ⟨Nat.le_of_ble_eq_true rfl, Nat.le_of_ble_eq_true rfl⟩ ⟨Nat.le_of_ble_eq_true rfl, Nat.le_of_ble_eq_true rfl⟩ rfl rfl rfl (Nat.le_of_ble_eq_true rfl) dL_law_292 ?_
  refine k_swap ?_
  exact k_icmp_eqT C 295 1725 dL_law_295 (by decide) k
set_option maxRecDepth 100000 in
set_option maxHeartbeats 4000000 in
theorem law_c4 {p : Program} {l : Launch} {e : Env} {s : State} {m : MethodId} {below : List Frame} {meth : Method} {c : Code} {D : va_G} {cI cZ : ClassId} {ad ad2 : Nat → Nat} {tBURNS tFLAME_BOUNDS : Nat} {tS : Option Nat} {adK adV : Nat → Nat} {b L : Nat} {xs : Nat → Int32} (hL : L ≤ 384) (hX : va_X b L xs s s.heap) (hbl : b < s.heap.size) (hbA : ¬ s.heap.size ≤ b) (C : Cx p s m #[Value.ref b] meth c D [(cI, .int), (cZ, .boolean)] (EX tBURNS tFLAME_BOUNDS tS adK adV) (fun q : Nat => s.heap.size ≤ q) cL_law 4 (some .boolean) RL wsL_law) {i : Nat} (h6 : i + 6 ≤ L) {u v u' v' : St} {r : Int32} (e1 : pX6_rule LF (xs (nI i + 1).toNatClampNeg) u = some (r, u')) (e2 : pX7_rule LF (xs (nI i + 1).toNatClampNeg) v = some (r, v')) (k : KX p l e room_1 s m #[Value.ref b] below meth c D (fun q : Nat => s.heap.size ≤ q) 4 91 1902 (lw_Z below #[Value.ref b] s) 1725 [(0, .ref b), (1, .ref (ad 0)), (2, .ref (ad2 0)), (3, .int (nI i))] [] (wX ad cI cZ u' ++ wM ad2 cI cZ v')) : KX p l e room_1 s m #[Value.ref b] below meth c D (fun q : Nat => s.heap.size ≤ q) 4 91 1902 (lw_Z below #[Value.ref b] s) 300 [(0, .ref b), (1, .ref (ad 0)), (2, .ref (ad2 0)), (3, .int (nI i))] [] (wX ad cI cZ u ++ wM ad2 cI cZ v) := by
  have C0 := C.env (EV2 := E0) trivial
  have hi := hL
  refine k_aload_n C 300 1 dL_law_300 rfl ?_
  refine k_aload_n C 301 0 dL_law_301 rfl ?_
  refine k_iload_n C 302 3 dL_law_302 rfl ?_
  refine k_iconst C 303 1 dL_law_303 rfl ?_
  refine k_iadd C 304 dL_law_304 ?_
  refine k_sld C 305 hX hbl hbA (l_in hi h6 1 (by decide)) dL_law_305 ?_
  refine k_callVi (st := []) (As := [.int (xs (nI i + 1).toNatClampNeg)]) C EX_ok EX_vm 306 1 (tX6_rule (ad := ad) LF (xs (nI i + 1).toNatClampNeg) u) e1 rfl gL_law_X6_rule rfl rfl rfl (by decide +kernel) ⟨Nat.le_of_ble_eq_true rfl, Nat.le_of_ble_eq_true rfl⟩ ⟨Nat.le_of_ble_eq_true rfl, Nat.le_of_ble_eq_true rfl⟩ rfl rfl rfl (Nat.le_of_ble_eq_true rfl) dL_law_306 ?_
  refine k_aload_n C 309 2 dL_law_309 rfl ?_
  refine k_aload_n C 310 0 dL_law_310 rfl ?_
  refine k_iload_n C 311 3 dL_law_311 rfl ?_
  refine k_iconst C 312 1 dL_law_312 rfl ?_
  refine k_iadd C 313 dL_law_313 ?_
  refine k_sld C 314 hX hbl hbA (l_in hi h6 1 (by decide)) dL_law_314 ?_
  refine k_swap ?_
  refine k_callVi (st := [.int r]) (As := [.int (xs (nI i + 1).toNatClampNeg)]) C0 E0_ok E0_vm 315 1 (tX7_rule (ad := ad2) LF (xs (nI i + 1).toNatClampNeg) v) e2 rfl gL_law_X7_rule rfl rfl rfl (by decide +kernel) ⟨Nat.le_of_ble_eq_true rfl, Nat.le_of_ble_eq_true rfl⟩ ⟨Nat.le_of_ble_eq_true rfl, Nat.le_of_ble_eq_true rfl⟩ rfl rfl rfl (Nat.le_of_ble_eq_true rfl) dL_law_315 ?_
  refine k_swap ?_
  exact k_icmp_eqT C 318 1725 dL_law_318 (by decide) k
set_option maxRecDepth 100000 in
set_option maxHeartbeats 4000000 in
theorem law_c5 {p : Program} {l : Launch} {e : Env} {s : State} {m : MethodId} {below : List Frame} {meth : Method} {c : Code} {D : va_G} {cI cZ : ClassId} {ad ad2 : Nat → Nat} {tBURNS tFLAME_BOUNDS : Nat} {tS : Option Nat} {adK adV : Nat → Nat} {b L : Nat} {xs : Nat → Int32} (hL : L ≤ 384) (hX : va_X b L xs s s.heap) (hbl : b < s.heap.size) (hbA : ¬ s.heap.size ≤ b) (C : Cx p s m #[Value.ref b] meth c D [(cI, .int), (cZ, .boolean)] (EX tBURNS tFLAME_BOUNDS tS adK adV) (fun q : Nat => s.heap.size ≤ q) cL_law 4 (some .boolean) RL wsL_law) {i : Nat} (h6 : i + 6 ≤ L) {u v u' v' : St} {r : Int32} (e1 : pX6_flame LF (xs (nI i + 1).toNatClampNeg) (xs (nI i + 2).toNatClampNeg) (xs (nI i + 3).toNatClampNeg) u = some (r, u')) (e2 : pX7_flame LF (xs (nI i + 1).toNatClampNeg) (xs (nI i + 2).toNatClampNeg) (xs (nI i + 3).toNatClampNeg) v = some (r, v')) (k : KX p l e room_1 s m #[Value.ref b] below meth c D (fun q : Nat => s.heap.size ≤ q) 4 91 1902 (lw_Z below #[Value.ref b] s) 1725 [(0, .ref b), (1, .ref (ad 0)), (2, .ref (ad2 0)), (3, .int (nI i))] [] (wX ad cI cZ u' ++ wM ad2 cI cZ v')) : KX p l e room_1 s m #[Value.ref b] below meth c D (fun q : Nat => s.heap.size ≤ q) 4 91 1902 (lw_Z below #[Value.ref b] s) 323 [(0, .ref b), (1, .ref (ad 0)), (2, .ref (ad2 0)), (3, .int (nI i))] [] (wX ad cI cZ u ++ wM ad2 cI cZ v) := by
  have C0 := C.env (EV2 := E0) trivial
  have hi := hL
  refine k_aload_n C 323 1 dL_law_323 rfl ?_
  refine k_aload_n C 324 0 dL_law_324 rfl ?_
  refine k_iload_n C 325 3 dL_law_325 rfl ?_
  refine k_iconst C 326 1 dL_law_326 rfl ?_
  refine k_iadd C 327 dL_law_327 ?_
  refine k_sld C 328 hX hbl hbA (l_in hi h6 1 (by decide)) dL_law_328 ?_
  refine k_aload_n C 329 0 dL_law_329 rfl ?_
  refine k_iload_n C 330 3 dL_law_330 rfl ?_
  refine k_iconst C 331 2 dL_law_331 rfl ?_
  refine k_iadd C 332 dL_law_332 ?_
  refine k_sld C 333 hX hbl hbA (l_in hi h6 2 (by decide)) dL_law_333 ?_
  refine k_aload_n C 334 0 dL_law_334 rfl ?_
  refine k_iload_n C 335 3 dL_law_335 rfl ?_
  refine k_iconst C 336 3 dL_law_336 rfl ?_
  refine k_iadd C 337 dL_law_337 ?_
  refine k_sld C 338 hX hbl hbA (l_in hi h6 3 (by decide)) dL_law_338 ?_
  refine k_callVi (st := []) (As := [.int (xs (nI i + 1).toNatClampNeg), .int (xs (nI i + 2).toNatClampNeg), .int (xs (nI i + 3).toNatClampNeg)]) C EX_ok EX_vm 339 3 (tX6_flame (ad := ad) LF (xs (nI i + 1).toNatClampNeg) (xs (nI i + 2).toNatClampNeg) (xs (nI i + 3).toNatClampNeg) u) e1 rfl gL_law_X6_flame rfl rfl rfl (by decide +kernel) ⟨Nat.le_of_ble_eq_true rfl, Nat.le_of_ble_eq_true rfl⟩ ⟨Nat.le_of_ble_eq_true rfl, Nat.le_of_ble_eq_true rfl⟩ rfl rfl rfl (Nat.le_of_ble_eq_true rfl) dL_law_339 ?_
  refine k_aload_n C 342 2 dL_law_342 rfl ?_
  refine k_aload_n C 343 0 dL_law_343 rfl ?_
  refine k_iload_n C 344 3 dL_law_344 rfl ?_
  refine k_iconst C 345 1 dL_law_345 rfl ?_
  refine k_iadd C 346 dL_law_346 ?_
  refine k_sld C 347 hX hbl hbA (l_in hi h6 1 (by decide)) dL_law_347 ?_
  refine k_aload_n C 348 0 dL_law_348 rfl ?_
  refine k_iload_n C 349 3 dL_law_349 rfl ?_
  refine k_iconst C 350 2 dL_law_350 rfl ?_
  refine k_iadd C 351 dL_law_351 ?_
  refine k_sld C 352 hX hbl hbA (l_in hi h6 2 (by decide)) dL_law_352 ?_
  refine k_aload_n C 353 0 dL_law_353 rfl ?_
  refine k_iload_n C 354 3 dL_law_354 rfl ?_
  refine k_iconst C 355 3 dL_law_355 rfl ?_
  refine k_iadd C 356 dL_law_356 ?_
  refine k_sld C 357 hX hbl hbA (l_in hi h6 3 (by decide)) dL_law_357 ?_
  refine k_swap ?_
  refine k_callVi (st := [.int r]) (As := [.int (xs (nI i + 1).toNatClampNeg), .int (xs (nI i + 2).toNatClampNeg), .int (xs (nI i + 3).toNatClampNeg)]) C0 E0_ok E0_vm 358 3 (tX7_flame (ad := ad2) LF (xs (nI i + 1).toNatClampNeg) (xs (nI i + 2).toNatClampNeg) (xs (nI i + 3).toNatClampNeg) v) e2 rfl gL_law_X7_flame rfl rfl rfl (by decide +kernel) ⟨Nat.le_of_ble_eq_true rfl, Nat.le_of_ble_eq_true rfl⟩ ⟨Nat.le_of_ble_eq_true rfl, Nat.le_of_ble_eq_true rfl⟩ rfl rfl rfl (Nat.le_of_ble_eq_true rfl) dL_law_358 ?_
  refine k_swap ?_
  exact k_icmp_eqT C 361 1725 dL_law_361 (by decide) k
set_option maxRecDepth 100000 in
set_option maxHeartbeats 4000000 in
theorem law_c6 {p : Program} {l : Launch} {e : Env} {s : State} {m : MethodId} {below : List Frame} {meth : Method} {c : Code} {D : va_G} {cI cZ : ClassId} {ad ad2 : Nat → Nat} {tBURNS tFLAME_BOUNDS : Nat} {tS : Option Nat} {adK adV : Nat → Nat} {b L : Nat} {xs : Nat → Int32} (hL : L ≤ 384) (hX : va_X b L xs s s.heap) (hbl : b < s.heap.size) (hbA : ¬ s.heap.size ≤ b) (C : Cx p s m #[Value.ref b] meth c D [(cI, .int), (cZ, .boolean)] (EX tBURNS tFLAME_BOUNDS tS adK adV) (fun q : Nat => s.heap.size ≤ q) cL_law 4 (some .boolean) RL wsL_law) {i : Nat} (h6 : i + 6 ≤ L) {u v u' v' : St} {r : Int32} (e1 : pX6_suit LF (xs (nI i + 1).toNatClampNeg) (xs (nI i + 2).toNatClampNeg) u = some (r, u')) (e2 : pX7_suit LF (xs (nI i + 1).toNatClampNeg) (xs (nI i + 2).toNatClampNeg) v = some (r, v')) (k : KX p l e room_1 s m #[Value.ref b] below meth c D (fun q : Nat => s.heap.size ≤ q) 4 91 1902 (lw_Z below #[Value.ref b] s) 1725 [(0, .ref b), (1, .ref (ad 0)), (2, .ref (ad2 0)), (3, .int (nI i))] [] (wX ad cI cZ u' ++ wM ad2 cI cZ v')) : KX p l e room_1 s m #[Value.ref b] below meth c D (fun q : Nat => s.heap.size ≤ q) 4 91 1902 (lw_Z below #[Value.ref b] s) 366 [(0, .ref b), (1, .ref (ad 0)), (2, .ref (ad2 0)), (3, .int (nI i))] [] (wX ad cI cZ u ++ wM ad2 cI cZ v) := by
  have C0 := C.env (EV2 := E0) trivial
  have hi := hL
  refine k_aload_n C 366 1 dL_law_366 rfl ?_
  refine k_aload_n C 367 0 dL_law_367 rfl ?_
  refine k_iload_n C 368 3 dL_law_368 rfl ?_
  refine k_iconst C 369 1 dL_law_369 rfl ?_
  refine k_iadd C 370 dL_law_370 ?_
  refine k_sld C 371 hX hbl hbA (l_in hi h6 1 (by decide)) dL_law_371 ?_
  refine k_aload_n C 372 0 dL_law_372 rfl ?_
  refine k_iload_n C 373 3 dL_law_373 rfl ?_
  refine k_iconst C 374 2 dL_law_374 rfl ?_
  refine k_iadd C 375 dL_law_375 ?_
  refine k_sld C 376 hX hbl hbA (l_in hi h6 2 (by decide)) dL_law_376 ?_
  refine k_callVi (st := []) (As := [.int (xs (nI i + 1).toNatClampNeg), .int (xs (nI i + 2).toNatClampNeg)]) C EX_ok EX_vm 377 2 (tX6_suit (ad := ad) LF (xs (nI i + 1).toNatClampNeg) (xs (nI i + 2).toNatClampNeg) u) e1 rfl gL_law_X6_suit rfl rfl rfl (by decide +kernel) ⟨Nat.le_of_ble_eq_true rfl, Nat.le_of_ble_eq_true rfl⟩ ⟨Nat.le_of_ble_eq_true rfl, Nat.le_of_ble_eq_true rfl⟩ rfl rfl rfl (Nat.le_of_ble_eq_true rfl) dL_law_377 ?_
  refine k_aload_n C 380 2 dL_law_380 rfl ?_
  refine k_aload_n C 381 0 dL_law_381 rfl ?_
  refine k_iload_n C 382 3 dL_law_382 rfl ?_
  refine k_iconst C 383 1 dL_law_383 rfl ?_
  refine k_iadd C 384 dL_law_384 ?_
  refine k_sld C 385 hX hbl hbA (l_in hi h6 1 (by decide)) dL_law_385 ?_
  refine k_aload_n C 386 0 dL_law_386 rfl ?_
  refine k_iload_n C 387 3 dL_law_387 rfl ?_
  refine k_iconst C 388 2 dL_law_388 rfl ?_
  refine k_iadd C 389 dL_law_389 ?_
  refine k_sld C 390 hX hbl hbA (l_in hi h6 2 (by decide)) dL_law_390 ?_
  refine k_swap ?_
  refine k_callVi (st := [.int r]) (As := [.int (xs (nI i + 1).toNatClampNeg), .int (xs (nI i + 2).toNatClampNeg)]) C0 E0_ok E0_vm 391 2 (tX7_suit (ad := ad2) LF (xs (nI i + 1).toNatClampNeg) (xs (nI i + 2).toNatClampNeg) v) e2 rfl gL_law_X7_suit rfl rfl rfl (by decide +kernel) ⟨Nat.le_of_ble_eq_true rfl, Nat.le_of_ble_eq_true rfl⟩ ⟨Nat.le_of_ble_eq_true rfl, Nat.le_of_ble_eq_true rfl⟩ rfl rfl rfl (Nat.le_of_ble_eq_true rfl) dL_law_391 ?_
  refine k_swap ?_
  exact k_icmp_eqT C 394 1725 dL_law_394 (by decide) k
set_option maxRecDepth 100000 in
set_option maxHeartbeats 4000000 in
theorem law_c7 {p : Program} {l : Launch} {e : Env} {s : State} {m : MethodId} {below : List Frame} {meth : Method} {c : Code} {D : va_G} {cI cZ : ClassId} {ad ad2 : Nat → Nat} {tBURNS tFLAME_BOUNDS : Nat} {tS : Option Nat} {adK adV : Nat → Nat} {b L : Nat} {xs : Nat → Int32} (hL : L ≤ 384) (hX : va_X b L xs s s.heap) (hbl : b < s.heap.size) (hbA : ¬ s.heap.size ≤ b) (C : Cx p s m #[Value.ref b] meth c D [(cI, .int), (cZ, .boolean)] (EX tBURNS tFLAME_BOUNDS tS adK adV) (fun q : Nat => s.heap.size ≤ q) cL_law 4 (some .boolean) RL wsL_law) {i : Nat} (h6 : i + 6 ≤ L) {u v u' v' : St} {r : Int32} (e1 : pX6_judge LF (xs (nI i + 1).toNatClampNeg) (xs (nI i + 2).toNatClampNeg) u = some (r, u')) (e2 : pX7_judge LF (xs (nI i + 1).toNatClampNeg) (xs (nI i + 2).toNatClampNeg) v = some (r, v')) (k : KX p l e room_1 s m #[Value.ref b] below meth c D (fun q : Nat => s.heap.size ≤ q) 4 91 1902 (lw_Z below #[Value.ref b] s) 1725 [(0, .ref b), (1, .ref (ad 0)), (2, .ref (ad2 0)), (3, .int (nI i))] [] (wX ad cI cZ u' ++ wM ad2 cI cZ v')) : KX p l e room_1 s m #[Value.ref b] below meth c D (fun q : Nat => s.heap.size ≤ q) 4 91 1902 (lw_Z below #[Value.ref b] s) 399 [(0, .ref b), (1, .ref (ad 0)), (2, .ref (ad2 0)), (3, .int (nI i))] [] (wX ad cI cZ u ++ wM ad2 cI cZ v) := by
  have C0 := C.env (EV2 := E0) trivial
  have hi := hL
  refine k_aload_n C 399 1 dL_law_399 rfl ?_
  refine k_aload_n C 400 0 dL_law_400 rfl ?_
  refine k_iload_n C 401 3 dL_law_401 rfl ?_
  refine k_iconst C 402 1 dL_law_402 rfl ?_
  refine k_iadd C 403 dL_law_403 ?_
  refine k_sld C 404 hX hbl hbA (l_in hi h6 1 (by decide)) dL_law_404 ?_
  refine k_aload_n C 405 0 dL_law_405 rfl ?_
  refine k_iload_n C 406 3 dL_law_406 rfl ?_
  refine k_iconst C 407 2 dL_law_407 rfl ?_
  refine k_iadd C 408 dL_law_408 ?_
  refine k_sld C 409 hX hbl hbA (l_in hi h6 2 (by decide)) dL_law_409 ?_
  refine k_callVi (st := []) (As := [.int (xs (nI i + 1).toNatClampNeg), .int (xs (nI i + 2).toNatClampNeg)]) C EX_ok EX_vm 410 2 (tX6_judge (ad := ad) LF (xs (nI i + 1).toNatClampNeg) (xs (nI i + 2).toNatClampNeg) u) e1 rfl gL_law_X6_judge rfl rfl rfl (by decide +kernel) ⟨Nat.le_of_ble_eq_true rfl, Nat.le_of_ble_eq_true rfl⟩ ⟨Nat.le_of_ble_eq_true rfl, Nat.le_of_ble_eq_true rfl⟩ rfl rfl rfl (Nat.le_of_ble_eq_true rfl) dL_law_410 ?_
  refine k_aload_n C 413 2 dL_law_413 rfl ?_
  refine k_aload_n C 414 0 dL_law_414 rfl ?_
  refine k_iload_n C 415 3 dL_law_415 rfl ?_
  refine k_iconst C 416 1 dL_law_416 rfl ?_
  refine k_iadd C 417 dL_law_417 ?_
  refine k_sld C 418 hX hbl hbA (l_in hi h6 1 (by decide)) dL_law_418 ?_
  refine k_aload_n C 419 0 dL_law_419 rfl ?_
  refine k_iload_n C 420 3 dL_law_420 rfl ?_
  refine k_iconst C 421 2 dL_law_421 rfl ?_
  refine k_iadd C 422 dL_law_422 ?_
  refine k_sld C 423 hX hbl hbA (l_in hi h6 2 (by decide)) dL_law_423 ?_
  refine k_swap ?_
  refine k_callVi (st := [.int r]) (As := [.int (xs (nI i + 1).toNatClampNeg), .int (xs (nI i + 2).toNatClampNeg)]) C0 E0_ok E0_vm 424 2 (tX7_judge (ad := ad2) LF (xs (nI i + 1).toNatClampNeg) (xs (nI i + 2).toNatClampNeg) v) e2 rfl gL_law_X7_judge rfl rfl rfl (by decide +kernel) ⟨Nat.le_of_ble_eq_true rfl, Nat.le_of_ble_eq_true rfl⟩ ⟨Nat.le_of_ble_eq_true rfl, Nat.le_of_ble_eq_true rfl⟩ rfl rfl rfl (Nat.le_of_ble_eq_true rfl) dL_law_424 ?_
  refine k_swap ?_
  exact k_icmp_eqT C 427 1725 dL_law_427 (by decide) k
set_option maxRecDepth 100000 in
set_option maxHeartbeats 4000000 in
theorem law_c8 {p : Program} {l : Launch} {e : Env} {s : State} {m : MethodId} {below : List Frame} {meth : Method} {c : Code} {D : va_G} {cI cZ : ClassId} {ad ad2 : Nat → Nat} {tBURNS tFLAME_BOUNDS : Nat} {tS : Option Nat} {adK adV : Nat → Nat} {b L : Nat} {xs : Nat → Int32} (hL : L ≤ 384) (hX : va_X b L xs s s.heap) (hbl : b < s.heap.size) (hbA : ¬ s.heap.size ≤ b) (C : Cx p s m #[Value.ref b] meth c D [(cI, .int), (cZ, .boolean)] (EX tBURNS tFLAME_BOUNDS tS adK adV) (fun q : Nat => s.heap.size ≤ q) cL_law 4 (some .boolean) RL wsL_law) {i : Nat} (h6 : i + 6 ≤ L) {u v u' v' : St} {r : Int32} (e1 : pX6_draught LF (xs (nI i + 1).toNatClampNeg) (xs (nI i + 2).toNatClampNeg) u = some (r, u')) (e2 : pX7_draught LF (xs (nI i + 1).toNatClampNeg) (xs (nI i + 2).toNatClampNeg) v = some (r, v')) (k : KX p l e room_1 s m #[Value.ref b] below meth c D (fun q : Nat => s.heap.size ≤ q) 4 91 1902 (lw_Z below #[Value.ref b] s) 1725 [(0, .ref b), (1, .ref (ad 0)), (2, .ref (ad2 0)), (3, .int (nI i))] [] (wX ad cI cZ u' ++ wM ad2 cI cZ v')) : KX p l e room_1 s m #[Value.ref b] below meth c D (fun q : Nat => s.heap.size ≤ q) 4 91 1902 (lw_Z below #[Value.ref b] s) 432 [(0, .ref b), (1, .ref (ad 0)), (2, .ref (ad2 0)), (3, .int (nI i))] [] (wX ad cI cZ u ++ wM ad2 cI cZ v) := by
  have C0 := C.env (EV2 := E0) trivial
  have hi := hL
  refine k_aload_n C 432 1 dL_law_432 rfl ?_
  refine k_aload_n C 433 0 dL_law_433 rfl ?_
  refine k_iload_n C 434 3 dL_law_434 rfl ?_
  refine k_iconst C 435 1 dL_law_435 rfl ?_
  refine k_iadd C 436 dL_law_436 ?_
  refine k_sld C 437 hX hbl hbA (l_in hi h6 1 (by decide)) dL_law_437 ?_
  refine k_aload_n C 438 0 dL_law_438 rfl ?_
  refine k_iload_n C 439 3 dL_law_439 rfl ?_
  refine k_iconst C 440 2 dL_law_440 rfl ?_
  refine k_iadd C 441 dL_law_441 ?_
  refine k_sld C 442 hX hbl hbA (l_in hi h6 2 (by decide)) dL_law_442 ?_
  refine k_callVi (st := []) (As := [.int (xs (nI i + 1).toNatClampNeg), .int (xs (nI i + 2).toNatClampNeg)]) C EX_ok EX_vm 443 2 (tX6_draught (ad := ad) LF (xs (nI i + 1).toNatClampNeg) (xs (nI i + 2).toNatClampNeg) u) e1 rfl gL_law_X6_draught rfl rfl rfl (by decide +kernel) ⟨Nat.le_of_ble_eq_true rfl, Nat.le_of_ble_eq_true rfl⟩ ⟨Nat.le_of_ble_eq_true rfl, Nat.le_of_ble_eq_true rfl⟩ rfl rfl rfl (Nat.le_of_ble_eq_true rfl) dL_law_443 ?_
  refine k_aload_n C 446 2 dL_law_446 rfl ?_
  refine k_aload_n C 447 0 dL_law_447 rfl ?_
  refine k_iload_n C 448 3 dL_law_448 rfl ?_
  refine k_iconst C 449 1 dL_law_449 rfl ?_
  refine k_iadd C 450 dL_law_450 ?_
  refine k_sld C 451 hX hbl hbA (l_in hi h6 1 (by decide)) dL_law_451 ?_
  refine k_aload_n C 452 0 dL_law_452 rfl ?_
  refine k_iload_n C 453 3 dL_law_453 rfl ?_
  refine k_iconst C 454 2 dL_law_454 rfl ?_
  refine k_iadd C 455 dL_law_455 ?_
  refine k_sld C 456 hX hbl hbA (l_in hi h6 2 (by decide)) dL_law_456 ?_
  refine k_swap ?_
  refine k_callVi (st := [.int r]) (As := [.int (xs (nI i + 1).toNatClampNeg), .int (xs (nI i + 2).toNatClampNeg)]) C0 E0_ok E0_vm 457 2 (tX7_draught (ad := ad2) LF (xs (nI i + 1).toNatClampNeg) (xs (nI i + 2).toNatClampNeg) v) e2 rfl gL_law_X7_draught rfl rfl rfl (by decide +kernel) ⟨Nat.le_of_ble_eq_true rfl, Nat.le_of_ble_eq_true rfl⟩ ⟨Nat.le_of_ble_eq_true rfl, Nat.le_of_ble_eq_true rfl⟩ rfl rfl rfl (Nat.le_of_ble_eq_true rfl) dL_law_457 ?_
  refine k_swap ?_
  exact k_icmp_eqT C 460 1725 dL_law_460 (by decide) k
set_option maxRecDepth 100000 in
set_option maxHeartbeats 4000000 in
theorem law_c9 {p : Program} {l : Launch} {e : Env} {s : State} {m : MethodId} {below : List Frame} {meth : Method} {c : Code} {D : va_G} {cI cZ : ClassId} {ad ad2 : Nat → Nat} {tBURNS tFLAME_BOUNDS : Nat} {tS : Option Nat} {adK adV : Nat → Nat} {b L : Nat} {xs : Nat → Int32} (hL : L ≤ 384) (hX : va_X b L xs s s.heap) (hbl : b < s.heap.size) (hbA : ¬ s.heap.size ≤ b) (C : Cx p s m #[Value.ref b] meth c D [(cI, .int), (cZ, .boolean)] (EX tBURNS tFLAME_BOUNDS tS adK adV) (fun q : Nat => s.heap.size ≤ q) cL_law 4 (some .boolean) RL wsL_law) {i : Nat} (h6 : i + 6 ≤ L) {u v u' v' : St} {r : Int32} (e1 : pX6_docket LF (xs (nI i + 1).toNatClampNeg) (xs (nI i + 2).toNatClampNeg) u = some (r, u')) (e2 : pX7_docket LF (xs (nI i + 1).toNatClampNeg) (xs (nI i + 2).toNatClampNeg) v = some (r, v')) (k : KX p l e room_1 s m #[Value.ref b] below meth c D (fun q : Nat => s.heap.size ≤ q) 4 91 1902 (lw_Z below #[Value.ref b] s) 1725 [(0, .ref b), (1, .ref (ad 0)), (2, .ref (ad2 0)), (3, .int (nI i))] [] (wX ad cI cZ u' ++ wM ad2 cI cZ v')) : KX p l e room_1 s m #[Value.ref b] below meth c D (fun q : Nat => s.heap.size ≤ q) 4 91 1902 (lw_Z below #[Value.ref b] s) 465 [(0, .ref b), (1, .ref (ad 0)), (2, .ref (ad2 0)), (3, .int (nI i))] [] (wX ad cI cZ u ++ wM ad2 cI cZ v) := by
  have C0 := C.env (EV2 := E0) trivial
  have hi := hL
  refine k_aload_n C 465 1 dL_law_465 rfl ?_
  refine k_aload_n C 466 0 dL_law_466 rfl ?_
  refine k_iload_n C 467 3 dL_law_467 rfl ?_
  refine k_iconst C 468 1 dL_law_468 rfl ?_
  refine k_iadd C 469 dL_law_469 ?_
  refine k_sld C 470 hX hbl hbA (l_in hi h6 1 (by decide)) dL_law_470 ?_
  refine k_aload_n C 471 0 dL_law_471 rfl ?_
  refine k_iload_n C 472 3 dL_law_472 rfl ?_
  refine k_iconst C 473 2 dL_law_473 rfl ?_
  refine k_iadd C 474 dL_law_474 ?_
  refine k_sld C 475 hX hbl hbA (l_in hi h6 2 (by decide)) dL_law_475 ?_
  refine k_callVi (st := []) (As := [.int (xs (nI i + 1).toNatClampNeg), .int (xs (nI i + 2).toNatClampNeg)]) C EX_ok EX_vm 476 2 (tX6_docket (ad := ad) LF (xs (nI i + 1).toNatClampNeg) (xs (nI i + 2).toNatClampNeg) u) e1 rfl gL_law_X6_docket rfl rfl rfl (by decide +kernel) ⟨Nat.le_of_ble_eq_true rfl, Nat.le_of_ble_eq_true rfl⟩ ⟨Nat.le_of_ble_eq_true rfl, Nat.le_of_ble_eq_true rfl⟩ rfl rfl rfl (Nat.le_of_ble_eq_true rfl) dL_law_476 ?_
  refine k_aload_n C 479 2 dL_law_479 rfl ?_
  refine k_aload_n C 480 0 dL_law_480 rfl ?_
  refine k_iload_n C 481 3 dL_law_481 rfl ?_
  refine k_iconst C 482 1 dL_law_482 rfl ?_
  refine k_iadd C 483 dL_law_483 ?_
  refine k_sld C 484 hX hbl hbA (l_in hi h6 1 (by decide)) dL_law_484 ?_
  refine k_aload_n C 485 0 dL_law_485 rfl ?_
  refine k_iload_n C 486 3 dL_law_486 rfl ?_
  refine k_iconst C 487 2 dL_law_487 rfl ?_
  refine k_iadd C 488 dL_law_488 ?_
  refine k_sld C 489 hX hbl hbA (l_in hi h6 2 (by decide)) dL_law_489 ?_
  refine k_swap ?_
  refine k_callVi (st := [.int r]) (As := [.int (xs (nI i + 1).toNatClampNeg), .int (xs (nI i + 2).toNatClampNeg)]) C0 E0_ok E0_vm 490 2 (tX7_docket (ad := ad2) LF (xs (nI i + 1).toNatClampNeg) (xs (nI i + 2).toNatClampNeg) v) e2 rfl gL_law_X7_docket rfl rfl rfl (by decide +kernel) ⟨Nat.le_of_ble_eq_true rfl, Nat.le_of_ble_eq_true rfl⟩ ⟨Nat.le_of_ble_eq_true rfl, Nat.le_of_ble_eq_true rfl⟩ rfl rfl rfl (Nat.le_of_ble_eq_true rfl) dL_law_490 ?_
  refine k_swap ?_
  exact k_icmp_eqT C 493 1725 dL_law_493 (by decide) k
set_option maxRecDepth 100000 in
set_option maxHeartbeats 4000000 in
theorem law_c10 {p : Program} {l : Launch} {e : Env} {s : State} {m : MethodId} {below : List Frame} {meth : Method} {c : Code} {D : va_G} {cI cZ : ClassId} {ad ad2 : Nat → Nat} {tBURNS tFLAME_BOUNDS : Nat} {tS : Option Nat} {adK adV : Nat → Nat} {b L : Nat} {xs : Nat → Int32} (hL : L ≤ 384) (hX : va_X b L xs s s.heap) (hbl : b < s.heap.size) (hbA : ¬ s.heap.size ≤ b) (C : Cx p s m #[Value.ref b] meth c D [(cI, .int), (cZ, .boolean)] (EX tBURNS tFLAME_BOUNDS tS adK adV) (fun q : Nat => s.heap.size ≤ q) cL_law 4 (some .boolean) RL wsL_law) {i : Nat} (h6 : i + 6 ≤ L) {u v u' v' : St} {r : Int32} (e1 : pX6_trim LF (xs (nI i + 1).toNatClampNeg) (xs (nI i + 2).toNatClampNeg) (xs (nI i + 3).toNatClampNeg) (xs (nI i + 4).toNatClampNeg) u = some (r, u')) (e2 : pX7_trim LF (xs (nI i + 1).toNatClampNeg) (xs (nI i + 2).toNatClampNeg) (xs (nI i + 3).toNatClampNeg) (xs (nI i + 4).toNatClampNeg) v = some (r, v')) (k : KX p l e room_1 s m #[Value.ref b] below meth c D (fun q : Nat => s.heap.size ≤ q) 4 91 1902 (lw_Z below #[Value.ref b] s) 1725 [(0, .ref b), (1, .ref (ad 0)), (2, .ref (ad2 0)), (3, .int (nI i))] [] (wX ad cI cZ u' ++ wM ad2 cI cZ v')) : KX p l e room_1 s m #[Value.ref b] below meth c D (fun q : Nat => s.heap.size ≤ q) 4 91 1902 (lw_Z below #[Value.ref b] s) 498 [(0, .ref b), (1, .ref (ad 0)), (2, .ref (ad2 0)), (3, .int (nI i))] [] (wX ad cI cZ u ++ wM ad2 cI cZ v) := by
  have C0 := C.env (EV2 := E0) trivial
  have hi := hL
  refine k_aload_n C 498 1 dL_law_498 rfl ?_
  refine k_aload_n C 499 0 dL_law_499 rfl ?_
  refine k_iload_n C 500 3 dL_law_500 rfl ?_
  refine k_iconst C 501 1 dL_law_501 rfl ?_
  refine k_iadd C 502 dL_law_502 ?_
  refine k_sld C 503 hX hbl hbA (l_in hi h6 1 (by decide)) dL_law_503 ?_
  refine k_aload_n C 504 0 dL_law_504 rfl ?_
  refine k_iload_n C 505 3 dL_law_505 rfl ?_
  refine k_iconst C 506 2 dL_law_506 rfl ?_
  refine k_iadd C 507 dL_law_507 ?_
  refine k_sld C 508 hX hbl hbA (l_in hi h6 2 (by decide)) dL_law_508 ?_
  refine k_aload_n C 509 0 dL_law_509 rfl ?_
  refine k_iload_n C 510 3 dL_law_510 rfl ?_
  refine k_iconst C 511 3 dL_law_511 rfl ?_
  refine k_iadd C 512 dL_law_512 ?_
  refine k_sld C 513 hX hbl hbA (l_in hi h6 3 (by decide)) dL_law_513 ?_
  refine k_aload_n C 514 0 dL_law_514 rfl ?_
  refine k_iload_n C 515 3 dL_law_515 rfl ?_
  refine k_iconst C 516 4 dL_law_516 rfl ?_
  refine k_iadd C 517 dL_law_517 ?_
  refine k_sld C 518 hX hbl hbA (l_in hi h6 4 (by decide)) dL_law_518 ?_
  refine k_callVi (st := []) (As := [.int (xs (nI i + 1).toNatClampNeg), .int (xs (nI i + 2).toNatClampNeg), .int (xs (nI i + 3).toNatClampNeg), .int (xs (nI i + 4).toNatClampNeg)]) C EX_ok EX_vm 519 4 (tX6_trim (ad := ad) LF (xs (nI i + 1).toNatClampNeg) (xs (nI i + 2).toNatClampNeg) (xs (nI i + 3).toNatClampNeg) (xs (nI i + 4).toNatClampNeg) u) e1 rfl gL_law_X6_trim rfl rfl rfl (by decide +kernel) ⟨Nat.le_of_ble_eq_true rfl, Nat.le_of_ble_eq_true rfl⟩ ⟨Nat.le_of_ble_eq_true rfl, Nat.le_of_ble_eq_true rfl⟩ rfl rfl rfl (Nat.le_of_ble_eq_true rfl) dL_law_519 ?_
  refine k_aload_n C 522 2 dL_law_522 rfl ?_
  refine k_aload_n C 523 0 dL_law_523 rfl ?_
  refine k_iload_n C 524 3 dL_law_524 rfl ?_
  refine k_iconst C 525 1 dL_law_525 rfl ?_
  refine k_iadd C 526 dL_law_526 ?_
  refine k_sld C 527 hX hbl hbA (l_in hi h6 1 (by decide)) dL_law_527 ?_
  refine k_aload_n C 528 0 dL_law_528 rfl ?_
  refine k_iload_n C 529 3 dL_law_529 rfl ?_
  refine k_iconst C 530 2 dL_law_530 rfl ?_
  refine k_iadd C 531 dL_law_531 ?_
  refine k_sld C 532 hX hbl hbA (l_in hi h6 2 (by decide)) dL_law_532 ?_
  refine k_aload_n C 533 0 dL_law_533 rfl ?_
  refine k_iload_n C 534 3 dL_law_534 rfl ?_
  refine k_iconst C 535 3 dL_law_535 rfl ?_
  refine k_iadd C 536 dL_law_536 ?_
  refine k_sld C 537 hX hbl hbA (l_in hi h6 3 (by decide)) dL_law_537 ?_
  refine k_aload_n C 538 0 dL_law_538 rfl ?_
  refine k_iload_n C 539 3 dL_law_539 rfl ?_
  refine k_iconst C 540 4 dL_law_540 rfl ?_
  refine k_iadd C 541 dL_law_541 ?_
  refine k_sld C 542 hX hbl hbA (l_in hi h6 4 (by decide)) dL_law_542 ?_
  refine k_swap ?_
  refine k_callVi (st := [.int r]) (As := [.int (xs (nI i + 1).toNatClampNeg), .int (xs (nI i + 2).toNatClampNeg), .int (xs (nI i + 3).toNatClampNeg), .int (xs (nI i + 4).toNatClampNeg)]) C0 E0_ok E0_vm 543 4 (tX7_trim (ad := ad2) LF (xs (nI i + 1).toNatClampNeg) (xs (nI i + 2).toNatClampNeg) (xs (nI i + 3).toNatClampNeg) (xs (nI i + 4).toNatClampNeg) v) e2 rfl gL_law_X7_trim rfl rfl rfl (by decide +kernel) ⟨Nat.le_of_ble_eq_true rfl, Nat.le_of_ble_eq_true rfl⟩ ⟨Nat.le_of_ble_eq_true rfl, Nat.le_of_ble_eq_true rfl⟩ rfl rfl rfl (Nat.le_of_ble_eq_true rfl) dL_law_543 ?_
  refine k_swap ?_
  exact k_icmp_eqT C 546 1725 dL_law_546 (by decide) k
set_option maxRecDepth 100000 in
set_option maxHeartbeats 4000000 in
theorem law_c11 {p : Program} {l : Launch} {e : Env} {s : State} {m : MethodId} {below : List Frame} {meth : Method} {c : Code} {D : va_G} {cI cZ : ClassId} {ad ad2 : Nat → Nat} {tBURNS tFLAME_BOUNDS : Nat} {tS : Option Nat} {adK adV : Nat → Nat} {b L : Nat} {xs : Nat → Int32} (hL : L ≤ 384) (hX : va_X b L xs s s.heap) (hbl : b < s.heap.size) (hbA : ¬ s.heap.size ≤ b) (C : Cx p s m #[Value.ref b] meth c D [(cI, .int), (cZ, .boolean)] (EX tBURNS tFLAME_BOUNDS tS adK adV) (fun q : Nat => s.heap.size ≤ q) cL_law 4 (some .boolean) RL wsL_law) {i : Nat} (h6 : i + 6 ≤ L) {u v u' v' : St} {r : Int32} (e1 : pX6_train LF (xs (nI i + 1).toNatClampNeg) (xs (nI i + 2).toNatClampNeg) (xs (nI i + 3).toNatClampNeg) u = some (r, u')) (e2 : pX7_train LF (xs (nI i + 1).toNatClampNeg) (xs (nI i + 2).toNatClampNeg) (xs (nI i + 3).toNatClampNeg) v = some (r, v')) (k : KX p l e room_1 s m #[Value.ref b] below meth c D (fun q : Nat => s.heap.size ≤ q) 4 91 1902 (lw_Z below #[Value.ref b] s) 1725 [(0, .ref b), (1, .ref (ad 0)), (2, .ref (ad2 0)), (3, .int (nI i))] [] (wX ad cI cZ u' ++ wM ad2 cI cZ v')) : KX p l e room_1 s m #[Value.ref b] below meth c D (fun q : Nat => s.heap.size ≤ q) 4 91 1902 (lw_Z below #[Value.ref b] s) 551 [(0, .ref b), (1, .ref (ad 0)), (2, .ref (ad2 0)), (3, .int (nI i))] [] (wX ad cI cZ u ++ wM ad2 cI cZ v) := by
  have C0 := C.env (EV2 := E0) trivial
  have hi := hL
  refine k_aload_n C 551 1 dL_law_551 rfl ?_
  refine k_aload_n C 552 0 dL_law_552 rfl ?_
  refine k_iload_n C 553 3 dL_law_553 rfl ?_
  refine k_iconst C 554 1 dL_law_554 rfl ?_
  refine k_iadd C 555 dL_law_555 ?_
  refine k_sld C 556 hX hbl hbA (l_in hi h6 1 (by decide)) dL_law_556 ?_
  refine k_aload_n C 557 0 dL_law_557 rfl ?_
  refine k_iload_n C 558 3 dL_law_558 rfl ?_
  refine k_iconst C 559 2 dL_law_559 rfl ?_
  refine k_iadd C 560 dL_law_560 ?_
  refine k_sld C 561 hX hbl hbA (l_in hi h6 2 (by decide)) dL_law_561 ?_
  refine k_aload_n C 562 0 dL_law_562 rfl ?_
  refine k_iload_n C 563 3 dL_law_563 rfl ?_
  refine k_iconst C 564 3 dL_law_564 rfl ?_
  refine k_iadd C 565 dL_law_565 ?_
  refine k_sld C 566 hX hbl hbA (l_in hi h6 3 (by decide)) dL_law_566 ?_
  refine k_callVi (st := []) (As := [.int (xs (nI i + 1).toNatClampNeg), .int (xs (nI i + 2).toNatClampNeg), .int (xs (nI i + 3).toNatClampNeg)]) C EX_ok EX_vm 567 3 (tX6_train (ad := ad) LF (xs (nI i + 1).toNatClampNeg) (xs (nI i + 2).toNatClampNeg) (xs (nI i + 3).toNatClampNeg) u) e1 rfl gL_law_X6_train rfl rfl rfl (by decide +kernel) ⟨Nat.le_of_ble_eq_true rfl, Nat.le_of_ble_eq_true rfl⟩ ⟨Nat.le_of_ble_eq_true rfl, Nat.le_of_ble_eq_true rfl⟩ rfl rfl rfl (Nat.le_of_ble_eq_true rfl) dL_law_567 ?_
  refine k_aload_n C 570 2 dL_law_570 rfl ?_
  refine k_aload_n C 571 0 dL_law_571 rfl ?_
  refine k_iload_n C 572 3 dL_law_572 rfl ?_
  refine k_iconst C 573 1 dL_law_573 rfl ?_
  refine k_iadd C 574 dL_law_574 ?_
  refine k_sld C 575 hX hbl hbA (l_in hi h6 1 (by decide)) dL_law_575 ?_
  refine k_aload_n C 576 0 dL_law_576 rfl ?_
  refine k_iload_n C 577 3 dL_law_577 rfl ?_
  refine k_iconst C 578 2 dL_law_578 rfl ?_
  refine k_iadd C 579 dL_law_579 ?_
  refine k_sld C 580 hX hbl hbA (l_in hi h6 2 (by decide)) dL_law_580 ?_
  refine k_aload_n C 581 0 dL_law_581 rfl ?_
  refine k_iload_n C 582 3 dL_law_582 rfl ?_
  refine k_iconst C 583 3 dL_law_583 rfl ?_
  refine k_iadd C 584 dL_law_584 ?_
  refine k_sld C 585 hX hbl hbA (l_in hi h6 3 (by decide)) dL_law_585 ?_
  refine k_swap ?_
  refine k_callVi (st := [.int r]) (As := [.int (xs (nI i + 1).toNatClampNeg), .int (xs (nI i + 2).toNatClampNeg), .int (xs (nI i + 3).toNatClampNeg)]) C0 E0_ok E0_vm 586 3 (tX7_train (ad := ad2) LF (xs (nI i + 1).toNatClampNeg) (xs (nI i + 2).toNatClampNeg) (xs (nI i + 3).toNatClampNeg) v) e2 rfl gL_law_X7_train rfl rfl rfl (by decide +kernel) ⟨Nat.le_of_ble_eq_true rfl, Nat.le_of_ble_eq_true rfl⟩ ⟨Nat.le_of_ble_eq_true rfl, Nat.le_of_ble_eq_true rfl⟩ rfl rfl rfl (Nat.le_of_ble_eq_true rfl) dL_law_586 ?_
  refine k_swap ?_
  exact k_icmp_eqT C 589 1725 dL_law_589 (by decide) k
set_option maxRecDepth 100000 in
set_option maxHeartbeats 4000000 in
theorem law_c12 {p : Program} {l : Launch} {e : Env} {s : State} {m : MethodId} {below : List Frame} {meth : Method} {c : Code} {D : va_G} {cI cZ : ClassId} {ad ad2 : Nat → Nat} {tBURNS tFLAME_BOUNDS : Nat} {tS : Option Nat} {adK adV : Nat → Nat} {b L : Nat} {xs : Nat → Int32} (hL : L ≤ 384) (hX : va_X b L xs s s.heap) (hbl : b < s.heap.size) (hbA : ¬ s.heap.size ≤ b) (C : Cx p s m #[Value.ref b] meth c D [(cI, .int), (cZ, .boolean)] (EX tBURNS tFLAME_BOUNDS tS adK adV) (fun q : Nat => s.heap.size ≤ q) cL_law 4 (some .boolean) RL wsL_law) {i : Nat} (h6 : i + 6 ≤ L) {u v u' v' : St} {r : Int32} (e1 : pX6_blow LF (xs (nI i + 1).toNatClampNeg) (xs (nI i + 2).toNatClampNeg) u = some (r, u')) (e2 : pX7_blow LF (xs (nI i + 1).toNatClampNeg) (xs (nI i + 2).toNatClampNeg) v = some (r, v')) (k : KX p l e room_1 s m #[Value.ref b] below meth c D (fun q : Nat => s.heap.size ≤ q) 4 91 1902 (lw_Z below #[Value.ref b] s) 1725 [(0, .ref b), (1, .ref (ad 0)), (2, .ref (ad2 0)), (3, .int (nI i))] [] (wX ad cI cZ u' ++ wM ad2 cI cZ v')) : KX p l e room_1 s m #[Value.ref b] below meth c D (fun q : Nat => s.heap.size ≤ q) 4 91 1902 (lw_Z below #[Value.ref b] s) 594 [(0, .ref b), (1, .ref (ad 0)), (2, .ref (ad2 0)), (3, .int (nI i))] [] (wX ad cI cZ u ++ wM ad2 cI cZ v) := by
  have C0 := C.env (EV2 := E0) trivial
  have hi := hL
  refine k_aload_n C 594 1 dL_law_594 rfl ?_
  refine k_aload_n C 595 0 dL_law_595 rfl ?_
  refine k_iload_n C 596 3 dL_law_596 rfl ?_
  refine k_iconst C 597 1 dL_law_597 rfl ?_
  refine k_iadd C 598 dL_law_598 ?_
  refine k_sld C 599 hX hbl hbA (l_in hi h6 1 (by decide)) dL_law_599 ?_
  refine k_aload_n C 600 0 dL_law_600 rfl ?_
  refine k_iload_n C 601 3 dL_law_601 rfl ?_
  refine k_iconst C 602 2 dL_law_602 rfl ?_
  refine k_iadd C 603 dL_law_603 ?_
  refine k_sld C 604 hX hbl hbA (l_in hi h6 2 (by decide)) dL_law_604 ?_
  refine k_callVi (st := []) (As := [.int (xs (nI i + 1).toNatClampNeg), .int (xs (nI i + 2).toNatClampNeg)]) C EX_ok EX_vm 605 2 (tX6_blow (ad := ad) LF (xs (nI i + 1).toNatClampNeg) (xs (nI i + 2).toNatClampNeg) u) e1 rfl gL_law_X6_blow rfl rfl rfl (by decide +kernel) ⟨Nat.le_of_ble_eq_true rfl, Nat.le_of_ble_eq_true rfl⟩ ⟨Nat.le_of_ble_eq_true rfl, Nat.le_of_ble_eq_true rfl⟩ rfl rfl rfl (Nat.le_of_ble_eq_true rfl) dL_law_605 ?_
  refine k_aload_n C 608 2 dL_law_608 rfl ?_
  refine k_aload_n C 609 0 dL_law_609 rfl ?_
  refine k_iload_n C 610 3 dL_law_610 rfl ?_
  refine k_iconst C 611 1 dL_law_611 rfl ?_
  refine k_iadd C 612 dL_law_612 ?_
  refine k_sld C 613 hX hbl hbA (l_in hi h6 1 (by decide)) dL_law_613 ?_
  refine k_aload_n C 614 0 dL_law_614 rfl ?_
  refine k_iload_n C 615 3 dL_law_615 rfl ?_
  refine k_iconst C 616 2 dL_law_616 rfl ?_
  refine k_iadd C 617 dL_law_617 ?_
  refine k_sld C 618 hX hbl hbA (l_in hi h6 2 (by decide)) dL_law_618 ?_
  refine k_swap ?_
  refine k_callVi (st := [.int r]) (As := [.int (xs (nI i + 1).toNatClampNeg), .int (xs (nI i + 2).toNatClampNeg)]) C0 E0_ok E0_vm 619 2 (tX7_blow (ad := ad2) LF (xs (nI i + 1).toNatClampNeg) (xs (nI i + 2).toNatClampNeg) v) e2 rfl gL_law_X7_blow rfl rfl rfl (by decide +kernel) ⟨Nat.le_of_ble_eq_true rfl, Nat.le_of_ble_eq_true rfl⟩ ⟨Nat.le_of_ble_eq_true rfl, Nat.le_of_ble_eq_true rfl⟩ rfl rfl rfl (Nat.le_of_ble_eq_true rfl) dL_law_619 ?_
  refine k_swap ?_
  exact k_icmp_eqT C 622 1725 dL_law_622 (by decide) k
set_option maxRecDepth 100000 in
set_option maxHeartbeats 4000000 in
theorem law_c13 {p : Program} {l : Launch} {e : Env} {s : State} {m : MethodId} {below : List Frame} {meth : Method} {c : Code} {D : va_G} {cI cZ : ClassId} {ad ad2 : Nat → Nat} {tBURNS tFLAME_BOUNDS : Nat} {tS : Option Nat} {adK adV : Nat → Nat} {b L : Nat} {xs : Nat → Int32} (hL : L ≤ 384) (hX : va_X b L xs s s.heap) (hbl : b < s.heap.size) (hbA : ¬ s.heap.size ≤ b) (C : Cx p s m #[Value.ref b] meth c D [(cI, .int), (cZ, .boolean)] (EX tBURNS tFLAME_BOUNDS tS adK adV) (fun q : Nat => s.heap.size ≤ q) cL_law 4 (some .boolean) RL wsL_law) {i : Nat} (h6 : i + 6 ≤ L) {u v u' v' : St} {r : Int32} (e1 : pX6_calm LF (xs (nI i + 1).toNatClampNeg) u = some (r, u')) (e2 : pX7_calm LF (xs (nI i + 1).toNatClampNeg) v = some (r, v')) (k : KX p l e room_1 s m #[Value.ref b] below meth c D (fun q : Nat => s.heap.size ≤ q) 4 91 1902 (lw_Z below #[Value.ref b] s) 1725 [(0, .ref b), (1, .ref (ad 0)), (2, .ref (ad2 0)), (3, .int (nI i))] [] (wX ad cI cZ u' ++ wM ad2 cI cZ v')) : KX p l e room_1 s m #[Value.ref b] below meth c D (fun q : Nat => s.heap.size ≤ q) 4 91 1902 (lw_Z below #[Value.ref b] s) 627 [(0, .ref b), (1, .ref (ad 0)), (2, .ref (ad2 0)), (3, .int (nI i))] [] (wX ad cI cZ u ++ wM ad2 cI cZ v) := by
  have C0 := C.env (EV2 := E0) trivial
  have hi := hL
  refine k_aload_n C 627 1 dL_law_627 rfl ?_
  refine k_aload_n C 628 0 dL_law_628 rfl ?_
  refine k_iload_n C 629 3 dL_law_629 rfl ?_
  refine k_iconst C 630 1 dL_law_630 rfl ?_
  refine k_iadd C 631 dL_law_631 ?_
  refine k_sld C 632 hX hbl hbA (l_in hi h6 1 (by decide)) dL_law_632 ?_
  refine k_callVi (st := []) (As := [.int (xs (nI i + 1).toNatClampNeg)]) C EX_ok EX_vm 633 1 (tX6_calm (ad := ad) LF (xs (nI i + 1).toNatClampNeg) u) e1 rfl gL_law_X6_calm rfl rfl rfl (by decide +kernel) ⟨Nat.le_of_ble_eq_true rfl, Nat.le_of_ble_eq_true rfl⟩ ⟨Nat.le_of_ble_eq_true rfl, Nat.le_of_ble_eq_true rfl⟩ rfl rfl rfl (Nat.le_of_ble_eq_true rfl) dL_law_633 ?_
  refine k_aload_n C 636 2 dL_law_636 rfl ?_
  refine k_aload_n C 637 0 dL_law_637 rfl ?_
  refine k_iload_n C 638 3 dL_law_638 rfl ?_
  refine k_iconst C 639 1 dL_law_639 rfl ?_
  refine k_iadd C 640 dL_law_640 ?_
  refine k_sld C 641 hX hbl hbA (l_in hi h6 1 (by decide)) dL_law_641 ?_
  refine k_swap ?_
  refine k_callVi (st := [.int r]) (As := [.int (xs (nI i + 1).toNatClampNeg)]) C0 E0_ok E0_vm 642 1 (tX7_calm (ad := ad2) LF (xs (nI i + 1).toNatClampNeg) v) e2 rfl gL_law_X7_calm rfl rfl rfl (by decide +kernel) ⟨Nat.le_of_ble_eq_true rfl, Nat.le_of_ble_eq_true rfl⟩ ⟨Nat.le_of_ble_eq_true rfl, Nat.le_of_ble_eq_true rfl⟩ rfl rfl rfl (Nat.le_of_ble_eq_true rfl) dL_law_642 ?_
  refine k_swap ?_
  exact k_icmp_eqT C 645 1725 dL_law_645 (by decide) k
set_option maxRecDepth 100000 in
set_option maxHeartbeats 4000000 in
theorem law_c14 {p : Program} {l : Launch} {e : Env} {s : State} {m : MethodId} {below : List Frame} {meth : Method} {c : Code} {D : va_G} {cI cZ : ClassId} {ad ad2 : Nat → Nat} {tBURNS tFLAME_BOUNDS : Nat} {tS : Option Nat} {adK adV : Nat → Nat} {b L : Nat} {xs : Nat → Int32} (hL : L ≤ 384) (hX : va_X b L xs s s.heap) (hbl : b < s.heap.size) (hbA : ¬ s.heap.size ≤ b) (C : Cx p s m #[Value.ref b] meth c D [(cI, .int), (cZ, .boolean)] (EX tBURNS tFLAME_BOUNDS tS adK adV) (fun q : Nat => s.heap.size ≤ q) cL_law 4 (some .boolean) RL wsL_law) {i : Nat} (h6 : i + 6 ≤ L) {u v u' v' : St} {r : Int32} (e1 : pX6_plan LF (xs (nI i + 1).toNatClampNeg) (xs (nI i + 2).toNatClampNeg) u = some (r, u')) (e2 : pX7_plan LF (xs (nI i + 1).toNatClampNeg) (xs (nI i + 2).toNatClampNeg) v = some (r, v')) (k : KX p l e room_1 s m #[Value.ref b] below meth c D (fun q : Nat => s.heap.size ≤ q) 4 91 1902 (lw_Z below #[Value.ref b] s) 1725 [(0, .ref b), (1, .ref (ad 0)), (2, .ref (ad2 0)), (3, .int (nI i))] [] (wX ad cI cZ u' ++ wM ad2 cI cZ v')) : KX p l e room_1 s m #[Value.ref b] below meth c D (fun q : Nat => s.heap.size ≤ q) 4 91 1902 (lw_Z below #[Value.ref b] s) 650 [(0, .ref b), (1, .ref (ad 0)), (2, .ref (ad2 0)), (3, .int (nI i))] [] (wX ad cI cZ u ++ wM ad2 cI cZ v) := by
  have C0 := C.env (EV2 := E0) trivial
  have hi := hL
  refine k_aload_n C 650 1 dL_law_650 rfl ?_
  refine k_aload_n C 651 0 dL_law_651 rfl ?_
  refine k_iload_n C 652 3 dL_law_652 rfl ?_
  refine k_iconst C 653 1 dL_law_653 rfl ?_
  refine k_iadd C 654 dL_law_654 ?_
  refine k_sld C 655 hX hbl hbA (l_in hi h6 1 (by decide)) dL_law_655 ?_
  refine k_aload_n C 656 0 dL_law_656 rfl ?_
  refine k_iload_n C 657 3 dL_law_657 rfl ?_
  refine k_iconst C 658 2 dL_law_658 rfl ?_
  refine k_iadd C 659 dL_law_659 ?_
  refine k_sld C 660 hX hbl hbA (l_in hi h6 2 (by decide)) dL_law_660 ?_
  refine k_callVi (st := []) (As := [.int (xs (nI i + 1).toNatClampNeg), .int (xs (nI i + 2).toNatClampNeg)]) C EX_ok EX_vm 661 2 (tX6_plan (ad := ad) LF (xs (nI i + 1).toNatClampNeg) (xs (nI i + 2).toNatClampNeg) u) e1 rfl gL_law_X6_plan rfl rfl rfl (by decide +kernel) ⟨Nat.le_of_ble_eq_true rfl, Nat.le_of_ble_eq_true rfl⟩ ⟨Nat.le_of_ble_eq_true rfl, Nat.le_of_ble_eq_true rfl⟩ rfl rfl rfl (Nat.le_of_ble_eq_true rfl) dL_law_661 ?_
  refine k_aload_n C 664 2 dL_law_664 rfl ?_
  refine k_aload_n C 665 0 dL_law_665 rfl ?_
  refine k_iload_n C 666 3 dL_law_666 rfl ?_
  refine k_iconst C 667 1 dL_law_667 rfl ?_
  refine k_iadd C 668 dL_law_668 ?_
  refine k_sld C 669 hX hbl hbA (l_in hi h6 1 (by decide)) dL_law_669 ?_
  refine k_aload_n C 670 0 dL_law_670 rfl ?_
  refine k_iload_n C 671 3 dL_law_671 rfl ?_
  refine k_iconst C 672 2 dL_law_672 rfl ?_
  refine k_iadd C 673 dL_law_673 ?_
  refine k_sld C 674 hX hbl hbA (l_in hi h6 2 (by decide)) dL_law_674 ?_
  refine k_swap ?_
  refine k_callVi (st := [.int r]) (As := [.int (xs (nI i + 1).toNatClampNeg), .int (xs (nI i + 2).toNatClampNeg)]) C0 E0_ok E0_vm 675 2 (tX7_plan (ad := ad2) LF (xs (nI i + 1).toNatClampNeg) (xs (nI i + 2).toNatClampNeg) v) e2 rfl gL_law_X7_plan rfl rfl rfl (by decide +kernel) ⟨Nat.le_of_ble_eq_true rfl, Nat.le_of_ble_eq_true rfl⟩ ⟨Nat.le_of_ble_eq_true rfl, Nat.le_of_ble_eq_true rfl⟩ rfl rfl rfl (Nat.le_of_ble_eq_true rfl) dL_law_675 ?_
  refine k_swap ?_
  exact k_icmp_eqT C 678 1725 dL_law_678 (by decide) k
set_option maxRecDepth 100000 in
set_option maxHeartbeats 4000000 in
theorem law_c15 {p : Program} {l : Launch} {e : Env} {s : State} {m : MethodId} {below : List Frame} {meth : Method} {c : Code} {D : va_G} {cI cZ : ClassId} {ad ad2 : Nat → Nat} {tBURNS tFLAME_BOUNDS : Nat} {tS : Option Nat} {adK adV : Nat → Nat} {b L : Nat} {xs : Nat → Int32} (hL : L ≤ 384) (hX : va_X b L xs s s.heap) (hbl : b < s.heap.size) (hbA : ¬ s.heap.size ≤ b) (C : Cx p s m #[Value.ref b] meth c D [(cI, .int), (cZ, .boolean)] (EX tBURNS tFLAME_BOUNDS tS adK adV) (fun q : Nat => s.heap.size ≤ q) cL_law 4 (some .boolean) RL wsL_law) {i : Nat} (h6 : i + 6 ≤ L) {u v u' v' : St} {r : Int32} (e1 : pX6_cut LF (xs (nI i + 1).toNatClampNeg) u = some (r, u')) (e2 : pX7_cut LF (xs (nI i + 1).toNatClampNeg) v = some (r, v')) (k : KX p l e room_1 s m #[Value.ref b] below meth c D (fun q : Nat => s.heap.size ≤ q) 4 91 1902 (lw_Z below #[Value.ref b] s) 1725 [(0, .ref b), (1, .ref (ad 0)), (2, .ref (ad2 0)), (3, .int (nI i))] [] (wX ad cI cZ u' ++ wM ad2 cI cZ v')) : KX p l e room_1 s m #[Value.ref b] below meth c D (fun q : Nat => s.heap.size ≤ q) 4 91 1902 (lw_Z below #[Value.ref b] s) 683 [(0, .ref b), (1, .ref (ad 0)), (2, .ref (ad2 0)), (3, .int (nI i))] [] (wX ad cI cZ u ++ wM ad2 cI cZ v) := by
  have C0 := C.env (EV2 := E0) trivial
  have hi := hL
  refine k_aload_n C 683 1 dL_law_683 rfl ?_
  refine k_aload_n C 684 0 dL_law_684 rfl ?_
  refine k_iload_n C 685 3 dL_law_685 rfl ?_
  refine k_iconst C 686 1 dL_law_686 rfl ?_
  refine k_iadd C 687 dL_law_687 ?_
  refine k_sld C 688 hX hbl hbA (l_in hi h6 1 (by decide)) dL_law_688 ?_
  refine k_callVi (st := []) (As := [.int (xs (nI i + 1).toNatClampNeg)]) C EX_ok EX_vm 689 1 (tX6_cut (ad := ad) LF (xs (nI i + 1).toNatClampNeg) u) e1 rfl gL_law_X6_cut rfl rfl rfl (by decide +kernel) ⟨Nat.le_of_ble_eq_true rfl, Nat.le_of_ble_eq_true rfl⟩ ⟨Nat.le_of_ble_eq_true rfl, Nat.le_of_ble_eq_true rfl⟩ rfl rfl rfl (Nat.le_of_ble_eq_true rfl) dL_law_689 ?_
  refine k_aload_n C 692 2 dL_law_692 rfl ?_
  refine k_aload_n C 693 0 dL_law_693 rfl ?_
  refine k_iload_n C 694 3 dL_law_694 rfl ?_
  refine k_iconst C 695 1 dL_law_695 rfl ?_
  refine k_iadd C 696 dL_law_696 ?_
  refine k_sld C 697 hX hbl hbA (l_in hi h6 1 (by decide)) dL_law_697 ?_
  refine k_swap ?_
  refine k_callVi (st := [.int r]) (As := [.int (xs (nI i + 1).toNatClampNeg)]) C0 E0_ok E0_vm 698 1 (tX7_cut (ad := ad2) LF (xs (nI i + 1).toNatClampNeg) v) e2 rfl gL_law_X7_cut rfl rfl rfl (by decide +kernel) ⟨Nat.le_of_ble_eq_true rfl, Nat.le_of_ble_eq_true rfl⟩ ⟨Nat.le_of_ble_eq_true rfl, Nat.le_of_ble_eq_true rfl⟩ rfl rfl rfl (Nat.le_of_ble_eq_true rfl) dL_law_698 ?_
  refine k_swap ?_
  exact k_icmp_eqT C 701 1725 dL_law_701 (by decide) k
set_option maxRecDepth 100000 in
set_option maxHeartbeats 4000000 in
theorem law_c16 {p : Program} {l : Launch} {e : Env} {s : State} {m : MethodId} {below : List Frame} {meth : Method} {c : Code} {D : va_G} {cI cZ : ClassId} {ad ad2 : Nat → Nat} {tBURNS tFLAME_BOUNDS : Nat} {tS : Option Nat} {adK adV : Nat → Nat} {b L : Nat} {xs : Nat → Int32} (hL : L ≤ 384) (hX : va_X b L xs s s.heap) (hbl : b < s.heap.size) (hbA : ¬ s.heap.size ≤ b) (C : Cx p s m #[Value.ref b] meth c D [(cI, .int), (cZ, .boolean)] (EX tBURNS tFLAME_BOUNDS tS adK adV) (fun q : Nat => s.heap.size ≤ q) cL_law 4 (some .boolean) RL wsL_law) {i : Nat} (h6 : i + 6 ≤ L) {u v u' v' : St} {r : Int32} (e1 : pX6_hear LF (xs (nI i + 1).toNatClampNeg) (xs (nI i + 2).toNatClampNeg) u = some (r, u')) (e2 : pX7_hear LF (xs (nI i + 1).toNatClampNeg) (xs (nI i + 2).toNatClampNeg) v = some (r, v')) (k : KX p l e room_1 s m #[Value.ref b] below meth c D (fun q : Nat => s.heap.size ≤ q) 4 91 1902 (lw_Z below #[Value.ref b] s) 1725 [(0, .ref b), (1, .ref (ad 0)), (2, .ref (ad2 0)), (3, .int (nI i))] [] (wX ad cI cZ u' ++ wM ad2 cI cZ v')) : KX p l e room_1 s m #[Value.ref b] below meth c D (fun q : Nat => s.heap.size ≤ q) 4 91 1902 (lw_Z below #[Value.ref b] s) 706 [(0, .ref b), (1, .ref (ad 0)), (2, .ref (ad2 0)), (3, .int (nI i))] [] (wX ad cI cZ u ++ wM ad2 cI cZ v) := by
  have C0 := C.env (EV2 := E0) trivial
  have hi := hL
  refine k_aload_n C 706 1 dL_law_706 rfl ?_
  refine k_aload_n C 707 0 dL_law_707 rfl ?_
  refine k_iload_n C 708 3 dL_law_708 rfl ?_
  refine k_iconst C 709 1 dL_law_709 rfl ?_
  refine k_iadd C 710 dL_law_710 ?_
  refine k_sld C 711 hX hbl hbA (l_in hi h6 1 (by decide)) dL_law_711 ?_
  refine k_aload_n C 712 0 dL_law_712 rfl ?_
  refine k_iload_n C 713 3 dL_law_713 rfl ?_
  refine k_iconst C 714 2 dL_law_714 rfl ?_
  refine k_iadd C 715 dL_law_715 ?_
  refine k_sld C 716 hX hbl hbA (l_in hi h6 2 (by decide)) dL_law_716 ?_
  refine k_callVi (st := []) (As := [.int (xs (nI i + 1).toNatClampNeg), .int (xs (nI i + 2).toNatClampNeg)]) C EX_ok EX_vm 717 2 (tX6_hear (ad := ad) LF (xs (nI i + 1).toNatClampNeg) (xs (nI i + 2).toNatClampNeg) u) e1 rfl gL_law_X6_hear rfl rfl rfl (by decide +kernel) ⟨Nat.le_of_ble_eq_true rfl, Nat.le_of_ble_eq_true rfl⟩ ⟨Nat.le_of_ble_eq_true rfl, Nat.le_of_ble_eq_true rfl⟩ rfl rfl rfl (Nat.le_of_ble_eq_true rfl) dL_law_717 ?_
  refine k_aload_n C 720 2 dL_law_720 rfl ?_
  refine k_aload_n C 721 0 dL_law_721 rfl ?_
  refine k_iload_n C 722 3 dL_law_722 rfl ?_
  refine k_iconst C 723 1 dL_law_723 rfl ?_
  refine k_iadd C 724 dL_law_724 ?_
  refine k_sld C 725 hX hbl hbA (l_in hi h6 1 (by decide)) dL_law_725 ?_
  refine k_aload_n C 726 0 dL_law_726 rfl ?_
  refine k_iload_n C 727 3 dL_law_727 rfl ?_
  refine k_iconst C 728 2 dL_law_728 rfl ?_
  refine k_iadd C 729 dL_law_729 ?_
  refine k_sld C 730 hX hbl hbA (l_in hi h6 2 (by decide)) dL_law_730 ?_
  refine k_swap ?_
  refine k_callVi (st := [.int r]) (As := [.int (xs (nI i + 1).toNatClampNeg), .int (xs (nI i + 2).toNatClampNeg)]) C0 E0_ok E0_vm 731 2 (tX7_hear (ad := ad2) LF (xs (nI i + 1).toNatClampNeg) (xs (nI i + 2).toNatClampNeg) v) e2 rfl gL_law_X7_hear rfl rfl rfl (by decide +kernel) ⟨Nat.le_of_ble_eq_true rfl, Nat.le_of_ble_eq_true rfl⟩ ⟨Nat.le_of_ble_eq_true rfl, Nat.le_of_ble_eq_true rfl⟩ rfl rfl rfl (Nat.le_of_ble_eq_true rfl) dL_law_731 ?_
  refine k_swap ?_
  exact k_icmp_eqT C 734 1725 dL_law_734 (by decide) k
set_option maxRecDepth 100000 in
set_option maxHeartbeats 4000000 in
theorem law_c17 {p : Program} {l : Launch} {e : Env} {s : State} {m : MethodId} {below : List Frame} {meth : Method} {c : Code} {D : va_G} {cI cZ : ClassId} {ad ad2 : Nat → Nat} {tBURNS tFLAME_BOUNDS : Nat} {tS : Option Nat} {adK adV : Nat → Nat} {b L : Nat} {xs : Nat → Int32} (hL : L ≤ 384) (hX : va_X b L xs s s.heap) (hbl : b < s.heap.size) (hbA : ¬ s.heap.size ≤ b) (C : Cx p s m #[Value.ref b] meth c D [(cI, .int), (cZ, .boolean)] (EX tBURNS tFLAME_BOUNDS tS adK adV) (fun q : Nat => s.heap.size ≤ q) cL_law 4 (some .boolean) RL wsL_law) {i : Nat} (h6 : i + 6 ≤ L) {u v u' v' : St} {r : Int32} (e1 : pX6_appeal LF (xs (nI i + 1).toNatClampNeg) u = some (r, u')) (e2 : pX7_appeal LF (xs (nI i + 1).toNatClampNeg) v = some (r, v')) (k : KX p l e room_1 s m #[Value.ref b] below meth c D (fun q : Nat => s.heap.size ≤ q) 4 91 1902 (lw_Z below #[Value.ref b] s) 1725 [(0, .ref b), (1, .ref (ad 0)), (2, .ref (ad2 0)), (3, .int (nI i))] [] (wX ad cI cZ u' ++ wM ad2 cI cZ v')) : KX p l e room_1 s m #[Value.ref b] below meth c D (fun q : Nat => s.heap.size ≤ q) 4 91 1902 (lw_Z below #[Value.ref b] s) 739 [(0, .ref b), (1, .ref (ad 0)), (2, .ref (ad2 0)), (3, .int (nI i))] [] (wX ad cI cZ u ++ wM ad2 cI cZ v) := by
  have C0 := C.env (EV2 := E0) trivial
  have hi := hL
  refine k_aload_n C 739 1 dL_law_739 rfl ?_
  refine k_aload_n C 740 0 dL_law_740 rfl ?_
  refine k_iload_n C 741 3 dL_law_741 rfl ?_
  refine k_iconst C 742 1 dL_law_742 rfl ?_
  refine k_iadd C 743 dL_law_743 ?_
  refine k_sld C 744 hX hbl hbA (l_in hi h6 1 (by decide)) dL_law_744 ?_
  refine k_callVi (st := []) (As := [.int (xs (nI i + 1).toNatClampNeg)]) C EX_ok EX_vm 745 1 (tX6_appeal (ad := ad) LF (xs (nI i + 1).toNatClampNeg) u) e1 rfl gL_law_X6_appeal rfl rfl rfl (by decide +kernel) ⟨Nat.le_of_ble_eq_true rfl, Nat.le_of_ble_eq_true rfl⟩ ⟨Nat.le_of_ble_eq_true rfl, Nat.le_of_ble_eq_true rfl⟩ rfl rfl rfl (Nat.le_of_ble_eq_true rfl) dL_law_745 ?_
  refine k_aload_n C 748 2 dL_law_748 rfl ?_
  refine k_aload_n C 749 0 dL_law_749 rfl ?_
  refine k_iload_n C 750 3 dL_law_750 rfl ?_
  refine k_iconst C 751 1 dL_law_751 rfl ?_
  refine k_iadd C 752 dL_law_752 ?_
  refine k_sld C 753 hX hbl hbA (l_in hi h6 1 (by decide)) dL_law_753 ?_
  refine k_swap ?_
  refine k_callVi (st := [.int r]) (As := [.int (xs (nI i + 1).toNatClampNeg)]) C0 E0_ok E0_vm 754 1 (tX7_appeal (ad := ad2) LF (xs (nI i + 1).toNatClampNeg) v) e2 rfl gL_law_X7_appeal rfl rfl rfl (by decide +kernel) ⟨Nat.le_of_ble_eq_true rfl, Nat.le_of_ble_eq_true rfl⟩ ⟨Nat.le_of_ble_eq_true rfl, Nat.le_of_ble_eq_true rfl⟩ rfl rfl rfl (Nat.le_of_ble_eq_true rfl) dL_law_754 ?_
  refine k_swap ?_
  exact k_icmp_eqT C 757 1725 dL_law_757 (by decide) k
set_option maxRecDepth 100000 in
set_option maxHeartbeats 4000000 in
theorem law_c18 {p : Program} {l : Launch} {e : Env} {s : State} {m : MethodId} {below : List Frame} {meth : Method} {c : Code} {D : va_G} {cI cZ : ClassId} {ad ad2 : Nat → Nat} {tBURNS tFLAME_BOUNDS : Nat} {tS : Option Nat} {adK adV : Nat → Nat} {b L : Nat} {xs : Nat → Int32} (hL : L ≤ 384) (hX : va_X b L xs s s.heap) (hbl : b < s.heap.size) (hbA : ¬ s.heap.size ≤ b) (C : Cx p s m #[Value.ref b] meth c D [(cI, .int), (cZ, .boolean)] (EX tBURNS tFLAME_BOUNDS tS adK adV) (fun q : Nat => s.heap.size ≤ q) cL_law 4 (some .boolean) RL wsL_law) {i : Nat} (h6 : i + 6 ≤ L) {u v u' v' : St} {r : Int32} (e1 : pX6_foretell LF (xs (nI i + 1).toNatClampNeg) (xs (nI i + 2).toNatClampNeg) (xs (nI i + 3).toNatClampNeg) u = some (r, u')) (e2 : pX7_foretell LF (xs (nI i + 1).toNatClampNeg) (xs (nI i + 2).toNatClampNeg) (xs (nI i + 3).toNatClampNeg) v = some (r, v')) (k : KX p l e room_1 s m #[Value.ref b] below meth c D (fun q : Nat => s.heap.size ≤ q) 4 91 1902 (lw_Z below #[Value.ref b] s) 1725 [(0, .ref b), (1, .ref (ad 0)), (2, .ref (ad2 0)), (3, .int (nI i))] [] (wX ad cI cZ u' ++ wM ad2 cI cZ v')) : KX p l e room_1 s m #[Value.ref b] below meth c D (fun q : Nat => s.heap.size ≤ q) 4 91 1902 (lw_Z below #[Value.ref b] s) 762 [(0, .ref b), (1, .ref (ad 0)), (2, .ref (ad2 0)), (3, .int (nI i))] [] (wX ad cI cZ u ++ wM ad2 cI cZ v) := by
  have C0 := C.env (EV2 := E0) trivial
  have hi := hL
  refine k_aload_n C 762 1 dL_law_762 rfl ?_
  refine k_aload_n C 763 0 dL_law_763 rfl ?_
  refine k_iload_n C 764 3 dL_law_764 rfl ?_
  refine k_iconst C 765 1 dL_law_765 rfl ?_
  refine k_iadd C 766 dL_law_766 ?_
  refine k_sld C 767 hX hbl hbA (l_in hi h6 1 (by decide)) dL_law_767 ?_
  refine k_aload_n C 768 0 dL_law_768 rfl ?_
  refine k_iload_n C 769 3 dL_law_769 rfl ?_
  refine k_iconst C 770 2 dL_law_770 rfl ?_
  refine k_iadd C 771 dL_law_771 ?_
  refine k_sld C 772 hX hbl hbA (l_in hi h6 2 (by decide)) dL_law_772 ?_
  refine k_aload_n C 773 0 dL_law_773 rfl ?_
  refine k_iload_n C 774 3 dL_law_774 rfl ?_
  refine k_iconst C 775 3 dL_law_775 rfl ?_
  refine k_iadd C 776 dL_law_776 ?_
  refine k_sld C 777 hX hbl hbA (l_in hi h6 3 (by decide)) dL_law_777 ?_
  refine k_callVi (st := []) (As := [.int (xs (nI i + 1).toNatClampNeg), .int (xs (nI i + 2).toNatClampNeg), .int (xs (nI i + 3).toNatClampNeg)]) C EX_ok EX_vm 778 3 (tX6_foretell (ad := ad) LF (xs (nI i + 1).toNatClampNeg) (xs (nI i + 2).toNatClampNeg) (xs (nI i + 3).toNatClampNeg) u) e1 rfl gL_law_X6_foretell rfl rfl rfl (by decide +kernel) ⟨Nat.le_of_ble_eq_true rfl, Nat.le_of_ble_eq_true rfl⟩ ⟨Nat.le_of_ble_eq_true rfl, Nat.le_of_ble_eq_true rfl⟩ rfl rfl rfl (Nat.le_of_ble_eq_true rfl) dL_law_778 ?_
  refine k_aload_n C 781 2 dL_law_781 rfl ?_
  refine k_aload_n C 782 0 dL_law_782 rfl ?_
  refine k_iload_n C 783 3 dL_law_783 rfl ?_
  refine k_iconst C 784 1 dL_law_784 rfl ?_
  refine k_iadd C 785 dL_law_785 ?_
  refine k_sld C 786 hX hbl hbA (l_in hi h6 1 (by decide)) dL_law_786 ?_
  refine k_aload_n C 787 0 dL_law_787 rfl ?_
  refine k_iload_n C 788 3 dL_law_788 rfl ?_
  refine k_iconst C 789 2 dL_law_789 rfl ?_
  refine k_iadd C 790 dL_law_790 ?_
  refine k_sld C 791 hX hbl hbA (l_in hi h6 2 (by decide)) dL_law_791 ?_
  refine k_aload_n C 792 0 dL_law_792 rfl ?_
  refine k_iload_n C 793 3 dL_law_793 rfl ?_
  refine k_iconst C 794 3 dL_law_794 rfl ?_
  refine k_iadd C 795 dL_law_795 ?_
  refine k_sld C 796 hX hbl hbA (l_in hi h6 3 (by decide)) dL_law_796 ?_
  refine k_swap ?_
  refine k_callVi (st := [.int r]) (As := [.int (xs (nI i + 1).toNatClampNeg), .int (xs (nI i + 2).toNatClampNeg), .int (xs (nI i + 3).toNatClampNeg)]) C0 E0_ok E0_vm 797 3 (tX7_foretell (ad := ad2) LF (xs (nI i + 1).toNatClampNeg) (xs (nI i + 2).toNatClampNeg) (xs (nI i + 3).toNatClampNeg) v) e2 rfl gL_law_X7_foretell rfl rfl rfl (by decide +kernel) ⟨Nat.le_of_ble_eq_true rfl, Nat.le_of_ble_eq_true rfl⟩ ⟨Nat.le_of_ble_eq_true rfl, Nat.le_of_ble_eq_true rfl⟩ rfl rfl rfl (Nat.le_of_ble_eq_true rfl) dL_law_797 ?_
  refine k_swap ?_
  exact k_icmp_eqT C 800 1725 dL_law_800 (by decide) k
set_option maxRecDepth 100000 in
set_option maxHeartbeats 4000000 in
theorem law_c19 {p : Program} {l : Launch} {e : Env} {s : State} {m : MethodId} {below : List Frame} {meth : Method} {c : Code} {D : va_G} {cI cZ : ClassId} {ad ad2 : Nat → Nat} {tBURNS tFLAME_BOUNDS : Nat} {tS : Option Nat} {adK adV : Nat → Nat} {b L : Nat} {xs : Nat → Int32} (hL : L ≤ 384) (hX : va_X b L xs s s.heap) (hbl : b < s.heap.size) (hbA : ¬ s.heap.size ≤ b) (C : Cx p s m #[Value.ref b] meth c D [(cI, .int), (cZ, .boolean)] (EX tBURNS tFLAME_BOUNDS tS adK adV) (fun q : Nat => s.heap.size ≤ q) cL_law 4 (some .boolean) RL wsL_law) {i : Nat} (h6 : i + 6 ≤ L) {u v u' v' : St} {r : Int32} (e1 : pX6_runs LF (xs (nI i + 1).toNatClampNeg) u = some (r, u')) (e2 : pX7_runs LF (xs (nI i + 1).toNatClampNeg) v = some (r, v')) (k : KX p l e room_1 s m #[Value.ref b] below meth c D (fun q : Nat => s.heap.size ≤ q) 4 91 1902 (lw_Z below #[Value.ref b] s) 1725 [(0, .ref b), (1, .ref (ad 0)), (2, .ref (ad2 0)), (3, .int (nI i))] [] (wX ad cI cZ u' ++ wM ad2 cI cZ v')) : KX p l e room_1 s m #[Value.ref b] below meth c D (fun q : Nat => s.heap.size ≤ q) 4 91 1902 (lw_Z below #[Value.ref b] s) 805 [(0, .ref b), (1, .ref (ad 0)), (2, .ref (ad2 0)), (3, .int (nI i))] [] (wX ad cI cZ u ++ wM ad2 cI cZ v) := by
  have C0 := C.env (EV2 := E0) trivial
  have hi := hL
  refine k_aload_n C 805 1 dL_law_805 rfl ?_
  refine k_aload_n C 806 0 dL_law_806 rfl ?_
  refine k_iload_n C 807 3 dL_law_807 rfl ?_
  refine k_iconst C 808 1 dL_law_808 rfl ?_
  refine k_iadd C 809 dL_law_809 ?_
  refine k_sld C 810 hX hbl hbA (l_in hi h6 1 (by decide)) dL_law_810 ?_
  refine k_callVi (st := []) (As := [.int (xs (nI i + 1).toNatClampNeg)]) C EX_ok EX_vm 811 1 (tX6_runs (ad := ad) LF (xs (nI i + 1).toNatClampNeg) u) e1 rfl gL_law_X6_runs rfl rfl rfl (by decide +kernel) ⟨Nat.le_of_ble_eq_true rfl, Nat.le_of_ble_eq_true rfl⟩ ⟨Nat.le_of_ble_eq_true rfl, Nat.le_of_ble_eq_true rfl⟩ rfl rfl rfl (Nat.le_of_ble_eq_true rfl) dL_law_811 ?_
  refine k_aload_n C 814 2 dL_law_814 rfl ?_
  refine k_aload_n C 815 0 dL_law_815 rfl ?_
  refine k_iload_n C 816 3 dL_law_816 rfl ?_
  refine k_iconst C 817 1 dL_law_817 rfl ?_
  refine k_iadd C 818 dL_law_818 ?_
  refine k_sld C 819 hX hbl hbA (l_in hi h6 1 (by decide)) dL_law_819 ?_
  refine k_swap ?_
  refine k_callVi (st := [.int r]) (As := [.int (xs (nI i + 1).toNatClampNeg)]) C0 E0_ok E0_vm 820 1 (tX7_runs (ad := ad2) LF (xs (nI i + 1).toNatClampNeg) v) e2 rfl gL_law_X7_runs rfl rfl rfl (by decide +kernel) ⟨Nat.le_of_ble_eq_true rfl, Nat.le_of_ble_eq_true rfl⟩ ⟨Nat.le_of_ble_eq_true rfl, Nat.le_of_ble_eq_true rfl⟩ rfl rfl rfl (Nat.le_of_ble_eq_true rfl) dL_law_820 ?_
  refine k_swap ?_
  exact k_icmp_eqT C 823 1725 dL_law_823 (by decide) k
set_option maxRecDepth 100000 in
set_option maxHeartbeats 4000000 in
theorem law_c20 {p : Program} {l : Launch} {e : Env} {s : State} {m : MethodId} {below : List Frame} {meth : Method} {c : Code} {D : va_G} {cI cZ : ClassId} {ad ad2 : Nat → Nat} {tBURNS tFLAME_BOUNDS : Nat} {tS : Option Nat} {adK adV : Nat → Nat} {b L : Nat} {xs : Nat → Int32} (hL : L ≤ 384) (hX : va_X b L xs s s.heap) (hbl : b < s.heap.size) (hbA : ¬ s.heap.size ≤ b) (C : Cx p s m #[Value.ref b] meth c D [(cI, .int), (cZ, .boolean)] (EX tBURNS tFLAME_BOUNDS tS adK adV) (fun q : Nat => s.heap.size ≤ q) cL_law 4 (some .boolean) RL wsL_law) {i : Nat} (h6 : i + 6 ≤ L) {u v u' v' : St} {r : Int32} (e1 : pX6_ahead LF (xs (nI i + 1).toNatClampNeg) u = some (r, u')) (e2 : pX7_ahead LF (xs (nI i + 1).toNatClampNeg) v = some (r, v')) (k : KX p l e room_1 s m #[Value.ref b] below meth c D (fun q : Nat => s.heap.size ≤ q) 4 91 1902 (lw_Z below #[Value.ref b] s) 1725 [(0, .ref b), (1, .ref (ad 0)), (2, .ref (ad2 0)), (3, .int (nI i))] [] (wX ad cI cZ u' ++ wM ad2 cI cZ v')) : KX p l e room_1 s m #[Value.ref b] below meth c D (fun q : Nat => s.heap.size ≤ q) 4 91 1902 (lw_Z below #[Value.ref b] s) 828 [(0, .ref b), (1, .ref (ad 0)), (2, .ref (ad2 0)), (3, .int (nI i))] [] (wX ad cI cZ u ++ wM ad2 cI cZ v) := by
  have C0 := C.env (EV2 := E0) trivial
  have hi := hL
  refine k_aload_n C 828 1 dL_law_828 rfl ?_
  refine k_aload_n C 829 0 dL_law_829 rfl ?_
  refine k_iload_n C 830 3 dL_law_830 rfl ?_
  refine k_iconst C 831 1 dL_law_831 rfl ?_
  refine k_iadd C 832 dL_law_832 ?_
  refine k_sld C 833 hX hbl hbA (l_in hi h6 1 (by decide)) dL_law_833 ?_
  refine k_callVi (st := []) (As := [.int (xs (nI i + 1).toNatClampNeg)]) C EX_ok EX_vm 834 1 (tX6_ahead (ad := ad) LF (xs (nI i + 1).toNatClampNeg) u) e1 rfl gL_law_X6_ahead rfl rfl rfl (by decide +kernel) ⟨Nat.le_of_ble_eq_true rfl, Nat.le_of_ble_eq_true rfl⟩ ⟨Nat.le_of_ble_eq_true rfl, Nat.le_of_ble_eq_true rfl⟩ rfl rfl rfl (Nat.le_of_ble_eq_true rfl) dL_law_834 ?_
  refine k_aload_n C 837 2 dL_law_837 rfl ?_
  refine k_aload_n C 838 0 dL_law_838 rfl ?_
  refine k_iload_n C 839 3 dL_law_839 rfl ?_
  refine k_iconst C 840 1 dL_law_840 rfl ?_
  refine k_iadd C 841 dL_law_841 ?_
  refine k_sld C 842 hX hbl hbA (l_in hi h6 1 (by decide)) dL_law_842 ?_
  refine k_swap ?_
  refine k_callVi (st := [.int r]) (As := [.int (xs (nI i + 1).toNatClampNeg)]) C0 E0_ok E0_vm 843 1 (tX7_ahead (ad := ad2) LF (xs (nI i + 1).toNatClampNeg) v) e2 rfl gL_law_X7_ahead rfl rfl rfl (by decide +kernel) ⟨Nat.le_of_ble_eq_true rfl, Nat.le_of_ble_eq_true rfl⟩ ⟨Nat.le_of_ble_eq_true rfl, Nat.le_of_ble_eq_true rfl⟩ rfl rfl rfl (Nat.le_of_ble_eq_true rfl) dL_law_843 ?_
  refine k_swap ?_
  exact k_icmp_eqT C 846 1725 dL_law_846 (by decide) k
set_option maxRecDepth 100000 in
set_option maxHeartbeats 4000000 in
theorem law_c21 {p : Program} {l : Launch} {e : Env} {s : State} {m : MethodId} {below : List Frame} {meth : Method} {c : Code} {D : va_G} {cI cZ : ClassId} {ad ad2 : Nat → Nat} {tBURNS tFLAME_BOUNDS : Nat} {tS : Option Nat} {adK adV : Nat → Nat} {b L : Nat} {xs : Nat → Int32} (hL : L ≤ 384) (hX : va_X b L xs s s.heap) (hbl : b < s.heap.size) (hbA : ¬ s.heap.size ≤ b) (C : Cx p s m #[Value.ref b] meth c D [(cI, .int), (cZ, .boolean)] (EX tBURNS tFLAME_BOUNDS tS adK adV) (fun q : Nat => s.heap.size ≤ q) cL_law 4 (some .boolean) RL wsL_law) {i : Nat} (h6 : i + 6 ≤ L) {u v u' v' : St} {r : Int32} (e1 : pX6_friends LF (xs (nI i + 1).toNatClampNeg) (xs (nI i + 2).toNatClampNeg) u = some (r, u')) (e2 : pX7_friends LF (xs (nI i + 1).toNatClampNeg) (xs (nI i + 2).toNatClampNeg) v = some (r, v')) (k : KX p l e room_1 s m #[Value.ref b] below meth c D (fun q : Nat => s.heap.size ≤ q) 4 91 1902 (lw_Z below #[Value.ref b] s) 1725 [(0, .ref b), (1, .ref (ad 0)), (2, .ref (ad2 0)), (3, .int (nI i))] [] (wX ad cI cZ u' ++ wM ad2 cI cZ v')) : KX p l e room_1 s m #[Value.ref b] below meth c D (fun q : Nat => s.heap.size ≤ q) 4 91 1902 (lw_Z below #[Value.ref b] s) 851 [(0, .ref b), (1, .ref (ad 0)), (2, .ref (ad2 0)), (3, .int (nI i))] [] (wX ad cI cZ u ++ wM ad2 cI cZ v) := by
  have C0 := C.env (EV2 := E0) trivial
  have hi := hL
  refine k_aload_n C 851 1 dL_law_851 rfl ?_
  refine k_aload_n C 852 0 dL_law_852 rfl ?_
  refine k_iload_n C 853 3 dL_law_853 rfl ?_
  refine k_iconst C 854 1 dL_law_854 rfl ?_
  refine k_iadd C 855 dL_law_855 ?_
  refine k_sld C 856 hX hbl hbA (l_in hi h6 1 (by decide)) dL_law_856 ?_
  refine k_aload_n C 857 0 dL_law_857 rfl ?_
  refine k_iload_n C 858 3 dL_law_858 rfl ?_
  refine k_iconst C 859 2 dL_law_859 rfl ?_
  refine k_iadd C 860 dL_law_860 ?_
  refine k_sld C 861 hX hbl hbA (l_in hi h6 2 (by decide)) dL_law_861 ?_
  refine k_callVi (st := []) (As := [.int (xs (nI i + 1).toNatClampNeg), .int (xs (nI i + 2).toNatClampNeg)]) C EX_ok EX_vm 862 2 (tX6_friends (ad := ad) LF (xs (nI i + 1).toNatClampNeg) (xs (nI i + 2).toNatClampNeg) u) e1 rfl gL_law_X6_friends rfl rfl rfl (by decide +kernel) ⟨Nat.le_of_ble_eq_true rfl, Nat.le_of_ble_eq_true rfl⟩ ⟨Nat.le_of_ble_eq_true rfl, Nat.le_of_ble_eq_true rfl⟩ rfl rfl rfl (Nat.le_of_ble_eq_true rfl) dL_law_862 ?_
  refine k_aload_n C 865 2 dL_law_865 rfl ?_
  refine k_aload_n C 866 0 dL_law_866 rfl ?_
  refine k_iload_n C 867 3 dL_law_867 rfl ?_
  refine k_iconst C 868 1 dL_law_868 rfl ?_
  refine k_iadd C 869 dL_law_869 ?_
  refine k_sld C 870 hX hbl hbA (l_in hi h6 1 (by decide)) dL_law_870 ?_
  refine k_aload_n C 871 0 dL_law_871 rfl ?_
  refine k_iload_n C 872 3 dL_law_872 rfl ?_
  refine k_iconst C 873 2 dL_law_873 rfl ?_
  refine k_iadd C 874 dL_law_874 ?_
  refine k_sld C 875 hX hbl hbA (l_in hi h6 2 (by decide)) dL_law_875 ?_
  refine k_swap ?_
  refine k_callVi (st := [.int r]) (As := [.int (xs (nI i + 1).toNatClampNeg), .int (xs (nI i + 2).toNatClampNeg)]) C0 E0_ok E0_vm 876 2 (tX7_friends (ad := ad2) LF (xs (nI i + 1).toNatClampNeg) (xs (nI i + 2).toNatClampNeg) v) e2 rfl gL_law_X7_friends rfl rfl rfl (by decide +kernel) ⟨Nat.le_of_ble_eq_true rfl, Nat.le_of_ble_eq_true rfl⟩ ⟨Nat.le_of_ble_eq_true rfl, Nat.le_of_ble_eq_true rfl⟩ rfl rfl rfl (Nat.le_of_ble_eq_true rfl) dL_law_876 ?_
  refine k_swap ?_
  exact k_icmp_eqT C 879 1725 dL_law_879 (by decide) k
set_option maxRecDepth 100000 in
set_option maxHeartbeats 4000000 in
theorem law_c22 {p : Program} {l : Launch} {e : Env} {s : State} {m : MethodId} {below : List Frame} {meth : Method} {c : Code} {D : va_G} {cI cZ : ClassId} {ad ad2 : Nat → Nat} {tBURNS tFLAME_BOUNDS : Nat} {tS : Option Nat} {adK adV : Nat → Nat} {b L : Nat} {xs : Nat → Int32} (hL : L ≤ 384) (hX : va_X b L xs s s.heap) (hbl : b < s.heap.size) (hbA : ¬ s.heap.size ≤ b) (C : Cx p s m #[Value.ref b] meth c D [(cI, .int), (cZ, .boolean)] (EX tBURNS tFLAME_BOUNDS tS adK adV) (fun q : Nat => s.heap.size ≤ q) cL_law 4 (some .boolean) RL wsL_law) {i : Nat} (h6 : i + 6 ≤ L) {u v u' v' : St} {r : Int32} (e1 : pX6_wax LF (xs (nI i + 1).toNatClampNeg) (xs (nI i + 2).toNatClampNeg) (xs (nI i + 3).toNatClampNeg) u = some (r, u')) (e2 : pX7_wax LF (xs (nI i + 1).toNatClampNeg) (xs (nI i + 2).toNatClampNeg) (xs (nI i + 3).toNatClampNeg) v = some (r, v')) (k : KX p l e room_1 s m #[Value.ref b] below meth c D (fun q : Nat => s.heap.size ≤ q) 4 91 1902 (lw_Z below #[Value.ref b] s) 1725 [(0, .ref b), (1, .ref (ad 0)), (2, .ref (ad2 0)), (3, .int (nI i))] [] (wX ad cI cZ u' ++ wM ad2 cI cZ v')) : KX p l e room_1 s m #[Value.ref b] below meth c D (fun q : Nat => s.heap.size ≤ q) 4 91 1902 (lw_Z below #[Value.ref b] s) 884 [(0, .ref b), (1, .ref (ad 0)), (2, .ref (ad2 0)), (3, .int (nI i))] [] (wX ad cI cZ u ++ wM ad2 cI cZ v) := by
  have C0 := C.env (EV2 := E0) trivial
  have hi := hL
  refine k_aload_n C 884 1 dL_law_884 rfl ?_
  refine k_aload_n C 885 0 dL_law_885 rfl ?_
  refine k_iload_n C 886 3 dL_law_886 rfl ?_
  refine k_iconst C 887 1 dL_law_887 rfl ?_
  refine k_iadd C 888 dL_law_888 ?_
  refine k_sld C 889 hX hbl hbA (l_in hi h6 1 (by decide)) dL_law_889 ?_
  refine k_aload_n C 890 0 dL_law_890 rfl ?_
  refine k_iload_n C 891 3 dL_law_891 rfl ?_
  refine k_iconst C 892 2 dL_law_892 rfl ?_
  refine k_iadd C 893 dL_law_893 ?_
  refine k_sld C 894 hX hbl hbA (l_in hi h6 2 (by decide)) dL_law_894 ?_
  refine k_aload_n C 895 0 dL_law_895 rfl ?_
  refine k_iload_n C 896 3 dL_law_896 rfl ?_
  refine k_iconst C 897 3 dL_law_897 rfl ?_
  refine k_iadd C 898 dL_law_898 ?_
  refine k_sld C 899 hX hbl hbA (l_in hi h6 3 (by decide)) dL_law_899 ?_
  refine k_callVi (st := []) (As := [.int (xs (nI i + 1).toNatClampNeg), .int (xs (nI i + 2).toNatClampNeg), .int (xs (nI i + 3).toNatClampNeg)]) C EX_ok EX_vm 900 3 (tX6_wax (ad := ad) LF (xs (nI i + 1).toNatClampNeg) (xs (nI i + 2).toNatClampNeg) (xs (nI i + 3).toNatClampNeg) u) e1 rfl gL_law_X6_wax rfl rfl rfl (by decide +kernel) ⟨Nat.le_of_ble_eq_true rfl, Nat.le_of_ble_eq_true rfl⟩ ⟨Nat.le_of_ble_eq_true rfl, Nat.le_of_ble_eq_true rfl⟩ rfl rfl rfl (Nat.le_of_ble_eq_true rfl) dL_law_900 ?_
  refine k_aload_n C 903 2 dL_law_903 rfl ?_
  refine k_aload_n C 904 0 dL_law_904 rfl ?_
  refine k_iload_n C 905 3 dL_law_905 rfl ?_
  refine k_iconst C 906 1 dL_law_906 rfl ?_
  refine k_iadd C 907 dL_law_907 ?_
  refine k_sld C 908 hX hbl hbA (l_in hi h6 1 (by decide)) dL_law_908 ?_
  refine k_aload_n C 909 0 dL_law_909 rfl ?_
  refine k_iload_n C 910 3 dL_law_910 rfl ?_
  refine k_iconst C 911 2 dL_law_911 rfl ?_
  refine k_iadd C 912 dL_law_912 ?_
  refine k_sld C 913 hX hbl hbA (l_in hi h6 2 (by decide)) dL_law_913 ?_
  refine k_aload_n C 914 0 dL_law_914 rfl ?_
  refine k_iload_n C 915 3 dL_law_915 rfl ?_
  refine k_iconst C 916 3 dL_law_916 rfl ?_
  refine k_iadd C 917 dL_law_917 ?_
  refine k_sld C 918 hX hbl hbA (l_in hi h6 3 (by decide)) dL_law_918 ?_
  refine k_swap ?_
  refine k_callVi (st := [.int r]) (As := [.int (xs (nI i + 1).toNatClampNeg), .int (xs (nI i + 2).toNatClampNeg), .int (xs (nI i + 3).toNatClampNeg)]) C0 E0_ok E0_vm 919 3 (tX7_wax (ad := ad2) LF (xs (nI i + 1).toNatClampNeg) (xs (nI i + 2).toNatClampNeg) (xs (nI i + 3).toNatClampNeg) v) e2 rfl gL_law_X7_wax rfl rfl rfl (by decide +kernel) ⟨Nat.le_of_ble_eq_true rfl, Nat.le_of_ble_eq_true rfl⟩ ⟨Nat.le_of_ble_eq_true rfl, Nat.le_of_ble_eq_true rfl⟩ rfl rfl rfl (Nat.le_of_ble_eq_true rfl) dL_law_919 ?_
  refine k_swap ?_
  exact k_icmp_eqT C 922 1725 dL_law_922 (by decide) k
set_option maxRecDepth 100000 in
set_option maxHeartbeats 4000000 in
theorem law_c23 {p : Program} {l : Launch} {e : Env} {s : State} {m : MethodId} {below : List Frame} {meth : Method} {c : Code} {D : va_G} {cI cZ : ClassId} {ad ad2 : Nat → Nat} {tBURNS tFLAME_BOUNDS : Nat} {tS : Option Nat} {adK adV : Nat → Nat} {b L : Nat} {xs : Nat → Int32} (hL : L ≤ 384) (hX : va_X b L xs s s.heap) (hbl : b < s.heap.size) (hbA : ¬ s.heap.size ≤ b) (C : Cx p s m #[Value.ref b] meth c D [(cI, .int), (cZ, .boolean)] (EX tBURNS tFLAME_BOUNDS tS adK adV) (fun q : Nat => s.heap.size ≤ q) cL_law 4 (some .boolean) RL wsL_law) {i : Nat} (h6 : i + 6 ≤ L) {u v u' v' : St} {r : Int32} (e1 : pX6_least LF (xs (nI i + 1).toNatClampNeg) (xs (nI i + 2).toNatClampNeg) (xs (nI i + 3).toNatClampNeg) u = some (r, u')) (e2 : pX7_least LF (xs (nI i + 1).toNatClampNeg) (xs (nI i + 2).toNatClampNeg) (xs (nI i + 3).toNatClampNeg) v = some (r, v')) (k : KX p l e room_1 s m #[Value.ref b] below meth c D (fun q : Nat => s.heap.size ≤ q) 4 91 1902 (lw_Z below #[Value.ref b] s) 1725 [(0, .ref b), (1, .ref (ad 0)), (2, .ref (ad2 0)), (3, .int (nI i))] [] (wX ad cI cZ u' ++ wM ad2 cI cZ v')) : KX p l e room_1 s m #[Value.ref b] below meth c D (fun q : Nat => s.heap.size ≤ q) 4 91 1902 (lw_Z below #[Value.ref b] s) 927 [(0, .ref b), (1, .ref (ad 0)), (2, .ref (ad2 0)), (3, .int (nI i))] [] (wX ad cI cZ u ++ wM ad2 cI cZ v) := by
  have C0 := C.env (EV2 := E0) trivial
  have hi := hL
  refine k_aload_n C 927 1 dL_law_927 rfl ?_
  refine k_aload_n C 928 0 dL_law_928 rfl ?_
  refine k_iload_n C 929 3 dL_law_929 rfl ?_
  refine k_iconst C 930 1 dL_law_930 rfl ?_
  refine k_iadd C 931 dL_law_931 ?_
  refine k_sld C 932 hX hbl hbA (l_in hi h6 1 (by decide)) dL_law_932 ?_
  refine k_aload_n C 933 0 dL_law_933 rfl ?_
  refine k_iload_n C 934 3 dL_law_934 rfl ?_
  refine k_iconst C 935 2 dL_law_935 rfl ?_
  refine k_iadd C 936 dL_law_936 ?_
  refine k_sld C 937 hX hbl hbA (l_in hi h6 2 (by decide)) dL_law_937 ?_
  refine k_aload_n C 938 0 dL_law_938 rfl ?_
  refine k_iload_n C 939 3 dL_law_939 rfl ?_
  refine k_iconst C 940 3 dL_law_940 rfl ?_
  refine k_iadd C 941 dL_law_941 ?_
  refine k_sld C 942 hX hbl hbA (l_in hi h6 3 (by decide)) dL_law_942 ?_
  refine k_callVi (st := []) (As := [.int (xs (nI i + 1).toNatClampNeg), .int (xs (nI i + 2).toNatClampNeg), .int (xs (nI i + 3).toNatClampNeg)]) C EX_ok EX_vm 943 3 (tX6_least (ad := ad) LF (xs (nI i + 1).toNatClampNeg) (xs (nI i + 2).toNatClampNeg) (xs (nI i + 3).toNatClampNeg) u) e1 rfl gL_law_X6_least rfl rfl rfl (by decide +kernel) ⟨Nat.le_of_ble_eq_true rfl, Nat.le_of_ble_eq_true rfl⟩ ⟨Nat.le_of_ble_eq_true rfl, Nat.le_of_ble_eq_true rfl⟩ rfl rfl rfl (Nat.le_of_ble_eq_true rfl) dL_law_943 ?_
  refine k_aload_n C 946 2 dL_law_946 rfl ?_
  refine k_aload_n C 947 0 dL_law_947 rfl ?_
  refine k_iload_n C 948 3 dL_law_948 rfl ?_
  refine k_iconst C 949 1 dL_law_949 rfl ?_
  refine k_iadd C 950 dL_law_950 ?_
  refine k_sld C 951 hX hbl hbA (l_in hi h6 1 (by decide)) dL_law_951 ?_
  refine k_aload_n C 952 0 dL_law_952 rfl ?_
  refine k_iload_n C 953 3 dL_law_953 rfl ?_
  refine k_iconst C 954 2 dL_law_954 rfl ?_
  refine k_iadd C 955 dL_law_955 ?_
  refine k_sld C 956 hX hbl hbA (l_in hi h6 2 (by decide)) dL_law_956 ?_
  refine k_aload_n C 957 0 dL_law_957 rfl ?_
  refine k_iload_n C 958 3 dL_law_958 rfl ?_
  refine k_iconst C 959 3 dL_law_959 rfl ?_
  refine k_iadd C 960 dL_law_960 ?_
  refine k_sld C 961 hX hbl hbA (l_in hi h6 3 (by decide)) dL_law_961 ?_
  refine k_swap ?_
  refine k_callVi (st := [.int r]) (As := [.int (xs (nI i + 1).toNatClampNeg), .int (xs (nI i + 2).toNatClampNeg), .int (xs (nI i + 3).toNatClampNeg)]) C0 E0_ok E0_vm 962 3 (tX7_least (ad := ad2) LF (xs (nI i + 1).toNatClampNeg) (xs (nI i + 2).toNatClampNeg) (xs (nI i + 3).toNatClampNeg) v) e2 rfl gL_law_X7_least rfl rfl rfl (by decide +kernel) ⟨Nat.le_of_ble_eq_true rfl, Nat.le_of_ble_eq_true rfl⟩ ⟨Nat.le_of_ble_eq_true rfl, Nat.le_of_ble_eq_true rfl⟩ rfl rfl rfl (Nat.le_of_ble_eq_true rfl) dL_law_962 ?_
  refine k_swap ?_
  exact k_icmp_eqT C 965 1725 dL_law_965 (by decide) k
set_option maxRecDepth 100000 in
set_option maxHeartbeats 4000000 in
theorem law_c24 {p : Program} {l : Launch} {e : Env} {s : State} {m : MethodId} {below : List Frame} {meth : Method} {c : Code} {D : va_G} {cI cZ : ClassId} {ad ad2 : Nat → Nat} {tBURNS tFLAME_BOUNDS : Nat} {tS : Option Nat} {adK adV : Nat → Nat} {b L : Nat} {xs : Nat → Int32} (hL : L ≤ 384) (hX : va_X b L xs s s.heap) (hbl : b < s.heap.size) (hbA : ¬ s.heap.size ≤ b) (C : Cx p s m #[Value.ref b] meth c D [(cI, .int), (cZ, .boolean)] (EX tBURNS tFLAME_BOUNDS tS adK adV) (fun q : Nat => s.heap.size ≤ q) cL_law 4 (some .boolean) RL wsL_law) {i : Nat} (h6 : i + 6 ≤ L) {u v u' v' : St} {r : Int32} (e1 : pX6_hand LF (xs (nI i + 1).toNatClampNeg) (xs (nI i + 2).toNatClampNeg) (xs (nI i + 3).toNatClampNeg) u = some (r, u')) (e2 : pX7_hand LF (xs (nI i + 1).toNatClampNeg) (xs (nI i + 2).toNatClampNeg) (xs (nI i + 3).toNatClampNeg) v = some (r, v')) (k : KX p l e room_1 s m #[Value.ref b] below meth c D (fun q : Nat => s.heap.size ≤ q) 4 91 1902 (lw_Z below #[Value.ref b] s) 1725 [(0, .ref b), (1, .ref (ad 0)), (2, .ref (ad2 0)), (3, .int (nI i))] [] (wX ad cI cZ u' ++ wM ad2 cI cZ v')) : KX p l e room_1 s m #[Value.ref b] below meth c D (fun q : Nat => s.heap.size ≤ q) 4 91 1902 (lw_Z below #[Value.ref b] s) 970 [(0, .ref b), (1, .ref (ad 0)), (2, .ref (ad2 0)), (3, .int (nI i))] [] (wX ad cI cZ u ++ wM ad2 cI cZ v) := by
  have C0 := C.env (EV2 := E0) trivial
  have hi := hL
  refine k_aload_n C 970 1 dL_law_970 rfl ?_
  refine k_aload_n C 971 0 dL_law_971 rfl ?_
  refine k_iload_n C 972 3 dL_law_972 rfl ?_
  refine k_iconst C 973 1 dL_law_973 rfl ?_
  refine k_iadd C 974 dL_law_974 ?_
  refine k_sld C 975 hX hbl hbA (l_in hi h6 1 (by decide)) dL_law_975 ?_
  refine k_aload_n C 976 0 dL_law_976 rfl ?_
  refine k_iload_n C 977 3 dL_law_977 rfl ?_
  refine k_iconst C 978 2 dL_law_978 rfl ?_
  refine k_iadd C 979 dL_law_979 ?_
  refine k_sld C 980 hX hbl hbA (l_in hi h6 2 (by decide)) dL_law_980 ?_
  refine k_aload_n C 981 0 dL_law_981 rfl ?_
  refine k_iload_n C 982 3 dL_law_982 rfl ?_
  refine k_iconst C 983 3 dL_law_983 rfl ?_
  refine k_iadd C 984 dL_law_984 ?_
  refine k_sld C 985 hX hbl hbA (l_in hi h6 3 (by decide)) dL_law_985 ?_
  refine k_callVi (st := []) (As := [.int (xs (nI i + 1).toNatClampNeg), .int (xs (nI i + 2).toNatClampNeg), .int (xs (nI i + 3).toNatClampNeg)]) C EX_ok EX_vm 986 3 (tX6_hand (ad := ad) LF (xs (nI i + 1).toNatClampNeg) (xs (nI i + 2).toNatClampNeg) (xs (nI i + 3).toNatClampNeg) u) e1 rfl gL_law_X6_hand rfl rfl rfl (by decide +kernel) ⟨Nat.le_of_ble_eq_true rfl, Nat.le_of_ble_eq_true rfl⟩ ⟨Nat.le_of_ble_eq_true rfl, Nat.le_of_ble_eq_true rfl⟩ rfl rfl rfl (Nat.le_of_ble_eq_true rfl) dL_law_986 ?_
  refine k_aload_n C 989 2 dL_law_989 rfl ?_
  refine k_aload_n C 990 0 dL_law_990 rfl ?_
  refine k_iload_n C 991 3 dL_law_991 rfl ?_
  refine k_iconst C 992 1 dL_law_992 rfl ?_
  refine k_iadd C 993 dL_law_993 ?_
  refine k_sld C 994 hX hbl hbA (l_in hi h6 1 (by decide)) dL_law_994 ?_
  refine k_aload_n C 995 0 dL_law_995 rfl ?_
  refine k_iload_n C 996 3 dL_law_996 rfl ?_
  refine k_iconst C 997 2 dL_law_997 rfl ?_
  refine k_iadd C 998 dL_law_998 ?_
  refine k_sld C 999 hX hbl hbA (l_in hi h6 2 (by decide)) dL_law_999 ?_
  refine k_aload_n C 1000 0 dL_law_1000 rfl ?_
  refine k_iload_n C 1001 3 dL_law_1001 rfl ?_
  refine k_iconst C 1002 3 dL_law_1002 rfl ?_
  refine k_iadd C 1003 dL_law_1003 ?_
  refine k_sld C 1004 hX hbl hbA (l_in hi h6 3 (by decide)) dL_law_1004 ?_
  refine k_swap ?_
  refine k_callVi (st := [.int r]) (As := [.int (xs (nI i + 1).toNatClampNeg), .int (xs (nI i + 2).toNatClampNeg), .int (xs (nI i + 3).toNatClampNeg)]) C0 E0_ok E0_vm 1005 3 (tX7_hand (ad := ad2) LF (xs (nI i + 1).toNatClampNeg) (xs (nI i + 2).toNatClampNeg) (xs (nI i + 3).toNatClampNeg) v) e2 rfl gL_law_X7_hand rfl rfl rfl (by decide +kernel) ⟨Nat.le_of_ble_eq_true rfl, Nat.le_of_ble_eq_true rfl⟩ ⟨Nat.le_of_ble_eq_true rfl, Nat.le_of_ble_eq_true rfl⟩ rfl rfl rfl (Nat.le_of_ble_eq_true rfl) dL_law_1005 ?_
  refine k_swap ?_
  exact k_icmp_eqT C 1008 1725 dL_law_1008 (by decide) k
set_option maxRecDepth 100000 in
set_option maxHeartbeats 4000000 in
theorem law_c25 {p : Program} {l : Launch} {e : Env} {s : State} {m : MethodId} {below : List Frame} {meth : Method} {c : Code} {D : va_G} {cI cZ : ClassId} {ad ad2 : Nat → Nat} {tBURNS tFLAME_BOUNDS : Nat} {tS : Option Nat} {adK adV : Nat → Nat} {b L : Nat} {xs : Nat → Int32} (hL : L ≤ 384) (hX : va_X b L xs s s.heap) (hbl : b < s.heap.size) (hbA : ¬ s.heap.size ≤ b) (C : Cx p s m #[Value.ref b] meth c D [(cI, .int), (cZ, .boolean)] (EX tBURNS tFLAME_BOUNDS tS adK adV) (fun q : Nat => s.heap.size ≤ q) cL_law 4 (some .boolean) RL wsL_law) {i : Nat} (h6 : i + 6 ≤ L) {u v u' v' : St} {r : Int32} (e1 : pX6_turn LF (xs (nI i + 1).toNatClampNeg) (xs (nI i + 2).toNatClampNeg) (xs (nI i + 3).toNatClampNeg) u = some (r, u')) (e2 : pX7_turn LF (xs (nI i + 1).toNatClampNeg) (xs (nI i + 2).toNatClampNeg) (xs (nI i + 3).toNatClampNeg) v = some (r, v')) (k : KX p l e room_1 s m #[Value.ref b] below meth c D (fun q : Nat => s.heap.size ≤ q) 4 91 1902 (lw_Z below #[Value.ref b] s) 1725 [(0, .ref b), (1, .ref (ad 0)), (2, .ref (ad2 0)), (3, .int (nI i))] [] (wX ad cI cZ u' ++ wM ad2 cI cZ v')) : KX p l e room_1 s m #[Value.ref b] below meth c D (fun q : Nat => s.heap.size ≤ q) 4 91 1902 (lw_Z below #[Value.ref b] s) 1013 [(0, .ref b), (1, .ref (ad 0)), (2, .ref (ad2 0)), (3, .int (nI i))] [] (wX ad cI cZ u ++ wM ad2 cI cZ v) := by
  have C0 := C.env (EV2 := E0) trivial
  have hi := hL
  refine k_aload_n C 1013 1 dL_law_1013 rfl ?_
  refine k_aload_n C 1014 0 dL_law_1014 rfl ?_
  refine k_iload_n C 1015 3 dL_law_1015 rfl ?_
  refine k_iconst C 1016 1 dL_law_1016 rfl ?_
  refine k_iadd C 1017 dL_law_1017 ?_
  refine k_sld C 1018 hX hbl hbA (l_in hi h6 1 (by decide)) dL_law_1018 ?_
  refine k_aload_n C 1019 0 dL_law_1019 rfl ?_
  refine k_iload_n C 1020 3 dL_law_1020 rfl ?_
  refine k_iconst C 1021 2 dL_law_1021 rfl ?_
  refine k_iadd C 1022 dL_law_1022 ?_
  refine k_sld C 1023 hX hbl hbA (l_in hi h6 2 (by decide)) dL_law_1023 ?_
  refine k_aload_n C 1024 0 dL_law_1024 rfl ?_
  refine k_iload_n C 1025 3 dL_law_1025 rfl ?_
  refine k_iconst C 1026 3 dL_law_1026 rfl ?_
  refine k_iadd C 1027 dL_law_1027 ?_
  refine k_sld C 1028 hX hbl hbA (l_in hi h6 3 (by decide)) dL_law_1028 ?_
  refine k_callVi (st := []) (As := [.int (xs (nI i + 1).toNatClampNeg), .int (xs (nI i + 2).toNatClampNeg), .int (xs (nI i + 3).toNatClampNeg)]) C EX_ok EX_vm 1029 3 (tX6_turn (ad := ad) LF (xs (nI i + 1).toNatClampNeg) (xs (nI i + 2).toNatClampNeg) (xs (nI i + 3).toNatClampNeg) u) e1 rfl gL_law_X6_turn rfl rfl rfl (by decide +kernel) ⟨Nat.le_of_ble_eq_true rfl, Nat.le_of_ble_eq_true rfl⟩ ⟨Nat.le_of_ble_eq_true rfl, Nat.le_of_ble_eq_true rfl⟩ rfl rfl rfl (Nat.le_of_ble_eq_true rfl) dL_law_1029 ?_
  refine k_aload_n C 1032 2 dL_law_1032 rfl ?_
  refine k_aload_n C 1033 0 dL_law_1033 rfl ?_
  refine k_iload_n C 1034 3 dL_law_1034 rfl ?_
  refine k_iconst C 1035 1 dL_law_1035 rfl ?_
  refine k_iadd C 1036 dL_law_1036 ?_
  refine k_sld C 1037 hX hbl hbA (l_in hi h6 1 (by decide)) dL_law_1037 ?_
  refine k_aload_n C 1038 0 dL_law_1038 rfl ?_
  refine k_iload_n C 1039 3 dL_law_1039 rfl ?_
  refine k_iconst C 1040 2 dL_law_1040 rfl ?_
  refine k_iadd C 1041 dL_law_1041 ?_
  refine k_sld C 1042 hX hbl hbA (l_in hi h6 2 (by decide)) dL_law_1042 ?_
  refine k_aload_n C 1043 0 dL_law_1043 rfl ?_
  refine k_iload_n C 1044 3 dL_law_1044 rfl ?_
  refine k_iconst C 1045 3 dL_law_1045 rfl ?_
  refine k_iadd C 1046 dL_law_1046 ?_
  refine k_sld C 1047 hX hbl hbA (l_in hi h6 3 (by decide)) dL_law_1047 ?_
  refine k_swap ?_
  refine k_callVi (st := [.int r]) (As := [.int (xs (nI i + 1).toNatClampNeg), .int (xs (nI i + 2).toNatClampNeg), .int (xs (nI i + 3).toNatClampNeg)]) C0 E0_ok E0_vm 1048 3 (tX7_turn (ad := ad2) LF (xs (nI i + 1).toNatClampNeg) (xs (nI i + 2).toNatClampNeg) (xs (nI i + 3).toNatClampNeg) v) e2 rfl gL_law_X7_turn rfl rfl rfl (by decide +kernel) ⟨Nat.le_of_ble_eq_true rfl, Nat.le_of_ble_eq_true rfl⟩ ⟨Nat.le_of_ble_eq_true rfl, Nat.le_of_ble_eq_true rfl⟩ rfl rfl rfl (Nat.le_of_ble_eq_true rfl) dL_law_1048 ?_
  refine k_swap ?_
  exact k_icmp_eqT C 1051 1725 dL_law_1051 (by decide) k
set_option maxRecDepth 100000 in
set_option maxHeartbeats 4000000 in
theorem law_c26 {p : Program} {l : Launch} {e : Env} {s : State} {m : MethodId} {below : List Frame} {meth : Method} {c : Code} {D : va_G} {cI cZ : ClassId} {ad ad2 : Nat → Nat} {tBURNS tFLAME_BOUNDS : Nat} {tS : Option Nat} {adK adV : Nat → Nat} {b L : Nat} {xs : Nat → Int32} (hL : L ≤ 384) (hX : va_X b L xs s s.heap) (hbl : b < s.heap.size) (hbA : ¬ s.heap.size ≤ b) (C : Cx p s m #[Value.ref b] meth c D [(cI, .int), (cZ, .boolean)] (EX tBURNS tFLAME_BOUNDS tS adK adV) (fun q : Nat => s.heap.size ≤ q) cL_law 4 (some .boolean) RL wsL_law) {i : Nat} (h6 : i + 6 ≤ L) {u v u' v' : St} {r : Int32} (e1 : pX6_sure LF (xs (nI i + 1).toNatClampNeg) (xs (nI i + 2).toNatClampNeg) (xs (nI i + 3).toNatClampNeg) u = some (r, u')) (e2 : pX7_sure LF (xs (nI i + 1).toNatClampNeg) (xs (nI i + 2).toNatClampNeg) (xs (nI i + 3).toNatClampNeg) v = some (r, v')) (k : KX p l e room_1 s m #[Value.ref b] below meth c D (fun q : Nat => s.heap.size ≤ q) 4 91 1902 (lw_Z below #[Value.ref b] s) 1725 [(0, .ref b), (1, .ref (ad 0)), (2, .ref (ad2 0)), (3, .int (nI i))] [] (wX ad cI cZ u' ++ wM ad2 cI cZ v')) : KX p l e room_1 s m #[Value.ref b] below meth c D (fun q : Nat => s.heap.size ≤ q) 4 91 1902 (lw_Z below #[Value.ref b] s) 1056 [(0, .ref b), (1, .ref (ad 0)), (2, .ref (ad2 0)), (3, .int (nI i))] [] (wX ad cI cZ u ++ wM ad2 cI cZ v) := by
  have C0 := C.env (EV2 := E0) trivial
  have hi := hL
  refine k_aload_n C 1056 1 dL_law_1056 rfl ?_
  refine k_aload_n C 1057 0 dL_law_1057 rfl ?_
  refine k_iload_n C 1058 3 dL_law_1058 rfl ?_
  refine k_iconst C 1059 1 dL_law_1059 rfl ?_
  refine k_iadd C 1060 dL_law_1060 ?_
  refine k_sld C 1061 hX hbl hbA (l_in hi h6 1 (by decide)) dL_law_1061 ?_
  refine k_aload_n C 1062 0 dL_law_1062 rfl ?_
  refine k_iload_n C 1063 3 dL_law_1063 rfl ?_
  refine k_iconst C 1064 2 dL_law_1064 rfl ?_
  refine k_iadd C 1065 dL_law_1065 ?_
  refine k_sld C 1066 hX hbl hbA (l_in hi h6 2 (by decide)) dL_law_1066 ?_
  refine k_aload_n C 1067 0 dL_law_1067 rfl ?_
  refine k_iload_n C 1068 3 dL_law_1068 rfl ?_
  refine k_iconst C 1069 3 dL_law_1069 rfl ?_
  refine k_iadd C 1070 dL_law_1070 ?_
  refine k_sld C 1071 hX hbl hbA (l_in hi h6 3 (by decide)) dL_law_1071 ?_
  refine k_callVi (st := []) (As := [.int (xs (nI i + 1).toNatClampNeg), .int (xs (nI i + 2).toNatClampNeg), .int (xs (nI i + 3).toNatClampNeg)]) C EX_ok EX_vm 1072 3 (tX6_sure (ad := ad) LF (xs (nI i + 1).toNatClampNeg) (xs (nI i + 2).toNatClampNeg) (xs (nI i + 3).toNatClampNeg) u) e1 rfl gL_law_X6_sure rfl rfl rfl (by decide +kernel) ⟨Nat.le_of_ble_eq_true rfl, Nat.le_of_ble_eq_true rfl⟩ ⟨Nat.le_of_ble_eq_true rfl, Nat.le_of_ble_eq_true rfl⟩ rfl rfl rfl (Nat.le_of_ble_eq_true rfl) dL_law_1072 ?_
  refine k_aload_n C 1075 2 dL_law_1075 rfl ?_
  refine k_aload_n C 1076 0 dL_law_1076 rfl ?_
  refine k_iload_n C 1077 3 dL_law_1077 rfl ?_
  refine k_iconst C 1078 1 dL_law_1078 rfl ?_
  refine k_iadd C 1079 dL_law_1079 ?_
  refine k_sld C 1080 hX hbl hbA (l_in hi h6 1 (by decide)) dL_law_1080 ?_
  refine k_aload_n C 1081 0 dL_law_1081 rfl ?_
  refine k_iload_n C 1082 3 dL_law_1082 rfl ?_
  refine k_iconst C 1083 2 dL_law_1083 rfl ?_
  refine k_iadd C 1084 dL_law_1084 ?_
  refine k_sld C 1085 hX hbl hbA (l_in hi h6 2 (by decide)) dL_law_1085 ?_
  refine k_aload_n C 1086 0 dL_law_1086 rfl ?_
  refine k_iload_n C 1087 3 dL_law_1087 rfl ?_
  refine k_iconst C 1088 3 dL_law_1088 rfl ?_
  refine k_iadd C 1089 dL_law_1089 ?_
  refine k_sld C 1090 hX hbl hbA (l_in hi h6 3 (by decide)) dL_law_1090 ?_
  refine k_swap ?_
  refine k_callVi (st := [.int r]) (As := [.int (xs (nI i + 1).toNatClampNeg), .int (xs (nI i + 2).toNatClampNeg), .int (xs (nI i + 3).toNatClampNeg)]) C0 E0_ok E0_vm 1091 3 (tX7_sure (ad := ad2) LF (xs (nI i + 1).toNatClampNeg) (xs (nI i + 2).toNatClampNeg) (xs (nI i + 3).toNatClampNeg) v) e2 rfl gL_law_X7_sure rfl rfl rfl (by decide +kernel) ⟨Nat.le_of_ble_eq_true rfl, Nat.le_of_ble_eq_true rfl⟩ ⟨Nat.le_of_ble_eq_true rfl, Nat.le_of_ble_eq_true rfl⟩ rfl rfl rfl (Nat.le_of_ble_eq_true rfl) dL_law_1091 ?_
  refine k_swap ?_
  exact k_icmp_eqT C 1094 1725 dL_law_1094 (by decide) k
set_option maxRecDepth 100000 in
set_option maxHeartbeats 4000000 in
theorem law_c27 {p : Program} {l : Launch} {e : Env} {s : State} {m : MethodId} {below : List Frame} {meth : Method} {c : Code} {D : va_G} {cI cZ : ClassId} {ad ad2 : Nat → Nat} {tBURNS tFLAME_BOUNDS : Nat} {tS : Option Nat} {adK adV : Nat → Nat} {b L : Nat} {xs : Nat → Int32} (hL : L ≤ 384) (hX : va_X b L xs s s.heap) (hbl : b < s.heap.size) (hbA : ¬ s.heap.size ≤ b) (C : Cx p s m #[Value.ref b] meth c D [(cI, .int), (cZ, .boolean)] (EX tBURNS tFLAME_BOUNDS tS adK adV) (fun q : Nat => s.heap.size ≤ q) cL_law 4 (some .boolean) RL wsL_law) {i : Nat} (h6 : i + 6 ≤ L) {u v u' v' : St} {r : Int32} (e1 : pX6_rest LF (xs (nI i + 1).toNatClampNeg) (xs (nI i + 2).toNatClampNeg) (xs (nI i + 3).toNatClampNeg) u = some (r, u')) (e2 : pX7_rest LF (xs (nI i + 1).toNatClampNeg) (xs (nI i + 2).toNatClampNeg) (xs (nI i + 3).toNatClampNeg) v = some (r, v')) (k : KX p l e room_1 s m #[Value.ref b] below meth c D (fun q : Nat => s.heap.size ≤ q) 4 91 1902 (lw_Z below #[Value.ref b] s) 1725 [(0, .ref b), (1, .ref (ad 0)), (2, .ref (ad2 0)), (3, .int (nI i))] [] (wX ad cI cZ u' ++ wM ad2 cI cZ v')) : KX p l e room_1 s m #[Value.ref b] below meth c D (fun q : Nat => s.heap.size ≤ q) 4 91 1902 (lw_Z below #[Value.ref b] s) 1099 [(0, .ref b), (1, .ref (ad 0)), (2, .ref (ad2 0)), (3, .int (nI i))] [] (wX ad cI cZ u ++ wM ad2 cI cZ v) := by
  have C0 := C.env (EV2 := E0) trivial
  have hi := hL
  refine k_aload_n C 1099 1 dL_law_1099 rfl ?_
  refine k_aload_n C 1100 0 dL_law_1100 rfl ?_
  refine k_iload_n C 1101 3 dL_law_1101 rfl ?_
  refine k_iconst C 1102 1 dL_law_1102 rfl ?_
  refine k_iadd C 1103 dL_law_1103 ?_
  refine k_sld C 1104 hX hbl hbA (l_in hi h6 1 (by decide)) dL_law_1104 ?_
  refine k_aload_n C 1105 0 dL_law_1105 rfl ?_
  refine k_iload_n C 1106 3 dL_law_1106 rfl ?_
  refine k_iconst C 1107 2 dL_law_1107 rfl ?_
  refine k_iadd C 1108 dL_law_1108 ?_
  refine k_sld C 1109 hX hbl hbA (l_in hi h6 2 (by decide)) dL_law_1109 ?_
  refine k_aload_n C 1110 0 dL_law_1110 rfl ?_
  refine k_iload_n C 1111 3 dL_law_1111 rfl ?_
  refine k_iconst C 1112 3 dL_law_1112 rfl ?_
  refine k_iadd C 1113 dL_law_1113 ?_
  refine k_sld C 1114 hX hbl hbA (l_in hi h6 3 (by decide)) dL_law_1114 ?_
  refine k_callVi (st := []) (As := [.int (xs (nI i + 1).toNatClampNeg), .int (xs (nI i + 2).toNatClampNeg), .int (xs (nI i + 3).toNatClampNeg)]) C EX_ok EX_vm 1115 3 (tX6_rest (ad := ad) LF (xs (nI i + 1).toNatClampNeg) (xs (nI i + 2).toNatClampNeg) (xs (nI i + 3).toNatClampNeg) u) e1 rfl gL_law_X6_rest rfl rfl rfl (by decide +kernel) ⟨Nat.le_of_ble_eq_true rfl, Nat.le_of_ble_eq_true rfl⟩ ⟨Nat.le_of_ble_eq_true rfl, Nat.le_of_ble_eq_true rfl⟩ rfl rfl rfl (Nat.le_of_ble_eq_true rfl) dL_law_1115 ?_
  refine k_aload_n C 1118 2 dL_law_1118 rfl ?_
  refine k_aload_n C 1119 0 dL_law_1119 rfl ?_
  refine k_iload_n C 1120 3 dL_law_1120 rfl ?_
  refine k_iconst C 1121 1 dL_law_1121 rfl ?_
  refine k_iadd C 1122 dL_law_1122 ?_
  refine k_sld C 1123 hX hbl hbA (l_in hi h6 1 (by decide)) dL_law_1123 ?_
  refine k_aload_n C 1124 0 dL_law_1124 rfl ?_
  refine k_iload_n C 1125 3 dL_law_1125 rfl ?_
  refine k_iconst C 1126 2 dL_law_1126 rfl ?_
  refine k_iadd C 1127 dL_law_1127 ?_
  refine k_sld C 1128 hX hbl hbA (l_in hi h6 2 (by decide)) dL_law_1128 ?_
  refine k_aload_n C 1129 0 dL_law_1129 rfl ?_
  refine k_iload_n C 1130 3 dL_law_1130 rfl ?_
  refine k_iconst C 1131 3 dL_law_1131 rfl ?_
  refine k_iadd C 1132 dL_law_1132 ?_
  refine k_sld C 1133 hX hbl hbA (l_in hi h6 3 (by decide)) dL_law_1133 ?_
  refine k_swap ?_
  refine k_callVi (st := [.int r]) (As := [.int (xs (nI i + 1).toNatClampNeg), .int (xs (nI i + 2).toNatClampNeg), .int (xs (nI i + 3).toNatClampNeg)]) C0 E0_ok E0_vm 1134 3 (tX7_rest (ad := ad2) LF (xs (nI i + 1).toNatClampNeg) (xs (nI i + 2).toNatClampNeg) (xs (nI i + 3).toNatClampNeg) v) e2 rfl gL_law_X7_rest rfl rfl rfl (by decide +kernel) ⟨Nat.le_of_ble_eq_true rfl, Nat.le_of_ble_eq_true rfl⟩ ⟨Nat.le_of_ble_eq_true rfl, Nat.le_of_ble_eq_true rfl⟩ rfl rfl rfl (Nat.le_of_ble_eq_true rfl) dL_law_1134 ?_
  refine k_swap ?_
  exact k_icmp_eqT C 1137 1725 dL_law_1137 (by decide) k
set_option maxRecDepth 100000 in
set_option maxHeartbeats 4000000 in
theorem law_c28 {p : Program} {l : Launch} {e : Env} {s : State} {m : MethodId} {below : List Frame} {meth : Method} {c : Code} {D : va_G} {cI cZ : ClassId} {ad ad2 : Nat → Nat} {tBURNS tFLAME_BOUNDS : Nat} {tS : Option Nat} {adK adV : Nat → Nat} {b L : Nat} {xs : Nat → Int32} (hL : L ≤ 384) (hX : va_X b L xs s s.heap) (hbl : b < s.heap.size) (hbA : ¬ s.heap.size ≤ b) (C : Cx p s m #[Value.ref b] meth c D [(cI, .int), (cZ, .boolean)] (EX tBURNS tFLAME_BOUNDS tS adK adV) (fun q : Nat => s.heap.size ≤ q) cL_law 4 (some .boolean) RL wsL_law) {i : Nat} (h6 : i + 6 ≤ L) {u v u' v' : St} {r : Int32} (e1 : pX6_share LF (xs (nI i + 1).toNatClampNeg) (xs (nI i + 2).toNatClampNeg) u = some (r, u')) (e2 : pX7_share LF (xs (nI i + 1).toNatClampNeg) (xs (nI i + 2).toNatClampNeg) v = some (r, v')) (k : KX p l e room_1 s m #[Value.ref b] below meth c D (fun q : Nat => s.heap.size ≤ q) 4 91 1902 (lw_Z below #[Value.ref b] s) 1725 [(0, .ref b), (1, .ref (ad 0)), (2, .ref (ad2 0)), (3, .int (nI i))] [] (wX ad cI cZ u' ++ wM ad2 cI cZ v')) : KX p l e room_1 s m #[Value.ref b] below meth c D (fun q : Nat => s.heap.size ≤ q) 4 91 1902 (lw_Z below #[Value.ref b] s) 1142 [(0, .ref b), (1, .ref (ad 0)), (2, .ref (ad2 0)), (3, .int (nI i))] [] (wX ad cI cZ u ++ wM ad2 cI cZ v) := by
  have C0 := C.env (EV2 := E0) trivial
  have hi := hL
  refine k_aload_n C 1142 1 dL_law_1142 rfl ?_
  refine k_aload_n C 1143 0 dL_law_1143 rfl ?_
  refine k_iload_n C 1144 3 dL_law_1144 rfl ?_
  refine k_iconst C 1145 1 dL_law_1145 rfl ?_
  refine k_iadd C 1146 dL_law_1146 ?_
  refine k_sld C 1147 hX hbl hbA (l_in hi h6 1 (by decide)) dL_law_1147 ?_
  refine k_aload_n C 1148 0 dL_law_1148 rfl ?_
  refine k_iload_n C 1149 3 dL_law_1149 rfl ?_
  refine k_iconst C 1150 2 dL_law_1150 rfl ?_
  refine k_iadd C 1151 dL_law_1151 ?_
  refine k_sld C 1152 hX hbl hbA (l_in hi h6 2 (by decide)) dL_law_1152 ?_
  refine k_callVi (st := []) (As := [.int (xs (nI i + 1).toNatClampNeg), .int (xs (nI i + 2).toNatClampNeg)]) C EX_ok EX_vm 1153 2 (tX6_share (ad := ad) LF (xs (nI i + 1).toNatClampNeg) (xs (nI i + 2).toNatClampNeg) u) e1 rfl gL_law_X6_share rfl rfl rfl (by decide +kernel) ⟨Nat.le_of_ble_eq_true rfl, Nat.le_of_ble_eq_true rfl⟩ ⟨Nat.le_of_ble_eq_true rfl, Nat.le_of_ble_eq_true rfl⟩ rfl rfl rfl (Nat.le_of_ble_eq_true rfl) dL_law_1153 ?_
  refine k_aload_n C 1156 2 dL_law_1156 rfl ?_
  refine k_aload_n C 1157 0 dL_law_1157 rfl ?_
  refine k_iload_n C 1158 3 dL_law_1158 rfl ?_
  refine k_iconst C 1159 1 dL_law_1159 rfl ?_
  refine k_iadd C 1160 dL_law_1160 ?_
  refine k_sld C 1161 hX hbl hbA (l_in hi h6 1 (by decide)) dL_law_1161 ?_
  refine k_aload_n C 1162 0 dL_law_1162 rfl ?_
  refine k_iload_n C 1163 3 dL_law_1163 rfl ?_
  refine k_iconst C 1164 2 dL_law_1164 rfl ?_
  refine k_iadd C 1165 dL_law_1165 ?_
  refine k_sld C 1166 hX hbl hbA (l_in hi h6 2 (by decide)) dL_law_1166 ?_
  refine k_swap ?_
  refine k_callVi (st := [.int r]) (As := [.int (xs (nI i + 1).toNatClampNeg), .int (xs (nI i + 2).toNatClampNeg)]) C0 E0_ok E0_vm 1167 2 (tX7_share (ad := ad2) LF (xs (nI i + 1).toNatClampNeg) (xs (nI i + 2).toNatClampNeg) v) e2 rfl gL_law_X7_share rfl rfl rfl (by decide +kernel) ⟨Nat.le_of_ble_eq_true rfl, Nat.le_of_ble_eq_true rfl⟩ ⟨Nat.le_of_ble_eq_true rfl, Nat.le_of_ble_eq_true rfl⟩ rfl rfl rfl (Nat.le_of_ble_eq_true rfl) dL_law_1167 ?_
  refine k_swap ?_
  exact k_icmp_eqT C 1170 1725 dL_law_1170 (by decide) k
set_option maxRecDepth 100000 in
set_option maxHeartbeats 4000000 in
theorem law_c29 {p : Program} {l : Launch} {e : Env} {s : State} {m : MethodId} {below : List Frame} {meth : Method} {c : Code} {D : va_G} {cI cZ : ClassId} {ad ad2 : Nat → Nat} {tBURNS tFLAME_BOUNDS : Nat} {tS : Option Nat} {adK adV : Nat → Nat} {b L : Nat} {xs : Nat → Int32} (hL : L ≤ 384) (hX : va_X b L xs s s.heap) (hbl : b < s.heap.size) (hbA : ¬ s.heap.size ≤ b) (C : Cx p s m #[Value.ref b] meth c D [(cI, .int), (cZ, .boolean)] (EX tBURNS tFLAME_BOUNDS tS adK adV) (fun q : Nat => s.heap.size ≤ q) cL_law 4 (some .boolean) RL wsL_law) {i : Nat} (h6 : i + 6 ≤ L) {u v u' v' : St} {r : Int32} (e1 : pX6_swap LF (xs (nI i + 1).toNatClampNeg) (xs (nI i + 2).toNatClampNeg) u = some (r, u')) (e2 : pX7_swap LF (xs (nI i + 1).toNatClampNeg) (xs (nI i + 2).toNatClampNeg) v = some (r, v')) (k : KX p l e room_1 s m #[Value.ref b] below meth c D (fun q : Nat => s.heap.size ≤ q) 4 91 1902 (lw_Z below #[Value.ref b] s) 1725 [(0, .ref b), (1, .ref (ad 0)), (2, .ref (ad2 0)), (3, .int (nI i))] [] (wX ad cI cZ u' ++ wM ad2 cI cZ v')) : KX p l e room_1 s m #[Value.ref b] below meth c D (fun q : Nat => s.heap.size ≤ q) 4 91 1902 (lw_Z below #[Value.ref b] s) 1175 [(0, .ref b), (1, .ref (ad 0)), (2, .ref (ad2 0)), (3, .int (nI i))] [] (wX ad cI cZ u ++ wM ad2 cI cZ v) := by
  have C0 := C.env (EV2 := E0) trivial
  have hi := hL
  refine k_aload_n C 1175 1 dL_law_1175 rfl ?_
  refine k_aload_n C 1176 0 dL_law_1176 rfl ?_
  refine k_iload_n C 1177 3 dL_law_1177 rfl ?_
  refine k_iconst C 1178 1 dL_law_1178 rfl ?_
  refine k_iadd C 1179 dL_law_1179 ?_
  refine k_sld C 1180 hX hbl hbA (l_in hi h6 1 (by decide)) dL_law_1180 ?_
  refine k_aload_n C 1181 0 dL_law_1181 rfl ?_
  refine k_iload_n C 1182 3 dL_law_1182 rfl ?_
  refine k_iconst C 1183 2 dL_law_1183 rfl ?_
  refine k_iadd C 1184 dL_law_1184 ?_
  refine k_sld C 1185 hX hbl hbA (l_in hi h6 2 (by decide)) dL_law_1185 ?_
  refine k_callVi (st := []) (As := [.int (xs (nI i + 1).toNatClampNeg), .int (xs (nI i + 2).toNatClampNeg)]) C EX_ok EX_vm 1186 2 (tX6_swap (ad := ad) LF (xs (nI i + 1).toNatClampNeg) (xs (nI i + 2).toNatClampNeg) u) e1 rfl gL_law_X6_swap rfl rfl rfl (by decide +kernel) ⟨Nat.le_of_ble_eq_true rfl, Nat.le_of_ble_eq_true rfl⟩ ⟨Nat.le_of_ble_eq_true rfl, Nat.le_of_ble_eq_true rfl⟩ rfl rfl rfl (Nat.le_of_ble_eq_true rfl) dL_law_1186 ?_
  refine k_aload_n C 1189 2 dL_law_1189 rfl ?_
  refine k_aload_n C 1190 0 dL_law_1190 rfl ?_
  refine k_iload_n C 1191 3 dL_law_1191 rfl ?_
  refine k_iconst C 1192 1 dL_law_1192 rfl ?_
  refine k_iadd C 1193 dL_law_1193 ?_
  refine k_sld C 1194 hX hbl hbA (l_in hi h6 1 (by decide)) dL_law_1194 ?_
  refine k_aload_n C 1195 0 dL_law_1195 rfl ?_
  refine k_iload_n C 1196 3 dL_law_1196 rfl ?_
  refine k_iconst C 1197 2 dL_law_1197 rfl ?_
  refine k_iadd C 1198 dL_law_1198 ?_
  refine k_sld C 1199 hX hbl hbA (l_in hi h6 2 (by decide)) dL_law_1199 ?_
  refine k_swap ?_
  refine k_callVi (st := [.int r]) (As := [.int (xs (nI i + 1).toNatClampNeg), .int (xs (nI i + 2).toNatClampNeg)]) C0 E0_ok E0_vm 1200 2 (tX7_swap (ad := ad2) LF (xs (nI i + 1).toNatClampNeg) (xs (nI i + 2).toNatClampNeg) v) e2 rfl gL_law_X7_swap rfl rfl rfl (by decide +kernel) ⟨Nat.le_of_ble_eq_true rfl, Nat.le_of_ble_eq_true rfl⟩ ⟨Nat.le_of_ble_eq_true rfl, Nat.le_of_ble_eq_true rfl⟩ rfl rfl rfl (Nat.le_of_ble_eq_true rfl) dL_law_1200 ?_
  refine k_swap ?_
  exact k_icmp_eqT C 1203 1725 dL_law_1203 (by decide) k
set_option maxRecDepth 100000 in
set_option maxHeartbeats 4000000 in
theorem law_c30 {p : Program} {l : Launch} {e : Env} {s : State} {m : MethodId} {below : List Frame} {meth : Method} {c : Code} {D : va_G} {cI cZ : ClassId} {ad ad2 : Nat → Nat} {tBURNS tFLAME_BOUNDS : Nat} {tS : Option Nat} {adK adV : Nat → Nat} {b L : Nat} {xs : Nat → Int32} (hL : L ≤ 384) (hX : va_X b L xs s s.heap) (hbl : b < s.heap.size) (hbA : ¬ s.heap.size ≤ b) (C : Cx p s m #[Value.ref b] meth c D [(cI, .int), (cZ, .boolean)] (EX tBURNS tFLAME_BOUNDS tS adK adV) (fun q : Nat => s.heap.size ≤ q) cL_law 4 (some .boolean) RL wsL_law) {i : Nat} (h6 : i + 6 ≤ L) {u v u' v' : St} {r : Int64} (e1 : pX6_luck LF (xs (nI i + 1).toNatClampNeg) (xs (nI i + 2).toNatClampNeg) (xs (nI i + 3).toNatClampNeg) (xs (nI i + 4).toNatClampNeg) (xs (nI i + 5).toNatClampNeg) u = some (r, u')) (e2 : pX7_luck LF (xs (nI i + 1).toNatClampNeg) (xs (nI i + 2).toNatClampNeg) (xs (nI i + 3).toNatClampNeg) (xs (nI i + 4).toNatClampNeg) (xs (nI i + 5).toNatClampNeg) v = some (r, v')) (k : KX p l e room_1 s m #[Value.ref b] below meth c D (fun q : Nat => s.heap.size ≤ q) 4 91 1902 (lw_Z below #[Value.ref b] s) 1725 [(0, .ref b), (1, .ref (ad 0)), (2, .ref (ad2 0)), (3, .int (nI i))] [] (wX ad cI cZ u' ++ wM ad2 cI cZ v')) : KX p l e room_1 s m #[Value.ref b] below meth c D (fun q : Nat => s.heap.size ≤ q) 4 91 1902 (lw_Z below #[Value.ref b] s) 1208 [(0, .ref b), (1, .ref (ad 0)), (2, .ref (ad2 0)), (3, .int (nI i))] [] (wX ad cI cZ u ++ wM ad2 cI cZ v) := by
  have C0 := C.env (EV2 := E0) trivial
  have hi := hL
  refine k_aload_n C 1208 1 dL_law_1208 rfl ?_
  refine k_aload_n C 1209 0 dL_law_1209 rfl ?_
  refine k_iload_n C 1210 3 dL_law_1210 rfl ?_
  refine k_iconst C 1211 1 dL_law_1211 rfl ?_
  refine k_iadd C 1212 dL_law_1212 ?_
  refine k_sld C 1213 hX hbl hbA (l_in hi h6 1 (by decide)) dL_law_1213 ?_
  refine k_aload_n C 1214 0 dL_law_1214 rfl ?_
  refine k_iload_n C 1215 3 dL_law_1215 rfl ?_
  refine k_iconst C 1216 2 dL_law_1216 rfl ?_
  refine k_iadd C 1217 dL_law_1217 ?_
  refine k_sld C 1218 hX hbl hbA (l_in hi h6 2 (by decide)) dL_law_1218 ?_
  refine k_aload_n C 1219 0 dL_law_1219 rfl ?_
  refine k_iload_n C 1220 3 dL_law_1220 rfl ?_
  refine k_iconst C 1221 3 dL_law_1221 rfl ?_
  refine k_iadd C 1222 dL_law_1222 ?_
  refine k_sld C 1223 hX hbl hbA (l_in hi h6 3 (by decide)) dL_law_1223 ?_
  refine k_aload_n C 1224 0 dL_law_1224 rfl ?_
  refine k_iload_n C 1225 3 dL_law_1225 rfl ?_
  refine k_iconst C 1226 4 dL_law_1226 rfl ?_
  refine k_iadd C 1227 dL_law_1227 ?_
  refine k_sld C 1228 hX hbl hbA (l_in hi h6 4 (by decide)) dL_law_1228 ?_
  refine k_aload_n C 1229 0 dL_law_1229 rfl ?_
  refine k_iload_n C 1230 3 dL_law_1230 rfl ?_
  refine k_iconst C 1231 5 dL_law_1231 rfl ?_
  refine k_iadd C 1232 dL_law_1232 ?_
  refine k_sld C 1233 hX hbl hbA (l_in hi h6 5 (by decide)) dL_law_1233 ?_
  refine k_callVl (st := []) (As := [.int (xs (nI i + 1).toNatClampNeg), .int (xs (nI i + 2).toNatClampNeg), .int (xs (nI i + 3).toNatClampNeg), .int (xs (nI i + 4).toNatClampNeg), .int (xs (nI i + 5).toNatClampNeg)]) C EX_ok EX_vm 1234 5 (tX6_luck (ad := ad) LF (xs (nI i + 1).toNatClampNeg) (xs (nI i + 2).toNatClampNeg) (xs (nI i + 3).toNatClampNeg) (xs (nI i + 4).toNatClampNeg) (xs (nI i + 5).toNatClampNeg) u) e1 rfl gL_law_X6_luck rfl rfl rfl (by decide +kernel) ⟨Nat.le_of_ble_eq_true rfl, Nat.le_of_ble_eq_true rfl⟩ ⟨Nat.le_of_ble_eq_true rfl, Nat.le_of_ble_eq_true rfl⟩ rfl rfl rfl (Nat.le_of_ble_eq_true rfl) dL_law_1234 ?_
  refine k_aload_n C 1237 2 dL_law_1237 rfl ?_
  refine k_aload_n C 1238 0 dL_law_1238 rfl ?_
  refine k_iload_n C 1239 3 dL_law_1239 rfl ?_
  refine k_iconst C 1240 1 dL_law_1240 rfl ?_
  refine k_iadd C 1241 dL_law_1241 ?_
  refine k_sld C 1242 hX hbl hbA (l_in hi h6 1 (by decide)) dL_law_1242 ?_
  refine k_aload_n C 1243 0 dL_law_1243 rfl ?_
  refine k_iload_n C 1244 3 dL_law_1244 rfl ?_
  refine k_iconst C 1245 2 dL_law_1245 rfl ?_
  refine k_iadd C 1246 dL_law_1246 ?_
  refine k_sld C 1247 hX hbl hbA (l_in hi h6 2 (by decide)) dL_law_1247 ?_
  refine k_aload_n C 1248 0 dL_law_1248 rfl ?_
  refine k_iload_n C 1249 3 dL_law_1249 rfl ?_
  refine k_iconst C 1250 3 dL_law_1250 rfl ?_
  refine k_iadd C 1251 dL_law_1251 ?_
  refine k_sld C 1252 hX hbl hbA (l_in hi h6 3 (by decide)) dL_law_1252 ?_
  refine k_aload_n C 1253 0 dL_law_1253 rfl ?_
  refine k_iload_n C 1254 3 dL_law_1254 rfl ?_
  refine k_iconst C 1255 4 dL_law_1255 rfl ?_
  refine k_iadd C 1256 dL_law_1256 ?_
  refine k_sld C 1257 hX hbl hbA (l_in hi h6 4 (by decide)) dL_law_1257 ?_
  refine k_aload_n C 1258 0 dL_law_1258 rfl ?_
  refine k_iload_n C 1259 3 dL_law_1259 rfl ?_
  refine k_iconst C 1260 5 dL_law_1260 rfl ?_
  refine k_iadd C 1261 dL_law_1261 ?_
  refine k_sld C 1262 hX hbl hbA (l_in hi h6 5 (by decide)) dL_law_1262 ?_
  refine k_swap ?_
  refine k_callVl (st := [.long r]) (As := [.int (xs (nI i + 1).toNatClampNeg), .int (xs (nI i + 2).toNatClampNeg), .int (xs (nI i + 3).toNatClampNeg), .int (xs (nI i + 4).toNatClampNeg), .int (xs (nI i + 5).toNatClampNeg)]) C0 E0_ok E0_vm 1263 5 (tX7_luck (ad := ad2) LF (xs (nI i + 1).toNatClampNeg) (xs (nI i + 2).toNatClampNeg) (xs (nI i + 3).toNatClampNeg) (xs (nI i + 4).toNatClampNeg) (xs (nI i + 5).toNatClampNeg) v) e2 rfl gL_law_X7_luck rfl rfl rfl (by decide +kernel) ⟨Nat.le_of_ble_eq_true rfl, Nat.le_of_ble_eq_true rfl⟩ ⟨Nat.le_of_ble_eq_true rfl, Nat.le_of_ble_eq_true rfl⟩ rfl rfl rfl (Nat.le_of_ble_eq_true rfl) dL_law_1263 ?_
  refine k_swap ?_
  refine k_lcmp C 1266 dL_law_1266 ?_
  exact k_if_eqT C 1267 1725 (lg_cmp_self r) dL_law_1267 (by decide) k
set_option maxRecDepth 100000 in
set_option maxHeartbeats 4000000 in
theorem law_c31 {p : Program} {l : Launch} {e : Env} {s : State} {m : MethodId} {below : List Frame} {meth : Method} {c : Code} {D : va_G} {cI cZ : ClassId} {ad ad2 : Nat → Nat} {tBURNS tFLAME_BOUNDS : Nat} {tS : Option Nat} {adK adV : Nat → Nat} {b L : Nat} {xs : Nat → Int32} (hL : L ≤ 384) (hX : va_X b L xs s s.heap) (hbl : b < s.heap.size) (hbA : ¬ s.heap.size ≤ b) (C : Cx p s m #[Value.ref b] meth c D [(cI, .int), (cZ, .boolean)] (EX tBURNS tFLAME_BOUNDS tS adK adV) (fun q : Nat => s.heap.size ≤ q) cL_law 4 (some .boolean) RL wsL_law) {i : Nat} (h6 : i + 6 ≤ L) {u v u' v' : St} {r : Int64} (e1 : pX6_mean LF (xs (nI i + 1).toNatClampNeg) (xs (nI i + 2).toNatClampNeg) (xs (nI i + 3).toNatClampNeg) u = some (r, u')) (e2 : pX7_mean LF (xs (nI i + 1).toNatClampNeg) (xs (nI i + 2).toNatClampNeg) (xs (nI i + 3).toNatClampNeg) v = some (r, v')) (k : KX p l e room_1 s m #[Value.ref b] below meth c D (fun q : Nat => s.heap.size ≤ q) 4 91 1902 (lw_Z below #[Value.ref b] s) 1725 [(0, .ref b), (1, .ref (ad 0)), (2, .ref (ad2 0)), (3, .int (nI i))] [] (wX ad cI cZ u' ++ wM ad2 cI cZ v')) : KX p l e room_1 s m #[Value.ref b] below meth c D (fun q : Nat => s.heap.size ≤ q) 4 91 1902 (lw_Z below #[Value.ref b] s) 1272 [(0, .ref b), (1, .ref (ad 0)), (2, .ref (ad2 0)), (3, .int (nI i))] [] (wX ad cI cZ u ++ wM ad2 cI cZ v) := by
  have C0 := C.env (EV2 := E0) trivial
  have hi := hL
  refine k_aload_n C 1272 1 dL_law_1272 rfl ?_
  refine k_aload_n C 1273 0 dL_law_1273 rfl ?_
  refine k_iload_n C 1274 3 dL_law_1274 rfl ?_
  refine k_iconst C 1275 1 dL_law_1275 rfl ?_
  refine k_iadd C 1276 dL_law_1276 ?_
  refine k_sld C 1277 hX hbl hbA (l_in hi h6 1 (by decide)) dL_law_1277 ?_
  refine k_aload_n C 1278 0 dL_law_1278 rfl ?_
  refine k_iload_n C 1279 3 dL_law_1279 rfl ?_
  refine k_iconst C 1280 2 dL_law_1280 rfl ?_
  refine k_iadd C 1281 dL_law_1281 ?_
  refine k_sld C 1282 hX hbl hbA (l_in hi h6 2 (by decide)) dL_law_1282 ?_
  refine k_aload_n C 1283 0 dL_law_1283 rfl ?_
  refine k_iload_n C 1284 3 dL_law_1284 rfl ?_
  refine k_iconst C 1285 3 dL_law_1285 rfl ?_
  refine k_iadd C 1286 dL_law_1286 ?_
  refine k_sld C 1287 hX hbl hbA (l_in hi h6 3 (by decide)) dL_law_1287 ?_
  refine k_callVl (st := []) (As := [.int (xs (nI i + 1).toNatClampNeg), .int (xs (nI i + 2).toNatClampNeg), .int (xs (nI i + 3).toNatClampNeg)]) C EX_ok EX_vm 1288 3 (tX6_mean (ad := ad) LF (xs (nI i + 1).toNatClampNeg) (xs (nI i + 2).toNatClampNeg) (xs (nI i + 3).toNatClampNeg) u) e1 rfl gL_law_X6_mean rfl rfl rfl (by decide +kernel) ⟨Nat.le_of_ble_eq_true rfl, Nat.le_of_ble_eq_true rfl⟩ ⟨Nat.le_of_ble_eq_true rfl, Nat.le_of_ble_eq_true rfl⟩ rfl rfl rfl (Nat.le_of_ble_eq_true rfl) dL_law_1288 ?_
  refine k_aload_n C 1291 2 dL_law_1291 rfl ?_
  refine k_aload_n C 1292 0 dL_law_1292 rfl ?_
  refine k_iload_n C 1293 3 dL_law_1293 rfl ?_
  refine k_iconst C 1294 1 dL_law_1294 rfl ?_
  refine k_iadd C 1295 dL_law_1295 ?_
  refine k_sld C 1296 hX hbl hbA (l_in hi h6 1 (by decide)) dL_law_1296 ?_
  refine k_aload_n C 1297 0 dL_law_1297 rfl ?_
  refine k_iload_n C 1298 3 dL_law_1298 rfl ?_
  refine k_iconst C 1299 2 dL_law_1299 rfl ?_
  refine k_iadd C 1300 dL_law_1300 ?_
  refine k_sld C 1301 hX hbl hbA (l_in hi h6 2 (by decide)) dL_law_1301 ?_
  refine k_aload_n C 1302 0 dL_law_1302 rfl ?_
  refine k_iload_n C 1303 3 dL_law_1303 rfl ?_
  refine k_iconst C 1304 3 dL_law_1304 rfl ?_
  refine k_iadd C 1305 dL_law_1305 ?_
  refine k_sld C 1306 hX hbl hbA (l_in hi h6 3 (by decide)) dL_law_1306 ?_
  refine k_swap ?_
  refine k_callVl (st := [.long r]) (As := [.int (xs (nI i + 1).toNatClampNeg), .int (xs (nI i + 2).toNatClampNeg), .int (xs (nI i + 3).toNatClampNeg)]) C0 E0_ok E0_vm 1307 3 (tX7_mean (ad := ad2) LF (xs (nI i + 1).toNatClampNeg) (xs (nI i + 2).toNatClampNeg) (xs (nI i + 3).toNatClampNeg) v) e2 rfl gL_law_X7_mean rfl rfl rfl (by decide +kernel) ⟨Nat.le_of_ble_eq_true rfl, Nat.le_of_ble_eq_true rfl⟩ ⟨Nat.le_of_ble_eq_true rfl, Nat.le_of_ble_eq_true rfl⟩ rfl rfl rfl (Nat.le_of_ble_eq_true rfl) dL_law_1307 ?_
  refine k_swap ?_
  refine k_lcmp C 1310 dL_law_1310 ?_
  exact k_if_eqT C 1311 1725 (lg_cmp_self r) dL_law_1311 (by decide) k
set_option maxRecDepth 100000 in
set_option maxHeartbeats 4000000 in
theorem law_c32 {p : Program} {l : Launch} {e : Env} {s : State} {m : MethodId} {below : List Frame} {meth : Method} {c : Code} {D : va_G} {cI cZ : ClassId} {ad ad2 : Nat → Nat} {tBURNS tFLAME_BOUNDS : Nat} {tS : Option Nat} {adK adV : Nat → Nat} {b L : Nat} {xs : Nat → Int32} (hL : L ≤ 384) (hX : va_X b L xs s s.heap) (hbl : b < s.heap.size) (hbA : ¬ s.heap.size ≤ b) (C : Cx p s m #[Value.ref b] meth c D [(cI, .int), (cZ, .boolean)] (EX tBURNS tFLAME_BOUNDS tS adK adV) (fun q : Nat => s.heap.size ≤ q) cL_law 4 (some .boolean) RL wsL_law) {i : Nat} (h6 : i + 6 ≤ L) {u v u' v' : St} {r : Int32} (e1 : pX6_see LF (xs (nI i + 1).toNatClampNeg) (xs (nI i + 2).toNatClampNeg) (xs (nI i + 3).toNatClampNeg) u = some (r, u')) (e2 : pX7_see LF (xs (nI i + 1).toNatClampNeg) (xs (nI i + 2).toNatClampNeg) (xs (nI i + 3).toNatClampNeg) v = some (r, v')) (k : KX p l e room_1 s m #[Value.ref b] below meth c D (fun q : Nat => s.heap.size ≤ q) 4 91 1902 (lw_Z below #[Value.ref b] s) 1725 [(0, .ref b), (1, .ref (ad 0)), (2, .ref (ad2 0)), (3, .int (nI i))] [] (wX ad cI cZ u' ++ wM ad2 cI cZ v')) : KX p l e room_1 s m #[Value.ref b] below meth c D (fun q : Nat => s.heap.size ≤ q) 4 91 1902 (lw_Z below #[Value.ref b] s) 1316 [(0, .ref b), (1, .ref (ad 0)), (2, .ref (ad2 0)), (3, .int (nI i))] [] (wX ad cI cZ u ++ wM ad2 cI cZ v) := by
  have C0 := C.env (EV2 := E0) trivial
  have hi := hL
  refine k_aload_n C 1316 1 dL_law_1316 rfl ?_
  refine k_aload_n C 1317 0 dL_law_1317 rfl ?_
  refine k_iload_n C 1318 3 dL_law_1318 rfl ?_
  refine k_iconst C 1319 1 dL_law_1319 rfl ?_
  refine k_iadd C 1320 dL_law_1320 ?_
  refine k_sld C 1321 hX hbl hbA (l_in hi h6 1 (by decide)) dL_law_1321 ?_
  refine k_aload_n C 1322 0 dL_law_1322 rfl ?_
  refine k_iload_n C 1323 3 dL_law_1323 rfl ?_
  refine k_iconst C 1324 2 dL_law_1324 rfl ?_
  refine k_iadd C 1325 dL_law_1325 ?_
  refine k_sld C 1326 hX hbl hbA (l_in hi h6 2 (by decide)) dL_law_1326 ?_
  refine k_aload_n C 1327 0 dL_law_1327 rfl ?_
  refine k_iload_n C 1328 3 dL_law_1328 rfl ?_
  refine k_iconst C 1329 3 dL_law_1329 rfl ?_
  refine k_iadd C 1330 dL_law_1330 ?_
  refine k_sld C 1331 hX hbl hbA (l_in hi h6 3 (by decide)) dL_law_1331 ?_
  refine k_callVi (st := []) (As := [.int (xs (nI i + 1).toNatClampNeg), .int (xs (nI i + 2).toNatClampNeg), .int (xs (nI i + 3).toNatClampNeg)]) C EX_ok EX_vm 1332 3 (tX6_see (ad := ad) LF (xs (nI i + 1).toNatClampNeg) (xs (nI i + 2).toNatClampNeg) (xs (nI i + 3).toNatClampNeg) u) e1 rfl gL_law_X6_see rfl rfl rfl (by decide +kernel) ⟨Nat.le_of_ble_eq_true rfl, Nat.le_of_ble_eq_true rfl⟩ ⟨Nat.le_of_ble_eq_true rfl, Nat.le_of_ble_eq_true rfl⟩ rfl rfl rfl (Nat.le_of_ble_eq_true rfl) dL_law_1332 ?_
  refine k_aload_n C 1335 2 dL_law_1335 rfl ?_
  refine k_aload_n C 1336 0 dL_law_1336 rfl ?_
  refine k_iload_n C 1337 3 dL_law_1337 rfl ?_
  refine k_iconst C 1338 1 dL_law_1338 rfl ?_
  refine k_iadd C 1339 dL_law_1339 ?_
  refine k_sld C 1340 hX hbl hbA (l_in hi h6 1 (by decide)) dL_law_1340 ?_
  refine k_aload_n C 1341 0 dL_law_1341 rfl ?_
  refine k_iload_n C 1342 3 dL_law_1342 rfl ?_
  refine k_iconst C 1343 2 dL_law_1343 rfl ?_
  refine k_iadd C 1344 dL_law_1344 ?_
  refine k_sld C 1345 hX hbl hbA (l_in hi h6 2 (by decide)) dL_law_1345 ?_
  refine k_aload_n C 1346 0 dL_law_1346 rfl ?_
  refine k_iload_n C 1347 3 dL_law_1347 rfl ?_
  refine k_iconst C 1348 3 dL_law_1348 rfl ?_
  refine k_iadd C 1349 dL_law_1349 ?_
  refine k_sld C 1350 hX hbl hbA (l_in hi h6 3 (by decide)) dL_law_1350 ?_
  refine k_swap ?_
  refine k_callVi (st := [.int r]) (As := [.int (xs (nI i + 1).toNatClampNeg), .int (xs (nI i + 2).toNatClampNeg), .int (xs (nI i + 3).toNatClampNeg)]) C0 E0_ok E0_vm 1351 3 (tX7_see (ad := ad2) LF (xs (nI i + 1).toNatClampNeg) (xs (nI i + 2).toNatClampNeg) (xs (nI i + 3).toNatClampNeg) v) e2 rfl gL_law_X7_see rfl rfl rfl (by decide +kernel) ⟨Nat.le_of_ble_eq_true rfl, Nat.le_of_ble_eq_true rfl⟩ ⟨Nat.le_of_ble_eq_true rfl, Nat.le_of_ble_eq_true rfl⟩ rfl rfl rfl (Nat.le_of_ble_eq_true rfl) dL_law_1351 ?_
  refine k_swap ?_
  exact k_icmp_eqT C 1354 1725 dL_law_1354 (by decide) k
set_option maxRecDepth 100000 in
set_option maxHeartbeats 4000000 in
theorem law_c33 {p : Program} {l : Launch} {e : Env} {s : State} {m : MethodId} {below : List Frame} {meth : Method} {c : Code} {D : va_G} {cI cZ : ClassId} {ad ad2 : Nat → Nat} {tBURNS tFLAME_BOUNDS : Nat} {tS : Option Nat} {adK adV : Nat → Nat} {b L : Nat} {xs : Nat → Int32} (hL : L ≤ 384) (hX : va_X b L xs s s.heap) (hbl : b < s.heap.size) (hbA : ¬ s.heap.size ≤ b) (C : Cx p s m #[Value.ref b] meth c D [(cI, .int), (cZ, .boolean)] (EX tBURNS tFLAME_BOUNDS tS adK adV) (fun q : Nat => s.heap.size ≤ q) cL_law 4 (some .boolean) RL wsL_law) {i : Nat} (h6 : i + 6 ≤ L) {u v u' v' : St} {r : Int32} (e1 : pX6_forget LF (xs (nI i + 1).toNatClampNeg) u = some (r, u')) (e2 : pX7_forget LF (xs (nI i + 1).toNatClampNeg) v = some (r, v')) (k : KX p l e room_1 s m #[Value.ref b] below meth c D (fun q : Nat => s.heap.size ≤ q) 4 91 1902 (lw_Z below #[Value.ref b] s) 1725 [(0, .ref b), (1, .ref (ad 0)), (2, .ref (ad2 0)), (3, .int (nI i))] [] (wX ad cI cZ u' ++ wM ad2 cI cZ v')) : KX p l e room_1 s m #[Value.ref b] below meth c D (fun q : Nat => s.heap.size ≤ q) 4 91 1902 (lw_Z below #[Value.ref b] s) 1359 [(0, .ref b), (1, .ref (ad 0)), (2, .ref (ad2 0)), (3, .int (nI i))] [] (wX ad cI cZ u ++ wM ad2 cI cZ v) := by
  have C0 := C.env (EV2 := E0) trivial
  have hi := hL
  refine k_aload_n C 1359 1 dL_law_1359 rfl ?_
  refine k_aload_n C 1360 0 dL_law_1360 rfl ?_
  refine k_iload_n C 1361 3 dL_law_1361 rfl ?_
  refine k_iconst C 1362 1 dL_law_1362 rfl ?_
  refine k_iadd C 1363 dL_law_1363 ?_
  refine k_sld C 1364 hX hbl hbA (l_in hi h6 1 (by decide)) dL_law_1364 ?_
  refine k_callVi (st := []) (As := [.int (xs (nI i + 1).toNatClampNeg)]) C EX_ok EX_vm 1365 1 (tX6_forget (ad := ad) LF (xs (nI i + 1).toNatClampNeg) u) e1 rfl gL_law_X6_forget rfl rfl rfl (by decide +kernel) ⟨Nat.le_of_ble_eq_true rfl, Nat.le_of_ble_eq_true rfl⟩ ⟨Nat.le_of_ble_eq_true rfl, Nat.le_of_ble_eq_true rfl⟩ rfl rfl rfl (Nat.le_of_ble_eq_true rfl) dL_law_1365 ?_
  refine k_aload_n C 1368 2 dL_law_1368 rfl ?_
  refine k_aload_n C 1369 0 dL_law_1369 rfl ?_
  refine k_iload_n C 1370 3 dL_law_1370 rfl ?_
  refine k_iconst C 1371 1 dL_law_1371 rfl ?_
  refine k_iadd C 1372 dL_law_1372 ?_
  refine k_sld C 1373 hX hbl hbA (l_in hi h6 1 (by decide)) dL_law_1373 ?_
  refine k_swap ?_
  refine k_callVi (st := [.int r]) (As := [.int (xs (nI i + 1).toNatClampNeg)]) C0 E0_ok E0_vm 1374 1 (tX7_forget (ad := ad2) LF (xs (nI i + 1).toNatClampNeg) v) e2 rfl gL_law_X7_forget rfl rfl rfl (by decide +kernel) ⟨Nat.le_of_ble_eq_true rfl, Nat.le_of_ble_eq_true rfl⟩ ⟨Nat.le_of_ble_eq_true rfl, Nat.le_of_ble_eq_true rfl⟩ rfl rfl rfl (Nat.le_of_ble_eq_true rfl) dL_law_1374 ?_
  refine k_swap ?_
  exact k_icmp_eqT C 1377 1725 dL_law_1377 (by decide) k
set_option maxRecDepth 100000 in
set_option maxHeartbeats 4000000 in
theorem law_c34 {p : Program} {l : Launch} {e : Env} {s : State} {m : MethodId} {below : List Frame} {meth : Method} {c : Code} {D : va_G} {cI cZ : ClassId} {ad ad2 : Nat → Nat} {tBURNS tFLAME_BOUNDS : Nat} {tS : Option Nat} {adK adV : Nat → Nat} {b L : Nat} {xs : Nat → Int32} (hL : L ≤ 384) (hX : va_X b L xs s s.heap) (hbl : b < s.heap.size) (hbA : ¬ s.heap.size ≤ b) (C : Cx p s m #[Value.ref b] meth c D [(cI, .int), (cZ, .boolean)] (EX tBURNS tFLAME_BOUNDS tS adK adV) (fun q : Nat => s.heap.size ≤ q) cL_law 4 (some .boolean) RL wsL_law) {i : Nat} (h6 : i + 6 ≤ L) {u v u' v' : St} {r : Int32} (e1 : pX6_habits LF (xs (nI i + 1).toNatClampNeg) u = some (r, u')) (e2 : pX7_habits LF (xs (nI i + 1).toNatClampNeg) v = some (r, v')) (k : KX p l e room_1 s m #[Value.ref b] below meth c D (fun q : Nat => s.heap.size ≤ q) 4 91 1902 (lw_Z below #[Value.ref b] s) 1725 [(0, .ref b), (1, .ref (ad 0)), (2, .ref (ad2 0)), (3, .int (nI i))] [] (wX ad cI cZ u' ++ wM ad2 cI cZ v')) : KX p l e room_1 s m #[Value.ref b] below meth c D (fun q : Nat => s.heap.size ≤ q) 4 91 1902 (lw_Z below #[Value.ref b] s) 1382 [(0, .ref b), (1, .ref (ad 0)), (2, .ref (ad2 0)), (3, .int (nI i))] [] (wX ad cI cZ u ++ wM ad2 cI cZ v) := by
  have C0 := C.env (EV2 := E0) trivial
  have hi := hL
  refine k_aload_n C 1382 1 dL_law_1382 rfl ?_
  refine k_aload_n C 1383 0 dL_law_1383 rfl ?_
  refine k_iload_n C 1384 3 dL_law_1384 rfl ?_
  refine k_iconst C 1385 1 dL_law_1385 rfl ?_
  refine k_iadd C 1386 dL_law_1386 ?_
  refine k_sld C 1387 hX hbl hbA (l_in hi h6 1 (by decide)) dL_law_1387 ?_
  refine k_callVi (st := []) (As := [.int (xs (nI i + 1).toNatClampNeg)]) C EX_ok EX_vm 1388 1 (tX6_habits (ad := ad) LF (xs (nI i + 1).toNatClampNeg) u) e1 rfl gL_law_X6_habits rfl rfl rfl (by decide +kernel) ⟨Nat.le_of_ble_eq_true rfl, Nat.le_of_ble_eq_true rfl⟩ ⟨Nat.le_of_ble_eq_true rfl, Nat.le_of_ble_eq_true rfl⟩ rfl rfl rfl (Nat.le_of_ble_eq_true rfl) dL_law_1388 ?_
  refine k_aload_n C 1391 2 dL_law_1391 rfl ?_
  refine k_aload_n C 1392 0 dL_law_1392 rfl ?_
  refine k_iload_n C 1393 3 dL_law_1393 rfl ?_
  refine k_iconst C 1394 1 dL_law_1394 rfl ?_
  refine k_iadd C 1395 dL_law_1395 ?_
  refine k_sld C 1396 hX hbl hbA (l_in hi h6 1 (by decide)) dL_law_1396 ?_
  refine k_swap ?_
  refine k_callVi (st := [.int r]) (As := [.int (xs (nI i + 1).toNatClampNeg)]) C0 E0_ok E0_vm 1397 1 (tX7_habits (ad := ad2) LF (xs (nI i + 1).toNatClampNeg) v) e2 rfl gL_law_X7_habits rfl rfl rfl (by decide +kernel) ⟨Nat.le_of_ble_eq_true rfl, Nat.le_of_ble_eq_true rfl⟩ ⟨Nat.le_of_ble_eq_true rfl, Nat.le_of_ble_eq_true rfl⟩ rfl rfl rfl (Nat.le_of_ble_eq_true rfl) dL_law_1397 ?_
  refine k_swap ?_
  exact k_icmp_eqT C 1400 1725 dL_law_1400 (by decide) k
set_option maxRecDepth 100000 in
set_option maxHeartbeats 4000000 in
theorem law_c35 {p : Program} {l : Launch} {e : Env} {s : State} {m : MethodId} {below : List Frame} {meth : Method} {c : Code} {D : va_G} {cI cZ : ClassId} {ad ad2 : Nat → Nat} {tBURNS tFLAME_BOUNDS : Nat} {tS : Option Nat} {adK adV : Nat → Nat} {b L : Nat} {xs : Nat → Int32} (hL : L ≤ 384) (hX : va_X b L xs s s.heap) (hbl : b < s.heap.size) (hbA : ¬ s.heap.size ≤ b) (C : Cx p s m #[Value.ref b] meth c D [(cI, .int), (cZ, .boolean)] (EX tBURNS tFLAME_BOUNDS tS adK adV) (fun q : Nat => s.heap.size ≤ q) cL_law 4 (some .boolean) RL wsL_law) {i : Nat} (h6 : i + 6 ≤ L) {u v u' v' : St} {r : Int32} (e1 : pX6_slows LF (xs (nI i + 1).toNatClampNeg) u = some (r, u')) (e2 : pX7_slows LF (xs (nI i + 1).toNatClampNeg) v = some (r, v')) (k : KX p l e room_1 s m #[Value.ref b] below meth c D (fun q : Nat => s.heap.size ≤ q) 4 91 1902 (lw_Z below #[Value.ref b] s) 1725 [(0, .ref b), (1, .ref (ad 0)), (2, .ref (ad2 0)), (3, .int (nI i))] [] (wX ad cI cZ u' ++ wM ad2 cI cZ v')) : KX p l e room_1 s m #[Value.ref b] below meth c D (fun q : Nat => s.heap.size ≤ q) 4 91 1902 (lw_Z below #[Value.ref b] s) 1405 [(0, .ref b), (1, .ref (ad 0)), (2, .ref (ad2 0)), (3, .int (nI i))] [] (wX ad cI cZ u ++ wM ad2 cI cZ v) := by
  have C0 := C.env (EV2 := E0) trivial
  have hi := hL
  refine k_aload_n C 1405 1 dL_law_1405 rfl ?_
  refine k_aload_n C 1406 0 dL_law_1406 rfl ?_
  refine k_iload_n C 1407 3 dL_law_1407 rfl ?_
  refine k_iconst C 1408 1 dL_law_1408 rfl ?_
  refine k_iadd C 1409 dL_law_1409 ?_
  refine k_sld C 1410 hX hbl hbA (l_in hi h6 1 (by decide)) dL_law_1410 ?_
  refine k_callVi (st := []) (As := [.int (xs (nI i + 1).toNatClampNeg)]) C EX_ok EX_vm 1411 1 (tX6_slows (ad := ad) LF (xs (nI i + 1).toNatClampNeg) u) e1 rfl gL_law_X6_slows rfl rfl rfl (by decide +kernel) ⟨Nat.le_of_ble_eq_true rfl, Nat.le_of_ble_eq_true rfl⟩ ⟨Nat.le_of_ble_eq_true rfl, Nat.le_of_ble_eq_true rfl⟩ rfl rfl rfl (Nat.le_of_ble_eq_true rfl) dL_law_1411 ?_
  refine k_aload_n C 1414 2 dL_law_1414 rfl ?_
  refine k_aload_n C 1415 0 dL_law_1415 rfl ?_
  refine k_iload_n C 1416 3 dL_law_1416 rfl ?_
  refine k_iconst C 1417 1 dL_law_1417 rfl ?_
  refine k_iadd C 1418 dL_law_1418 ?_
  refine k_sld C 1419 hX hbl hbA (l_in hi h6 1 (by decide)) dL_law_1419 ?_
  refine k_swap ?_
  refine k_callVi (st := [.int r]) (As := [.int (xs (nI i + 1).toNatClampNeg)]) C0 E0_ok E0_vm 1420 1 (tX7_slows (ad := ad2) LF (xs (nI i + 1).toNatClampNeg) v) e2 rfl gL_law_X7_slows rfl rfl rfl (by decide +kernel) ⟨Nat.le_of_ble_eq_true rfl, Nat.le_of_ble_eq_true rfl⟩ ⟨Nat.le_of_ble_eq_true rfl, Nat.le_of_ble_eq_true rfl⟩ rfl rfl rfl (Nat.le_of_ble_eq_true rfl) dL_law_1420 ?_
  refine k_swap ?_
  exact k_icmp_eqT C 1423 1725 dL_law_1423 (by decide) k
set_option maxRecDepth 100000 in
set_option maxHeartbeats 4000000 in
theorem law_c36 {p : Program} {l : Launch} {e : Env} {s : State} {m : MethodId} {below : List Frame} {meth : Method} {c : Code} {D : va_G} {cI cZ : ClassId} {ad ad2 : Nat → Nat} {tBURNS tFLAME_BOUNDS : Nat} {tS : Option Nat} {adK adV : Nat → Nat} {b L : Nat} {xs : Nat → Int32} (hL : L ≤ 384) (hX : va_X b L xs s s.heap) (hbl : b < s.heap.size) (hbA : ¬ s.heap.size ≤ b) (C : Cx p s m #[Value.ref b] meth c D [(cI, .int), (cZ, .boolean)] (EX tBURNS tFLAME_BOUNDS tS adK adV) (fun q : Nat => s.heap.size ≤ q) cL_law 4 (some .boolean) RL wsL_law) {i : Nat} (h6 : i + 6 ≤ L) {u v u' v' : St} {r : Int32} (e1 : pX6_ask LF (xs (nI i + 1).toNatClampNeg) (xs (nI i + 2).toNatClampNeg) u = some (r, u')) (e2 : pX7_ask LF (xs (nI i + 1).toNatClampNeg) (xs (nI i + 2).toNatClampNeg) v = some (r, v')) (k : KX p l e room_1 s m #[Value.ref b] below meth c D (fun q : Nat => s.heap.size ≤ q) 4 91 1902 (lw_Z below #[Value.ref b] s) 1725 [(0, .ref b), (1, .ref (ad 0)), (2, .ref (ad2 0)), (3, .int (nI i))] [] (wX ad cI cZ u' ++ wM ad2 cI cZ v')) : KX p l e room_1 s m #[Value.ref b] below meth c D (fun q : Nat => s.heap.size ≤ q) 4 91 1902 (lw_Z below #[Value.ref b] s) 1428 [(0, .ref b), (1, .ref (ad 0)), (2, .ref (ad2 0)), (3, .int (nI i))] [] (wX ad cI cZ u ++ wM ad2 cI cZ v) := by
  have C0 := C.env (EV2 := E0) trivial
  have hi := hL
  refine k_aload_n C 1428 1 dL_law_1428 rfl ?_
  refine k_aload_n C 1429 0 dL_law_1429 rfl ?_
  refine k_iload_n C 1430 3 dL_law_1430 rfl ?_
  refine k_iconst C 1431 1 dL_law_1431 rfl ?_
  refine k_iadd C 1432 dL_law_1432 ?_
  refine k_sld C 1433 hX hbl hbA (l_in hi h6 1 (by decide)) dL_law_1433 ?_
  refine k_aload_n C 1434 0 dL_law_1434 rfl ?_
  refine k_iload_n C 1435 3 dL_law_1435 rfl ?_
  refine k_iconst C 1436 2 dL_law_1436 rfl ?_
  refine k_iadd C 1437 dL_law_1437 ?_
  refine k_sld C 1438 hX hbl hbA (l_in hi h6 2 (by decide)) dL_law_1438 ?_
  refine k_callVi (st := []) (As := [.int (xs (nI i + 1).toNatClampNeg), .int (xs (nI i + 2).toNatClampNeg)]) C EX_ok EX_vm 1439 2 (tX6_ask (ad := ad) LF (xs (nI i + 1).toNatClampNeg) (xs (nI i + 2).toNatClampNeg) u) e1 rfl gL_law_X6_ask rfl rfl rfl (by decide +kernel) ⟨Nat.le_of_ble_eq_true rfl, Nat.le_of_ble_eq_true rfl⟩ ⟨Nat.le_of_ble_eq_true rfl, Nat.le_of_ble_eq_true rfl⟩ rfl rfl rfl (Nat.le_of_ble_eq_true rfl) dL_law_1439 ?_
  refine k_aload_n C 1442 2 dL_law_1442 rfl ?_
  refine k_aload_n C 1443 0 dL_law_1443 rfl ?_
  refine k_iload_n C 1444 3 dL_law_1444 rfl ?_
  refine k_iconst C 1445 1 dL_law_1445 rfl ?_
  refine k_iadd C 1446 dL_law_1446 ?_
  refine k_sld C 1447 hX hbl hbA (l_in hi h6 1 (by decide)) dL_law_1447 ?_
  refine k_aload_n C 1448 0 dL_law_1448 rfl ?_
  refine k_iload_n C 1449 3 dL_law_1449 rfl ?_
  refine k_iconst C 1450 2 dL_law_1450 rfl ?_
  refine k_iadd C 1451 dL_law_1451 ?_
  refine k_sld C 1452 hX hbl hbA (l_in hi h6 2 (by decide)) dL_law_1452 ?_
  refine k_swap ?_
  refine k_callVi (st := [.int r]) (As := [.int (xs (nI i + 1).toNatClampNeg), .int (xs (nI i + 2).toNatClampNeg)]) C0 E0_ok E0_vm 1453 2 (tX7_ask (ad := ad2) LF (xs (nI i + 1).toNatClampNeg) (xs (nI i + 2).toNatClampNeg) v) e2 rfl gL_law_X7_ask rfl rfl rfl (by decide +kernel) ⟨Nat.le_of_ble_eq_true rfl, Nat.le_of_ble_eq_true rfl⟩ ⟨Nat.le_of_ble_eq_true rfl, Nat.le_of_ble_eq_true rfl⟩ rfl rfl rfl (Nat.le_of_ble_eq_true rfl) dL_law_1453 ?_
  refine k_swap ?_
  exact k_icmp_eqT C 1456 1725 dL_law_1456 (by decide) k
set_option maxRecDepth 100000 in
set_option maxHeartbeats 4000000 in
theorem law_c37 {p : Program} {l : Launch} {e : Env} {s : State} {m : MethodId} {below : List Frame} {meth : Method} {c : Code} {D : va_G} {cI cZ : ClassId} {ad ad2 : Nat → Nat} {tBURNS tFLAME_BOUNDS : Nat} {tS : Option Nat} {adK adV : Nat → Nat} {b L : Nat} {xs : Nat → Int32} (hL : L ≤ 384) (hX : va_X b L xs s s.heap) (hbl : b < s.heap.size) (hbA : ¬ s.heap.size ≤ b) (C : Cx p s m #[Value.ref b] meth c D [(cI, .int), (cZ, .boolean)] (EX tBURNS tFLAME_BOUNDS tS adK adV) (fun q : Nat => s.heap.size ≤ q) cL_law 4 (some .boolean) RL wsL_law) {i : Nat} (h6 : i + 6 ≤ L) {u v u' v' : St} {r : Int32} (e1 : pX6_drift LF (xs (nI i + 1).toNatClampNeg) (xs (nI i + 2).toNatClampNeg) (xs (nI i + 3).toNatClampNeg) u = some (r, u')) (e2 : pX7_drift LF (xs (nI i + 1).toNatClampNeg) (xs (nI i + 2).toNatClampNeg) (xs (nI i + 3).toNatClampNeg) v = some (r, v')) (k : KX p l e room_1 s m #[Value.ref b] below meth c D (fun q : Nat => s.heap.size ≤ q) 4 91 1902 (lw_Z below #[Value.ref b] s) 1725 [(0, .ref b), (1, .ref (ad 0)), (2, .ref (ad2 0)), (3, .int (nI i))] [] (wX ad cI cZ u' ++ wM ad2 cI cZ v')) : KX p l e room_1 s m #[Value.ref b] below meth c D (fun q : Nat => s.heap.size ≤ q) 4 91 1902 (lw_Z below #[Value.ref b] s) 1461 [(0, .ref b), (1, .ref (ad 0)), (2, .ref (ad2 0)), (3, .int (nI i))] [] (wX ad cI cZ u ++ wM ad2 cI cZ v) := by
  have C0 := C.env (EV2 := E0) trivial
  have hi := hL
  refine k_aload_n C 1461 1 dL_law_1461 rfl ?_
  refine k_aload_n C 1462 0 dL_law_1462 rfl ?_
  refine k_iload_n C 1463 3 dL_law_1463 rfl ?_
  refine k_iconst C 1464 1 dL_law_1464 rfl ?_
  refine k_iadd C 1465 dL_law_1465 ?_
  refine k_sld C 1466 hX hbl hbA (l_in hi h6 1 (by decide)) dL_law_1466 ?_
  refine k_aload_n C 1467 0 dL_law_1467 rfl ?_
  refine k_iload_n C 1468 3 dL_law_1468 rfl ?_
  refine k_iconst C 1469 2 dL_law_1469 rfl ?_
  refine k_iadd C 1470 dL_law_1470 ?_
  refine k_sld C 1471 hX hbl hbA (l_in hi h6 2 (by decide)) dL_law_1471 ?_
  refine k_aload_n C 1472 0 dL_law_1472 rfl ?_
  refine k_iload_n C 1473 3 dL_law_1473 rfl ?_
  refine k_iconst C 1474 3 dL_law_1474 rfl ?_
  refine k_iadd C 1475 dL_law_1475 ?_
  refine k_sld C 1476 hX hbl hbA (l_in hi h6 3 (by decide)) dL_law_1476 ?_
  refine k_callVi (st := []) (As := [.int (xs (nI i + 1).toNatClampNeg), .int (xs (nI i + 2).toNatClampNeg), .int (xs (nI i + 3).toNatClampNeg)]) C EX_ok EX_vm 1477 3 (tX6_drift (ad := ad) LF (xs (nI i + 1).toNatClampNeg) (xs (nI i + 2).toNatClampNeg) (xs (nI i + 3).toNatClampNeg) u) e1 rfl gL_law_X6_drift rfl rfl rfl (by decide +kernel) ⟨Nat.le_of_ble_eq_true rfl, Nat.le_of_ble_eq_true rfl⟩ ⟨Nat.le_of_ble_eq_true rfl, Nat.le_of_ble_eq_true rfl⟩ rfl rfl rfl (Nat.le_of_ble_eq_true rfl) dL_law_1477 ?_
  refine k_aload_n C 1480 2 dL_law_1480 rfl ?_
  refine k_aload_n C 1481 0 dL_law_1481 rfl ?_
  refine k_iload_n C 1482 3 dL_law_1482 rfl ?_
  refine k_iconst C 1483 1 dL_law_1483 rfl ?_
  refine k_iadd C 1484 dL_law_1484 ?_
  refine k_sld C 1485 hX hbl hbA (l_in hi h6 1 (by decide)) dL_law_1485 ?_
  refine k_aload_n C 1486 0 dL_law_1486 rfl ?_
  refine k_iload_n C 1487 3 dL_law_1487 rfl ?_
  refine k_iconst C 1488 2 dL_law_1488 rfl ?_
  refine k_iadd C 1489 dL_law_1489 ?_
  refine k_sld C 1490 hX hbl hbA (l_in hi h6 2 (by decide)) dL_law_1490 ?_
  refine k_aload_n C 1491 0 dL_law_1491 rfl ?_
  refine k_iload_n C 1492 3 dL_law_1492 rfl ?_
  refine k_iconst C 1493 3 dL_law_1493 rfl ?_
  refine k_iadd C 1494 dL_law_1494 ?_
  refine k_sld C 1495 hX hbl hbA (l_in hi h6 3 (by decide)) dL_law_1495 ?_
  refine k_swap ?_
  refine k_callVi (st := [.int r]) (As := [.int (xs (nI i + 1).toNatClampNeg), .int (xs (nI i + 2).toNatClampNeg), .int (xs (nI i + 3).toNatClampNeg)]) C0 E0_ok E0_vm 1496 3 (tX7_drift (ad := ad2) LF (xs (nI i + 1).toNatClampNeg) (xs (nI i + 2).toNatClampNeg) (xs (nI i + 3).toNatClampNeg) v) e2 rfl gL_law_X7_drift rfl rfl rfl (by decide +kernel) ⟨Nat.le_of_ble_eq_true rfl, Nat.le_of_ble_eq_true rfl⟩ ⟨Nat.le_of_ble_eq_true rfl, Nat.le_of_ble_eq_true rfl⟩ rfl rfl rfl (Nat.le_of_ble_eq_true rfl) dL_law_1496 ?_
  refine k_swap ?_
  exact k_icmp_eqT C 1499 1725 dL_law_1499 (by decide) k
set_option maxRecDepth 100000 in
set_option maxHeartbeats 4000000 in
theorem law_c38 {p : Program} {l : Launch} {e : Env} {s : State} {m : MethodId} {below : List Frame} {meth : Method} {c : Code} {D : va_G} {cI cZ : ClassId} {ad ad2 : Nat → Nat} {tBURNS tFLAME_BOUNDS : Nat} {tS : Option Nat} {adK adV : Nat → Nat} {b L : Nat} {xs : Nat → Int32} (hL : L ≤ 384) (hX : va_X b L xs s s.heap) (hbl : b < s.heap.size) (hbA : ¬ s.heap.size ≤ b) (C : Cx p s m #[Value.ref b] meth c D [(cI, .int), (cZ, .boolean)] (EX tBURNS tFLAME_BOUNDS tS adK adV) (fun q : Nat => s.heap.size ≤ q) cL_law 4 (some .boolean) RL wsL_law) {i : Nat} (h6 : i + 6 ≤ L) {u v u' v' : St} {r : Int32} (e1 : pX6_keep LF (xs (nI i + 1).toNatClampNeg) u = some (r, u')) (e2 : pX7_keep LF (xs (nI i + 1).toNatClampNeg) v = some (r, v')) (k : KX p l e room_1 s m #[Value.ref b] below meth c D (fun q : Nat => s.heap.size ≤ q) 4 91 1902 (lw_Z below #[Value.ref b] s) 1725 [(0, .ref b), (1, .ref (ad 0)), (2, .ref (ad2 0)), (3, .int (nI i))] [] (wX ad cI cZ u' ++ wM ad2 cI cZ v')) : KX p l e room_1 s m #[Value.ref b] below meth c D (fun q : Nat => s.heap.size ≤ q) 4 91 1902 (lw_Z below #[Value.ref b] s) 1504 [(0, .ref b), (1, .ref (ad 0)), (2, .ref (ad2 0)), (3, .int (nI i))] [] (wX ad cI cZ u ++ wM ad2 cI cZ v) := by
  have C0 := C.env (EV2 := E0) trivial
  have hi := hL
  refine k_aload_n C 1504 1 dL_law_1504 rfl ?_
  refine k_aload_n C 1505 0 dL_law_1505 rfl ?_
  refine k_iload_n C 1506 3 dL_law_1506 rfl ?_
  refine k_iconst C 1507 1 dL_law_1507 rfl ?_
  refine k_iadd C 1508 dL_law_1508 ?_
  refine k_sld C 1509 hX hbl hbA (l_in hi h6 1 (by decide)) dL_law_1509 ?_
  refine k_callVi (st := []) (As := [.int (xs (nI i + 1).toNatClampNeg)]) C EX_ok EX_vm 1510 1 (tX6_keep (ad := ad) LF (xs (nI i + 1).toNatClampNeg) u) e1 rfl gL_law_X6_keep rfl rfl rfl (by decide +kernel) ⟨Nat.le_of_ble_eq_true rfl, Nat.le_of_ble_eq_true rfl⟩ ⟨Nat.le_of_ble_eq_true rfl, Nat.le_of_ble_eq_true rfl⟩ rfl rfl rfl (Nat.le_of_ble_eq_true rfl) dL_law_1510 ?_
  refine k_aload_n C 1513 2 dL_law_1513 rfl ?_
  refine k_aload_n C 1514 0 dL_law_1514 rfl ?_
  refine k_iload_n C 1515 3 dL_law_1515 rfl ?_
  refine k_iconst C 1516 1 dL_law_1516 rfl ?_
  refine k_iadd C 1517 dL_law_1517 ?_
  refine k_sld C 1518 hX hbl hbA (l_in hi h6 1 (by decide)) dL_law_1518 ?_
  refine k_swap ?_
  refine k_callVi (st := [.int r]) (As := [.int (xs (nI i + 1).toNatClampNeg)]) C0 E0_ok E0_vm 1519 1 (tX7_keep (ad := ad2) LF (xs (nI i + 1).toNatClampNeg) v) e2 rfl gL_law_X7_keep rfl rfl rfl (by decide +kernel) ⟨Nat.le_of_ble_eq_true rfl, Nat.le_of_ble_eq_true rfl⟩ ⟨Nat.le_of_ble_eq_true rfl, Nat.le_of_ble_eq_true rfl⟩ rfl rfl rfl (Nat.le_of_ble_eq_true rfl) dL_law_1519 ?_
  refine k_swap ?_
  exact k_icmp_eqT C 1522 1725 dL_law_1522 (by decide) k
set_option maxRecDepth 100000 in
set_option maxHeartbeats 4000000 in
theorem law_c39 {p : Program} {l : Launch} {e : Env} {s : State} {m : MethodId} {below : List Frame} {meth : Method} {c : Code} {D : va_G} {cI cZ : ClassId} {ad ad2 : Nat → Nat} {tBURNS tFLAME_BOUNDS : Nat} {tS : Option Nat} {adK adV : Nat → Nat} {b L : Nat} {xs : Nat → Int32} (hL : L ≤ 384) (hX : va_X b L xs s s.heap) (hbl : b < s.heap.size) (hbA : ¬ s.heap.size ≤ b) (C : Cx p s m #[Value.ref b] meth c D [(cI, .int), (cZ, .boolean)] (EX tBURNS tFLAME_BOUNDS tS adK adV) (fun q : Nat => s.heap.size ≤ q) cL_law 4 (some .boolean) RL wsL_law) {i : Nat} (h6 : i + 6 ≤ L) {u v u' v' : St} {r : Int32} (e1 : pX6_back LF (xs (nI i + 1).toNatClampNeg) u = some (r, u')) (e2 : pX7_back LF (xs (nI i + 1).toNatClampNeg) v = some (r, v')) (k : KX p l e room_1 s m #[Value.ref b] below meth c D (fun q : Nat => s.heap.size ≤ q) 4 91 1902 (lw_Z below #[Value.ref b] s) 1725 [(0, .ref b), (1, .ref (ad 0)), (2, .ref (ad2 0)), (3, .int (nI i))] [] (wX ad cI cZ u' ++ wM ad2 cI cZ v')) : KX p l e room_1 s m #[Value.ref b] below meth c D (fun q : Nat => s.heap.size ≤ q) 4 91 1902 (lw_Z below #[Value.ref b] s) 1527 [(0, .ref b), (1, .ref (ad 0)), (2, .ref (ad2 0)), (3, .int (nI i))] [] (wX ad cI cZ u ++ wM ad2 cI cZ v) := by
  have C0 := C.env (EV2 := E0) trivial
  have hi := hL
  refine k_aload_n C 1527 1 dL_law_1527 rfl ?_
  refine k_aload_n C 1528 0 dL_law_1528 rfl ?_
  refine k_iload_n C 1529 3 dL_law_1529 rfl ?_
  refine k_iconst C 1530 1 dL_law_1530 rfl ?_
  refine k_iadd C 1531 dL_law_1531 ?_
  refine k_sld C 1532 hX hbl hbA (l_in hi h6 1 (by decide)) dL_law_1532 ?_
  refine k_callVi (st := []) (As := [.int (xs (nI i + 1).toNatClampNeg)]) C EX_ok EX_vm 1533 1 (tX6_back (ad := ad) LF (xs (nI i + 1).toNatClampNeg) u) e1 rfl gL_law_X6_back rfl rfl rfl (by decide +kernel) ⟨Nat.le_of_ble_eq_true rfl, Nat.le_of_ble_eq_true rfl⟩ ⟨Nat.le_of_ble_eq_true rfl, Nat.le_of_ble_eq_true rfl⟩ rfl rfl rfl (Nat.le_of_ble_eq_true rfl) dL_law_1533 ?_
  refine k_aload_n C 1536 2 dL_law_1536 rfl ?_
  refine k_aload_n C 1537 0 dL_law_1537 rfl ?_
  refine k_iload_n C 1538 3 dL_law_1538 rfl ?_
  refine k_iconst C 1539 1 dL_law_1539 rfl ?_
  refine k_iadd C 1540 dL_law_1540 ?_
  refine k_sld C 1541 hX hbl hbA (l_in hi h6 1 (by decide)) dL_law_1541 ?_
  refine k_swap ?_
  refine k_callVi (st := [.int r]) (As := [.int (xs (nI i + 1).toNatClampNeg)]) C0 E0_ok E0_vm 1542 1 (tX7_back (ad := ad2) LF (xs (nI i + 1).toNatClampNeg) v) e2 rfl gL_law_X7_back rfl rfl rfl (by decide +kernel) ⟨Nat.le_of_ble_eq_true rfl, Nat.le_of_ble_eq_true rfl⟩ ⟨Nat.le_of_ble_eq_true rfl, Nat.le_of_ble_eq_true rfl⟩ rfl rfl rfl (Nat.le_of_ble_eq_true rfl) dL_law_1542 ?_
  refine k_swap ?_
  exact k_icmp_eqT C 1545 1725 dL_law_1545 (by decide) k
set_option maxRecDepth 100000 in
set_option maxHeartbeats 4000000 in
theorem law_c40 {p : Program} {l : Launch} {e : Env} {s : State} {m : MethodId} {below : List Frame} {meth : Method} {c : Code} {D : va_G} {cI cZ : ClassId} {ad ad2 : Nat → Nat} {tBURNS tFLAME_BOUNDS : Nat} {tS : Option Nat} {adK adV : Nat → Nat} {b L : Nat} {xs : Nat → Int32} (hL : L ≤ 384) (hX : va_X b L xs s s.heap) (hbl : b < s.heap.size) (hbA : ¬ s.heap.size ≤ b) (C : Cx p s m #[Value.ref b] meth c D [(cI, .int), (cZ, .boolean)] (EX tBURNS tFLAME_BOUNDS tS adK adV) (fun q : Nat => s.heap.size ≤ q) cL_law 4 (some .boolean) RL wsL_law) {i : Nat} (h6 : i + 6 ≤ L) {u v u' v' : St} {r : Int32} (e1 : pX6_sheet LF (xs (nI i + 1).toNatClampNeg) (xs (nI i + 2).toNatClampNeg) (xs (nI i + 3).toNatClampNeg) u = some (r, u')) (e2 : pX7_sheet LF (xs (nI i + 1).toNatClampNeg) (xs (nI i + 2).toNatClampNeg) (xs (nI i + 3).toNatClampNeg) v = some (r, v')) (k : KX p l e room_1 s m #[Value.ref b] below meth c D (fun q : Nat => s.heap.size ≤ q) 4 91 1902 (lw_Z below #[Value.ref b] s) 1725 [(0, .ref b), (1, .ref (ad 0)), (2, .ref (ad2 0)), (3, .int (nI i))] [] (wX ad cI cZ u' ++ wM ad2 cI cZ v')) : KX p l e room_1 s m #[Value.ref b] below meth c D (fun q : Nat => s.heap.size ≤ q) 4 91 1902 (lw_Z below #[Value.ref b] s) 1550 [(0, .ref b), (1, .ref (ad 0)), (2, .ref (ad2 0)), (3, .int (nI i))] [] (wX ad cI cZ u ++ wM ad2 cI cZ v) := by
  have C0 := C.env (EV2 := E0) trivial
  have hi := hL
  refine k_aload_n C 1550 1 dL_law_1550 rfl ?_
  refine k_aload_n C 1551 0 dL_law_1551 rfl ?_
  refine k_iload_n C 1552 3 dL_law_1552 rfl ?_
  refine k_iconst C 1553 1 dL_law_1553 rfl ?_
  refine k_iadd C 1554 dL_law_1554 ?_
  refine k_sld C 1555 hX hbl hbA (l_in hi h6 1 (by decide)) dL_law_1555 ?_
  refine k_aload_n C 1556 0 dL_law_1556 rfl ?_
  refine k_iload_n C 1557 3 dL_law_1557 rfl ?_
  refine k_iconst C 1558 2 dL_law_1558 rfl ?_
  refine k_iadd C 1559 dL_law_1559 ?_
  refine k_sld C 1560 hX hbl hbA (l_in hi h6 2 (by decide)) dL_law_1560 ?_
  refine k_aload_n C 1561 0 dL_law_1561 rfl ?_
  refine k_iload_n C 1562 3 dL_law_1562 rfl ?_
  refine k_iconst C 1563 3 dL_law_1563 rfl ?_
  refine k_iadd C 1564 dL_law_1564 ?_
  refine k_sld C 1565 hX hbl hbA (l_in hi h6 3 (by decide)) dL_law_1565 ?_
  refine k_callVi (st := []) (As := [.int (xs (nI i + 1).toNatClampNeg), .int (xs (nI i + 2).toNatClampNeg), .int (xs (nI i + 3).toNatClampNeg)]) C EX_ok EX_vm 1566 3 (tX6_sheet (ad := ad) LF (xs (nI i + 1).toNatClampNeg) (xs (nI i + 2).toNatClampNeg) (xs (nI i + 3).toNatClampNeg) u) e1 rfl gL_law_X6_sheet rfl rfl rfl (by decide +kernel) ⟨Nat.le_of_ble_eq_true rfl, Nat.le_of_ble_eq_true rfl⟩ ⟨Nat.le_of_ble_eq_true rfl, Nat.le_of_ble_eq_true rfl⟩ rfl rfl rfl (Nat.le_of_ble_eq_true rfl) dL_law_1566 ?_
  refine k_aload_n C 1569 2 dL_law_1569 rfl ?_
  refine k_aload_n C 1570 0 dL_law_1570 rfl ?_
  refine k_iload_n C 1571 3 dL_law_1571 rfl ?_
  refine k_iconst C 1572 1 dL_law_1572 rfl ?_
  refine k_iadd C 1573 dL_law_1573 ?_
  refine k_sld C 1574 hX hbl hbA (l_in hi h6 1 (by decide)) dL_law_1574 ?_
  refine k_aload_n C 1575 0 dL_law_1575 rfl ?_
  refine k_iload_n C 1576 3 dL_law_1576 rfl ?_
  refine k_iconst C 1577 2 dL_law_1577 rfl ?_
  refine k_iadd C 1578 dL_law_1578 ?_
  refine k_sld C 1579 hX hbl hbA (l_in hi h6 2 (by decide)) dL_law_1579 ?_
  refine k_aload_n C 1580 0 dL_law_1580 rfl ?_
  refine k_iload_n C 1581 3 dL_law_1581 rfl ?_
  refine k_iconst C 1582 3 dL_law_1582 rfl ?_
  refine k_iadd C 1583 dL_law_1583 ?_
  refine k_sld C 1584 hX hbl hbA (l_in hi h6 3 (by decide)) dL_law_1584 ?_
  refine k_swap ?_
  refine k_callVi (st := [.int r]) (As := [.int (xs (nI i + 1).toNatClampNeg), .int (xs (nI i + 2).toNatClampNeg), .int (xs (nI i + 3).toNatClampNeg)]) C0 E0_ok E0_vm 1585 3 (tX7_sheet (ad := ad2) LF (xs (nI i + 1).toNatClampNeg) (xs (nI i + 2).toNatClampNeg) (xs (nI i + 3).toNatClampNeg) v) e2 rfl gL_law_X7_sheet rfl rfl rfl (by decide +kernel) ⟨Nat.le_of_ble_eq_true rfl, Nat.le_of_ble_eq_true rfl⟩ ⟨Nat.le_of_ble_eq_true rfl, Nat.le_of_ble_eq_true rfl⟩ rfl rfl rfl (Nat.le_of_ble_eq_true rfl) dL_law_1585 ?_
  refine k_swap ?_
  exact k_icmp_eqT C 1588 1725 dL_law_1588 (by decide) k
set_option maxRecDepth 100000 in
set_option maxHeartbeats 4000000 in
theorem law_c41 {p : Program} {l : Launch} {e : Env} {s : State} {m : MethodId} {below : List Frame} {meth : Method} {c : Code} {D : va_G} {cI cZ : ClassId} {ad ad2 : Nat → Nat} {tBURNS tFLAME_BOUNDS : Nat} {tS : Option Nat} {adK adV : Nat → Nat} {b L : Nat} {xs : Nat → Int32} (hL : L ≤ 384) (hX : va_X b L xs s s.heap) (hbl : b < s.heap.size) (hbA : ¬ s.heap.size ≤ b) (C : Cx p s m #[Value.ref b] meth c D [(cI, .int), (cZ, .boolean)] (EX tBURNS tFLAME_BOUNDS tS adK adV) (fun q : Nat => s.heap.size ≤ q) cL_law 4 (some .boolean) RL wsL_law) {i : Nat} (h6 : i + 6 ≤ L) {u v u' v' : St} {r : Int32} (e1 : pX6_lay LF (xs (nI i + 1).toNatClampNeg) (xs (nI i + 2).toNatClampNeg) (xs (nI i + 3).toNatClampNeg) u = some (r, u')) (e2 : pX7_lay LF (xs (nI i + 1).toNatClampNeg) (xs (nI i + 2).toNatClampNeg) (xs (nI i + 3).toNatClampNeg) v = some (r, v')) (k : KX p l e room_1 s m #[Value.ref b] below meth c D (fun q : Nat => s.heap.size ≤ q) 4 91 1902 (lw_Z below #[Value.ref b] s) 1725 [(0, .ref b), (1, .ref (ad 0)), (2, .ref (ad2 0)), (3, .int (nI i))] [] (wX ad cI cZ u' ++ wM ad2 cI cZ v')) : KX p l e room_1 s m #[Value.ref b] below meth c D (fun q : Nat => s.heap.size ≤ q) 4 91 1902 (lw_Z below #[Value.ref b] s) 1593 [(0, .ref b), (1, .ref (ad 0)), (2, .ref (ad2 0)), (3, .int (nI i))] [] (wX ad cI cZ u ++ wM ad2 cI cZ v) := by
  have C0 := C.env (EV2 := E0) trivial
  have hi := hL
  refine k_aload_n C 1593 1 dL_law_1593 rfl ?_
  refine k_aload_n C 1594 0 dL_law_1594 rfl ?_
  refine k_iload_n C 1595 3 dL_law_1595 rfl ?_
  refine k_iconst C 1596 1 dL_law_1596 rfl ?_
  refine k_iadd C 1597 dL_law_1597 ?_
  refine k_sld C 1598 hX hbl hbA (l_in hi h6 1 (by decide)) dL_law_1598 ?_
  refine k_aload_n C 1599 0 dL_law_1599 rfl ?_
  refine k_iload_n C 1600 3 dL_law_1600 rfl ?_
  refine k_iconst C 1601 2 dL_law_1601 rfl ?_
  refine k_iadd C 1602 dL_law_1602 ?_
  refine k_sld C 1603 hX hbl hbA (l_in hi h6 2 (by decide)) dL_law_1603 ?_
  refine k_aload_n C 1604 0 dL_law_1604 rfl ?_
  refine k_iload_n C 1605 3 dL_law_1605 rfl ?_
  refine k_iconst C 1606 3 dL_law_1606 rfl ?_
  refine k_iadd C 1607 dL_law_1607 ?_
  refine k_sld C 1608 hX hbl hbA (l_in hi h6 3 (by decide)) dL_law_1608 ?_
  refine k_callVi (st := []) (As := [.int (xs (nI i + 1).toNatClampNeg), .int (xs (nI i + 2).toNatClampNeg), .int (xs (nI i + 3).toNatClampNeg)]) C EX_ok EX_vm 1609 3 (tX6_lay (ad := ad) LF (xs (nI i + 1).toNatClampNeg) (xs (nI i + 2).toNatClampNeg) (xs (nI i + 3).toNatClampNeg) u) e1 rfl gL_law_X6_lay rfl rfl rfl (by decide +kernel) ⟨Nat.le_of_ble_eq_true rfl, Nat.le_of_ble_eq_true rfl⟩ ⟨Nat.le_of_ble_eq_true rfl, Nat.le_of_ble_eq_true rfl⟩ rfl rfl rfl (Nat.le_of_ble_eq_true rfl) dL_law_1609 ?_
  refine k_aload_n C 1612 2 dL_law_1612 rfl ?_
  refine k_aload_n C 1613 0 dL_law_1613 rfl ?_
  refine k_iload_n C 1614 3 dL_law_1614 rfl ?_
  refine k_iconst C 1615 1 dL_law_1615 rfl ?_
  refine k_iadd C 1616 dL_law_1616 ?_
  refine k_sld C 1617 hX hbl hbA (l_in hi h6 1 (by decide)) dL_law_1617 ?_
  refine k_aload_n C 1618 0 dL_law_1618 rfl ?_
  refine k_iload_n C 1619 3 dL_law_1619 rfl ?_
  refine k_iconst C 1620 2 dL_law_1620 rfl ?_
  refine k_iadd C 1621 dL_law_1621 ?_
  refine k_sld C 1622 hX hbl hbA (l_in hi h6 2 (by decide)) dL_law_1622 ?_
  refine k_aload_n C 1623 0 dL_law_1623 rfl ?_
  refine k_iload_n C 1624 3 dL_law_1624 rfl ?_
  refine k_iconst C 1625 3 dL_law_1625 rfl ?_
  refine k_iadd C 1626 dL_law_1626 ?_
  refine k_sld C 1627 hX hbl hbA (l_in hi h6 3 (by decide)) dL_law_1627 ?_
  refine k_swap ?_
  refine k_callVi (st := [.int r]) (As := [.int (xs (nI i + 1).toNatClampNeg), .int (xs (nI i + 2).toNatClampNeg), .int (xs (nI i + 3).toNatClampNeg)]) C0 E0_ok E0_vm 1628 3 (tX7_lay (ad := ad2) LF (xs (nI i + 1).toNatClampNeg) (xs (nI i + 2).toNatClampNeg) (xs (nI i + 3).toNatClampNeg) v) e2 rfl gL_law_X7_lay rfl rfl rfl (by decide +kernel) ⟨Nat.le_of_ble_eq_true rfl, Nat.le_of_ble_eq_true rfl⟩ ⟨Nat.le_of_ble_eq_true rfl, Nat.le_of_ble_eq_true rfl⟩ rfl rfl rfl (Nat.le_of_ble_eq_true rfl) dL_law_1628 ?_
  refine k_swap ?_
  exact k_icmp_eqT C 1631 1725 dL_law_1631 (by decide) k
set_option maxRecDepth 100000 in
set_option maxHeartbeats 4000000 in
theorem law_c42 {p : Program} {l : Launch} {e : Env} {s : State} {m : MethodId} {below : List Frame} {meth : Method} {c : Code} {D : va_G} {cI cZ : ClassId} {ad ad2 : Nat → Nat} {tBURNS tFLAME_BOUNDS : Nat} {tS : Option Nat} {adK adV : Nat → Nat} {b L : Nat} {xs : Nat → Int32} (hL : L ≤ 384) (hX : va_X b L xs s s.heap) (hbl : b < s.heap.size) (hbA : ¬ s.heap.size ≤ b) (C : Cx p s m #[Value.ref b] meth c D [(cI, .int), (cZ, .boolean)] (EX tBURNS tFLAME_BOUNDS tS adK adV) (fun q : Nat => s.heap.size ≤ q) cL_law 4 (some .boolean) RL wsL_law) {i : Nat} (h6 : i + 6 ≤ L) {u v u' v' : St} {r : Int32} (e1 : pX6_read LF (xs (nI i + 1).toNatClampNeg) (xs (nI i + 2).toNatClampNeg) (xs (nI i + 3).toNatClampNeg) (xs (nI i + 4).toNatClampNeg) u = some (r, u')) (e2 : pX7_read LF (xs (nI i + 1).toNatClampNeg) (xs (nI i + 2).toNatClampNeg) (xs (nI i + 3).toNatClampNeg) (xs (nI i + 4).toNatClampNeg) v = some (r, v')) (k : KX p l e room_1 s m #[Value.ref b] below meth c D (fun q : Nat => s.heap.size ≤ q) 4 91 1902 (lw_Z below #[Value.ref b] s) 1725 [(0, .ref b), (1, .ref (ad 0)), (2, .ref (ad2 0)), (3, .int (nI i))] [] (wX ad cI cZ u' ++ wM ad2 cI cZ v')) : KX p l e room_1 s m #[Value.ref b] below meth c D (fun q : Nat => s.heap.size ≤ q) 4 91 1902 (lw_Z below #[Value.ref b] s) 1636 [(0, .ref b), (1, .ref (ad 0)), (2, .ref (ad2 0)), (3, .int (nI i))] [] (wX ad cI cZ u ++ wM ad2 cI cZ v) := by
  have C0 := C.env (EV2 := E0) trivial
  have hi := hL
  refine k_aload_n C 1636 1 dL_law_1636 rfl ?_
  refine k_aload_n C 1637 0 dL_law_1637 rfl ?_
  refine k_iload_n C 1638 3 dL_law_1638 rfl ?_
  refine k_iconst C 1639 1 dL_law_1639 rfl ?_
  refine k_iadd C 1640 dL_law_1640 ?_
  refine k_sld C 1641 hX hbl hbA (l_in hi h6 1 (by decide)) dL_law_1641 ?_
  refine k_aload_n C 1642 0 dL_law_1642 rfl ?_
  refine k_iload_n C 1643 3 dL_law_1643 rfl ?_
  refine k_iconst C 1644 2 dL_law_1644 rfl ?_
  refine k_iadd C 1645 dL_law_1645 ?_
  refine k_sld C 1646 hX hbl hbA (l_in hi h6 2 (by decide)) dL_law_1646 ?_
  refine k_aload_n C 1647 0 dL_law_1647 rfl ?_
  refine k_iload_n C 1648 3 dL_law_1648 rfl ?_
  refine k_iconst C 1649 3 dL_law_1649 rfl ?_
  refine k_iadd C 1650 dL_law_1650 ?_
  refine k_sld C 1651 hX hbl hbA (l_in hi h6 3 (by decide)) dL_law_1651 ?_
  refine k_aload_n C 1652 0 dL_law_1652 rfl ?_
  refine k_iload_n C 1653 3 dL_law_1653 rfl ?_
  refine k_iconst C 1654 4 dL_law_1654 rfl ?_
  refine k_iadd C 1655 dL_law_1655 ?_
  refine k_sld C 1656 hX hbl hbA (l_in hi h6 4 (by decide)) dL_law_1656 ?_
  refine k_callVi (st := []) (As := [.int (xs (nI i + 1).toNatClampNeg), .int (xs (nI i + 2).toNatClampNeg), .int (xs (nI i + 3).toNatClampNeg), .int (xs (nI i + 4).toNatClampNeg)]) C EX_ok EX_vm 1657 4 (tX6_read (ad := ad) LF (xs (nI i + 1).toNatClampNeg) (xs (nI i + 2).toNatClampNeg) (xs (nI i + 3).toNatClampNeg) (xs (nI i + 4).toNatClampNeg) u) e1 rfl gL_law_X6_read rfl rfl rfl (by decide +kernel) ⟨Nat.le_of_ble_eq_true rfl, Nat.le_of_ble_eq_true rfl⟩ ⟨Nat.le_of_ble_eq_true rfl, Nat.le_of_ble_eq_true rfl⟩ rfl rfl rfl (Nat.le_of_ble_eq_true rfl) dL_law_1657 ?_
  refine k_aload_n C 1660 2 dL_law_1660 rfl ?_
  refine k_aload_n C 1661 0 dL_law_1661 rfl ?_
  refine k_iload_n C 1662 3 dL_law_1662 rfl ?_
  refine k_iconst C 1663 1 dL_law_1663 rfl ?_
  refine k_iadd C 1664 dL_law_1664 ?_
  refine k_sld C 1665 hX hbl hbA (l_in hi h6 1 (by decide)) dL_law_1665 ?_
  refine k_aload_n C 1666 0 dL_law_1666 rfl ?_
  refine k_iload_n C 1667 3 dL_law_1667 rfl ?_
  refine k_iconst C 1668 2 dL_law_1668 rfl ?_
  refine k_iadd C 1669 dL_law_1669 ?_
  refine k_sld C 1670 hX hbl hbA (l_in hi h6 2 (by decide)) dL_law_1670 ?_
  refine k_aload_n C 1671 0 dL_law_1671 rfl ?_
  refine k_iload_n C 1672 3 dL_law_1672 rfl ?_
  refine k_iconst C 1673 3 dL_law_1673 rfl ?_
  refine k_iadd C 1674 dL_law_1674 ?_
  refine k_sld C 1675 hX hbl hbA (l_in hi h6 3 (by decide)) dL_law_1675 ?_
  refine k_aload_n C 1676 0 dL_law_1676 rfl ?_
  refine k_iload_n C 1677 3 dL_law_1677 rfl ?_
  refine k_iconst C 1678 4 dL_law_1678 rfl ?_
  refine k_iadd C 1679 dL_law_1679 ?_
  refine k_sld C 1680 hX hbl hbA (l_in hi h6 4 (by decide)) dL_law_1680 ?_
  refine k_swap ?_
  refine k_callVi (st := [.int r]) (As := [.int (xs (nI i + 1).toNatClampNeg), .int (xs (nI i + 2).toNatClampNeg), .int (xs (nI i + 3).toNatClampNeg), .int (xs (nI i + 4).toNatClampNeg)]) C0 E0_ok E0_vm 1681 4 (tX7_read (ad := ad2) LF (xs (nI i + 1).toNatClampNeg) (xs (nI i + 2).toNatClampNeg) (xs (nI i + 3).toNatClampNeg) (xs (nI i + 4).toNatClampNeg) v) e2 rfl gL_law_X7_read rfl rfl rfl (by decide +kernel) ⟨Nat.le_of_ble_eq_true rfl, Nat.le_of_ble_eq_true rfl⟩ ⟨Nat.le_of_ble_eq_true rfl, Nat.le_of_ble_eq_true rfl⟩ rfl rfl rfl (Nat.le_of_ble_eq_true rfl) dL_law_1681 ?_
  refine k_swap ?_
  exact k_icmp_eqT C 1684 1725 dL_law_1684 (by decide) k
set_option maxRecDepth 100000 in
set_option maxHeartbeats 4000000 in
theorem law_c43 {p : Program} {l : Launch} {e : Env} {s : State} {m : MethodId} {below : List Frame} {meth : Method} {c : Code} {D : va_G} {cI cZ : ClassId} {ad ad2 : Nat → Nat} {tBURNS tFLAME_BOUNDS : Nat} {tS : Option Nat} {adK adV : Nat → Nat} {b L : Nat} {xs : Nat → Int32} (hL : L ≤ 384) (hX : va_X b L xs s s.heap) (hbl : b < s.heap.size) (hbA : ¬ s.heap.size ≤ b) (C : Cx p s m #[Value.ref b] meth c D [(cI, .int), (cZ, .boolean)] (EX tBURNS tFLAME_BOUNDS tS adK adV) (fun q : Nat => s.heap.size ≤ q) cL_law 4 (some .boolean) RL wsL_law) {i : Nat} (h6 : i + 6 ≤ L) {u v u' v' : St} {r : Int32} (e1 : pX6_torn LF u = some (r, u')) (e2 : pX7_torn LF v = some (r, v')) (k : KX p l e room_1 s m #[Value.ref b] below meth c D (fun q : Nat => s.heap.size ≤ q) 4 91 1902 (lw_Z below #[Value.ref b] s) 1725 [(0, .ref b), (1, .ref (ad 0)), (2, .ref (ad2 0)), (3, .int (nI i))] [] (wX ad cI cZ u' ++ wM ad2 cI cZ v')) : KX p l e room_1 s m #[Value.ref b] below meth c D (fun q : Nat => s.heap.size ≤ q) 4 91 1902 (lw_Z below #[Value.ref b] s) 1689 [(0, .ref b), (1, .ref (ad 0)), (2, .ref (ad2 0)), (3, .int (nI i))] [] (wX ad cI cZ u ++ wM ad2 cI cZ v) := by
  have C0 := C.env (EV2 := E0) trivial
  have hi := hL
  refine k_aload_n C 1689 1 dL_law_1689 rfl ?_
  refine k_callVi (st := []) (As := []) C EX_ok EX_vm 1690 0 (tX6_torn (ad := ad) LF u) e1 rfl gL_law_X6_torn rfl rfl rfl (by decide +kernel) ⟨Nat.le_of_ble_eq_true rfl, Nat.le_of_ble_eq_true rfl⟩ ⟨Nat.le_of_ble_eq_true rfl, Nat.le_of_ble_eq_true rfl⟩ rfl rfl rfl (Nat.le_of_ble_eq_true rfl) dL_law_1690 ?_
  refine k_aload_n C 1693 2 dL_law_1693 rfl ?_
  refine k_swap ?_
  refine k_callVi (st := [.int r]) (As := []) C0 E0_ok E0_vm 1694 0 (tX7_torn (ad := ad2) LF v) e2 rfl gL_law_X7_torn rfl rfl rfl (by decide +kernel) ⟨Nat.le_of_ble_eq_true rfl, Nat.le_of_ble_eq_true rfl⟩ ⟨Nat.le_of_ble_eq_true rfl, Nat.le_of_ble_eq_true rfl⟩ rfl rfl rfl (Nat.le_of_ble_eq_true rfl) dL_law_1694 ?_
  refine k_swap ?_
  exact k_icmp_eqT C 1697 1725 dL_law_1697 (by decide) k
set_option maxRecDepth 100000 in
set_option maxHeartbeats 4000000 in
theorem law_c44 {p : Program} {l : Launch} {e : Env} {s : State} {m : MethodId} {below : List Frame} {meth : Method} {c : Code} {D : va_G} {cI cZ : ClassId} {ad ad2 : Nat → Nat} {tBURNS tFLAME_BOUNDS : Nat} {tS : Option Nat} {adK adV : Nat → Nat} {b L : Nat} {xs : Nat → Int32} (hL : L ≤ 384) (hX : va_X b L xs s s.heap) (hbl : b < s.heap.size) (hbA : ¬ s.heap.size ≤ b) (C : Cx p s m #[Value.ref b] meth c D [(cI, .int), (cZ, .boolean)] (EX tBURNS tFLAME_BOUNDS tS adK adV) (fun q : Nat => s.heap.size ≤ q) cL_law 4 (some .boolean) RL wsL_law) {i : Nat} (h6 : i + 6 ≤ L) {u v u' v' : St} {r : Int32} (e1 : pX6_count LF (xs (nI i + 1).toNatClampNeg) u = some (r, u')) (e2 : pX7_count LF (xs (nI i + 1).toNatClampNeg) v = some (r, v')) (k : KX p l e room_1 s m #[Value.ref b] below meth c D (fun q : Nat => s.heap.size ≤ q) 4 91 1902 (lw_Z below #[Value.ref b] s) 1725 [(0, .ref b), (1, .ref (ad 0)), (2, .ref (ad2 0)), (3, .int (nI i))] [] (wX ad cI cZ u' ++ wM ad2 cI cZ v')) : KX p l e room_1 s m #[Value.ref b] below meth c D (fun q : Nat => s.heap.size ≤ q) 4 91 1902 (lw_Z below #[Value.ref b] s) 1702 [(0, .ref b), (1, .ref (ad 0)), (2, .ref (ad2 0)), (3, .int (nI i))] [] (wX ad cI cZ u ++ wM ad2 cI cZ v) := by
  have C0 := C.env (EV2 := E0) trivial
  have hi := hL
  refine k_aload_n C 1702 1 dL_law_1702 rfl ?_
  refine k_aload_n C 1703 0 dL_law_1703 rfl ?_
  refine k_iload_n C 1704 3 dL_law_1704 rfl ?_
  refine k_iconst C 1705 1 dL_law_1705 rfl ?_
  refine k_iadd C 1706 dL_law_1706 ?_
  refine k_sld C 1707 hX hbl hbA (l_in hi h6 1 (by decide)) dL_law_1707 ?_
  refine k_callVi (st := []) (As := [.int (xs (nI i + 1).toNatClampNeg)]) C EX_ok EX_vm 1708 1 (tX6_count (ad := ad) LF (xs (nI i + 1).toNatClampNeg) u) e1 rfl gL_law_X6_count rfl rfl rfl (by decide +kernel) ⟨Nat.le_of_ble_eq_true rfl, Nat.le_of_ble_eq_true rfl⟩ ⟨Nat.le_of_ble_eq_true rfl, Nat.le_of_ble_eq_true rfl⟩ rfl rfl rfl (Nat.le_of_ble_eq_true rfl) dL_law_1708 ?_
  refine k_aload_n C 1711 2 dL_law_1711 rfl ?_
  refine k_aload_n C 1712 0 dL_law_1712 rfl ?_
  refine k_iload_n C 1713 3 dL_law_1713 rfl ?_
  refine k_iconst C 1714 1 dL_law_1714 rfl ?_
  refine k_iadd C 1715 dL_law_1715 ?_
  refine k_sld C 1716 hX hbl hbA (l_in hi h6 1 (by decide)) dL_law_1716 ?_
  refine k_swap ?_
  refine k_callVi (st := [.int r]) (As := [.int (xs (nI i + 1).toNatClampNeg)]) C0 E0_ok E0_vm 1717 1 (tX7_count (ad := ad2) LF (xs (nI i + 1).toNatClampNeg) v) e2 rfl gL_law_X7_count rfl rfl rfl (by decide +kernel) ⟨Nat.le_of_ble_eq_true rfl, Nat.le_of_ble_eq_true rfl⟩ ⟨Nat.le_of_ble_eq_true rfl, Nat.le_of_ble_eq_true rfl⟩ rfl rfl rfl (Nat.le_of_ble_eq_true rfl) dL_law_1717 ?_
  refine k_swap ?_
  exact k_icmp_eqT C 1720 1725 dL_law_1720 (by decide) k
