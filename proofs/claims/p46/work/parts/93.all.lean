section
/-! THE LAW: rows of its walk, two worlds side by side -/
theorem va_D_swap {A : Nat → Prop} {x y : va_W} (h : va_D A (x ++ y)) : va_D A (y ++ x) := by
  have hx : va_D A x := ⟨fun i j p q hi hj e => h.1 i j p q (by rw [List.getElem?_append_left (List.getElem?_eq_some_iff.mp hi).1]; exact hi) (by rw [List.getElem?_append_left (List.getElem?_eq_some_iff.mp hj).1]; exact hj) e, fun k q hk => h.2 k q (by rw [List.getElem?_append_left (List.getElem?_eq_some_iff.mp hk).1]; exact hk)⟩
  have sh : ∀ (k : Nat) (q : Nat × va_E), y[k]? = some q → (x ++ y)[x.length + k]? = some q := fun k q hk => by
    rw [List.getElem?_append_right (Nat.le_add_right _ _), Nat.add_sub_cancel_left]; exact hk
  have hy : va_D A y := ⟨fun i j p q hi hj e => by have := h.1 _ _ p q (sh i p hi) (sh j q hj) e; omega, fun k q hk => h.2 _ q (sh k q hk)⟩
  refine va_D.app hy hx (fun i j p q hi hj e => ?_)
  have h1 := (List.getElem?_eq_some_iff.mp hj).1
  have := h.1 _ _ p q (sh i p hi) (by rw [List.getElem?_append_left h1]; exact hj) e
  omega
theorem va_P_swap {D : va_G} {cl : List vw_C} {x y : va_W} {H : Heap} (h : va_P D cl (x ++ y) H) : va_P D cl (y ++ x) H := fun k q hk => by
  have hm : q ∈ y ++ x := List.mem_of_getElem? hk
  have hm2 : q ∈ x ++ y := by
    rcases List.mem_append.mp hm with h | h
    · exact List.mem_append_right _ h
    · exact List.mem_append_left _ h
  obtain ⟨i, hi⟩ := List.getElem?_of_mem hm2
  exact h i q hi
theorem va_P_left {D : va_G} {cl : List vw_C} {x y : va_W} {H : Heap} (h : va_P D cl (x ++ y) H) : va_P D cl x H := fun k q hk => h k q (by rw [List.getElem?_append_left (List.getElem?_eq_some_iff.mp hk).1]; exact hk)
theorem va_D_left {A : Nat → Prop} {x y : va_W} (h : va_D A (x ++ y)) : va_D A x := ⟨fun i j p q hi hj e => h.1 i j p q (by rw [List.getElem?_append_left (List.getElem?_eq_some_iff.mp hi).1]; exact hi) (by rw [List.getElem?_append_left (List.getElem?_eq_some_iff.mp hj).1]; exact hj) e, fun k q hk => h.2 k q (by rw [List.getElem?_append_left (List.getElem?_eq_some_iff.mp hk).1]; exact hk)⟩
/-- behind a call on the first of two worlds -/
theorem l_join {A : Nat → Prop} {D : va_G} {x x1 y : va_W} {H H1 : Heap} (h2 : va_P D vwCl (x ++ y) H) (h3 : va_D A (x ++ y)) (hk1 : ∀ q : Nat, q < H.size → ¬ va_A x H.size q → H1[q]? = H[q]?) (hF : ∀ q, va_A x H.size q → A q) (hP1 : va_P D vwCl x1 H1) (hD1 : va_D (va_A x H.size) x1) : va_P D vwCl (x1 ++ y) H1 ∧ va_D A (x1 ++ y) := by
  have hn : va_nd ((List.range y.length).map (fun i => i + x.length)) = true := nd_range _ _
  obtain ⟨g1, g2⟩ := va_join (wr := y) (w1 := x1) (wc := x) h2 h3 (List.range x.length) ((List.range y.length).map (fun i => i + x.length)) (range_get _ x y rfl) (by
    apply List.ext_getElem?
    intro i
    by_cases hi : i < y.length
    · simp [hi, List.getElem?_append_right]
    · simp [hi]) hn (fun i hi => by
    obtain ⟨j, -, rfl⟩ := List.mem_map.mp hi
    simp) hk1 hF hP1 hD1
  exact ⟨va_P_swap g1, va_D_swap g2⟩
section KXL
variable {p : Program} {l : Launch} {e : Env} {R : Room} {s : State} {m : MethodId} {args : Array Value} {below : List Frame} {meth : Method} {c : Code} {D : va_G} {tys : List (ClassId × FieldType)} {EV : (Nat → Prop) → State → Heap → Prop} {A : Nat → Prop} {cc : ByteArray} {n : Nat} {ret : Option FieldType} {own : String} {Ts : List Cond} {Q : State → Prop} {lv : List (Nat × Value)} {st : List Value} {ws ws' : va_W} {cells slots : Nat}
theorem k_iload_n (C : Cx p s m args meth c D tys EV A cc n ret own Ts) (pc k : Nat) {i : Fin 4} {v : Int32} (hd : decode cc pc = .ok (.iload_n i, 1)) (hl : lv[k]? = some ((i : Nat), .int v)) (kk : KX p l e R s m args below meth c D A n cells slots Q (pc + 1) lv (.int v :: st) ws) : KX p l e R s m args below meth c D A n cells slots Q pc lv st ws := fun H locs ls h1 h2 h3 h4 => lv_iload_n C.1 C.2.1 hd rfl (lv_at h1 k hl) (kk H locs ls h1 h2 h3 h4)
theorem k_istore_n (C : Cx p s m args meth c D tys EV A cc n ret own Ts) (pc : Nat) {i : Fin 4} {v : Int32} (lv' : List (Nat × Value)) (hd : decode cc pc = .ok (.istore_n i, 1)) (hn : (i : Nat) < n) (hl : ((i : Nat), Value.int v) :: lv.filter (fun q => !(q.1 == (i : Nat)) && !(q.1 + 1 == (i : Nat) && q.2.category == 2)) = lv') (kk : KX p l e R s m args below meth c D A n cells slots Q (pc + 1) lv' st ws) : KX p l e R s m args below meth c D A n cells slots Q pc lv (.int v :: st) ws := fun H locs ls h1 h2 h3 h4 => lv_istore_n C.1 C.2.1 hd rfl h1 hn hl (fun ls h1 => kk H locs ls h1 h2 h3 h4)
theorem k_astore_n (C : Cx p s m args meth c D tys EV A cc n ret own Ts) (pc : Nat) {i : Fin 4} {v : Nat} (lv' : List (Nat × Value)) (hd : decode cc pc = .ok (.astore_n i, 1)) (hn : (i : Nat) < n) (hl : ((i : Nat), Value.ref v) :: lv.filter (fun q => !(q.1 == (i : Nat)) && !(q.1 + 1 == (i : Nat) && q.2.category == 2)) = lv') (kk : KX p l e R s m args below meth c D A n cells slots Q (pc + 1) lv' st ws) : KX p l e R s m args below meth c D A n cells slots Q pc lv (.ref v :: st) ws := fun H locs ls h1 h2 h3 h4 => lv_astore_n C.1 C.2.1 hd rfl h1 hn hl (fun ls h1 => kk H locs ls h1 h2 h3 h4)
theorem k_iinc (C : Cx p s m args meth c D tys EV A cc n ret own Ts) (pc k : Nat) {i : Nat} {d : Int} {v : Int32} (w : Int32) (lv' : List (Nat × Value)) (hd : decode cc pc = .ok (.iinc i d, 3)) (hk : lv[k]? = some (i, .int v)) (hv : v + Int32.ofInt d = w) (hn : i < n) (hl : (i, Value.int w) :: lv.filter (fun q => !(q.1 == i) && !(q.1 + 1 == i && q.2.category == 2)) = lv') (kk : KX p l e R s m args below meth c D A n cells slots Q (pc + 3) lv' st ws) : KX p l e R s m args below meth c D A n cells slots Q pc lv st ws := fun H locs ls h1 h2 h3 h4 => lv_iinc C.1 C.2.1 hd h1 hk hv hn hl (fun ls h1 => kk H locs ls h1 h2 h3 h4)
theorem k_pop (C : Cx p s m args meth c D tys EV A cc n ret own Ts) (pc : Nat) {v : Value} (hd : decode cc pc = .ok (.pop, 1)) (hv : v.category = 1) (kk : KX p l e R s m args below meth c D A n cells slots Q (pc + 1) lv st ws) : KX p l e R s m args below meth c D A n cells slots Q pc lv (v :: st) ws := fun H locs ls h1 h2 h3 h4 => lv_pop C.1 C.2.1 hd hv (kk H locs ls h1 h2 h3 h4)
theorem k_pop2 (C : Cx p s m args meth c D tys EV A cc n ret own Ts) (pc : Nat) {v : Value} (hd : decode cc pc = .ok (.pop2, 1)) (hv : v.category = 2) (kk : KX p l e R s m args below meth c D A n cells slots Q (pc + 1) lv st ws) : KX p l e R s m args below meth c D A n cells slots Q pc lv (v :: st) ws := fun H locs ls h1 h2 h3 h4 => lv_pop2_2 C.1 C.2.1 hd hv (kk H locs ls h1 h2 h3 h4)
theorem k_iadd (C : Cx p s m args meth c D tys EV A cc n ret own Ts) (pc : Nat) {x y : Int32} (hd : decode cc pc = .ok (.iadd, 1)) (kk : KX p l e R s m args below meth c D A n cells slots Q (pc + 1) lv (.int (x + y) :: st) ws) : KX p l e R s m args below meth c D A n cells slots Q pc lv (.int y :: .int x :: st) ws := fun H locs ls h1 h2 h3 h4 => lv_iadd C.1 C.2.1 hd (kk H locs ls h1 h2 h3 h4)
theorem k_isub (C : Cx p s m args meth c D tys EV A cc n ret own Ts) (pc : Nat) {x y : Int32} (hd : decode cc pc = .ok (.isub, 1)) (kk : KX p l e R s m args below meth c D A n cells slots Q (pc + 1) lv (.int (x - y) :: st) ws) : KX p l e R s m args below meth c D A n cells slots Q pc lv (.int y :: .int x :: st) ws := fun H locs ls h1 h2 h3 h4 => lv_isub C.1 C.2.1 hd (kk H locs ls h1 h2 h3 h4)
theorem k_iand (C : Cx p s m args meth c D tys EV A cc n ret own Ts) (pc : Nat) {x y : Int32} (hd : decode cc pc = .ok (.iand, 1)) (kk : KX p l e R s m args below meth c D A n cells slots Q (pc + 1) lv (.int (x &&& y) :: st) ws) : KX p l e R s m args below meth c D A n cells slots Q pc lv (.int y :: .int x :: st) ws := fun H locs ls h1 h2 h3 h4 => lv_iand C.1 C.2.1 hd (kk H locs ls h1 h2 h3 h4)
theorem k_goto (C : Cx p s m args meth c D tys EV A cc n ret own Ts) (pc tgt : Nat) {off : Int} (hd : decode cc pc = .ok (.goto off, 3)) (ht : (pc : Int) + off = (tgt : Int)) (kk : KX p l e R s m args below meth c D A n cells slots Q tgt lv st ws) : KX p l e R s m args below meth c D A n cells slots Q pc lv st ws := fun H locs ls h1 h2 h3 h4 => lv_goto C.1 C.2.1 hd ht (kk H locs ls h1 h2 h3 h4)
theorem k_lcmp (C : Cx p s m args meth c D tys EV A cc n ret own Ts) (pc : Nat) {x y : Int64} (hd : decode cc pc = .ok (.lcmp, 1)) (kk : KX p l e R s m args below meth c D A n cells slots Q (pc + 1) lv (.int (lg_cmp x y) :: st) ws) : KX p l e R s m args below meth c D A n cells slots Q pc lv (.long y :: .long x :: st) ws := fun H locs ls h1 h2 h3 h4 => W.lcmp C.1 C.2.1 hd (kk H locs ls h1 h2 h3 h4)
theorem k_icmp_gt (C : Cx p s m args meth c D tys EV A cc n ret own Ts) (pc tgt : Nat) {x y : Int32} {off : Int} (hd : decode cc pc = .ok (.if_icmp .gt off, 3)) (ht : (pc : Int) + off = (tgt : Int)) (kt : y < x → KX p l e R s m args below meth c D A n cells slots Q tgt lv st ws) (kf : ¬ y < x → KX p l e R s m args below meth c D A n cells slots Q (pc + 3) lv st ws) : KX p l e R s m args below meth c D A n cells slots Q pc lv (.int y :: .int x :: st) ws := fun H locs ls h1 h2 h3 h4 => lv_icmp_gt C.1 C.2.1 hd ht (fun q => kt q H locs ls h1 h2 h3 h4) (fun q => kf q H locs ls h1 h2 h3 h4)
theorem k_icmp_eqT (C : Cx p s m args meth c D tys EV A cc n ret own Ts) (pc tgt : Nat) {x : Int32} {off : Int} (hd : decode cc pc = .ok (.if_icmp .eq off, 3)) (ht : (pc : Int) + off = (tgt : Int)) (kt : KX p l e R s m args below meth c D A n cells slots Q tgt lv st ws) : KX p l e R s m args below meth c D A n cells slots Q pc lv (.int x :: .int x :: st) ws := fun H locs ls h1 h2 h3 h4 => lv_icmp_eq C.1 C.2.1 hd ht (fun q => kt H locs ls h1 h2 h3 h4) (fun q => absurd rfl q)
theorem k_if_eqT (C : Cx p s m args meth c D tys EV A cc n ret own Ts) (pc tgt : Nat) {x : Int32} {off : Int} (h0 : x = 0) (hd : decode cc pc = .ok (.ifCond .eq off, 3)) (ht : (pc : Int) + off = (tgt : Int)) (kt : KX p l e R s m args below meth c D A n cells slots Q tgt lv st ws) : KX p l e R s m args below meth c D A n cells slots Q pc lv (.int x :: st) ws := fun H locs ls h1 h2 h3 h4 => lv_if_eq C.1 C.2.1 hd ht (fun q => kt H locs ls h1 h2 h3 h4) (fun q => absurd h0 q)
theorem k_tsw (C : Cx p s m args meth c D tys EV A cc n ret own Ts) (pc tgt : Nat) {dflt lo hi off : Int} {offs : Array Int} {len : Nat} {x : Int32} (k : Int32) (hd : decode cc pc = .ok (.tableswitch dflt lo hi offs, len)) (h : (decide (lo ≤ k.toInt) && decide (k.toInt ≤ hi)) = true) (ho : offs[(k.toInt - lo).toNat]? = some off) (ht : (pc : Int) + off = (tgt : Int)) (kt : KX p l e R s m args below meth c D A n cells slots Q tgt lv st ws) (kf : ¬ x = k → KX p l e R s m args below meth c D A n cells slots Q pc lv (.int x :: st) ws) : KX p l e R s m args below meth c D A n cells slots Q pc lv (.int x :: st) ws := fun H locs ls h1 h2 h3 h4 => by
  simp only [Bool.and_eq_true, decide_eq_true_eq] at h
  by_cases q : x = k
  · subst q
    exact lv_tableIn C.1 C.2.1 hd (by omega) (by omega) ho ht (kt H locs ls h1 h2 h3 h4)
  · exact kf q H locs ls h1 h2 h3 h4
theorem k_tswD (C : Cx p s m args meth c D tys EV A cc n ret own Ts) (pc tgt : Nat) {dflt lo hi : Int} {offs : Array Int} {len : Nat} {x : Int32} (hd : decode cc pc = .ok (.tableswitch dflt lo hi offs, len)) (h : x.toInt < lo ∨ hi < x.toInt) (ht : (pc : Int) + dflt = (tgt : Int)) (kk : KX p l e R s m args below meth c D A n cells slots Q tgt lv st ws) : KX p l e R s m args below meth c D A n cells slots Q pc lv (.int x :: st) ws := fun H locs ls h1 h2 h3 h4 => lv_tableOut C.1 C.2.1 hd h ht (kk H locs ls h1 h2 h3 h4)
theorem k_sld (C : Cx p s m args meth c D tys EV A cc n ret own Ts) (pc : Nat) {b L : Nat} {xs : Nat → Int32} (hX : va_X b L xs s s.heap) (hbl : b < s.heap.size) (hbA : ¬ A b) {i : Int32} (hin : vp_in i L) (hd : decode cc pc = .ok (.iaload, 1)) (kk : KX p l e R s m args below meth c D A n cells slots Q (pc + 1) lv (.int (xs i.toNatClampNeg) :: st) ws) : KX p l e R s m args below meth c D A n cells slots Q pc lv (.int i :: .ref b :: st) ws := fun H locs ls h1 h2 h3 h4 => va_sld C.1 C.2.1 hX hbl hbA h4 hin hd (kk H locs ls h1 h2 h3 h4)
theorem k_slen (C : Cx p s m args meth c D tys EV A cc n ret own Ts) (pc : Nat) {b L : Nat} {xs : Nat → Int32} (hX : va_X b L xs s s.heap) (hbl : b < s.heap.size) (hbA : ¬ A b) (hd : decode cc pc = .ok (.arraylength, 1)) (kk : KX p l e R s m args below meth c D A n cells slots Q (pc + 1) lv (.int (nI L) :: st) ws) : KX p l e R s m args below meth c D A n cells slots Q pc lv (.ref b :: st) ws := fun H locs ls h1 h2 h3 h4 => va_slen C.1 C.2.1 hX hbl hbA h4 hd (kk H locs ls h1 h2 h3 h4)
theorem k_sub {pc : Nat} (lv' : List (Nat × Value)) (ks : List Nat) (hl : lv_pick lv ks = lv') (kk : KX p l e R s m args below meth c D A n cells slots Q pc lv' st ws) : KX p l e R s m args below meth c D A n cells slots Q pc lv st ws := fun H locs ls h1 h2 h3 h4 => kk H locs ls (lv_sub h1 ks hl) h2 h3 h4
theorem k_swap {pc : Nat} {x y : va_W} (kk : KX p l e R s m args below meth c D A n cells slots Q pc lv st (y ++ x)) : KX p l e R s m args below meth c D A n cells slots Q pc lv st (x ++ y) := fun H locs ls h1 h2 h3 h4 => kk H locs ls h1 (va_P_swap h2) (va_D_swap h3) h4
theorem l_free (C : Cx p s m args meth c D tys EV A cc n ret own Ts) {x y : va_W} {H : Heap} {locs : List Loc} (h3 : va_D A (x ++ y)) (h4 : va_S A s.heap H locs) : ∀ q, va_A x H.size q → A q := fun q h => by
  rcases h with ⟨k, z, h⟩ | h
  · exact (va_D_left h3).2 k _ h
  · exact C.2.2.2.2.2.2.1 q (Nat.le_trans h4.1 h)
theorem l_pre {wf : St → va_W} {u : St} {y : va_W} (C : Cx p s m args meth c D tys EV A cc n ret own Ts) (hE : EVok EV) {H : Heap} {locs : List Loc} (h2 : va_P D vwCl (wf u ++ y) H) (h3 : va_D A (wf u ++ y)) (h4 : va_S A s.heap H locs) {U : State} (hU : U.heap = H) (hW : s.WarmedH U.vm) : CtP D tys wf EV u H.size U :=
  ⟨by rw [hU], by rw [hU]; exact va_P_left h2, va_K.moved hW.alike C.2.2.2.2.2.1, (va_D_left h3).weaken (fun _ _ _ _ => trivial), by rw [hU]; exact hE A _ s U H locs C.2.2.2.2.2.2.2.2.1 h4 hW (l_free C h3 h4)⟩
theorem k_callVi {wf : St → va_W} {u u' : St} {r : Int32} {y : va_W} (C : Cx p s m args meth c D tys EV A cc n ret own Ts) (hE : EVok EV) (hV : EVvm EV) (pc nn : Nat) {idx b ci : Nat} {Cn : String} {T : u_T} {N maxL : Nat} {fs As st0 : List Value} {yy : MethodName} {w0 w0' : List Cond} {rm : Room} {bytes : ByteArray} {rt : Option FieldType} {oc : Option (Int32 × St)} (hM : CtI l D tys wf EV yy w0 rm (.ref b :: As) u oc) (ho : oc = some (r, u')) (hstk : st0 = As.reverse ++ .ref b :: st) (hT : GoodIn Ts (wsV own idx Cn yy w0)) (hw : w0 = Cond.code yy bytes maxL rt :: w0') (hrc : rm.cells = 0) (hrs : rm.slots = 0) (hy : yy.cls = Cn ∧ yy.cls ≠ "java/lang/invoke/MethodHandle" ∧ yy.cls ≠ "java/lang/invoke/VarHandle" ∧ (parseMethodDescriptor yy.desc).map (fun d => d.parameters.length) = some nn) (hR : rm.frames + 1 ≤ R.frames ∧ 8 + (maxL + 11) + rm.locals ≤ R.locals) (hR2 : cells ≤ R.cells ∧ slots ≤ R.slots) (he : (wf u)[0]? = some (b, .inr (ci, fs))) (hc : vwCl[ci]? = some (Cn, T, N)) (hn : As.length = nn) (h8 : (st.map fun v => v.category).sum ≤ 8) (hd : decode cc pc = .ok (.invokevirtual idx, 3)) (kk : KX p l e R s m args below meth c D A n cells slots Q (pc + 3) lv (.int r :: st) (wf u' ++ y)) : KX p l e R s m args below meth c D A n cells slots Q pc lv st0 (wf u ++ y) := fun H locs ls h1 h2 h3 h4 => by
  have hF := l_free C h3 h4
  refine va_calli (va_runV (As := As) (rest := st) ⟨C.1, C.2.1, C.2.2.1, C.2.2.2.1, C.2.2.2.2.1⟩ (hM (r, u') ho H.size) (cwV nn C.2.2.2.2.1 hT hw hrc hrs hy hR) ⟨ct_blind hV, va_recv C.2.2.2.2.2.1 (va_P_left h2) hc he, fun U hU hW => ⟨rfl, l_pre C hE h2 h3 h4 hU hW⟩⟩ rfl hn h1.1 hstk (lv_room h8) hd hR2) h4 (fun q _ h => hF q h) hF (fun r' u1 t H1 locs1 ht hvm hw hB hz hk1 hS => ?_)
  cases hw
  obtain ⟨b1, -, b3⟩ := hB
  rw [ht] at b1
  obtain ⟨g1, g2⟩ := l_join h2 h3 hk1 hF b1 b3
  exact kk H1 locs1 ls h1 g1 g2 hS
theorem k_callVl {wf : St → va_W} {u u' : St} {r : Int64} {y : va_W} (C : Cx p s m args meth c D tys EV A cc n ret own Ts) (hE : EVok EV) (hV : EVvm EV) (pc nn : Nat) {idx b ci : Nat} {Cn : String} {T : u_T} {N maxL : Nat} {fs As st0 : List Value} {yy : MethodName} {w0 w0' : List Cond} {rm : Room} {bytes : ByteArray} {rt : Option FieldType} {oc : Option (Int64 × St)} (hM : CtL l D tys wf EV yy w0 rm (.ref b :: As) u oc) (ho : oc = some (r, u')) (hstk : st0 = As.reverse ++ .ref b :: st) (hT : GoodIn Ts (wsV own idx Cn yy w0)) (hw : w0 = Cond.code yy bytes maxL rt :: w0') (hrc : rm.cells = 0) (hrs : rm.slots = 0) (hy : yy.cls = Cn ∧ yy.cls ≠ "java/lang/invoke/MethodHandle" ∧ yy.cls ≠ "java/lang/invoke/VarHandle" ∧ (parseMethodDescriptor yy.desc).map (fun d => d.parameters.length) = some nn) (hR : rm.frames + 1 ≤ R.frames ∧ 8 + (maxL + 11) + rm.locals ≤ R.locals) (hR2 : cells ≤ R.cells ∧ slots ≤ R.slots) (he : (wf u)[0]? = some (b, .inr (ci, fs))) (hc : vwCl[ci]? = some (Cn, T, N)) (hn : As.length = nn) (h8 : (st.map fun v => v.category).sum ≤ 8) (hd : decode cc pc = .ok (.invokevirtual idx, 3)) (kk : KX p l e R s m args below meth c D A n cells slots Q (pc + 3) lv (.long r :: st) (wf u' ++ y)) : KX p l e R s m args below meth c D A n cells slots Q pc lv st0 (wf u ++ y) := fun H locs ls h1 h2 h3 h4 => by
  have hF := l_free C h3 h4
  refine va_calll (va_runV (As := As) (rest := st) ⟨C.1, C.2.1, C.2.2.1, C.2.2.2.1, C.2.2.2.2.1⟩ (hM (r, u') ho H.size) (cwV nn C.2.2.2.2.1 hT hw hrc hrs hy hR) ⟨ct_blind hV, va_recv C.2.2.2.2.2.1 (va_P_left h2) hc he, fun U hU hW => ⟨rfl, l_pre C hE h2 h3 h4 hU hW⟩⟩ rfl hn h1.1 hstk (lv_room h8) hd hR2) h4 (fun q _ h => hF q h) hF (fun r' u1 t H1 locs1 ht hvm hw hB hz hk1 hS => ?_)
  cases hw
  obtain ⟨b1, -, b3⟩ := hB
  rw [ht] at b1
  obtain ⟨g1, g2⟩ := l_join h2 h3 hk1 hF b1 b3
  exact kk H1 locs1 ls h1 g1 g2 hS
theorem k_callP (C : Cx p s m args meth c D tys EV A cc n ret own Ts) (hE : EVok EV) (hV : EVvm EV) (pc : Nat) {idx b ci maxL : Nat} {fs : List Value} {y : MethodName} {w0 w0' : List Cond} {rm : Room} {bytes : ByteArray} {W0 : Nat → (Nat → Nat) → va_W} (wr : va_W) (hM : CtK l D tys EV y w0 rm ci fs W0) (hG : GoodIn Ts w0) (hw : w0 = Cond.code y bytes maxL none :: w0') (hl : Cond.methodLink own idx y ∈ Ts) (hini : Cond.initialized y.cls ∈ Ts) (hins : Cond.instanceMethod y ∈ Ts) (hyn : y.name = "<init>") (hy : y.cls ≠ "java/lang/invoke/MethodHandle" ∧ y.cls ≠ "java/lang/invoke/VarHandle" ∧ (parseMethodDescriptor y.desc).map (fun d => d.parameters.length) = some 0) (hR : rm.frames + 1 ≤ R.frames ∧ 8 + (maxL + 11) + rm.locals ≤ R.locals) (hR2 : cells + rm.cells ≤ R.cells ∧ slots + rm.slots ≤ R.slots) (hws : ws = wr ++ [(b, .inr (ci, fs))]) (h8 : (st.map fun v => v.category).sum ≤ 8) (hd : decode cc pc = .ok (.invokespecial idx, 3)) (kk : ∀ q : Nat → Nat, KX p l e R s m args below meth c D A n (cells + rm.cells) (slots + rm.slots) Q (pc + 3) lv st (wr ++ W0 b q)) : KX p l e R s m args below meth c D A n cells slots Q pc lv (.ref b :: st) ws := fun H locs ls h1 h2 h3 h4 => by
  have hb : ws[wr.length]? = some (b, .inr (ci, fs)) := by subst hws; simp
  have hPc : va_P D vwCl [(b, .inr (ci, fs))] H := h2.sub [wr.length] (by simp [hb])
  have hDc : va_D A [(b, .inr (ci, fs))] := h3.sub [wr.length] (by simp [va_nd]) (by simp [hb])
  have hF : ∀ q, va_A [(b, .inr (ci, fs))] H.size q → A q := fun q h => by
    rcases h with ⟨k, x, h⟩ | h
    · exact hDc.2 k _ h
    · exact C.2.2.2.2.2.2.1 q (Nat.le_trans h4.1 h)
  refine va_callv (va_runI (As := []) (rest := st) ⟨C.1, C.2.1, C.2.2.1, C.2.2.2.1, C.2.2.2.2.1⟩ (hM b H.size) (cwI 0 C.2.2.2.2.1 hG hw rfl rfl (C.2.2.2.2.1 _ hini) (C.2.2.2.2.1 _ hl) (C.2.2.2.2.1 _ hins) hyn hy hR) ⟨fun a U g mk q => ⟨q.1, q.2.1, q.2.2.1, va_K.moved (u := U) (U := U.calling g mk a) (Vm.Alike.refl U.vm) q.2.2.2.1, q.2.2.2.2.1, hV _ U (U.calling g mk a) U.heap rfl q.2.2.2.2.2⟩, fun U hU hW => ⟨rfl, by rw [hU], by rw [hU]; exact hPc, va_K.moved hW.alike C.2.2.2.2.2.1, hDc.weaken (fun _ _ _ _ => trivial), by rw [hU]; exact hE A _ s U H locs C.2.2.2.2.2.2.2.2.1 h4 hW hF⟩⟩ rfl rfl h1.1 rfl (lv_room h8) hd hR2) h4 (fun q _ h => hF q h) hF (fun q t H1 locs1 ht hvm hw hB hz hk1 hS => ?_)
  obtain ⟨b1, -, b3⟩ := hB
  rw [ht] at b1
  obtain ⟨g1, g2⟩ := k_join hws h2 h3 hk1 hF b1 b3
  exact kk q H1 locs1 ls h1 g1 g2 hS
end KXL
theorem Cx.env {p : Program} {s : State} {m : MethodId} {args : Array Value} {meth : Method} {c : Code} {D : va_G} {tys : List (ClassId × FieldType)} {EV EV2 : (Nat → Prop) → State → Heap → Prop} {A : Nat → Prop} {cc : ByteArray} {n : Nat} {ret : Option FieldType} {own : String} {Ts : List Cond} (C : Cx p s m args meth c D tys EV A cc n ret own Ts) (h : EV2 A s s.heap) : Cx p s m args meth c D tys EV2 A cc n ret own Ts := ⟨C.1, C.2.1, C.2.2.1, C.2.2.2.1, C.2.2.2.2.1, C.2.2.2.2.2.1, C.2.2.2.2.2.2.1, C.2.2.2.2.2.2.2.1, h, C.2.2.2.2.2.2.2.2.2⟩
theorem lg_cmp_self (x : Int64) : lg_cmp x x = 0 := by simp [lg_cmp]
end
section
def tmS (i : Nat) : Term := .string "SnuffCourt$Reader" (([72, 158, 160, 162, 164, 81, 86, 166, 168, 170, 172] : List Nat).getD i 0)
set_option maxRecDepth 100000 in
set_option maxHeartbeats 4000000 in
theorem sS_ex : ∀ i, i < 11 → Cond.exactly (tmS i) "java/lang/String" ∈ (flatC (Jvm.Cond.and given_1 narrow_1)) := by decide +kernel
set_option maxRecDepth 100000 in
set_option maxHeartbeats 4000000 in
theorem sS_co : ∀ i, i < 11 → Cond.eq (.field (tmS i) "java/lang/String" "coder" "B") (.int 0) ∈ (flatC (Jvm.Cond.and given_1 narrow_1)) := by decide +kernel
set_option maxRecDepth 100000 in
set_option maxHeartbeats 4000000 in
theorem sS_ar : ∀ i, i < 11 → Cond.arrayOf (.field (tmS i) "java/lang/String" "value" "[B") .byte ∈ (flatC (Jvm.Cond.and given_1 narrow_1)) := by decide +kernel
set_option maxRecDepth 100000 in
set_option maxHeartbeats 4000000 in
theorem sS_le : ∀ i, i < 11 → Cond.eq (.length (.field (tmS i) "java/lang/String" "value" "[B")) (.int (Int32.ofNat (lenS.getD i 0))) ∈ (flatC (Jvm.Cond.and given_1 narrow_1)) := by decide +kernel
set_option maxRecDepth 100000 in
set_option maxHeartbeats 4000000 in
theorem sS_el0 : ∀ j, j < 4 → Cond.eq (.elem (.field (tmS 0) "java/lang/String" "value" "[B") (.int (Int32.ofNat j))) (.int ((bytS.getD 0 []).getD j 0)) ∈ (flatC (Jvm.Cond.and given_1 narrow_1)) := by decide +kernel
set_option maxRecDepth 100000 in
set_option maxHeartbeats 4000000 in
theorem sS_el1 : ∀ j, j < 6 → Cond.eq (.elem (.field (tmS 1) "java/lang/String" "value" "[B") (.int (Int32.ofNat j))) (.int ((bytS.getD 1 []).getD j 0)) ∈ (flatC (Jvm.Cond.and given_1 narrow_1)) := by decide +kernel
set_option maxRecDepth 100000 in
set_option maxHeartbeats 4000000 in
theorem sS_el2 : ∀ j, j < 3 → Cond.eq (.elem (.field (tmS 2) "java/lang/String" "value" "[B") (.int (Int32.ofNat j))) (.int ((bytS.getD 2 []).getD j 0)) ∈ (flatC (Jvm.Cond.and given_1 narrow_1)) := by decide +kernel
set_option maxRecDepth 100000 in
set_option maxHeartbeats 4000000 in
theorem sS_el3 : ∀ j, j < 4 → Cond.eq (.elem (.field (tmS 3) "java/lang/String" "value" "[B") (.int (Int32.ofNat j))) (.int ((bytS.getD 3 []).getD j 0)) ∈ (flatC (Jvm.Cond.and given_1 narrow_1)) := by decide +kernel
set_option maxRecDepth 100000 in
set_option maxHeartbeats 4000000 in
theorem sS_el4 : ∀ j, j < 5 → Cond.eq (.elem (.field (tmS 4) "java/lang/String" "value" "[B") (.int (Int32.ofNat j))) (.int ((bytS.getD 4 []).getD j 0)) ∈ (flatC (Jvm.Cond.and given_1 narrow_1)) := by decide +kernel
set_option maxRecDepth 100000 in
set_option maxHeartbeats 4000000 in
theorem sS_el5 : ∀ j, j < 7 → Cond.eq (.elem (.field (tmS 5) "java/lang/String" "value" "[B") (.int (Int32.ofNat j))) (.int ((bytS.getD 5 []).getD j 0)) ∈ (flatC (Jvm.Cond.and given_1 narrow_1)) := by decide +kernel
set_option maxRecDepth 100000 in
set_option maxHeartbeats 4000000 in
theorem sS_el6 : ∀ j, j < 6 → Cond.eq (.elem (.field (tmS 6) "java/lang/String" "value" "[B") (.int (Int32.ofNat j))) (.int ((bytS.getD 6 []).getD j 0)) ∈ (flatC (Jvm.Cond.and given_1 narrow_1)) := by decide +kernel
set_option maxRecDepth 100000 in
set_option maxHeartbeats 4000000 in
theorem sS_el7 : ∀ j, j < 5 → Cond.eq (.elem (.field (tmS 7) "java/lang/String" "value" "[B") (.int (Int32.ofNat j))) (.int ((bytS.getD 7 []).getD j 0)) ∈ (flatC (Jvm.Cond.and given_1 narrow_1)) := by decide +kernel
set_option maxRecDepth 100000 in
set_option maxHeartbeats 4000000 in
theorem sS_el8 : ∀ j, j < 4 → Cond.eq (.elem (.field (tmS 8) "java/lang/String" "value" "[B") (.int (Int32.ofNat j))) (.int ((bytS.getD 8 []).getD j 0)) ∈ (flatC (Jvm.Cond.and given_1 narrow_1)) := by decide +kernel
set_option maxRecDepth 100000 in
set_option maxHeartbeats 4000000 in
theorem sS_el9 : ∀ j, j < 5 → Cond.eq (.elem (.field (tmS 9) "java/lang/String" "value" "[B") (.int (Int32.ofNat j))) (.int ((bytS.getD 9 []).getD j 0)) ∈ (flatC (Jvm.Cond.and given_1 narrow_1)) := by decide +kernel
set_option maxRecDepth 100000 in
set_option maxHeartbeats 4000000 in
theorem sS_el10 : ∀ j, j < 4 → Cond.eq (.elem (.field (tmS 10) "java/lang/String" "value" "[B") (.int (Int32.ofNat j))) (.int ((bytS.getD 10 []).getD j 0)) ∈ (flatC (Jvm.Cond.and given_1 narrow_1)) := by decide +kernel
theorem sS_el : ∀ i, i < 11 → ∀ j, j < lenS.getD i 0 → Cond.eq (.elem (.field (tmS i) "java/lang/String" "value" "[B") (.int (Int32.ofNat j))) (.int ((bytS.getD i []).getD j 0)) ∈ (flatC (Jvm.Cond.and given_1 narrow_1)) := fun i hi => match i, hi with
  | 0, _ => sS_el0
  | 1, _ => sS_el1
  | 2, _ => sS_el2
  | 3, _ => sS_el3
  | 4, _ => sS_el4
  | 5, _ => sS_el5
  | 6, _ => sS_el6
  | 7, _ => sS_el7
  | 8, _ => sS_el8
  | 9, _ => sS_el9
  | 10, _ => sS_el10
  | k + 11, h => absurd h (by omega)
set_option maxRecDepth 100000 in
set_option maxHeartbeats 4000000 in
theorem sS_ne0 : ∀ j, j < 11 → 0 ≠ j → Cond.not (Cond.eq (tmS 0) (tmS j)) ∈ (flatC (Jvm.Cond.and given_1 narrow_1)) ∨ Cond.not (Cond.eq (tmS j) (tmS 0)) ∈ (flatC (Jvm.Cond.and given_1 narrow_1)) := by decide +kernel
set_option maxRecDepth 100000 in
set_option maxHeartbeats 4000000 in
theorem sS_ne1 : ∀ j, j < 11 → 1 ≠ j → Cond.not (Cond.eq (tmS 1) (tmS j)) ∈ (flatC (Jvm.Cond.and given_1 narrow_1)) ∨ Cond.not (Cond.eq (tmS j) (tmS 1)) ∈ (flatC (Jvm.Cond.and given_1 narrow_1)) := by decide +kernel
set_option maxRecDepth 100000 in
set_option maxHeartbeats 4000000 in
theorem sS_ne2 : ∀ j, j < 11 → 2 ≠ j → Cond.not (Cond.eq (tmS 2) (tmS j)) ∈ (flatC (Jvm.Cond.and given_1 narrow_1)) ∨ Cond.not (Cond.eq (tmS j) (tmS 2)) ∈ (flatC (Jvm.Cond.and given_1 narrow_1)) := by decide +kernel
set_option maxRecDepth 100000 in
set_option maxHeartbeats 4000000 in
theorem sS_ne3 : ∀ j, j < 11 → 3 ≠ j → Cond.not (Cond.eq (tmS 3) (tmS j)) ∈ (flatC (Jvm.Cond.and given_1 narrow_1)) ∨ Cond.not (Cond.eq (tmS j) (tmS 3)) ∈ (flatC (Jvm.Cond.and given_1 narrow_1)) := by decide +kernel
set_option maxRecDepth 100000 in
set_option maxHeartbeats 4000000 in
theorem sS_ne4 : ∀ j, j < 11 → 4 ≠ j → Cond.not (Cond.eq (tmS 4) (tmS j)) ∈ (flatC (Jvm.Cond.and given_1 narrow_1)) ∨ Cond.not (Cond.eq (tmS j) (tmS 4)) ∈ (flatC (Jvm.Cond.and given_1 narrow_1)) := by decide +kernel
set_option maxRecDepth 100000 in
set_option maxHeartbeats 4000000 in
theorem sS_ne5 : ∀ j, j < 11 → 5 ≠ j → Cond.not (Cond.eq (tmS 5) (tmS j)) ∈ (flatC (Jvm.Cond.and given_1 narrow_1)) ∨ Cond.not (Cond.eq (tmS j) (tmS 5)) ∈ (flatC (Jvm.Cond.and given_1 narrow_1)) := by decide +kernel
set_option maxRecDepth 100000 in
set_option maxHeartbeats 4000000 in
theorem sS_ne6 : ∀ j, j < 11 → 6 ≠ j → Cond.not (Cond.eq (tmS 6) (tmS j)) ∈ (flatC (Jvm.Cond.and given_1 narrow_1)) ∨ Cond.not (Cond.eq (tmS j) (tmS 6)) ∈ (flatC (Jvm.Cond.and given_1 narrow_1)) := by decide +kernel
set_option maxRecDepth 100000 in
set_option maxHeartbeats 4000000 in
theorem sS_ne7 : ∀ j, j < 11 → 7 ≠ j → Cond.not (Cond.eq (tmS 7) (tmS j)) ∈ (flatC (Jvm.Cond.and given_1 narrow_1)) ∨ Cond.not (Cond.eq (tmS j) (tmS 7)) ∈ (flatC (Jvm.Cond.and given_1 narrow_1)) := by decide +kernel
set_option maxRecDepth 100000 in
set_option maxHeartbeats 4000000 in
theorem sS_ne8 : ∀ j, j < 11 → 8 ≠ j → Cond.not (Cond.eq (tmS 8) (tmS j)) ∈ (flatC (Jvm.Cond.and given_1 narrow_1)) ∨ Cond.not (Cond.eq (tmS j) (tmS 8)) ∈ (flatC (Jvm.Cond.and given_1 narrow_1)) := by decide +kernel
set_option maxRecDepth 100000 in
set_option maxHeartbeats 4000000 in
theorem sS_ne9 : ∀ j, j < 11 → 9 ≠ j → Cond.not (Cond.eq (tmS 9) (tmS j)) ∈ (flatC (Jvm.Cond.and given_1 narrow_1)) ∨ Cond.not (Cond.eq (tmS j) (tmS 9)) ∈ (flatC (Jvm.Cond.and given_1 narrow_1)) := by decide +kernel
set_option maxRecDepth 100000 in
set_option maxHeartbeats 4000000 in
theorem sS_ne10 : ∀ j, j < 11 → 10 ≠ j → Cond.not (Cond.eq (tmS 10) (tmS j)) ∈ (flatC (Jvm.Cond.and given_1 narrow_1)) ∨ Cond.not (Cond.eq (tmS j) (tmS 10)) ∈ (flatC (Jvm.Cond.and given_1 narrow_1)) := by decide +kernel
theorem sS_ne : ∀ i j, i < 11 → j < 11 → i ≠ j → Cond.not (Cond.eq (tmS i) (tmS j)) ∈ (flatC (Jvm.Cond.and given_1 narrow_1)) ∨ Cond.not (Cond.eq (tmS j) (tmS i)) ∈ (flatC (Jvm.Cond.and given_1 narrow_1)) := fun i j hi => match i, hi with
  | 0, _ => sS_ne0 j
  | 1, _ => sS_ne1 j
  | 2, _ => sS_ne2 j
  | 3, _ => sS_ne3 j
  | 4, _ => sS_ne4 j
  | 5, _ => sS_ne5 j
  | 6, _ => sS_ne6 j
  | 7, _ => sS_ne7 j
  | 8, _ => sS_ne8 j
  | 9, _ => sS_ne9 j
  | 10, _ => sS_ne10 j
  | k + 11, h => absurd h (by omega)
set_option maxRecDepth 100000 in
set_option maxHeartbeats 4000000 in
theorem sT_BURNS : Cond.arrayOf (.static "SnuffCourt" "BURNS" "[I") .int ∈ (flatC (Jvm.Cond.and given_1 narrow_1)) ∧ Cond.eq (.length (.static "SnuffCourt" "BURNS" "[I")) (.int (Int32.ofNat 4)) ∈ (flatC (Jvm.Cond.and given_1 narrow_1)) ∧ ∀ j, j < 4 → Cond.eq (.elem (.static "SnuffCourt" "BURNS" "[I") (.int (Int32.ofNat j))) (.int (tabBURNS j)) ∈ (flatC (Jvm.Cond.and given_1 narrow_1)) := by decide +kernel
set_option maxRecDepth 100000 in
set_option maxHeartbeats 4000000 in
theorem sT_FLAME_BOUNDS : Cond.arrayOf (.static "SnuffCourt" "FLAME_BOUNDS" "[I") .int ∈ (flatC (Jvm.Cond.and given_1 narrow_1)) ∧ Cond.eq (.length (.static "SnuffCourt" "FLAME_BOUNDS" "[I")) (.int (Int32.ofNat 3)) ∈ (flatC (Jvm.Cond.and given_1 narrow_1)) ∧ ∀ j, j < 3 → Cond.eq (.elem (.static "SnuffCourt" "FLAME_BOUNDS" "[I") (.int (Int32.ofNat j))) (.int (tabFLAME_BOUNDS j)) ∈ (flatC (Jvm.Cond.and given_1 narrow_1)) := by decide +kernel
set_option maxRecDepth 100000 in
set_option maxHeartbeats 4000000 in
theorem start_env {s : State} {b : Nat} (hts : ∀ w ∈ lw_tbl, w.before #[Value.ref b] s = true) (hgv : (Jvm.Cond.and given_1 narrow_1).before #[Value.ref b] s = true) : ∃ (tBURNS tFLAME_BOUNDS : Nat) (tS : Option Nat) (adK adV : Nat → Nat), EX tBURNS tFLAME_BOUNDS tS adK adV (fun q : Nat => s.heap.size ≤ q) s s.heap := by
  have hs := flat_of_before _ hgv
  have hA : ∀ a : Nat, a < s.heap.size → ¬ s.heap.size ≤ a := fun a h => Nat.not_le.mpr h
  obtain ⟨tBURNS, eBURNS, TBURNS⟩ := va_Tof (A := fun q : Nat => s.heap.size ≤ q) (f := fun j => .int (tabBURNS j)) (N := 4) (by decide) (hs _ sT_BURNS.1) (va_eqt (hs _ sT_BURNS.2.1)) (fun j hj => va_eqt (hs _ (sT_BURNS.2.2 j hj))) hA
  obtain ⟨tFLAME_BOUNDS, eFLAME_BOUNDS, TFLAME_BOUNDS⟩ := va_Tof (A := fun q : Nat => s.heap.size ≤ q) (f := fun j => .int (tabFLAME_BOUNDS j)) (N := 3) (by decide) (hs _ sT_FLAME_BOUNDS.1) (va_eqt (hs _ sT_FLAME_BOUNDS.2.1)) (fun j hj => va_eqt (hs _ (sT_FLAME_BOUNDS.2.2 j hj))) hA
  obtain ⟨adK, adV, hS, hSe⟩ := vk_Sof (A := fun q : Nat => s.heap.size ≤ q) (N := 11) (tm := tmS) (len := lenS) (byt := bytS) (by decide +kernel) (fun i hi => hs _ (sS_ex i hi)) (fun i hi => hs _ (sS_co i hi)) (fun i hi => hs _ (sS_ar i hi)) (fun i hi => hs _ (sS_le i hi)) (fun i hi j hj => hs _ (sS_el i hi j hj)) (fun i j hi hj h => (sS_ne i j hi hj h).elim (fun q => Or.inl (hs _ q)) (fun q => Or.inr (hs _ q))) hA
  have hq := va_Zqof (A := fun q : Nat => s.heap.size ≤ q) (hts (.laysStatic "jdk/internal/util/Preconditions" "SIOOBE_FORMATTER" "Ljava/util/function/BiFunction;") (by decide +kernel)) (hts (.initialized "jdk/internal/util/Preconditions") (by decide +kernel)) (hs (.isRef (.static "jdk/internal/util/Preconditions" "SIOOBE_FORMATTER" "Ljava/util/function/BiFunction;")) (by decide +kernel)) hA
  obtain ⟨tS, hZ⟩ : ∃ tS : Option Nat, va_Z "jdk/internal/util/Preconditions" "SIOOBE_FORMATTER" "Ljava/util/function/BiFunction;" (va_rf tS) (fun q : Nat => s.heap.size ≤ q) s s.heap := by
    rcases hq with h | ⟨t, h⟩
    · exact ⟨none, h⟩
    · exact ⟨some t, h⟩
  refine ⟨tBURNS, tFLAME_BOUNDS, tS, adK, adV, ⟨va_Zof (hts (.laysStatic "SnuffCourt" "BURNS" "[I") (by decide +kernel)) (hts (.initialized "SnuffCourt") (by decide +kernel)) eBURNS hA, TBURNS, va_Zof (hts (.laysStatic "SnuffCourt" "FLAME_BOUNDS" "[I") (by decide +kernel)) (hts (.initialized "SnuffCourt") (by decide +kernel)) eFLAME_BOUNDS hA, TFLAME_BOUNDS, va_Zof (hts (.laysStatic "java/lang/String" "COMPACT_STRINGS" "Z") (by decide +kernel)) (hts (.initialized "java/lang/String") (by decide +kernel)) (va_eqi (hs _ (show Cond.eq (.static "java/lang/String" "COMPACT_STRINGS" "Z") (.int 1) ∈ (flatC (Jvm.Cond.and given_1 narrow_1)) by decide +kernel))) hA, hZ, hS⟩, ⟨va_Nw.of rfl (hts (.methodLinkNest RX2 147 yX6_isIn RX6) (by decide +kernel)), va_Nw.of rfl (hts (.methodLinkNest RX0 64 yX6_isIn RX6) (by decide +kernel)), va_Nw.of rfl (hts (.methodLinkNest RX0 68 yX6_copyRow RX6) (by decide +kernel)), va_Nw.of rfl (hts (.methodLinkNest RX3 25 yX6_copyRow RX6) (by decide +kernel)), va_Nw.of rfl (hts (.methodLinkNest RX4 21 yX6_isIn RX6) (by decide +kernel)), va_Nw.of rfl (hts (.methodLinkNest RX6 11 yX0_init RX6) (by decide +kernel)), va_Nw.of rfl (hts (.methodLinkNest RX6 28 yX2_init RX6) (by decide +kernel)), va_Nw.of rfl (hts (.methodLinkNest RX2 17 yX0_init RX6) (by decide +kernel)), va_Nw.of rfl (hts (.methodLinkNest RX6 35 yX5_init RX6) (by decide +kernel)), va_Nw.of rfl (hts (.methodLinkNest RX6 42 yX3_init RX6) (by decide +kernel)), va_Nw.of rfl (hts (.methodLinkNest RX6 49 yX1_init RX6) (by decide +kernel)), va_Nw.of rfl (hts (.methodLinkNest RX6 56 yX4_init RX6) (by decide +kernel)), va_Nw.of rfl (hts (.fieldLinkNest RX5 65 "SnuffCourt" "BURNS" "[I" RX6) (by decide +kernel))⟩, ⟨vk_R.of (hts (.stringRef RX2 72 "case") (by decide +kernel)) (hSe 0 (by decide)), vk_R.of (hts (.stringRef RX2 158 "tallow") (by decide +kernel)) (hSe 1 (by decide)), vk_R.of (hts (.stringRef RX2 160 "wax") (by decide +kernel)) (hSe 2 (by decide)), vk_R.of (hts (.stringRef RX2 162 "bees") (by decide +kernel)) (hSe 3 (by decide)), vk_R.of (hts (.stringRef RX2 164 "thief") (by decide +kernel)) (hSe 4 (by decide)), vk_R.of (hts (.stringRef RX2 81 "draught") (by decide +kernel)) (hSe 5 (by decide)), vk_R.of (hts (.stringRef RX2 86 "docket") (by decide +kernel)) (hSe 6 (by decide)), vk_R.of (hts (.stringRef RX2 166 "first") (by decide +kernel)) (hSe 7 (by decide)), vk_R.of (hts (.stringRef RX2 168 "long") (by decide +kernel)) (hSe 8 (by decide)), vk_R.of (hts (.stringRef RX2 170 "short") (by decide +kernel)) (hSe 9 (by decide)), vk_R.of (hts (.stringRef RX2 172 "bare") (by decide +kernel)) (hSe 10 (by decide))⟩⟩
set_option maxRecDepth 100000 in
set_option maxHeartbeats 4000000 in
theorem start_K {s : State} {b : Nat} (hts : ∀ w ∈ lw_tbl, w.before #[Value.ref b] s = true) : ∃ (D : va_G) (cI cZ : ClassId), va_K D vwCl [(cI, .int), (cZ, .boolean)] s := by
  obtain ⟨c0, iS0, hKn0⟩ := u_known (C := RX0) (T := TX0) (N := 17) (n := 17) hts inX0 (hts (.instantiable RX0 17) (by decide +kernel))
  obtain ⟨c1, iS1, hKn1⟩ := u_known (C := RX1) (T := TX1) (N := 4) (n := 4) hts inX1 (hts (.instantiable RX1 4) (by decide +kernel))
  obtain ⟨c2, iS2, hKn2⟩ := u_known (C := RX2) (T := TX2) (N := 9) (n := 9) hts inX2 (hts (.instantiable RX2 9) (by decide +kernel))
  obtain ⟨c3, iS3, hKn3⟩ := u_known (C := RX3) (T := TX3) (N := 3) (n := 3) hts inX3 (hts (.instantiable RX3 3) (by decide +kernel))
  obtain ⟨c4, iS4, hKn4⟩ := u_known (C := RX4) (T := TX4) (N := 3) (n := 3) hts inX4 (hts (.instantiable RX4 3) (by decide +kernel))
  obtain ⟨c5, iS5, hKn5⟩ := u_known (C := RX5) (T := TX5) (N := 7) (n := 7) hts inX5 (hts (.instantiable RX5 7) (by decide +kernel))
  obtain ⟨c6, iS6, hKn6⟩ := u_known (C := RX6) (T := TX6) (N := 12) (n := 12) hts inX6 (hts (.instantiable RX6 12) (by decide +kernel))
  obtain ⟨c7, iS7, hKn7⟩ := u_known (C := RX7) (T := TX7) (N := 36) (n := 36) hts inX7 (hts (.instantiable RX7 36) (by decide +kernel))
  obtain ⟨cI, kI, pI, eI, fI, gI⟩ := Cond.arrayClass_spec (hts (.arrayClass .int) (by decide +kernel))
  obtain ⟨cZ, kZ, pZ, eZ, fZ, gZ⟩ := Cond.arrayClass_spec (hts (.arrayClass .boolean) (by decide +kernel))
  refine ⟨(fun k => if k = 0 then c0 else if k = 1 then c1 else if k = 2 then c2 else if k = 3 then c3 else if k = 4 then c4 else if k = 5 then c5 else if k = 6 then c6 else c7, fun k => if k = 0 then iS0 else if k = 1 then iS1 else if k = 2 then iS2 else if k = 3 then iS3 else if k = 4 then iS4 else if k = 5 then iS5 else if k = 6 then iS6 else iS7), cI, cZ, ?_, ?_⟩
  · intro k q hq
    match k, hq with
    | 0, hq => cases hq; exact hKn0
    | 1, hq => cases hq; exact hKn1
    | 2, hq => cases hq; exact hKn2
    | 3, hq => cases hq; exact hKn3
    | 4, hq => cases hq; exact hKn4
    | 5, hq => cases hq; exact hKn5
    | 6, hq => cases hq; exact hKn6
    | 7, hq => cases hq; exact hKn7
    | k + 8, hq => simp [vwCl] at hq
  · intro k q hq
    match k, hq with
    | 0, hq => cases hq; exact ⟨fun n z => ⟨fun k h => (by cases h), kI, fI, pI, gI⟩, eI⟩
    | 1, hq => cases hq; exact ⟨fun n z => ⟨fun k h => (by cases h), kZ, fZ, pZ, gZ⟩, eZ⟩
    | k + 2, hq => simp at hq
end
section
/-! THE CLAIM OUT OF ONE WALK OF THE LAW'S BODY. Your part is whole_start (and what it stands on); all else here is the same for every law, but numbers. -/
def R_law : String := "SnuffCourtLaw"
def lw_P (b : Addr) (xs : List Int32) (args : Array Value) (s : State) : Prop := args = #[.ref b] ∧ s.IntsAt b xs ∧ xs.length ≤ 384 ∧ (Jvm.Cond.and given_1 narrow_1).before args s = true
def lw_Q (_ : Array Value) (s : State) (o : Outcome) (t : State) : Prop := o = .returned (some (.int 1)) ∧ Framed s o t [] 91 1902
def lw_Z (below : List Frame) (a : Array Value) (s : State) : State → Prop := fun t => ∃ o, t.status = .running ∧ Ended t below o ∧ lw_Q a s o t
/-- the law's own end, with 1 on the stack, nothing written that was there before, its room as the claim has it -/
theorem lw_ret {p : Program} {l : Launch} {e : Env} {s : State} {m : MethodId} {below : List Frame} {meth : Method} {c : Code} {b : Nat} (hx : p.tables.exec = Jvm.exec) (hb : c.code = code) (hr : meth.sig.returnType = ret) (hlocks : meth.locks = false) {pc : Nat} {H : Heap} {ls : Array Slot} (hdg : decode code pc = .ok (.ireturn, 1)) : W p l e room_1 s m #[Value.ref b] below meth c H [] 91 1902 (lw_Z below #[Value.ref b] s) (F0 m pc ls [.int 1]) := by
  intro T hT X
  obtain ⟨fs, hret, hrun, hended, hW, hframe⟩ := X.leave (v := some (.int 1)) (hlocks := hlocks) (fun h => by rw [hr] at h; cases h)
  have hmeth' : T.vm.method? m = some meth := X.method'
  refine ⟨T.setFrames fs, ?_, .returned (some (.int 1)), hrun, hended, rfl, ⟨_, rfl⟩, hW, hframe⟩
  jvm_step X.here [X.here.top, hx, hb, hdg, hmeth', hr, ret, narrow_b1]
  (try refine ⟨rfl, ?_⟩); (try refine ⟨rfl, ?_⟩)
  first | (intro acts; rw [hret _ acts rfl rfl rfl]) | rw [hret _ _ rfl rfl rfl]
  exact Steps.refl _
/-- what holds at the law's entry: the machine, the code, the tables' words (any of lw_tbl by 'hts w (by decide +kernel)'), the script of L ints xs at the cell b, what the Statement gives of the start (any of its parts by flat_of_before) -/
def lw_At (p : Program) (s : State) (m : MethodId) (meth : Method) (c : Code) (b L : Nat) (xs : Nat → Int32) : Prop :=
  p.tables.exec = Jvm.exec ∧ c.code = code ∧ meth.sig.returnType = ret ∧ c.maxLocals = 4 ∧ s.vm.findClass R_law = some m.cls ∧ (∀ w ∈ lw_tbl, w.before #[Value.ref b] s = true) ∧ va_X b L xs s s.heap ∧ b < s.heap.size ∧ meth.locks = false ∧ (Jvm.Cond.and given_1 narrow_1).before #[Value.ref b] s = true
theorem l_in {i L : Nat} (hL : L ≤ 384) (h6 : i + 6 ≤ L) (k : Nat) (hk : k < 6) : vp_in (nI i + nI k) L := by
  rw [nI_add]
  exact vp_in_nI (by omega) (by omega)
set_option maxRecDepth 100000 in
set_option maxHeartbeats 4000000 in
theorem law_c0 {p : Program} {l : Launch} {e : Env} {s : State} {m : MethodId} {below : List Frame} {meth : Method} {c : Code} {D : va_G} {cI cZ : ClassId} {ad ad2 : Nat → Nat} {tBURNS tFLAME_BOUNDS : Nat} {tS : Option Nat} {adK adV : Nat → Nat} {b L : Nat} {xs : Nat → Int32} (hL : L ≤ 384) (hX : va_X b L xs s s.heap) (hbl : b < s.heap.size) (hbA : ¬ s.heap.size ≤ b) (C : Cx p s m #[Value.ref b] meth c D [(cI, .int), (cZ, .boolean)] (EX tBURNS tFLAME_BOUNDS tS adK adV) (fun q : Nat => s.heap.size ≤ q) cL_law 4 (some .boolean) RL wsL_law) {i : Nat} (h6 : i + 6 ≤ L) {u v u' v' : St} {r : Int32} (e1 : pX6_feed LF (xs (nI i + 1).toNatClampNeg) u = some (r, u')) (e2 : pX7_feed LF (xs (nI i + 1).toNatClampNeg) v = some (r, v')) (k : KX p l e room_1 s m #[Value.ref b] below meth c D (fun q : Nat => s.heap.size ≤ q) 4 91 1902 (lw_Z below #[Value.ref b] s) 1723 [(0, .ref b), (1, .ref (ad 0)), (2, .ref (ad2 0)), (3, .int (nI i))] [] (wX ad cI cZ u' ++ wM ad2 cI cZ v')) : KX p l e room_1 s m #[Value.ref b] below meth c D (fun q : Nat => s.heap.size ≤ q) 4 91 1902 (lw_Z below #[Value.ref b] s) 228 [(0, .ref b), (1, .ref (ad 0)), (2, .ref (ad2 0)), (3, .int (nI i))] [] (wX ad cI cZ u ++ wM ad2 cI cZ v) := by
  have C0 := C.env (EV2 := E0) trivial
  have hi := hL
  refine k_aload_n C 228 1 dL_law_228 rfl ?_
  refine k_aload_n C 229 0 dL_law_229 rfl ?_
  refine k_iload_n C 230 3 dL_law_230 rfl ?_
  refine k_iconst C 231 1 dL_law_231 rfl ?_
  refine k_iadd C 232 dL_law_232 ?_
  refine k_sld C 233 hX hbl hbA (l_in hi h6 1 (by decide)) dL_law_233 ?_
  refine k_callVi (st := []) (As := [.int (xs (nI i + 1).toNatClampNeg)]) C EX_ok EX_vm 234 1 (tX6_feed (ad := ad) LF (xs (nI i + 1).toNatClampNeg) u) e1 rfl gL_law_X6_feed rfl rfl rfl (by decide +kernel) ⟨Nat.le_of_ble_eq_true rfl, Nat.le_of_ble_eq_true rfl⟩ ⟨Nat.le_of_ble_eq_true rfl, Nat.le_of_ble_eq_true rfl⟩ rfl rfl rfl (Nat.le_of_ble_eq_true rfl) dL_law_234 ?_
  refine k_pop C 237 dL_law_237 rfl ?_
  refine k_aload_n C 238 2 dL_law_238 rfl ?_
  refine k_aload_n C 239 0 dL_law_239 rfl ?_
  refine k_iload_n C 240 3 dL_law_240 rfl ?_
  refine k_iconst C 241 1 dL_law_241 rfl ?_
  refine k_iadd C 242 dL_law_242 ?_
  refine k_sld C 243 hX hbl hbA (l_in hi h6 1 (by decide)) dL_law_243 ?_
  refine k_swap ?_
  refine k_callVi (st := []) (As := [.int (xs (nI i + 1).toNatClampNeg)]) C0 E0_ok E0_vm 244 1 (tX7_feed (ad := ad2) LF (xs (nI i + 1).toNatClampNeg) v) e2 rfl gL_law_X7_feed rfl rfl rfl (by decide +kernel) ⟨Nat.le_of_ble_eq_true rfl, Nat.le_of_ble_eq_true rfl⟩ ⟨Nat.le_of_ble_eq_true rfl, Nat.le_of_ble_eq_true rfl⟩ rfl rfl rfl (Nat.le_of_ble_eq_true rfl) dL_law_244 ?_
  refine k_swap ?_
  refine k_pop C 247 dL_law_247 rfl ?_
  exact k_goto C 248 1723 dL_law_248 (by decide) k
set_option maxRecDepth 100000 in
set_option maxHeartbeats 4000000 in
theorem law_c1 {p : Program} {l : Launch} {e : Env} {s : State} {m : MethodId} {below : List Frame} {meth : Method} {c : Code} {D : va_G} {cI cZ : ClassId} {ad ad2 : Nat → Nat} {tBURNS tFLAME_BOUNDS : Nat} {tS : Option Nat} {adK adV : Nat → Nat} {b L : Nat} {xs : Nat → Int32} (hL : L ≤ 384) (hX : va_X b L xs s s.heap) (hbl : b < s.heap.size) (hbA : ¬ s.heap.size ≤ b) (C : Cx p s m #[Value.ref b] meth c D [(cI, .int), (cZ, .boolean)] (EX tBURNS tFLAME_BOUNDS tS adK adV) (fun q : Nat => s.heap.size ≤ q) cL_law 4 (some .boolean) RL wsL_law) {i : Nat} (h6 : i + 6 ≤ L) {u v u' v' : St} {r : Int32} (e1 : pX6_end LF (xs (nI i + 1).toNatClampNeg) u = some (r, u')) (e2 : pX7_end LF (xs (nI i + 1).toNatClampNeg) v = some (r, v')) (k : KX p l e room_1 s m #[Value.ref b] below meth c D (fun q : Nat => s.heap.size ≤ q) 4 91 1902 (lw_Z below #[Value.ref b] s) 1723 [(0, .ref b), (1, .ref (ad 0)), (2, .ref (ad2 0)), (3, .int (nI i))] [] (wX ad cI cZ u' ++ wM ad2 cI cZ v')) : KX p l e room_1 s m #[Value.ref b] below meth c D (fun q : Nat => s.heap.size ≤ q) 4 91 1902 (lw_Z below #[Value.ref b] s) 251 [(0, .ref b), (1, .ref (ad 0)), (2, .ref (ad2 0)), (3, .int (nI i))] [] (wX ad cI cZ u ++ wM ad2 cI cZ v) := by
  have C0 := C.env (EV2 := E0) trivial
  have hi := hL
  refine k_aload_n C 251 1 dL_law_251 rfl ?_
  refine k_aload_n C 252 0 dL_law_252 rfl ?_
  refine k_iload_n C 253 3 dL_law_253 rfl ?_
  refine k_iconst C 254 1 dL_law_254 rfl ?_
  refine k_iadd C 255 dL_law_255 ?_
  refine k_sld C 256 hX hbl hbA (l_in hi h6 1 (by decide)) dL_law_256 ?_
  refine k_callVi (st := []) (As := [.int (xs (nI i + 1).toNatClampNeg)]) C EX_ok EX_vm 257 1 (tX6_end (ad := ad) LF (xs (nI i + 1).toNatClampNeg) u) e1 rfl gL_law_X6_end rfl rfl rfl (by decide +kernel) ⟨Nat.le_of_ble_eq_true rfl, Nat.le_of_ble_eq_true rfl⟩ ⟨Nat.le_of_ble_eq_true rfl, Nat.le_of_ble_eq_true rfl⟩ rfl rfl rfl (Nat.le_of_ble_eq_true rfl) dL_law_257 ?_
  refine k_pop C 260 dL_law_260 rfl ?_
  refine k_aload_n C 261 2 dL_law_261 rfl ?_
  refine k_aload_n C 262 0 dL_law_262 rfl ?_
  refine k_iload_n C 263 3 dL_law_263 rfl ?_
  refine k_iconst C 264 1 dL_law_264 rfl ?_
  refine k_iadd C 265 dL_law_265 ?_
  refine k_sld C 266 hX hbl hbA (l_in hi h6 1 (by decide)) dL_law_266 ?_
  refine k_swap ?_
  refine k_callVi (st := []) (As := [.int (xs (nI i + 1).toNatClampNeg)]) C0 E0_ok E0_vm 267 1 (tX7_end (ad := ad2) LF (xs (nI i + 1).toNatClampNeg) v) e2 rfl gL_law_X7_end rfl rfl rfl (by decide +kernel) ⟨Nat.le_of_ble_eq_true rfl, Nat.le_of_ble_eq_true rfl⟩ ⟨Nat.le_of_ble_eq_true rfl, Nat.le_of_ble_eq_true rfl⟩ rfl rfl rfl (Nat.le_of_ble_eq_true rfl) dL_law_267 ?_
  refine k_swap ?_
  refine k_pop C 270 dL_law_270 rfl ?_
  exact k_goto C 271 1723 dL_law_271 (by decide) k
set_option maxRecDepth 100000 in
set_option maxHeartbeats 4000000 in
theorem law_c2 {p : Program} {l : Launch} {e : Env} {s : State} {m : MethodId} {below : List Frame} {meth : Method} {c : Code} {D : va_G} {cI cZ : ClassId} {ad ad2 : Nat → Nat} {tBURNS tFLAME_BOUNDS : Nat} {tS : Option Nat} {adK adV : Nat → Nat} {b L : Nat} {xs : Nat → Int32} (hL : L ≤ 384) (hX : va_X b L xs s s.heap) (hbl : b < s.heap.size) (hbA : ¬ s.heap.size ≤ b) (C : Cx p s m #[Value.ref b] meth c D [(cI, .int), (cZ, .boolean)] (EX tBURNS tFLAME_BOUNDS tS adK adV) (fun q : Nat => s.heap.size ≤ q) cL_law 4 (some .boolean) RL wsL_law) {i : Nat} (h6 : i + 6 ≤ L) {u v u' v' : St} {r : Int32} (e1 : pX6_text LF u = some (r, u')) (e2 : pX7_text LF v = some (r, v')) (k : KX p l e room_1 s m #[Value.ref b] below meth c D (fun q : Nat => s.heap.size ≤ q) 4 91 1902 (lw_Z below #[Value.ref b] s) 1723 [(0, .ref b), (1, .ref (ad 0)), (2, .ref (ad2 0)), (3, .int (nI i))] [] (wX ad cI cZ u' ++ wM ad2 cI cZ v')) : KX p l e room_1 s m #[Value.ref b] below meth c D (fun q : Nat => s.heap.size ≤ q) 4 91 1902 (lw_Z below #[Value.ref b] s) 274 [(0, .ref b), (1, .ref (ad 0)), (2, .ref (ad2 0)), (3, .int (nI i))] [] (wX ad cI cZ u ++ wM ad2 cI cZ v) := by
  have C0 := C.env (EV2 := E0) trivial
  have hi := hL
  refine k_aload_n C 274 1 dL_law_274 rfl ?_
  refine k_callVi (st := []) (As := []) C EX_ok EX_vm 275 0 (tX6_text (ad := ad) LF u) e1 rfl gL_law_X6_text rfl rfl rfl (by decide +kernel) ⟨Nat.le_of_ble_eq_true rfl, Nat.le_of_ble_eq_true rfl⟩ ⟨Nat.le_of_ble_eq_true rfl, Nat.le_of_ble_eq_true rfl⟩ rfl rfl rfl (Nat.le_of_ble_eq_true rfl) dL_law_275 ?_
  refine k_pop C 278 dL_law_278 rfl ?_
  refine k_aload_n C 279 2 dL_law_279 rfl ?_
  refine k_swap ?_
  refine k_callVi (st := []) (As := []) C0 E0_ok E0_vm 280 0 (tX7_text (ad := ad2) LF v) e2 rfl gL_law_X7_text rfl rfl rfl (by decide +kernel) ⟨Nat.le_of_ble_eq_true rfl, Nat.le_of_ble_eq_true rfl⟩ ⟨Nat.le_of_ble_eq_true rfl, Nat.le_of_ble_eq_true rfl⟩ rfl rfl rfl (Nat.le_of_ble_eq_true rfl) dL_law_280 ?_
  refine k_swap ?_
  refine k_pop C 283 dL_law_283 rfl ?_
  exact k_goto C 284 1723 dL_law_284 (by decide) k
set_option maxRecDepth 100000 in
set_option maxHeartbeats 4000000 in
theorem law_c3 {p : Program} {l : Launch} {e : Env} {s : State} {m : MethodId} {below : List Frame} {meth : Method} {c : Code} {D : va_G} {cI cZ : ClassId} {ad ad2 : Nat → Nat} {tBURNS tFLAME_BOUNDS : Nat} {tS : Option Nat} {adK adV : Nat → Nat} {b L : Nat} {xs : Nat → Int32} (hL : L ≤ 384) (hX : va_X b L xs s s.heap) (hbl : b < s.heap.size) (hbA : ¬ s.heap.size ≤ b) (C : Cx p s m #[Value.ref b] meth c D [(cI, .int), (cZ, .boolean)] (EX tBURNS tFLAME_BOUNDS tS adK adV) (fun q : Nat => s.heap.size ≤ q) cL_law 4 (some .boolean) RL wsL_law) {i : Nat} (h6 : i + 6 ≤ L) {u v u' v' : St} {r r2 : Int32} (e1 : pX6_fault LF u = some (r, u')) (e2 : pX7_fault LF v = some (r2, v')) (k : KX p l e room_1 s m #[Value.ref b] below meth c D (fun q : Nat => s.heap.size ≤ q) 4 91 1902 (lw_Z below #[Value.ref b] s) 1723 [(0, .ref b), (1, .ref (ad 0)), (2, .ref (ad2 0)), (3, .int (nI i))] [] (wX ad cI cZ u' ++ wM ad2 cI cZ v')) : KX p l e room_1 s m #[Value.ref b] below meth c D (fun q : Nat => s.heap.size ≤ q) 4 91 1902 (lw_Z below #[Value.ref b] s) 287 [(0, .ref b), (1, .ref (ad 0)), (2, .ref (ad2 0)), (3, .int (nI i))] [] (wX ad cI cZ u ++ wM ad2 cI cZ v) := by
  have C0 := C.env (EV2 := E0) trivial
  have hi := hL
  refine k_aload_n C 287 1 dL_law_287 rfl ?_
  refine k_callVi (st := []) (As := []) C EX_ok EX_vm 288 0 (tX6_fault (ad := ad) LF u) e1 rfl gL_law_X6_fault rfl rfl rfl (by decide +kernel) ⟨Nat.le_of_ble_eq_true rfl, Nat.le_of_ble_eq_true rfl⟩ ⟨Nat.le_of_ble_eq_true rfl, Nat.le_of_ble_eq_true rfl⟩ rfl rfl rfl (Nat.le_of_ble_eq_true rfl) dL_law_288 ?_
  refine k_pop C 291 dL_law_291 rfl ?_
  refine k_aload_n C 292 2 dL_law_292 rfl ?_
  refine k_swap ?_
  refine k_callVi (st := []) (As := []) C0 E0_ok E0_vm 293 0 (tX7_fault (ad := ad2) LF v) e2 rfl gL_law_X7_fault rfl rfl rfl (by decide +kernel) ⟨Nat.le_of_ble_eq_true rfl, Nat.le_of_ble_eq_true rfl⟩ ⟨Nat.le_of_ble_eq_true rfl, Nat.le_of_ble_eq_true rfl⟩ rfl rfl rfl (Nat.le_of_ble_eq_true rfl) dL_law_293 ?_
  refine k_swap ?_
  refine k_pop C 296 dL_law_296 rfl ?_
  exact k_goto C 297 1723 dL_law_297 (by decide) k
set_option maxRecDepth 100000 in
set_option maxHeartbeats 4000000 in
theorem law_c4 {p : Program} {l : Launch} {e : Env} {s : State} {m : MethodId} {below : List Frame} {meth : Method} {c : Code} {D : va_G} {cI cZ : ClassId} {ad ad2 : Nat → Nat} {tBURNS tFLAME_BOUNDS : Nat} {tS : Option Nat} {adK adV : Nat → Nat} {b L : Nat} {xs : Nat → Int32} (hL : L ≤ 384) (hX : va_X b L xs s s.heap) (hbl : b < s.heap.size) (hbA : ¬ s.heap.size ≤ b) (C : Cx p s m #[Value.ref b] meth c D [(cI, .int), (cZ, .boolean)] (EX tBURNS tFLAME_BOUNDS tS adK adV) (fun q : Nat => s.heap.size ≤ q) cL_law 4 (some .boolean) RL wsL_law) {i : Nat} (h6 : i + 6 ≤ L) {u v u' v' : St} {r : Int32} (e1 : pX6_rule LF (xs (nI i + 1).toNatClampNeg) u = some (r, u')) (e2 : pX7_rule LF (xs (nI i + 1).toNatClampNeg) v = some (r, v')) (k : KX p l e room_1 s m #[Value.ref b] below meth c D (fun q : Nat => s.heap.size ≤ q) 4 91 1902 (lw_Z below #[Value.ref b] s) 1723 [(0, .ref b), (1, .ref (ad 0)), (2, .ref (ad2 0)), (3, .int (nI i))] [] (wX ad cI cZ u' ++ wM ad2 cI cZ v')) : KX p l e room_1 s m #[Value.ref b] below meth c D (fun q : Nat => s.heap.size ≤ q) 4 91 1902 (lw_Z below #[Value.ref b] s) 300 [(0, .ref b), (1, .ref (ad 0)), (2, .ref (ad2 0)), (3, .int (nI i))] [] (wX ad cI cZ u ++ wM ad2 cI cZ v) := by
  have C0 := C.env (EV2 := E0) trivial
  have hi := hL
  refine k_aload_n C 300 1 dL_law_300 rfl ?_
  refine k_aload_n C 301 0 dL_law_301 rfl ?_
  refine k_iload_n C 302 3 dL_law_302 rfl ?_
  refine k_iconst C 303 1 dL_law_303 rfl ?_
  refine k_iadd C 304 dL_law_304 ?_
  refine k_sld C 305 hX hbl hbA (l_in hi h6 1 (by decide)) dL_law_305 ?_
  refine k_callVi (st := []) (As := [.int (xs (nI i + 1).toNatClampNeg)]) C EX_ok EX_vm 306 1 (tX6_rule (ad := ad) LF (xs (nI i + 1).toNatClampNeg) u) e1 rfl gL_law_X6_rule rfl rfl rfl (by decide +kernel) ⟨Nat.le_of_ble_eq_true rfl, Nat.le_of_ble_eq_true rfl⟩ ⟨Nat.le_of_ble_eq_true rfl, Nat.le_of_ble_eq_true rfl⟩ rfl rfl rfl (Nat.le_of_ble_eq_true rfl) dL_law_306 ?_
  refine k_pop C 309 dL_law_309 rfl ?_
  refine k_aload_n C 310 2 dL_law_310 rfl ?_
  refine k_aload_n C 311 0 dL_law_311 rfl ?_
  refine k_iload_n C 312 3 dL_law_312 rfl ?_
  refine k_iconst C 313 1 dL_law_313 rfl ?_
  refine k_iadd C 314 dL_law_314 ?_
  refine k_sld C 315 hX hbl hbA (l_in hi h6 1 (by decide)) dL_law_315 ?_
  refine k_swap ?_
  refine k_callVi (st := []) (As := [.int (xs (nI i + 1).toNatClampNeg)]) C0 E0_ok E0_vm 316 1 (tX7_rule (ad := ad2) LF (xs (nI i + 1).toNatClampNeg) v) e2 rfl gL_law_X7_rule rfl rfl rfl (by decide +kernel) ⟨Nat.le_of_ble_eq_true rfl, Nat.le_of_ble_eq_true rfl⟩ ⟨Nat.le_of_ble_eq_true rfl, Nat.le_of_ble_eq_true rfl⟩ rfl rfl rfl (Nat.le_of_ble_eq_true rfl) dL_law_316 ?_
  refine k_swap ?_
  refine k_pop C 319 dL_law_319 rfl ?_
  exact k_goto C 320 1723 dL_law_320 (by decide) k
set_option maxRecDepth 100000 in
set_option maxHeartbeats 4000000 in
theorem law_c5 {p : Program} {l : Launch} {e : Env} {s : State} {m : MethodId} {below : List Frame} {meth : Method} {c : Code} {D : va_G} {cI cZ : ClassId} {ad ad2 : Nat → Nat} {tBURNS tFLAME_BOUNDS : Nat} {tS : Option Nat} {adK adV : Nat → Nat} {b L : Nat} {xs : Nat → Int32} (hL : L ≤ 384) (hX : va_X b L xs s s.heap) (hbl : b < s.heap.size) (hbA : ¬ s.heap.size ≤ b) (C : Cx p s m #[Value.ref b] meth c D [(cI, .int), (cZ, .boolean)] (EX tBURNS tFLAME_BOUNDS tS adK adV) (fun q : Nat => s.heap.size ≤ q) cL_law 4 (some .boolean) RL wsL_law) {i : Nat} (h6 : i + 6 ≤ L) {u v u' v' : St} {r : Int32} (e1 : pX6_flame LF (xs (nI i + 1).toNatClampNeg) (xs (nI i + 2).toNatClampNeg) (xs (nI i + 3).toNatClampNeg) u = some (r, u')) (e2 : pX7_flame LF (xs (nI i + 1).toNatClampNeg) (xs (nI i + 2).toNatClampNeg) (xs (nI i + 3).toNatClampNeg) v = some (r, v')) (k : KX p l e room_1 s m #[Value.ref b] below meth c D (fun q : Nat => s.heap.size ≤ q) 4 91 1902 (lw_Z below #[Value.ref b] s) 1723 [(0, .ref b), (1, .ref (ad 0)), (2, .ref (ad2 0)), (3, .int (nI i))] [] (wX ad cI cZ u' ++ wM ad2 cI cZ v')) : KX p l e room_1 s m #[Value.ref b] below meth c D (fun q : Nat => s.heap.size ≤ q) 4 91 1902 (lw_Z below #[Value.ref b] s) 323 [(0, .ref b), (1, .ref (ad 0)), (2, .ref (ad2 0)), (3, .int (nI i))] [] (wX ad cI cZ u ++ wM ad2 cI cZ v) := by
  have C0 := C.env (EV2 := E0) trivial
  have hi := hL
  refine k_aload_n C 323 1 dL_law_323 rfl ?_
  refine k_aload_n C 324 0 dL_law_324 rfl ?_
  refine k_iload_n C 325 3 dL_law_325 rfl ?_
  refine k_iconst C 326 1 dL_law_326 rfl ?_
  refine k_iadd C 327 dL_law_327 ?_
  refine k_sld C 328 hX hbl hbA (l_in hi h6 1 (by decide)) dL_law_328 ?_
  refine k_aload_n C 329 0 dL_law_329 rfl ?_
  refine k_iload_n C 330 3 dL_law_330 rfl ?_
  refine k_iconst C 331 2 dL_law_331 rfl ?_
  refine k_iadd C 332 dL_law_332 ?_
  refine k_sld C 333 hX hbl hbA (l_in hi h6 2 (by decide)) dL_law_333 ?_
  refine k_aload_n C 334 0 dL_law_334 rfl ?_
  refine k_iload_n C 335 3 dL_law_335 rfl ?_
  refine k_iconst C 336 3 dL_law_336 rfl ?_
  refine k_iadd C 337 dL_law_337 ?_
  refine k_sld C 338 hX hbl hbA (l_in hi h6 3 (by decide)) dL_law_338 ?_
  refine k_callVi (st := []) (As := [.int (xs (nI i + 1).toNatClampNeg), .int (xs (nI i + 2).toNatClampNeg), .int (xs (nI i + 3).toNatClampNeg)]) C EX_ok EX_vm 339 3 (tX6_flame (ad := ad) LF (xs (nI i + 1).toNatClampNeg) (xs (nI i + 2).toNatClampNeg) (xs (nI i + 3).toNatClampNeg) u) e1 rfl gL_law_X6_flame rfl rfl rfl (by decide +kernel) ⟨Nat.le_of_ble_eq_true rfl, Nat.le_of_ble_eq_true rfl⟩ ⟨Nat.le_of_ble_eq_true rfl, Nat.le_of_ble_eq_true rfl⟩ rfl rfl rfl (Nat.le_of_ble_eq_true rfl) dL_law_339 ?_
  refine k_pop C 342 dL_law_342 rfl ?_
  refine k_aload_n C 343 2 dL_law_343 rfl ?_
  refine k_aload_n C 344 0 dL_law_344 rfl ?_
  refine k_iload_n C 345 3 dL_law_345 rfl ?_
  refine k_iconst C 346 1 dL_law_346 rfl ?_
  refine k_iadd C 347 dL_law_347 ?_
  refine k_sld C 348 hX hbl hbA (l_in hi h6 1 (by decide)) dL_law_348 ?_
  refine k_aload_n C 349 0 dL_law_349 rfl ?_
  refine k_iload_n C 350 3 dL_law_350 rfl ?_
  refine k_iconst C 351 2 dL_law_351 rfl ?_
  refine k_iadd C 352 dL_law_352 ?_
  refine k_sld C 353 hX hbl hbA (l_in hi h6 2 (by decide)) dL_law_353 ?_
  refine k_aload_n C 354 0 dL_law_354 rfl ?_
  refine k_iload_n C 355 3 dL_law_355 rfl ?_
  refine k_iconst C 356 3 dL_law_356 rfl ?_
  refine k_iadd C 357 dL_law_357 ?_
  refine k_sld C 358 hX hbl hbA (l_in hi h6 3 (by decide)) dL_law_358 ?_
  refine k_swap ?_
  refine k_callVi (st := []) (As := [.int (xs (nI i + 1).toNatClampNeg), .int (xs (nI i + 2).toNatClampNeg), .int (xs (nI i + 3).toNatClampNeg)]) C0 E0_ok E0_vm 359 3 (tX7_flame (ad := ad2) LF (xs (nI i + 1).toNatClampNeg) (xs (nI i + 2).toNatClampNeg) (xs (nI i + 3).toNatClampNeg) v) e2 rfl gL_law_X7_flame rfl rfl rfl (by decide +kernel) ⟨Nat.le_of_ble_eq_true rfl, Nat.le_of_ble_eq_true rfl⟩ ⟨Nat.le_of_ble_eq_true rfl, Nat.le_of_ble_eq_true rfl⟩ rfl rfl rfl (Nat.le_of_ble_eq_true rfl) dL_law_359 ?_
  refine k_swap ?_
  refine k_pop C 362 dL_law_362 rfl ?_
  exact k_goto C 363 1723 dL_law_363 (by decide) k
set_option maxRecDepth 100000 in
set_option maxHeartbeats 4000000 in
theorem law_c6 {p : Program} {l : Launch} {e : Env} {s : State} {m : MethodId} {below : List Frame} {meth : Method} {c : Code} {D : va_G} {cI cZ : ClassId} {ad ad2 : Nat → Nat} {tBURNS tFLAME_BOUNDS : Nat} {tS : Option Nat} {adK adV : Nat → Nat} {b L : Nat} {xs : Nat → Int32} (hL : L ≤ 384) (hX : va_X b L xs s s.heap) (hbl : b < s.heap.size) (hbA : ¬ s.heap.size ≤ b) (C : Cx p s m #[Value.ref b] meth c D [(cI, .int), (cZ, .boolean)] (EX tBURNS tFLAME_BOUNDS tS adK adV) (fun q : Nat => s.heap.size ≤ q) cL_law 4 (some .boolean) RL wsL_law) {i : Nat} (h6 : i + 6 ≤ L) {u v u' v' : St} {r : Int32} (e1 : pX6_suit LF (xs (nI i + 1).toNatClampNeg) (xs (nI i + 2).toNatClampNeg) u = some (r, u')) (e2 : pX7_suit LF (xs (nI i + 1).toNatClampNeg) (xs (nI i + 2).toNatClampNeg) v = some (r, v')) (k : KX p l e room_1 s m #[Value.ref b] below meth c D (fun q : Nat => s.heap.size ≤ q) 4 91 1902 (lw_Z below #[Value.ref b] s) 1723 [(0, .ref b), (1, .ref (ad 0)), (2, .ref (ad2 0)), (3, .int (nI i))] [] (wX ad cI cZ u' ++ wM ad2 cI cZ v')) : KX p l e room_1 s m #[Value.ref b] below meth c D (fun q : Nat => s.heap.size ≤ q) 4 91 1902 (lw_Z below #[Value.ref b] s) 366 [(0, .ref b), (1, .ref (ad 0)), (2, .ref (ad2 0)), (3, .int (nI i))] [] (wX ad cI cZ u ++ wM ad2 cI cZ v) := by
  have C0 := C.env (EV2 := E0) trivial
  have hi := hL
  refine k_aload_n C 366 1 dL_law_366 rfl ?_
  refine k_aload_n C 367 0 dL_law_367 rfl ?_
  refine k_iload_n C 368 3 dL_law_368 rfl ?_
  refine k_iconst C 369 1 dL_law_369 rfl ?_
  refine k_iadd C 370 dL_law_370 ?_
  refine k_sld C 371 hX hbl hbA (l_in hi h6 1 (by decide)) dL_law_371 ?_
  refine k_aload_n C 372 0 dL_law_372 rfl ?_
  refine k_iload_n C 373 3 dL_law_373 rfl ?_
  refine k_iconst C 374 2 dL_law_374 rfl ?_
  refine k_iadd C 375 dL_law_375 ?_
  refine k_sld C 376 hX hbl hbA (l_in hi h6 2 (by decide)) dL_law_376 ?_
  refine k_callVi (st := []) (As := [.int (xs (nI i + 1).toNatClampNeg), .int (xs (nI i + 2).toNatClampNeg)]) C EX_ok EX_vm 377 2 (tX6_suit (ad := ad) LF (xs (nI i + 1).toNatClampNeg) (xs (nI i + 2).toNatClampNeg) u) e1 rfl gL_law_X6_suit rfl rfl rfl (by decide +kernel) ⟨Nat.le_of_ble_eq_true rfl, Nat.le_of_ble_eq_true rfl⟩ ⟨Nat.le_of_ble_eq_true rfl, Nat.le_of_ble_eq_true rfl⟩ rfl rfl rfl (Nat.le_of_ble_eq_true rfl) dL_law_377 ?_
  refine k_pop C 380 dL_law_380 rfl ?_
  refine k_aload_n C 381 2 dL_law_381 rfl ?_
  refine k_aload_n C 382 0 dL_law_382 rfl ?_
  refine k_iload_n C 383 3 dL_law_383 rfl ?_
  refine k_iconst C 384 1 dL_law_384 rfl ?_
  refine k_iadd C 385 dL_law_385 ?_
  refine k_sld C 386 hX hbl hbA (l_in hi h6 1 (by decide)) dL_law_386 ?_
  refine k_aload_n C 387 0 dL_law_387 rfl ?_
  refine k_iload_n C 388 3 dL_law_388 rfl ?_
  refine k_iconst C 389 2 dL_law_389 rfl ?_
  refine k_iadd C 390 dL_law_390 ?_
  refine k_sld C 391 hX hbl hbA (l_in hi h6 2 (by decide)) dL_law_391 ?_
  refine k_swap ?_
  refine k_callVi (st := []) (As := [.int (xs (nI i + 1).toNatClampNeg), .int (xs (nI i + 2).toNatClampNeg)]) C0 E0_ok E0_vm 392 2 (tX7_suit (ad := ad2) LF (xs (nI i + 1).toNatClampNeg) (xs (nI i + 2).toNatClampNeg) v) e2 rfl gL_law_X7_suit rfl rfl rfl (by decide +kernel) ⟨Nat.le_of_ble_eq_true rfl, Nat.le_of_ble_eq_true rfl⟩ ⟨Nat.le_of_ble_eq_true rfl, Nat.le_of_ble_eq_true rfl⟩ rfl rfl rfl (Nat.le_of_ble_eq_true rfl) dL_law_392 ?_
  refine k_swap ?_
  refine k_pop C 395 dL_law_395 rfl ?_
  exact k_goto C 396 1723 dL_law_396 (by decide) k
set_option maxRecDepth 100000 in
set_option maxHeartbeats 4000000 in
theorem law_c7 {p : Program} {l : Launch} {e : Env} {s : State} {m : MethodId} {below : List Frame} {meth : Method} {c : Code} {D : va_G} {cI cZ : ClassId} {ad ad2 : Nat → Nat} {tBURNS tFLAME_BOUNDS : Nat} {tS : Option Nat} {adK adV : Nat → Nat} {b L : Nat} {xs : Nat → Int32} (hL : L ≤ 384) (hX : va_X b L xs s s.heap) (hbl : b < s.heap.size) (hbA : ¬ s.heap.size ≤ b) (C : Cx p s m #[Value.ref b] meth c D [(cI, .int), (cZ, .boolean)] (EX tBURNS tFLAME_BOUNDS tS adK adV) (fun q : Nat => s.heap.size ≤ q) cL_law 4 (some .boolean) RL wsL_law) {i : Nat} (h6 : i + 6 ≤ L) {u v u' v' : St} {r : Int32} (e1 : pX6_judge LF (xs (nI i + 1).toNatClampNeg) (xs (nI i + 2).toNatClampNeg) u = some (r, u')) (e2 : pX7_judge LF (xs (nI i + 1).toNatClampNeg) (xs (nI i + 2).toNatClampNeg) v = some (r, v')) (k : KX p l e room_1 s m #[Value.ref b] below meth c D (fun q : Nat => s.heap.size ≤ q) 4 91 1902 (lw_Z below #[Value.ref b] s) 1723 [(0, .ref b), (1, .ref (ad 0)), (2, .ref (ad2 0)), (3, .int (nI i))] [] (wX ad cI cZ u' ++ wM ad2 cI cZ v')) : KX p l e room_1 s m #[Value.ref b] below meth c D (fun q : Nat => s.heap.size ≤ q) 4 91 1902 (lw_Z below #[Value.ref b] s) 399 [(0, .ref b), (1, .ref (ad 0)), (2, .ref (ad2 0)), (3, .int (nI i))] [] (wX ad cI cZ u ++ wM ad2 cI cZ v) := by
  have C0 := C.env (EV2 := E0) trivial
  have hi := hL
  refine k_aload_n C 399 1 dL_law_399 rfl ?_
  refine k_aload_n C 400 0 dL_law_400 rfl ?_
  refine k_iload_n C 401 3 dL_law_401 rfl ?_
  refine k_iconst C 402 1 dL_law_402 rfl ?_
  refine k_iadd C 403 dL_law_403 ?_
  refine k_sld C 404 hX hbl hbA (l_in hi h6 1 (by decide)) dL_law_404 ?_
  refine k_aload_n C 405 0 dL_law_405 rfl ?_
  refine k_iload_n C 406 3 dL_law_406 rfl ?_
  refine k_iconst C 407 2 dL_law_407 rfl ?_
  refine k_iadd C 408 dL_law_408 ?_
  refine k_sld C 409 hX hbl hbA (l_in hi h6 2 (by decide)) dL_law_409 ?_
  refine k_callVi (st := []) (As := [.int (xs (nI i + 1).toNatClampNeg), .int (xs (nI i + 2).toNatClampNeg)]) C EX_ok EX_vm 410 2 (tX6_judge (ad := ad) LF (xs (nI i + 1).toNatClampNeg) (xs (nI i + 2).toNatClampNeg) u) e1 rfl gL_law_X6_judge rfl rfl rfl (by decide +kernel) ⟨Nat.le_of_ble_eq_true rfl, Nat.le_of_ble_eq_true rfl⟩ ⟨Nat.le_of_ble_eq_true rfl, Nat.le_of_ble_eq_true rfl⟩ rfl rfl rfl (Nat.le_of_ble_eq_true rfl) dL_law_410 ?_
  refine k_pop C 413 dL_law_413 rfl ?_
  refine k_aload_n C 414 2 dL_law_414 rfl ?_
  refine k_aload_n C 415 0 dL_law_415 rfl ?_
  refine k_iload_n C 416 3 dL_law_416 rfl ?_
  refine k_iconst C 417 1 dL_law_417 rfl ?_
  refine k_iadd C 418 dL_law_418 ?_
  refine k_sld C 419 hX hbl hbA (l_in hi h6 1 (by decide)) dL_law_419 ?_
  refine k_aload_n C 420 0 dL_law_420 rfl ?_
  refine k_iload_n C 421 3 dL_law_421 rfl ?_
  refine k_iconst C 422 2 dL_law_422 rfl ?_
  refine k_iadd C 423 dL_law_423 ?_
  refine k_sld C 424 hX hbl hbA (l_in hi h6 2 (by decide)) dL_law_424 ?_
  refine k_swap ?_
  refine k_callVi (st := []) (As := [.int (xs (nI i + 1).toNatClampNeg), .int (xs (nI i + 2).toNatClampNeg)]) C0 E0_ok E0_vm 425 2 (tX7_judge (ad := ad2) LF (xs (nI i + 1).toNatClampNeg) (xs (nI i + 2).toNatClampNeg) v) e2 rfl gL_law_X7_judge rfl rfl rfl (by decide +kernel) ⟨Nat.le_of_ble_eq_true rfl, Nat.le_of_ble_eq_true rfl⟩ ⟨Nat.le_of_ble_eq_true rfl, Nat.le_of_ble_eq_true rfl⟩ rfl rfl rfl (Nat.le_of_ble_eq_true rfl) dL_law_425 ?_
  refine k_swap ?_
  refine k_pop C 428 dL_law_428 rfl ?_
  exact k_goto C 429 1723 dL_law_429 (by decide) k
set_option maxRecDepth 100000 in
set_option maxHeartbeats 4000000 in
theorem law_c8 {p : Program} {l : Launch} {e : Env} {s : State} {m : MethodId} {below : List Frame} {meth : Method} {c : Code} {D : va_G} {cI cZ : ClassId} {ad ad2 : Nat → Nat} {tBURNS tFLAME_BOUNDS : Nat} {tS : Option Nat} {adK adV : Nat → Nat} {b L : Nat} {xs : Nat → Int32} (hL : L ≤ 384) (hX : va_X b L xs s s.heap) (hbl : b < s.heap.size) (hbA : ¬ s.heap.size ≤ b) (C : Cx p s m #[Value.ref b] meth c D [(cI, .int), (cZ, .boolean)] (EX tBURNS tFLAME_BOUNDS tS adK adV) (fun q : Nat => s.heap.size ≤ q) cL_law 4 (some .boolean) RL wsL_law) {i : Nat} (h6 : i + 6 ≤ L) {u v u' v' : St} {r : Int32} (e1 : pX6_draught LF (xs (nI i + 1).toNatClampNeg) (xs (nI i + 2).toNatClampNeg) u = some (r, u')) (e2 : pX7_draught LF (xs (nI i + 1).toNatClampNeg) (xs (nI i + 2).toNatClampNeg) v = some (r, v')) (k : KX p l e room_1 s m #[Value.ref b] below meth c D (fun q : Nat => s.heap.size ≤ q) 4 91 1902 (lw_Z below #[Value.ref b] s) 1723 [(0, .ref b), (1, .ref (ad 0)), (2, .ref (ad2 0)), (3, .int (nI i))] [] (wX ad cI cZ u' ++ wM ad2 cI cZ v')) : KX p l e room_1 s m #[Value.ref b] below meth c D (fun q : Nat => s.heap.size ≤ q) 4 91 1902 (lw_Z below #[Value.ref b] s) 432 [(0, .ref b), (1, .ref (ad 0)), (2, .ref (ad2 0)), (3, .int (nI i))] [] (wX ad cI cZ u ++ wM ad2 cI cZ v) := by
  have C0 := C.env (EV2 := E0) trivial
  have hi := hL
  refine k_aload_n C 432 1 dL_law_432 rfl ?_
  refine k_aload_n C 433 0 dL_law_433 rfl ?_
  refine k_iload_n C 434 3 dL_law_434 rfl ?_
  refine k_iconst C 435 1 dL_law_435 rfl ?_
  refine k_iadd C 436 dL_law_436 ?_
  refine k_sld C 437 hX hbl hbA (l_in hi h6 1 (by decide)) dL_law_437 ?_
  refine k_aload_n C 438 0 dL_law_438 rfl ?_
  refine k_iload_n C 439 3 dL_law_439 rfl ?_
  refine k_iconst C 440 2 dL_law_440 rfl ?_
  refine k_iadd C 441 dL_law_441 ?_
  refine k_sld C 442 hX hbl hbA (l_in hi h6 2 (by decide)) dL_law_442 ?_
  refine k_callVi (st := []) (As := [.int (xs (nI i + 1).toNatClampNeg), .int (xs (nI i + 2).toNatClampNeg)]) C EX_ok EX_vm 443 2 (tX6_draught (ad := ad) LF (xs (nI i + 1).toNatClampNeg) (xs (nI i + 2).toNatClampNeg) u) e1 rfl gL_law_X6_draught rfl rfl rfl (by decide +kernel) ⟨Nat.le_of_ble_eq_true rfl, Nat.le_of_ble_eq_true rfl⟩ ⟨Nat.le_of_ble_eq_true rfl, Nat.le_of_ble_eq_true rfl⟩ rfl rfl rfl (Nat.le_of_ble_eq_true rfl) dL_law_443 ?_
  refine k_pop C 446 dL_law_446 rfl ?_
  refine k_aload_n C 447 2 dL_law_447 rfl ?_
  refine k_aload_n C 448 0 dL_law_448 rfl ?_
  refine k_iload_n C 449 3 dL_law_449 rfl ?_
  refine k_iconst C 450 1 dL_law_450 rfl ?_
  refine k_iadd C 451 dL_law_451 ?_
  refine k_sld C 452 hX hbl hbA (l_in hi h6 1 (by decide)) dL_law_452 ?_
  refine k_aload_n C 453 0 dL_law_453 rfl ?_
  refine k_iload_n C 454 3 dL_law_454 rfl ?_
  refine k_iconst C 455 2 dL_law_455 rfl ?_
  refine k_iadd C 456 dL_law_456 ?_
  refine k_sld C 457 hX hbl hbA (l_in hi h6 2 (by decide)) dL_law_457 ?_
  refine k_swap ?_
  refine k_callVi (st := []) (As := [.int (xs (nI i + 1).toNatClampNeg), .int (xs (nI i + 2).toNatClampNeg)]) C0 E0_ok E0_vm 458 2 (tX7_draught (ad := ad2) LF (xs (nI i + 1).toNatClampNeg) (xs (nI i + 2).toNatClampNeg) v) e2 rfl gL_law_X7_draught rfl rfl rfl (by decide +kernel) ⟨Nat.le_of_ble_eq_true rfl, Nat.le_of_ble_eq_true rfl⟩ ⟨Nat.le_of_ble_eq_true rfl, Nat.le_of_ble_eq_true rfl⟩ rfl rfl rfl (Nat.le_of_ble_eq_true rfl) dL_law_458 ?_
  refine k_swap ?_
  refine k_pop C 461 dL_law_461 rfl ?_
  exact k_goto C 462 1723 dL_law_462 (by decide) k
set_option maxRecDepth 100000 in
set_option maxHeartbeats 4000000 in
theorem law_c9 {p : Program} {l : Launch} {e : Env} {s : State} {m : MethodId} {below : List Frame} {meth : Method} {c : Code} {D : va_G} {cI cZ : ClassId} {ad ad2 : Nat → Nat} {tBURNS tFLAME_BOUNDS : Nat} {tS : Option Nat} {adK adV : Nat → Nat} {b L : Nat} {xs : Nat → Int32} (hL : L ≤ 384) (hX : va_X b L xs s s.heap) (hbl : b < s.heap.size) (hbA : ¬ s.heap.size ≤ b) (C : Cx p s m #[Value.ref b] meth c D [(cI, .int), (cZ, .boolean)] (EX tBURNS tFLAME_BOUNDS tS adK adV) (fun q : Nat => s.heap.size ≤ q) cL_law 4 (some .boolean) RL wsL_law) {i : Nat} (h6 : i + 6 ≤ L) {u v u' v' : St} {r : Int32} (e1 : pX6_docket LF (xs (nI i + 1).toNatClampNeg) (xs (nI i + 2).toNatClampNeg) u = some (r, u')) (e2 : pX7_docket LF (xs (nI i + 1).toNatClampNeg) (xs (nI i + 2).toNatClampNeg) v = some (r, v')) (k : KX p l e room_1 s m #[Value.ref b] below meth c D (fun q : Nat => s.heap.size ≤ q) 4 91 1902 (lw_Z below #[Value.ref b] s) 1723 [(0, .ref b), (1, .ref (ad 0)), (2, .ref (ad2 0)), (3, .int (nI i))] [] (wX ad cI cZ u' ++ wM ad2 cI cZ v')) : KX p l e room_1 s m #[Value.ref b] below meth c D (fun q : Nat => s.heap.size ≤ q) 4 91 1902 (lw_Z below #[Value.ref b] s) 465 [(0, .ref b), (1, .ref (ad 0)), (2, .ref (ad2 0)), (3, .int (nI i))] [] (wX ad cI cZ u ++ wM ad2 cI cZ v) := by
  have C0 := C.env (EV2 := E0) trivial
  have hi := hL
  refine k_aload_n C 465 1 dL_law_465 rfl ?_
  refine k_aload_n C 466 0 dL_law_466 rfl ?_
  refine k_iload_n C 467 3 dL_law_467 rfl ?_
  refine k_iconst C 468 1 dL_law_468 rfl ?_
  refine k_iadd C 469 dL_law_469 ?_
  refine k_sld C 470 hX hbl hbA (l_in hi h6 1 (by decide)) dL_law_470 ?_
  refine k_aload_n C 471 0 dL_law_471 rfl ?_
  refine k_iload_n C 472 3 dL_law_472 rfl ?_
  refine k_iconst C 473 2 dL_law_473 rfl ?_
  refine k_iadd C 474 dL_law_474 ?_
  refine k_sld C 475 hX hbl hbA (l_in hi h6 2 (by decide)) dL_law_475 ?_
  refine k_callVi (st := []) (As := [.int (xs (nI i + 1).toNatClampNeg), .int (xs (nI i + 2).toNatClampNeg)]) C EX_ok EX_vm 476 2 (tX6_docket (ad := ad) LF (xs (nI i + 1).toNatClampNeg) (xs (nI i + 2).toNatClampNeg) u) e1 rfl gL_law_X6_docket rfl rfl rfl (by decide +kernel) ⟨Nat.le_of_ble_eq_true rfl, Nat.le_of_ble_eq_true rfl⟩ ⟨Nat.le_of_ble_eq_true rfl, Nat.le_of_ble_eq_true rfl⟩ rfl rfl rfl (Nat.le_of_ble_eq_true rfl) dL_law_476 ?_
  refine k_pop C 479 dL_law_479 rfl ?_
  refine k_aload_n C 480 2 dL_law_480 rfl ?_
  refine k_aload_n C 481 0 dL_law_481 rfl ?_
  refine k_iload_n C 482 3 dL_law_482 rfl ?_
  refine k_iconst C 483 1 dL_law_483 rfl ?_
  refine k_iadd C 484 dL_law_484 ?_
  refine k_sld C 485 hX hbl hbA (l_in hi h6 1 (by decide)) dL_law_485 ?_
  refine k_aload_n C 486 0 dL_law_486 rfl ?_
  refine k_iload_n C 487 3 dL_law_487 rfl ?_
  refine k_iconst C 488 2 dL_law_488 rfl ?_
  refine k_iadd C 489 dL_law_489 ?_
  refine k_sld C 490 hX hbl hbA (l_in hi h6 2 (by decide)) dL_law_490 ?_
  refine k_swap ?_
  refine k_callVi (st := []) (As := [.int (xs (nI i + 1).toNatClampNeg), .int (xs (nI i + 2).toNatClampNeg)]) C0 E0_ok E0_vm 491 2 (tX7_docket (ad := ad2) LF (xs (nI i + 1).toNatClampNeg) (xs (nI i + 2).toNatClampNeg) v) e2 rfl gL_law_X7_docket rfl rfl rfl (by decide +kernel) ⟨Nat.le_of_ble_eq_true rfl, Nat.le_of_ble_eq_true rfl⟩ ⟨Nat.le_of_ble_eq_true rfl, Nat.le_of_ble_eq_true rfl⟩ rfl rfl rfl (Nat.le_of_ble_eq_true rfl) dL_law_491 ?_
  refine k_swap ?_
  refine k_pop C 494 dL_law_494 rfl ?_
  exact k_goto C 495 1723 dL_law_495 (by decide) k
set_option maxRecDepth 100000 in
set_option maxHeartbeats 4000000 in
theorem law_c10 {p : Program} {l : Launch} {e : Env} {s : State} {m : MethodId} {below : List Frame} {meth : Method} {c : Code} {D : va_G} {cI cZ : ClassId} {ad ad2 : Nat → Nat} {tBURNS tFLAME_BOUNDS : Nat} {tS : Option Nat} {adK adV : Nat → Nat} {b L : Nat} {xs : Nat → Int32} (hL : L ≤ 384) (hX : va_X b L xs s s.heap) (hbl : b < s.heap.size) (hbA : ¬ s.heap.size ≤ b) (C : Cx p s m #[Value.ref b] meth c D [(cI, .int), (cZ, .boolean)] (EX tBURNS tFLAME_BOUNDS tS adK adV) (fun q : Nat => s.heap.size ≤ q) cL_law 4 (some .boolean) RL wsL_law) {i : Nat} (h6 : i + 6 ≤ L) {u v u' v' : St} {r : Int32} (e1 : pX6_trim LF (xs (nI i + 1).toNatClampNeg) (xs (nI i + 2).toNatClampNeg) (xs (nI i + 3).toNatClampNeg) (xs (nI i + 4).toNatClampNeg) u = some (r, u')) (e2 : pX7_trim LF (xs (nI i + 1).toNatClampNeg) (xs (nI i + 2).toNatClampNeg) (xs (nI i + 3).toNatClampNeg) (xs (nI i + 4).toNatClampNeg) v = some (r, v')) (k : KX p l e room_1 s m #[Value.ref b] below meth c D (fun q : Nat => s.heap.size ≤ q) 4 91 1902 (lw_Z below #[Value.ref b] s) 1723 [(0, .ref b), (1, .ref (ad 0)), (2, .ref (ad2 0)), (3, .int (nI i))] [] (wX ad cI cZ u' ++ wM ad2 cI cZ v')) : KX p l e room_1 s m #[Value.ref b] below meth c D (fun q : Nat => s.heap.size ≤ q) 4 91 1902 (lw_Z below #[Value.ref b] s) 498 [(0, .ref b), (1, .ref (ad 0)), (2, .ref (ad2 0)), (3, .int (nI i))] [] (wX ad cI cZ u ++ wM ad2 cI cZ v) := by
  have C0 := C.env (EV2 := E0) trivial
  have hi := hL
  refine k_aload_n C 498 1 dL_law_498 rfl ?_
  refine k_aload_n C 499 0 dL_law_499 rfl ?_
  refine k_iload_n C 500 3 dL_law_500 rfl ?_
  refine k_iconst C 501 1 dL_law_501 rfl ?_
  refine k_iadd C 502 dL_law_502 ?_
  refine k_sld C 503 hX hbl hbA (l_in hi h6 1 (by decide)) dL_law_503 ?_
  refine k_aload_n C 504 0 dL_law_504 rfl ?_
  refine k_iload_n C 505 3 dL_law_505 rfl ?_
  refine k_iconst C 506 2 dL_law_506 rfl ?_
  refine k_iadd C 507 dL_law_507 ?_
  refine k_sld C 508 hX hbl hbA (l_in hi h6 2 (by decide)) dL_law_508 ?_
  refine k_aload_n C 509 0 dL_law_509 rfl ?_
  refine k_iload_n C 510 3 dL_law_510 rfl ?_
  refine k_iconst C 511 3 dL_law_511 rfl ?_
  refine k_iadd C 512 dL_law_512 ?_
  refine k_sld C 513 hX hbl hbA (l_in hi h6 3 (by decide)) dL_law_513 ?_
  refine k_aload_n C 514 0 dL_law_514 rfl ?_
  refine k_iload_n C 515 3 dL_law_515 rfl ?_
  refine k_iconst C 516 4 dL_law_516 rfl ?_
  refine k_iadd C 517 dL_law_517 ?_
  refine k_sld C 518 hX hbl hbA (l_in hi h6 4 (by decide)) dL_law_518 ?_
  refine k_callVi (st := []) (As := [.int (xs (nI i + 1).toNatClampNeg), .int (xs (nI i + 2).toNatClampNeg), .int (xs (nI i + 3).toNatClampNeg), .int (xs (nI i + 4).toNatClampNeg)]) C EX_ok EX_vm 519 4 (tX6_trim (ad := ad) LF (xs (nI i + 1).toNatClampNeg) (xs (nI i + 2).toNatClampNeg) (xs (nI i + 3).toNatClampNeg) (xs (nI i + 4).toNatClampNeg) u) e1 rfl gL_law_X6_trim rfl rfl rfl (by decide +kernel) ⟨Nat.le_of_ble_eq_true rfl, Nat.le_of_ble_eq_true rfl⟩ ⟨Nat.le_of_ble_eq_true rfl, Nat.le_of_ble_eq_true rfl⟩ rfl rfl rfl (Nat.le_of_ble_eq_true rfl) dL_law_519 ?_
  refine k_pop C 522 dL_law_522 rfl ?_
  refine k_aload_n C 523 2 dL_law_523 rfl ?_
  refine k_aload_n C 524 0 dL_law_524 rfl ?_
  refine k_iload_n C 525 3 dL_law_525 rfl ?_
  refine k_iconst C 526 1 dL_law_526 rfl ?_
  refine k_iadd C 527 dL_law_527 ?_
  refine k_sld C 528 hX hbl hbA (l_in hi h6 1 (by decide)) dL_law_528 ?_
  refine k_aload_n C 529 0 dL_law_529 rfl ?_
  refine k_iload_n C 530 3 dL_law_530 rfl ?_
  refine k_iconst C 531 2 dL_law_531 rfl ?_
  refine k_iadd C 532 dL_law_532 ?_
  refine k_sld C 533 hX hbl hbA (l_in hi h6 2 (by decide)) dL_law_533 ?_
  refine k_aload_n C 534 0 dL_law_534 rfl ?_
  refine k_iload_n C 535 3 dL_law_535 rfl ?_
  refine k_iconst C 536 3 dL_law_536 rfl ?_
  refine k_iadd C 537 dL_law_537 ?_
  refine k_sld C 538 hX hbl hbA (l_in hi h6 3 (by decide)) dL_law_538 ?_
  refine k_aload_n C 539 0 dL_law_539 rfl ?_
  refine k_iload_n C 540 3 dL_law_540 rfl ?_
  refine k_iconst C 541 4 dL_law_541 rfl ?_
  refine k_iadd C 542 dL_law_542 ?_
  refine k_sld C 543 hX hbl hbA (l_in hi h6 4 (by decide)) dL_law_543 ?_
  refine k_swap ?_
  refine k_callVi (st := []) (As := [.int (xs (nI i + 1).toNatClampNeg), .int (xs (nI i + 2).toNatClampNeg), .int (xs (nI i + 3).toNatClampNeg), .int (xs (nI i + 4).toNatClampNeg)]) C0 E0_ok E0_vm 544 4 (tX7_trim (ad := ad2) LF (xs (nI i + 1).toNatClampNeg) (xs (nI i + 2).toNatClampNeg) (xs (nI i + 3).toNatClampNeg) (xs (nI i + 4).toNatClampNeg) v) e2 rfl gL_law_X7_trim rfl rfl rfl (by decide +kernel) ⟨Nat.le_of_ble_eq_true rfl, Nat.le_of_ble_eq_true rfl⟩ ⟨Nat.le_of_ble_eq_true rfl, Nat.le_of_ble_eq_true rfl⟩ rfl rfl rfl (Nat.le_of_ble_eq_true rfl) dL_law_544 ?_
  refine k_swap ?_
  refine k_pop C 547 dL_law_547 rfl ?_
  exact k_goto C 548 1723 dL_law_548 (by decide) k
set_option maxRecDepth 100000 in
set_option maxHeartbeats 4000000 in
theorem law_c11 {p : Program} {l : Launch} {e : Env} {s : State} {m : MethodId} {below : List Frame} {meth : Method} {c : Code} {D : va_G} {cI cZ : ClassId} {ad ad2 : Nat → Nat} {tBURNS tFLAME_BOUNDS : Nat} {tS : Option Nat} {adK adV : Nat → Nat} {b L : Nat} {xs : Nat → Int32} (hL : L ≤ 384) (hX : va_X b L xs s s.heap) (hbl : b < s.heap.size) (hbA : ¬ s.heap.size ≤ b) (C : Cx p s m #[Value.ref b] meth c D [(cI, .int), (cZ, .boolean)] (EX tBURNS tFLAME_BOUNDS tS adK adV) (fun q : Nat => s.heap.size ≤ q) cL_law 4 (some .boolean) RL wsL_law) {i : Nat} (h6 : i + 6 ≤ L) {u v u' v' : St} {r : Int32} (e1 : pX6_train LF (xs (nI i + 1).toNatClampNeg) (xs (nI i + 2).toNatClampNeg) (xs (nI i + 3).toNatClampNeg) u = some (r, u')) (e2 : pX7_train LF (xs (nI i + 1).toNatClampNeg) (xs (nI i + 2).toNatClampNeg) (xs (nI i + 3).toNatClampNeg) v = some (r, v')) (k : KX p l e room_1 s m #[Value.ref b] below meth c D (fun q : Nat => s.heap.size ≤ q) 4 91 1902 (lw_Z below #[Value.ref b] s) 1723 [(0, .ref b), (1, .ref (ad 0)), (2, .ref (ad2 0)), (3, .int (nI i))] [] (wX ad cI cZ u' ++ wM ad2 cI cZ v')) : KX p l e room_1 s m #[Value.ref b] below meth c D (fun q : Nat => s.heap.size ≤ q) 4 91 1902 (lw_Z below #[Value.ref b] s) 551 [(0, .ref b), (1, .ref (ad 0)), (2, .ref (ad2 0)), (3, .int (nI i))] [] (wX ad cI cZ u ++ wM ad2 cI cZ v) := by
  have C0 := C.env (EV2 := E0) trivial
  have hi := hL
  refine k_aload_n C 551 1 dL_law_551 rfl ?_
  refine k_aload_n C 552 0 dL_law_552 rfl ?_
  refine k_iload_n C 553 3 dL_law_553 rfl ?_
  refine k_iconst C 554 1 dL_law_554 rfl ?_
  refine k_iadd C 555 dL_law_555 ?_
  refine k_sld C 556 hX hbl hbA (l_in hi h6 1 (by decide)) dL_law_556 ?_
  refine k_aload_n C 557 0 dL_law_557 rfl ?_
  refine k_iload_n C 558 3 dL_law_558 rfl ?_
  refine k_iconst C 559 2 dL_law_559 rfl ?_
  refine k_iadd C 560 dL_law_560 ?_
  refine k_sld C 561 hX hbl hbA (l_in hi h6 2 (by decide)) dL_law_561 ?_
  refine k_aload_n C 562 0 dL_law_562 rfl ?_
  refine k_iload_n C 563 3 dL_law_563 rfl ?_
  refine k_iconst C 564 3 dL_law_564 rfl ?_
  refine k_iadd C 565 dL_law_565 ?_
  refine k_sld C 566 hX hbl hbA (l_in hi h6 3 (by decide)) dL_law_566 ?_
  refine k_callVi (st := []) (As := [.int (xs (nI i + 1).toNatClampNeg), .int (xs (nI i + 2).toNatClampNeg), .int (xs (nI i + 3).toNatClampNeg)]) C EX_ok EX_vm 567 3 (tX6_train (ad := ad) LF (xs (nI i + 1).toNatClampNeg) (xs (nI i + 2).toNatClampNeg) (xs (nI i + 3).toNatClampNeg) u) e1 rfl gL_law_X6_train rfl rfl rfl (by decide +kernel) ⟨Nat.le_of_ble_eq_true rfl, Nat.le_of_ble_eq_true rfl⟩ ⟨Nat.le_of_ble_eq_true rfl, Nat.le_of_ble_eq_true rfl⟩ rfl rfl rfl (Nat.le_of_ble_eq_true rfl) dL_law_567 ?_
  refine k_pop C 570 dL_law_570 rfl ?_
  refine k_aload_n C 571 2 dL_law_571 rfl ?_
  refine k_aload_n C 572 0 dL_law_572 rfl ?_
  refine k_iload_n C 573 3 dL_law_573 rfl ?_
  refine k_iconst C 574 1 dL_law_574 rfl ?_
  refine k_iadd C 575 dL_law_575 ?_
  refine k_sld C 576 hX hbl hbA (l_in hi h6 1 (by decide)) dL_law_576 ?_
  refine k_aload_n C 577 0 dL_law_577 rfl ?_
  refine k_iload_n C 578 3 dL_law_578 rfl ?_
  refine k_iconst C 579 2 dL_law_579 rfl ?_
  refine k_iadd C 580 dL_law_580 ?_
  refine k_sld C 581 hX hbl hbA (l_in hi h6 2 (by decide)) dL_law_581 ?_
  refine k_aload_n C 582 0 dL_law_582 rfl ?_
  refine k_iload_n C 583 3 dL_law_583 rfl ?_
  refine k_iconst C 584 3 dL_law_584 rfl ?_
  refine k_iadd C 585 dL_law_585 ?_
  refine k_sld C 586 hX hbl hbA (l_in hi h6 3 (by decide)) dL_law_586 ?_
  refine k_swap ?_
  refine k_callVi (st := []) (As := [.int (xs (nI i + 1).toNatClampNeg), .int (xs (nI i + 2).toNatClampNeg), .int (xs (nI i + 3).toNatClampNeg)]) C0 E0_ok E0_vm 587 3 (tX7_train (ad := ad2) LF (xs (nI i + 1).toNatClampNeg) (xs (nI i + 2).toNatClampNeg) (xs (nI i + 3).toNatClampNeg) v) e2 rfl gL_law_X7_train rfl rfl rfl (by decide +kernel) ⟨Nat.le_of_ble_eq_true rfl, Nat.le_of_ble_eq_true rfl⟩ ⟨Nat.le_of_ble_eq_true rfl, Nat.le_of_ble_eq_true rfl⟩ rfl rfl rfl (Nat.le_of_ble_eq_true rfl) dL_law_587 ?_
  refine k_swap ?_
  refine k_pop C 590 dL_law_590 rfl ?_
  exact k_goto C 591 1723 dL_law_591 (by decide) k
set_option maxRecDepth 100000 in
set_option maxHeartbeats 4000000 in
theorem law_c12 {p : Program} {l : Launch} {e : Env} {s : State} {m : MethodId} {below : List Frame} {meth : Method} {c : Code} {D : va_G} {cI cZ : ClassId} {ad ad2 : Nat → Nat} {tBURNS tFLAME_BOUNDS : Nat} {tS : Option Nat} {adK adV : Nat → Nat} {b L : Nat} {xs : Nat → Int32} (hL : L ≤ 384) (hX : va_X b L xs s s.heap) (hbl : b < s.heap.size) (hbA : ¬ s.heap.size ≤ b) (C : Cx p s m #[Value.ref b] meth c D [(cI, .int), (cZ, .boolean)] (EX tBURNS tFLAME_BOUNDS tS adK adV) (fun q : Nat => s.heap.size ≤ q) cL_law 4 (some .boolean) RL wsL_law) {i : Nat} (h6 : i + 6 ≤ L) {u v u' v' : St} {r : Int32} (e1 : pX6_blow LF (xs (nI i + 1).toNatClampNeg) (xs (nI i + 2).toNatClampNeg) u = some (r, u')) (e2 : pX7_blow LF (xs (nI i + 1).toNatClampNeg) (xs (nI i + 2).toNatClampNeg) v = some (r, v')) (k : KX p l e room_1 s m #[Value.ref b] below meth c D (fun q : Nat => s.heap.size ≤ q) 4 91 1902 (lw_Z below #[Value.ref b] s) 1723 [(0, .ref b), (1, .ref (ad 0)), (2, .ref (ad2 0)), (3, .int (nI i))] [] (wX ad cI cZ u' ++ wM ad2 cI cZ v')) : KX p l e room_1 s m #[Value.ref b] below meth c D (fun q : Nat => s.heap.size ≤ q) 4 91 1902 (lw_Z below #[Value.ref b] s) 594 [(0, .ref b), (1, .ref (ad 0)), (2, .ref (ad2 0)), (3, .int (nI i))] [] (wX ad cI cZ u ++ wM ad2 cI cZ v) := by
  have C0 := C.env (EV2 := E0) trivial
  have hi := hL
  refine k_aload_n C 594 1 dL_law_594 rfl ?_
  refine k_aload_n C 595 0 dL_law_595 rfl ?_
  refine k_iload_n C 596 3 dL_law_596 rfl ?_
  refine k_iconst C 597 1 dL_law_597 rfl ?_
  refine k_iadd C 598 dL_law_598 ?_
  refine k_sld C 599 hX hbl hbA (l_in hi h6 1 (by decide)) dL_law_599 ?_
  refine k_aload_n C 600 0 dL_law_600 rfl ?_
  refine k_iload_n C 601 3 dL_law_601 rfl ?_
  refine k_iconst C 602 2 dL_law_602 rfl ?_
  refine k_iadd C 603 dL_law_603 ?_
  refine k_sld C 604 hX hbl hbA (l_in hi h6 2 (by decide)) dL_law_604 ?_
  refine k_callVi (st := []) (As := [.int (xs (nI i + 1).toNatClampNeg), .int (xs (nI i + 2).toNatClampNeg)]) C EX_ok EX_vm 605 2 (tX6_blow (ad := ad) LF (xs (nI i + 1).toNatClampNeg) (xs (nI i + 2).toNatClampNeg) u) e1 rfl gL_law_X6_blow rfl rfl rfl (by decide +kernel) ⟨Nat.le_of_ble_eq_true rfl, Nat.le_of_ble_eq_true rfl⟩ ⟨Nat.le_of_ble_eq_true rfl, Nat.le_of_ble_eq_true rfl⟩ rfl rfl rfl (Nat.le_of_ble_eq_true rfl) dL_law_605 ?_
  refine k_pop C 608 dL_law_608 rfl ?_
  refine k_aload_n C 609 2 dL_law_609 rfl ?_
  refine k_aload_n C 610 0 dL_law_610 rfl ?_
  refine k_iload_n C 611 3 dL_law_611 rfl ?_
  refine k_iconst C 612 1 dL_law_612 rfl ?_
  refine k_iadd C 613 dL_law_613 ?_
  refine k_sld C 614 hX hbl hbA (l_in hi h6 1 (by decide)) dL_law_614 ?_
  refine k_aload_n C 615 0 dL_law_615 rfl ?_
  refine k_iload_n C 616 3 dL_law_616 rfl ?_
  refine k_iconst C 617 2 dL_law_617 rfl ?_
  refine k_iadd C 618 dL_law_618 ?_
  refine k_sld C 619 hX hbl hbA (l_in hi h6 2 (by decide)) dL_law_619 ?_
  refine k_swap ?_
  refine k_callVi (st := []) (As := [.int (xs (nI i + 1).toNatClampNeg), .int (xs (nI i + 2).toNatClampNeg)]) C0 E0_ok E0_vm 620 2 (tX7_blow (ad := ad2) LF (xs (nI i + 1).toNatClampNeg) (xs (nI i + 2).toNatClampNeg) v) e2 rfl gL_law_X7_blow rfl rfl rfl (by decide +kernel) ⟨Nat.le_of_ble_eq_true rfl, Nat.le_of_ble_eq_true rfl⟩ ⟨Nat.le_of_ble_eq_true rfl, Nat.le_of_ble_eq_true rfl⟩ rfl rfl rfl (Nat.le_of_ble_eq_true rfl) dL_law_620 ?_
  refine k_swap ?_
  refine k_pop C 623 dL_law_623 rfl ?_
  exact k_goto C 624 1723 dL_law_624 (by decide) k
set_option maxRecDepth 100000 in
set_option maxHeartbeats 4000000 in
theorem law_c13 {p : Program} {l : Launch} {e : Env} {s : State} {m : MethodId} {below : List Frame} {meth : Method} {c : Code} {D : va_G} {cI cZ : ClassId} {ad ad2 : Nat → Nat} {tBURNS tFLAME_BOUNDS : Nat} {tS : Option Nat} {adK adV : Nat → Nat} {b L : Nat} {xs : Nat → Int32} (hL : L ≤ 384) (hX : va_X b L xs s s.heap) (hbl : b < s.heap.size) (hbA : ¬ s.heap.size ≤ b) (C : Cx p s m #[Value.ref b] meth c D [(cI, .int), (cZ, .boolean)] (EX tBURNS tFLAME_BOUNDS tS adK adV) (fun q : Nat => s.heap.size ≤ q) cL_law 4 (some .boolean) RL wsL_law) {i : Nat} (h6 : i + 6 ≤ L) {u v u' v' : St} {r : Int32} (e1 : pX6_calm LF (xs (nI i + 1).toNatClampNeg) u = some (r, u')) (e2 : pX7_calm LF (xs (nI i + 1).toNatClampNeg) v = some (r, v')) (k : KX p l e room_1 s m #[Value.ref b] below meth c D (fun q : Nat => s.heap.size ≤ q) 4 91 1902 (lw_Z below #[Value.ref b] s) 1723 [(0, .ref b), (1, .ref (ad 0)), (2, .ref (ad2 0)), (3, .int (nI i))] [] (wX ad cI cZ u' ++ wM ad2 cI cZ v')) : KX p l e room_1 s m #[Value.ref b] below meth c D (fun q : Nat => s.heap.size ≤ q) 4 91 1902 (lw_Z below #[Value.ref b] s) 627 [(0, .ref b), (1, .ref (ad 0)), (2, .ref (ad2 0)), (3, .int (nI i))] [] (wX ad cI cZ u ++ wM ad2 cI cZ v) := by
  have C0 := C.env (EV2 := E0) trivial
  have hi := hL
  refine k_aload_n C 627 1 dL_law_627 rfl ?_
  refine k_aload_n C 628 0 dL_law_628 rfl ?_
  refine k_iload_n C 629 3 dL_law_629 rfl ?_
  refine k_iconst C 630 1 dL_law_630 rfl ?_
  refine k_iadd C 631 dL_law_631 ?_
  refine k_sld C 632 hX hbl hbA (l_in hi h6 1 (by decide)) dL_law_632 ?_
  refine k_callVi (st := []) (As := [.int (xs (nI i + 1).toNatClampNeg)]) C EX_ok EX_vm 633 1 (tX6_calm (ad := ad) LF (xs (nI i + 1).toNatClampNeg) u) e1 rfl gL_law_X6_calm rfl rfl rfl (by decide +kernel) ⟨Nat.le_of_ble_eq_true rfl, Nat.le_of_ble_eq_true rfl⟩ ⟨Nat.le_of_ble_eq_true rfl, Nat.le_of_ble_eq_true rfl⟩ rfl rfl rfl (Nat.le_of_ble_eq_true rfl) dL_law_633 ?_
  refine k_pop C 636 dL_law_636 rfl ?_
  refine k_aload_n C 637 2 dL_law_637 rfl ?_
  refine k_aload_n C 638 0 dL_law_638 rfl ?_
  refine k_iload_n C 639 3 dL_law_639 rfl ?_
  refine k_iconst C 640 1 dL_law_640 rfl ?_
  refine k_iadd C 641 dL_law_641 ?_
  refine k_sld C 642 hX hbl hbA (l_in hi h6 1 (by decide)) dL_law_642 ?_
  refine k_swap ?_
  refine k_callVi (st := []) (As := [.int (xs (nI i + 1).toNatClampNeg)]) C0 E0_ok E0_vm 643 1 (tX7_calm (ad := ad2) LF (xs (nI i + 1).toNatClampNeg) v) e2 rfl gL_law_X7_calm rfl rfl rfl (by decide +kernel) ⟨Nat.le_of_ble_eq_true rfl, Nat.le_of_ble_eq_true rfl⟩ ⟨Nat.le_of_ble_eq_true rfl, Nat.le_of_ble_eq_true rfl⟩ rfl rfl rfl (Nat.le_of_ble_eq_true rfl) dL_law_643 ?_
  refine k_swap ?_
  refine k_pop C 646 dL_law_646 rfl ?_
  exact k_goto C 647 1723 dL_law_647 (by decide) k
set_option maxRecDepth 100000 in
set_option maxHeartbeats 4000000 in
theorem law_c14 {p : Program} {l : Launch} {e : Env} {s : State} {m : MethodId} {below : List Frame} {meth : Method} {c : Code} {D : va_G} {cI cZ : ClassId} {ad ad2 : Nat → Nat} {tBURNS tFLAME_BOUNDS : Nat} {tS : Option Nat} {adK adV : Nat → Nat} {b L : Nat} {xs : Nat → Int32} (hL : L ≤ 384) (hX : va_X b L xs s s.heap) (hbl : b < s.heap.size) (hbA : ¬ s.heap.size ≤ b) (C : Cx p s m #[Value.ref b] meth c D [(cI, .int), (cZ, .boolean)] (EX tBURNS tFLAME_BOUNDS tS adK adV) (fun q : Nat => s.heap.size ≤ q) cL_law 4 (some .boolean) RL wsL_law) {i : Nat} (h6 : i + 6 ≤ L) {u v u' v' : St} {r : Int32} (e1 : pX6_plan LF (xs (nI i + 1).toNatClampNeg) (xs (nI i + 2).toNatClampNeg) u = some (r, u')) (e2 : pX7_plan LF (xs (nI i + 1).toNatClampNeg) (xs (nI i + 2).toNatClampNeg) v = some (r, v')) (k : KX p l e room_1 s m #[Value.ref b] below meth c D (fun q : Nat => s.heap.size ≤ q) 4 91 1902 (lw_Z below #[Value.ref b] s) 1723 [(0, .ref b), (1, .ref (ad 0)), (2, .ref (ad2 0)), (3, .int (nI i))] [] (wX ad cI cZ u' ++ wM ad2 cI cZ v')) : KX p l e room_1 s m #[Value.ref b] below meth c D (fun q : Nat => s.heap.size ≤ q) 4 91 1902 (lw_Z below #[Value.ref b] s) 650 [(0, .ref b), (1, .ref (ad 0)), (2, .ref (ad2 0)), (3, .int (nI i))] [] (wX ad cI cZ u ++ wM ad2 cI cZ v) := by
  have C0 := C.env (EV2 := E0) trivial
  have hi := hL
  refine k_aload_n C 650 1 dL_law_650 rfl ?_
  refine k_aload_n C 651 0 dL_law_651 rfl ?_
  refine k_iload_n C 652 3 dL_law_652 rfl ?_
  refine k_iconst C 653 1 dL_law_653 rfl ?_
  refine k_iadd C 654 dL_law_654 ?_
  refine k_sld C 655 hX hbl hbA (l_in hi h6 1 (by decide)) dL_law_655 ?_
  refine k_aload_n C 656 0 dL_law_656 rfl ?_
  refine k_iload_n C 657 3 dL_law_657 rfl ?_
  refine k_iconst C 658 2 dL_law_658 rfl ?_
  refine k_iadd C 659 dL_law_659 ?_
  refine k_sld C 660 hX hbl hbA (l_in hi h6 2 (by decide)) dL_law_660 ?_
  refine k_callVi (st := []) (As := [.int (xs (nI i + 1).toNatClampNeg), .int (xs (nI i + 2).toNatClampNeg)]) C EX_ok EX_vm 661 2 (tX6_plan (ad := ad) LF (xs (nI i + 1).toNatClampNeg) (xs (nI i + 2).toNatClampNeg) u) e1 rfl gL_law_X6_plan rfl rfl rfl (by decide +kernel) ⟨Nat.le_of_ble_eq_true rfl, Nat.le_of_ble_eq_true rfl⟩ ⟨Nat.le_of_ble_eq_true rfl, Nat.le_of_ble_eq_true rfl⟩ rfl rfl rfl (Nat.le_of_ble_eq_true rfl) dL_law_661 ?_
  refine k_pop C 664 dL_law_664 rfl ?_
  refine k_aload_n C 665 2 dL_law_665 rfl ?_
  refine k_aload_n C 666 0 dL_law_666 rfl ?_
  refine k_iload_n C 667 3 dL_law_667 rfl ?_
  refine k_iconst C 668 1 dL_law_668 rfl ?_
  refine k_iadd C 669 dL_law_669 ?_
  refine k_sld C 670 hX hbl hbA (l_in hi h6 1 (by decide)) dL_law_670 ?_
  refine k_aload_n C 671 0 dL_law_671 rfl ?_
  refine k_iload_n C 672 3 dL_law_672 rfl ?_
  refine k_iconst C 673 2 dL_law_673 rfl ?_
  refine k_iadd C 674 dL_law_674 ?_
  refine k_sld C 675 hX hbl hbA (l_in hi h6 2 (by decide)) dL_law_675 ?_
  refine k_swap ?_
  refine k_callVi (st := []) (As := [.int (xs (nI i + 1).toNatClampNeg), .int (xs (nI i + 2).toNatClampNeg)]) C0 E0_ok E0_vm 676 2 (tX7_plan (ad := ad2) LF (xs (nI i + 1).toNatClampNeg) (xs (nI i + 2).toNatClampNeg) v) e2 rfl gL_law_X7_plan rfl rfl rfl (by decide +kernel) ⟨Nat.le_of_ble_eq_true rfl, Nat.le_of_ble_eq_true rfl⟩ ⟨Nat.le_of_ble_eq_true rfl, Nat.le_of_ble_eq_true rfl⟩ rfl rfl rfl (Nat.le_of_ble_eq_true rfl) dL_law_676 ?_
  refine k_swap ?_
  refine k_pop C 679 dL_law_679 rfl ?_
  exact k_goto C 680 1723 dL_law_680 (by decide) k
set_option maxRecDepth 100000 in
set_option maxHeartbeats 4000000 in
theorem law_c15 {p : Program} {l : Launch} {e : Env} {s : State} {m : MethodId} {below : List Frame} {meth : Method} {c : Code} {D : va_G} {cI cZ : ClassId} {ad ad2 : Nat → Nat} {tBURNS tFLAME_BOUNDS : Nat} {tS : Option Nat} {adK adV : Nat → Nat} {b L : Nat} {xs : Nat → Int32} (hL : L ≤ 384) (hX : va_X b L xs s s.heap) (hbl : b < s.heap.size) (hbA : ¬ s.heap.size ≤ b) (C : Cx p s m #[Value.ref b] meth c D [(cI, .int), (cZ, .boolean)] (EX tBURNS tFLAME_BOUNDS tS adK adV) (fun q : Nat => s.heap.size ≤ q) cL_law 4 (some .boolean) RL wsL_law) {i : Nat} (h6 : i + 6 ≤ L) {u v u' v' : St} {r : Int32} (e1 : pX6_cut LF (xs (nI i + 1).toNatClampNeg) u = some (r, u')) (e2 : pX7_cut LF (xs (nI i + 1).toNatClampNeg) v = some (r, v')) (k : KX p l e room_1 s m #[Value.ref b] below meth c D (fun q : Nat => s.heap.size ≤ q) 4 91 1902 (lw_Z below #[Value.ref b] s) 1723 [(0, .ref b), (1, .ref (ad 0)), (2, .ref (ad2 0)), (3, .int (nI i))] [] (wX ad cI cZ u' ++ wM ad2 cI cZ v')) : KX p l e room_1 s m #[Value.ref b] below meth c D (fun q : Nat => s.heap.size ≤ q) 4 91 1902 (lw_Z below #[Value.ref b] s) 683 [(0, .ref b), (1, .ref (ad 0)), (2, .ref (ad2 0)), (3, .int (nI i))] [] (wX ad cI cZ u ++ wM ad2 cI cZ v) := by
  have C0 := C.env (EV2 := E0) trivial
  have hi := hL
  refine k_aload_n C 683 1 dL_law_683 rfl ?_
  refine k_aload_n C 684 0 dL_law_684 rfl ?_
  refine k_iload_n C 685 3 dL_law_685 rfl ?_
  refine k_iconst C 686 1 dL_law_686 rfl ?_
  refine k_iadd C 687 dL_law_687 ?_
  refine k_sld C 688 hX hbl hbA (l_in hi h6 1 (by decide)) dL_law_688 ?_
  refine k_callVi (st := []) (As := [.int (xs (nI i + 1).toNatClampNeg)]) C EX_ok EX_vm 689 1 (tX6_cut (ad := ad) LF (xs (nI i + 1).toNatClampNeg) u) e1 rfl gL_law_X6_cut rfl rfl rfl (by decide +kernel) ⟨Nat.le_of_ble_eq_true rfl, Nat.le_of_ble_eq_true rfl⟩ ⟨Nat.le_of_ble_eq_true rfl, Nat.le_of_ble_eq_true rfl⟩ rfl rfl rfl (Nat.le_of_ble_eq_true rfl) dL_law_689 ?_
  refine k_pop C 692 dL_law_692 rfl ?_
  refine k_aload_n C 693 2 dL_law_693 rfl ?_
  refine k_aload_n C 694 0 dL_law_694 rfl ?_
  refine k_iload_n C 695 3 dL_law_695 rfl ?_
  refine k_iconst C 696 1 dL_law_696 rfl ?_
  refine k_iadd C 697 dL_law_697 ?_
  refine k_sld C 698 hX hbl hbA (l_in hi h6 1 (by decide)) dL_law_698 ?_
  refine k_swap ?_
  refine k_callVi (st := []) (As := [.int (xs (nI i + 1).toNatClampNeg)]) C0 E0_ok E0_vm 699 1 (tX7_cut (ad := ad2) LF (xs (nI i + 1).toNatClampNeg) v) e2 rfl gL_law_X7_cut rfl rfl rfl (by decide +kernel) ⟨Nat.le_of_ble_eq_true rfl, Nat.le_of_ble_eq_true rfl⟩ ⟨Nat.le_of_ble_eq_true rfl, Nat.le_of_ble_eq_true rfl⟩ rfl rfl rfl (Nat.le_of_ble_eq_true rfl) dL_law_699 ?_
  refine k_swap ?_
  refine k_pop C 702 dL_law_702 rfl ?_
  exact k_goto C 703 1723 dL_law_703 (by decide) k
set_option maxRecDepth 100000 in
set_option maxHeartbeats 4000000 in
theorem law_c16 {p : Program} {l : Launch} {e : Env} {s : State} {m : MethodId} {below : List Frame} {meth : Method} {c : Code} {D : va_G} {cI cZ : ClassId} {ad ad2 : Nat → Nat} {tBURNS tFLAME_BOUNDS : Nat} {tS : Option Nat} {adK adV : Nat → Nat} {b L : Nat} {xs : Nat → Int32} (hL : L ≤ 384) (hX : va_X b L xs s s.heap) (hbl : b < s.heap.size) (hbA : ¬ s.heap.size ≤ b) (C : Cx p s m #[Value.ref b] meth c D [(cI, .int), (cZ, .boolean)] (EX tBURNS tFLAME_BOUNDS tS adK adV) (fun q : Nat => s.heap.size ≤ q) cL_law 4 (some .boolean) RL wsL_law) {i : Nat} (h6 : i + 6 ≤ L) {u v u' v' : St} {r : Int32} (e1 : pX6_hear LF (xs (nI i + 1).toNatClampNeg) (xs (nI i + 2).toNatClampNeg) u = some (r, u')) (e2 : pX7_hear LF (xs (nI i + 1).toNatClampNeg) (xs (nI i + 2).toNatClampNeg) v = some (r, v')) (k : KX p l e room_1 s m #[Value.ref b] below meth c D (fun q : Nat => s.heap.size ≤ q) 4 91 1902 (lw_Z below #[Value.ref b] s) 1723 [(0, .ref b), (1, .ref (ad 0)), (2, .ref (ad2 0)), (3, .int (nI i))] [] (wX ad cI cZ u' ++ wM ad2 cI cZ v')) : KX p l e room_1 s m #[Value.ref b] below meth c D (fun q : Nat => s.heap.size ≤ q) 4 91 1902 (lw_Z below #[Value.ref b] s) 706 [(0, .ref b), (1, .ref (ad 0)), (2, .ref (ad2 0)), (3, .int (nI i))] [] (wX ad cI cZ u ++ wM ad2 cI cZ v) := by
  have C0 := C.env (EV2 := E0) trivial
  have hi := hL
  refine k_aload_n C 706 1 dL_law_706 rfl ?_
  refine k_aload_n C 707 0 dL_law_707 rfl ?_
  refine k_iload_n C 708 3 dL_law_708 rfl ?_
  refine k_iconst C 709 1 dL_law_709 rfl ?_
  refine k_iadd C 710 dL_law_710 ?_
  refine k_sld C 711 hX hbl hbA (l_in hi h6 1 (by decide)) dL_law_711 ?_
  refine k_aload_n C 712 0 dL_law_712 rfl ?_
  refine k_iload_n C 713 3 dL_law_713 rfl ?_
  refine k_iconst C 714 2 dL_law_714 rfl ?_
  refine k_iadd C 715 dL_law_715 ?_
  refine k_sld C 716 hX hbl hbA (l_in hi h6 2 (by decide)) dL_law_716 ?_
  refine k_callVi (st := []) (As := [.int (xs (nI i + 1).toNatClampNeg), .int (xs (nI i + 2).toNatClampNeg)]) C EX_ok EX_vm 717 2 (tX6_hear (ad := ad) LF (xs (nI i + 1).toNatClampNeg) (xs (nI i + 2).toNatClampNeg) u) e1 rfl gL_law_X6_hear rfl rfl rfl (by decide +kernel) ⟨Nat.le_of_ble_eq_true rfl, Nat.le_of_ble_eq_true rfl⟩ ⟨Nat.le_of_ble_eq_true rfl, Nat.le_of_ble_eq_true rfl⟩ rfl rfl rfl (Nat.le_of_ble_eq_true rfl) dL_law_717 ?_
  refine k_pop C 720 dL_law_720 rfl ?_
  refine k_aload_n C 721 2 dL_law_721 rfl ?_
  refine k_aload_n C 722 0 dL_law_722 rfl ?_
  refine k_iload_n C 723 3 dL_law_723 rfl ?_
  refine k_iconst C 724 1 dL_law_724 rfl ?_
  refine k_iadd C 725 dL_law_725 ?_
  refine k_sld C 726 hX hbl hbA (l_in hi h6 1 (by decide)) dL_law_726 ?_
  refine k_aload_n C 727 0 dL_law_727 rfl ?_
  refine k_iload_n C 728 3 dL_law_728 rfl ?_
  refine k_iconst C 729 2 dL_law_729 rfl ?_
  refine k_iadd C 730 dL_law_730 ?_
  refine k_sld C 731 hX hbl hbA (l_in hi h6 2 (by decide)) dL_law_731 ?_
  refine k_swap ?_
  refine k_callVi (st := []) (As := [.int (xs (nI i + 1).toNatClampNeg), .int (xs (nI i + 2).toNatClampNeg)]) C0 E0_ok E0_vm 732 2 (tX7_hear (ad := ad2) LF (xs (nI i + 1).toNatClampNeg) (xs (nI i + 2).toNatClampNeg) v) e2 rfl gL_law_X7_hear rfl rfl rfl (by decide +kernel) ⟨Nat.le_of_ble_eq_true rfl, Nat.le_of_ble_eq_true rfl⟩ ⟨Nat.le_of_ble_eq_true rfl, Nat.le_of_ble_eq_true rfl⟩ rfl rfl rfl (Nat.le_of_ble_eq_true rfl) dL_law_732 ?_
  refine k_swap ?_
  refine k_pop C 735 dL_law_735 rfl ?_
  exact k_goto C 736 1723 dL_law_736 (by decide) k
set_option maxRecDepth 100000 in
set_option maxHeartbeats 4000000 in
theorem law_c17 {p : Program} {l : Launch} {e : Env} {s : State} {m : MethodId} {below : List Frame} {meth : Method} {c : Code} {D : va_G} {cI cZ : ClassId} {ad ad2 : Nat → Nat} {tBURNS tFLAME_BOUNDS : Nat} {tS : Option Nat} {adK adV : Nat → Nat} {b L : Nat} {xs : Nat → Int32} (hL : L ≤ 384) (hX : va_X b L xs s s.heap) (hbl : b < s.heap.size) (hbA : ¬ s.heap.size ≤ b) (C : Cx p s m #[Value.ref b] meth c D [(cI, .int), (cZ, .boolean)] (EX tBURNS tFLAME_BOUNDS tS adK adV) (fun q : Nat => s.heap.size ≤ q) cL_law 4 (some .boolean) RL wsL_law) {i : Nat} (h6 : i + 6 ≤ L) {u v u' v' : St} {r : Int32} (e1 : pX6_appeal LF (xs (nI i + 1).toNatClampNeg) u = some (r, u')) (e2 : pX7_appeal LF (xs (nI i + 1).toNatClampNeg) v = some (r, v')) (k : KX p l e room_1 s m #[Value.ref b] below meth c D (fun q : Nat => s.heap.size ≤ q) 4 91 1902 (lw_Z below #[Value.ref b] s) 1723 [(0, .ref b), (1, .ref (ad 0)), (2, .ref (ad2 0)), (3, .int (nI i))] [] (wX ad cI cZ u' ++ wM ad2 cI cZ v')) : KX p l e room_1 s m #[Value.ref b] below meth c D (fun q : Nat => s.heap.size ≤ q) 4 91 1902 (lw_Z below #[Value.ref b] s) 739 [(0, .ref b), (1, .ref (ad 0)), (2, .ref (ad2 0)), (3, .int (nI i))] [] (wX ad cI cZ u ++ wM ad2 cI cZ v) := by
  have C0 := C.env (EV2 := E0) trivial
  have hi := hL
  refine k_aload_n C 739 1 dL_law_739 rfl ?_
  refine k_aload_n C 740 0 dL_law_740 rfl ?_
  refine k_iload_n C 741 3 dL_law_741 rfl ?_
  refine k_iconst C 742 1 dL_law_742 rfl ?_
  refine k_iadd C 743 dL_law_743 ?_
  refine k_sld C 744 hX hbl hbA (l_in hi h6 1 (by decide)) dL_law_744 ?_
  refine k_callVi (st := []) (As := [.int (xs (nI i + 1).toNatClampNeg)]) C EX_ok EX_vm 745 1 (tX6_appeal (ad := ad) LF (xs (nI i + 1).toNatClampNeg) u) e1 rfl gL_law_X6_appeal rfl rfl rfl (by decide +kernel) ⟨Nat.le_of_ble_eq_true rfl, Nat.le_of_ble_eq_true rfl⟩ ⟨Nat.le_of_ble_eq_true rfl, Nat.le_of_ble_eq_true rfl⟩ rfl rfl rfl (Nat.le_of_ble_eq_true rfl) dL_law_745 ?_
  refine k_pop C 748 dL_law_748 rfl ?_
  refine k_aload_n C 749 2 dL_law_749 rfl ?_
  refine k_aload_n C 750 0 dL_law_750 rfl ?_
  refine k_iload_n C 751 3 dL_law_751 rfl ?_
  refine k_iconst C 752 1 dL_law_752 rfl ?_
  refine k_iadd C 753 dL_law_753 ?_
  refine k_sld C 754 hX hbl hbA (l_in hi h6 1 (by decide)) dL_law_754 ?_
  refine k_swap ?_
  refine k_callVi (st := []) (As := [.int (xs (nI i + 1).toNatClampNeg)]) C0 E0_ok E0_vm 755 1 (tX7_appeal (ad := ad2) LF (xs (nI i + 1).toNatClampNeg) v) e2 rfl gL_law_X7_appeal rfl rfl rfl (by decide +kernel) ⟨Nat.le_of_ble_eq_true rfl, Nat.le_of_ble_eq_true rfl⟩ ⟨Nat.le_of_ble_eq_true rfl, Nat.le_of_ble_eq_true rfl⟩ rfl rfl rfl (Nat.le_of_ble_eq_true rfl) dL_law_755 ?_
  refine k_swap ?_
  refine k_pop C 758 dL_law_758 rfl ?_
  exact k_goto C 759 1723 dL_law_759 (by decide) k
set_option maxRecDepth 100000 in
set_option maxHeartbeats 4000000 in
theorem law_c18 {p : Program} {l : Launch} {e : Env} {s : State} {m : MethodId} {below : List Frame} {meth : Method} {c : Code} {D : va_G} {cI cZ : ClassId} {ad ad2 : Nat → Nat} {tBURNS tFLAME_BOUNDS : Nat} {tS : Option Nat} {adK adV : Nat → Nat} {b L : Nat} {xs : Nat → Int32} (hL : L ≤ 384) (hX : va_X b L xs s s.heap) (hbl : b < s.heap.size) (hbA : ¬ s.heap.size ≤ b) (C : Cx p s m #[Value.ref b] meth c D [(cI, .int), (cZ, .boolean)] (EX tBURNS tFLAME_BOUNDS tS adK adV) (fun q : Nat => s.heap.size ≤ q) cL_law 4 (some .boolean) RL wsL_law) {i : Nat} (h6 : i + 6 ≤ L) {u v u' v' : St} {r : Int32} (e1 : pX6_foretell LF (xs (nI i + 1).toNatClampNeg) (xs (nI i + 2).toNatClampNeg) (xs (nI i + 3).toNatClampNeg) u = some (r, u')) (e2 : pX7_foretell LF (xs (nI i + 1).toNatClampNeg) (xs (nI i + 2).toNatClampNeg) (xs (nI i + 3).toNatClampNeg) v = some (r, v')) (k : KX p l e room_1 s m #[Value.ref b] below meth c D (fun q : Nat => s.heap.size ≤ q) 4 91 1902 (lw_Z below #[Value.ref b] s) 1723 [(0, .ref b), (1, .ref (ad 0)), (2, .ref (ad2 0)), (3, .int (nI i))] [] (wX ad cI cZ u' ++ wM ad2 cI cZ v')) : KX p l e room_1 s m #[Value.ref b] below meth c D (fun q : Nat => s.heap.size ≤ q) 4 91 1902 (lw_Z below #[Value.ref b] s) 762 [(0, .ref b), (1, .ref (ad 0)), (2, .ref (ad2 0)), (3, .int (nI i))] [] (wX ad cI cZ u ++ wM ad2 cI cZ v) := by
  have C0 := C.env (EV2 := E0) trivial
  have hi := hL
  refine k_aload_n C 762 1 dL_law_762 rfl ?_
  refine k_aload_n C 763 0 dL_law_763 rfl ?_
  refine k_iload_n C 764 3 dL_law_764 rfl ?_
  refine k_iconst C 765 1 dL_law_765 rfl ?_
  refine k_iadd C 766 dL_law_766 ?_
  refine k_sld C 767 hX hbl hbA (l_in hi h6 1 (by decide)) dL_law_767 ?_
  refine k_aload_n C 768 0 dL_law_768 rfl ?_
  refine k_iload_n C 769 3 dL_law_769 rfl ?_
  refine k_iconst C 770 2 dL_law_770 rfl ?_
  refine k_iadd C 771 dL_law_771 ?_
  refine k_sld C 772 hX hbl hbA (l_in hi h6 2 (by decide)) dL_law_772 ?_
  refine k_aload_n C 773 0 dL_law_773 rfl ?_
  refine k_iload_n C 774 3 dL_law_774 rfl ?_
  refine k_iconst C 775 3 dL_law_775 rfl ?_
  refine k_iadd C 776 dL_law_776 ?_
  refine k_sld C 777 hX hbl hbA (l_in hi h6 3 (by decide)) dL_law_777 ?_
  refine k_callVi (st := []) (As := [.int (xs (nI i + 1).toNatClampNeg), .int (xs (nI i + 2).toNatClampNeg), .int (xs (nI i + 3).toNatClampNeg)]) C EX_ok EX_vm 778 3 (tX6_foretell (ad := ad) LF (xs (nI i + 1).toNatClampNeg) (xs (nI i + 2).toNatClampNeg) (xs (nI i + 3).toNatClampNeg) u) e1 rfl gL_law_X6_foretell rfl rfl rfl (by decide +kernel) ⟨Nat.le_of_ble_eq_true rfl, Nat.le_of_ble_eq_true rfl⟩ ⟨Nat.le_of_ble_eq_true rfl, Nat.le_of_ble_eq_true rfl⟩ rfl rfl rfl (Nat.le_of_ble_eq_true rfl) dL_law_778 ?_
  refine k_pop C 781 dL_law_781 rfl ?_
  refine k_aload_n C 782 2 dL_law_782 rfl ?_
  refine k_aload_n C 783 0 dL_law_783 rfl ?_
  refine k_iload_n C 784 3 dL_law_784 rfl ?_
  refine k_iconst C 785 1 dL_law_785 rfl ?_
  refine k_iadd C 786 dL_law_786 ?_
  refine k_sld C 787 hX hbl hbA (l_in hi h6 1 (by decide)) dL_law_787 ?_
  refine k_aload_n C 788 0 dL_law_788 rfl ?_
  refine k_iload_n C 789 3 dL_law_789 rfl ?_
  refine k_iconst C 790 2 dL_law_790 rfl ?_
  refine k_iadd C 791 dL_law_791 ?_
  refine k_sld C 792 hX hbl hbA (l_in hi h6 2 (by decide)) dL_law_792 ?_
  refine k_aload_n C 793 0 dL_law_793 rfl ?_
  refine k_iload_n C 794 3 dL_law_794 rfl ?_
  refine k_iconst C 795 3 dL_law_795 rfl ?_
  refine k_iadd C 796 dL_law_796 ?_
  refine k_sld C 797 hX hbl hbA (l_in hi h6 3 (by decide)) dL_law_797 ?_
  refine k_swap ?_
  refine k_callVi (st := []) (As := [.int (xs (nI i + 1).toNatClampNeg), .int (xs (nI i + 2).toNatClampNeg), .int (xs (nI i + 3).toNatClampNeg)]) C0 E0_ok E0_vm 798 3 (tX7_foretell (ad := ad2) LF (xs (nI i + 1).toNatClampNeg) (xs (nI i + 2).toNatClampNeg) (xs (nI i + 3).toNatClampNeg) v) e2 rfl gL_law_X7_foretell rfl rfl rfl (by decide +kernel) ⟨Nat.le_of_ble_eq_true rfl, Nat.le_of_ble_eq_true rfl⟩ ⟨Nat.le_of_ble_eq_true rfl, Nat.le_of_ble_eq_true rfl⟩ rfl rfl rfl (Nat.le_of_ble_eq_true rfl) dL_law_798 ?_
  refine k_swap ?_
  refine k_pop C 801 dL_law_801 rfl ?_
  exact k_goto C 802 1723 dL_law_802 (by decide) k
set_option maxRecDepth 100000 in
set_option maxHeartbeats 4000000 in
theorem law_c19 {p : Program} {l : Launch} {e : Env} {s : State} {m : MethodId} {below : List Frame} {meth : Method} {c : Code} {D : va_G} {cI cZ : ClassId} {ad ad2 : Nat → Nat} {tBURNS tFLAME_BOUNDS : Nat} {tS : Option Nat} {adK adV : Nat → Nat} {b L : Nat} {xs : Nat → Int32} (hL : L ≤ 384) (hX : va_X b L xs s s.heap) (hbl : b < s.heap.size) (hbA : ¬ s.heap.size ≤ b) (C : Cx p s m #[Value.ref b] meth c D [(cI, .int), (cZ, .boolean)] (EX tBURNS tFLAME_BOUNDS tS adK adV) (fun q : Nat => s.heap.size ≤ q) cL_law 4 (some .boolean) RL wsL_law) {i : Nat} (h6 : i + 6 ≤ L) {u v u' v' : St} {r : Int32} (e1 : pX6_runs LF (xs (nI i + 1).toNatClampNeg) u = some (r, u')) (e2 : pX7_runs LF (xs (nI i + 1).toNatClampNeg) v = some (r, v')) (k : KX p l e room_1 s m #[Value.ref b] below meth c D (fun q : Nat => s.heap.size ≤ q) 4 91 1902 (lw_Z below #[Value.ref b] s) 1723 [(0, .ref b), (1, .ref (ad 0)), (2, .ref (ad2 0)), (3, .int (nI i))] [] (wX ad cI cZ u' ++ wM ad2 cI cZ v')) : KX p l e room_1 s m #[Value.ref b] below meth c D (fun q : Nat => s.heap.size ≤ q) 4 91 1902 (lw_Z below #[Value.ref b] s) 805 [(0, .ref b), (1, .ref (ad 0)), (2, .ref (ad2 0)), (3, .int (nI i))] [] (wX ad cI cZ u ++ wM ad2 cI cZ v) := by
  have C0 := C.env (EV2 := E0) trivial
  have hi := hL
  refine k_aload_n C 805 1 dL_law_805 rfl ?_
  refine k_aload_n C 806 0 dL_law_806 rfl ?_
  refine k_iload_n C 807 3 dL_law_807 rfl ?_
  refine k_iconst C 808 1 dL_law_808 rfl ?_
  refine k_iadd C 809 dL_law_809 ?_
  refine k_sld C 810 hX hbl hbA (l_in hi h6 1 (by decide)) dL_law_810 ?_
  refine k_callVi (st := []) (As := [.int (xs (nI i + 1).toNatClampNeg)]) C EX_ok EX_vm 811 1 (tX6_runs (ad := ad) LF (xs (nI i + 1).toNatClampNeg) u) e1 rfl gL_law_X6_runs rfl rfl rfl (by decide +kernel) ⟨Nat.le_of_ble_eq_true rfl, Nat.le_of_ble_eq_true rfl⟩ ⟨Nat.le_of_ble_eq_true rfl, Nat.le_of_ble_eq_true rfl⟩ rfl rfl rfl (Nat.le_of_ble_eq_true rfl) dL_law_811 ?_
  refine k_pop C 814 dL_law_814 rfl ?_
  refine k_aload_n C 815 2 dL_law_815 rfl ?_
  refine k_aload_n C 816 0 dL_law_816 rfl ?_
  refine k_iload_n C 817 3 dL_law_817 rfl ?_
  refine k_iconst C 818 1 dL_law_818 rfl ?_
  refine k_iadd C 819 dL_law_819 ?_
  refine k_sld C 820 hX hbl hbA (l_in hi h6 1 (by decide)) dL_law_820 ?_
  refine k_swap ?_
  refine k_callVi (st := []) (As := [.int (xs (nI i + 1).toNatClampNeg)]) C0 E0_ok E0_vm 821 1 (tX7_runs (ad := ad2) LF (xs (nI i + 1).toNatClampNeg) v) e2 rfl gL_law_X7_runs rfl rfl rfl (by decide +kernel) ⟨Nat.le_of_ble_eq_true rfl, Nat.le_of_ble_eq_true rfl⟩ ⟨Nat.le_of_ble_eq_true rfl, Nat.le_of_ble_eq_true rfl⟩ rfl rfl rfl (Nat.le_of_ble_eq_true rfl) dL_law_821 ?_
  refine k_swap ?_
  refine k_pop C 824 dL_law_824 rfl ?_
  exact k_goto C 825 1723 dL_law_825 (by decide) k
set_option maxRecDepth 100000 in
set_option maxHeartbeats 4000000 in
theorem law_c20 {p : Program} {l : Launch} {e : Env} {s : State} {m : MethodId} {below : List Frame} {meth : Method} {c : Code} {D : va_G} {cI cZ : ClassId} {ad ad2 : Nat → Nat} {tBURNS tFLAME_BOUNDS : Nat} {tS : Option Nat} {adK adV : Nat → Nat} {b L : Nat} {xs : Nat → Int32} (hL : L ≤ 384) (hX : va_X b L xs s s.heap) (hbl : b < s.heap.size) (hbA : ¬ s.heap.size ≤ b) (C : Cx p s m #[Value.ref b] meth c D [(cI, .int), (cZ, .boolean)] (EX tBURNS tFLAME_BOUNDS tS adK adV) (fun q : Nat => s.heap.size ≤ q) cL_law 4 (some .boolean) RL wsL_law) {i : Nat} (h6 : i + 6 ≤ L) {u v u' v' : St} {r : Int32} (e1 : pX6_ahead LF (xs (nI i + 1).toNatClampNeg) u = some (r, u')) (e2 : pX7_ahead LF (xs (nI i + 1).toNatClampNeg) v = some (r, v')) (k : KX p l e room_1 s m #[Value.ref b] below meth c D (fun q : Nat => s.heap.size ≤ q) 4 91 1902 (lw_Z below #[Value.ref b] s) 1723 [(0, .ref b), (1, .ref (ad 0)), (2, .ref (ad2 0)), (3, .int (nI i))] [] (wX ad cI cZ u' ++ wM ad2 cI cZ v')) : KX p l e room_1 s m #[Value.ref b] below meth c D (fun q : Nat => s.heap.size ≤ q) 4 91 1902 (lw_Z below #[Value.ref b] s) 828 [(0, .ref b), (1, .ref (ad 0)), (2, .ref (ad2 0)), (3, .int (nI i))] [] (wX ad cI cZ u ++ wM ad2 cI cZ v) := by
  have C0 := C.env (EV2 := E0) trivial
  have hi := hL
  refine k_aload_n C 828 1 dL_law_828 rfl ?_
  refine k_aload_n C 829 0 dL_law_829 rfl ?_
  refine k_iload_n C 830 3 dL_law_830 rfl ?_
  refine k_iconst C 831 1 dL_law_831 rfl ?_
  refine k_iadd C 832 dL_law_832 ?_
  refine k_sld C 833 hX hbl hbA (l_in hi h6 1 (by decide)) dL_law_833 ?_
  refine k_callVi (st := []) (As := [.int (xs (nI i + 1).toNatClampNeg)]) C EX_ok EX_vm 834 1 (tX6_ahead (ad := ad) LF (xs (nI i + 1).toNatClampNeg) u) e1 rfl gL_law_X6_ahead rfl rfl rfl (by decide +kernel) ⟨Nat.le_of_ble_eq_true rfl, Nat.le_of_ble_eq_true rfl⟩ ⟨Nat.le_of_ble_eq_true rfl, Nat.le_of_ble_eq_true rfl⟩ rfl rfl rfl (Nat.le_of_ble_eq_true rfl) dL_law_834 ?_
  refine k_pop C 837 dL_law_837 rfl ?_
  refine k_aload_n C 838 2 dL_law_838 rfl ?_
  refine k_aload_n C 839 0 dL_law_839 rfl ?_
  refine k_iload_n C 840 3 dL_law_840 rfl ?_
  refine k_iconst C 841 1 dL_law_841 rfl ?_
  refine k_iadd C 842 dL_law_842 ?_
  refine k_sld C 843 hX hbl hbA (l_in hi h6 1 (by decide)) dL_law_843 ?_
  refine k_swap ?_
  refine k_callVi (st := []) (As := [.int (xs (nI i + 1).toNatClampNeg)]) C0 E0_ok E0_vm 844 1 (tX7_ahead (ad := ad2) LF (xs (nI i + 1).toNatClampNeg) v) e2 rfl gL_law_X7_ahead rfl rfl rfl (by decide +kernel) ⟨Nat.le_of_ble_eq_true rfl, Nat.le_of_ble_eq_true rfl⟩ ⟨Nat.le_of_ble_eq_true rfl, Nat.le_of_ble_eq_true rfl⟩ rfl rfl rfl (Nat.le_of_ble_eq_true rfl) dL_law_844 ?_
  refine k_swap ?_
  refine k_pop C 847 dL_law_847 rfl ?_
  exact k_goto C 848 1723 dL_law_848 (by decide) k
set_option maxRecDepth 100000 in
set_option maxHeartbeats 4000000 in
theorem law_c21 {p : Program} {l : Launch} {e : Env} {s : State} {m : MethodId} {below : List Frame} {meth : Method} {c : Code} {D : va_G} {cI cZ : ClassId} {ad ad2 : Nat → Nat} {tBURNS tFLAME_BOUNDS : Nat} {tS : Option Nat} {adK adV : Nat → Nat} {b L : Nat} {xs : Nat → Int32} (hL : L ≤ 384) (hX : va_X b L xs s s.heap) (hbl : b < s.heap.size) (hbA : ¬ s.heap.size ≤ b) (C : Cx p s m #[Value.ref b] meth c D [(cI, .int), (cZ, .boolean)] (EX tBURNS tFLAME_BOUNDS tS adK adV) (fun q : Nat => s.heap.size ≤ q) cL_law 4 (some .boolean) RL wsL_law) {i : Nat} (h6 : i + 6 ≤ L) {u v u' v' : St} {r : Int32} (e1 : pX6_friends LF (xs (nI i + 1).toNatClampNeg) (xs (nI i + 2).toNatClampNeg) u = some (r, u')) (e2 : pX7_friends LF (xs (nI i + 1).toNatClampNeg) (xs (nI i + 2).toNatClampNeg) v = some (r, v')) (k : KX p l e room_1 s m #[Value.ref b] below meth c D (fun q : Nat => s.heap.size ≤ q) 4 91 1902 (lw_Z below #[Value.ref b] s) 1723 [(0, .ref b), (1, .ref (ad 0)), (2, .ref (ad2 0)), (3, .int (nI i))] [] (wX ad cI cZ u' ++ wM ad2 cI cZ v')) : KX p l e room_1 s m #[Value.ref b] below meth c D (fun q : Nat => s.heap.size ≤ q) 4 91 1902 (lw_Z below #[Value.ref b] s) 851 [(0, .ref b), (1, .ref (ad 0)), (2, .ref (ad2 0)), (3, .int (nI i))] [] (wX ad cI cZ u ++ wM ad2 cI cZ v) := by
  have C0 := C.env (EV2 := E0) trivial
  have hi := hL
  refine k_aload_n C 851 1 dL_law_851 rfl ?_
  refine k_aload_n C 852 0 dL_law_852 rfl ?_
  refine k_iload_n C 853 3 dL_law_853 rfl ?_
  refine k_iconst C 854 1 dL_law_854 rfl ?_
  refine k_iadd C 855 dL_law_855 ?_
  refine k_sld C 856 hX hbl hbA (l_in hi h6 1 (by decide)) dL_law_856 ?_
  refine k_aload_n C 857 0 dL_law_857 rfl ?_
  refine k_iload_n C 858 3 dL_law_858 rfl ?_
  refine k_iconst C 859 2 dL_law_859 rfl ?_
  refine k_iadd C 860 dL_law_860 ?_
  refine k_sld C 861 hX hbl hbA (l_in hi h6 2 (by decide)) dL_law_861 ?_
  refine k_callVi (st := []) (As := [.int (xs (nI i + 1).toNatClampNeg), .int (xs (nI i + 2).toNatClampNeg)]) C EX_ok EX_vm 862 2 (tX6_friends (ad := ad) LF (xs (nI i + 1).toNatClampNeg) (xs (nI i + 2).toNatClampNeg) u) e1 rfl gL_law_X6_friends rfl rfl rfl (by decide +kernel) ⟨Nat.le_of_ble_eq_true rfl, Nat.le_of_ble_eq_true rfl⟩ ⟨Nat.le_of_ble_eq_true rfl, Nat.le_of_ble_eq_true rfl⟩ rfl rfl rfl (Nat.le_of_ble_eq_true rfl) dL_law_862 ?_
  refine k_pop C 865 dL_law_865 rfl ?_
  refine k_aload_n C 866 2 dL_law_866 rfl ?_
  refine k_aload_n C 867 0 dL_law_867 rfl ?_
  refine k_iload_n C 868 3 dL_law_868 rfl ?_
  refine k_iconst C 869 1 dL_law_869 rfl ?_
  refine k_iadd C 870 dL_law_870 ?_
  refine k_sld C 871 hX hbl hbA (l_in hi h6 1 (by decide)) dL_law_871 ?_
  refine k_aload_n C 872 0 dL_law_872 rfl ?_
  refine k_iload_n C 873 3 dL_law_873 rfl ?_
  refine k_iconst C 874 2 dL_law_874 rfl ?_
  refine k_iadd C 875 dL_law_875 ?_
  refine k_sld C 876 hX hbl hbA (l_in hi h6 2 (by decide)) dL_law_876 ?_
  refine k_swap ?_
  refine k_callVi (st := []) (As := [.int (xs (nI i + 1).toNatClampNeg), .int (xs (nI i + 2).toNatClampNeg)]) C0 E0_ok E0_vm 877 2 (tX7_friends (ad := ad2) LF (xs (nI i + 1).toNatClampNeg) (xs (nI i + 2).toNatClampNeg) v) e2 rfl gL_law_X7_friends rfl rfl rfl (by decide +kernel) ⟨Nat.le_of_ble_eq_true rfl, Nat.le_of_ble_eq_true rfl⟩ ⟨Nat.le_of_ble_eq_true rfl, Nat.le_of_ble_eq_true rfl⟩ rfl rfl rfl (Nat.le_of_ble_eq_true rfl) dL_law_877 ?_
  refine k_swap ?_
  refine k_pop C 880 dL_law_880 rfl ?_
  exact k_goto C 881 1723 dL_law_881 (by decide) k
set_option maxRecDepth 100000 in
set_option maxHeartbeats 4000000 in
theorem law_c22 {p : Program} {l : Launch} {e : Env} {s : State} {m : MethodId} {below : List Frame} {meth : Method} {c : Code} {D : va_G} {cI cZ : ClassId} {ad ad2 : Nat → Nat} {tBURNS tFLAME_BOUNDS : Nat} {tS : Option Nat} {adK adV : Nat → Nat} {b L : Nat} {xs : Nat → Int32} (hL : L ≤ 384) (hX : va_X b L xs s s.heap) (hbl : b < s.heap.size) (hbA : ¬ s.heap.size ≤ b) (C : Cx p s m #[Value.ref b] meth c D [(cI, .int), (cZ, .boolean)] (EX tBURNS tFLAME_BOUNDS tS adK adV) (fun q : Nat => s.heap.size ≤ q) cL_law 4 (some .boolean) RL wsL_law) {i : Nat} (h6 : i + 6 ≤ L) {u v u' v' : St} {r : Int32} (e1 : pX6_wax LF (xs (nI i + 1).toNatClampNeg) (xs (nI i + 2).toNatClampNeg) (xs (nI i + 3).toNatClampNeg) u = some (r, u')) (e2 : pX7_wax LF (xs (nI i + 1).toNatClampNeg) (xs (nI i + 2).toNatClampNeg) (xs (nI i + 3).toNatClampNeg) v = some (r, v')) (k : KX p l e room_1 s m #[Value.ref b] below meth c D (fun q : Nat => s.heap.size ≤ q) 4 91 1902 (lw_Z below #[Value.ref b] s) 1723 [(0, .ref b), (1, .ref (ad 0)), (2, .ref (ad2 0)), (3, .int (nI i))] [] (wX ad cI cZ u' ++ wM ad2 cI cZ v')) : KX p l e room_1 s m #[Value.ref b] below meth c D (fun q : Nat => s.heap.size ≤ q) 4 91 1902 (lw_Z below #[Value.ref b] s) 884 [(0, .ref b), (1, .ref (ad 0)), (2, .ref (ad2 0)), (3, .int (nI i))] [] (wX ad cI cZ u ++ wM ad2 cI cZ v) := by
  have C0 := C.env (EV2 := E0) trivial
  have hi := hL
  refine k_aload_n C 884 1 dL_law_884 rfl ?_
  refine k_aload_n C 885 0 dL_law_885 rfl ?_
  refine k_iload_n C 886 3 dL_law_886 rfl ?_
  refine k_iconst C 887 1 dL_law_887 rfl ?_
  refine k_iadd C 888 dL_law_888 ?_
  refine k_sld C 889 hX hbl hbA (l_in hi h6 1 (by decide)) dL_law_889 ?_
  refine k_aload_n C 890 0 dL_law_890 rfl ?_
  refine k_iload_n C 891 3 dL_law_891 rfl ?_
  refine k_iconst C 892 2 dL_law_892 rfl ?_
  refine k_iadd C 893 dL_law_893 ?_
  refine k_sld C 894 hX hbl hbA (l_in hi h6 2 (by decide)) dL_law_894 ?_
  refine k_aload_n C 895 0 dL_law_895 rfl ?_
  refine k_iload_n C 896 3 dL_law_896 rfl ?_
  refine k_iconst C 897 3 dL_law_897 rfl ?_
  refine k_iadd C 898 dL_law_898 ?_
  refine k_sld C 899 hX hbl hbA (l_in hi h6 3 (by decide)) dL_law_899 ?_
  refine k_callVi (st := []) (As := [.int (xs (nI i + 1).toNatClampNeg), .int (xs (nI i + 2).toNatClampNeg), .int (xs (nI i + 3).toNatClampNeg)]) C EX_ok EX_vm 900 3 (tX6_wax (ad := ad) LF (xs (nI i + 1).toNatClampNeg) (xs (nI i + 2).toNatClampNeg) (xs (nI i + 3).toNatClampNeg) u) e1 rfl gL_law_X6_wax rfl rfl rfl (by decide +kernel) ⟨Nat.le_of_ble_eq_true rfl, Nat.le_of_ble_eq_true rfl⟩ ⟨Nat.le_of_ble_eq_true rfl, Nat.le_of_ble_eq_true rfl⟩ rfl rfl rfl (Nat.le_of_ble_eq_true rfl) dL_law_900 ?_
  refine k_pop C 903 dL_law_903 rfl ?_
  refine k_aload_n C 904 2 dL_law_904 rfl ?_
  refine k_aload_n C 905 0 dL_law_905 rfl ?_
  refine k_iload_n C 906 3 dL_law_906 rfl ?_
  refine k_iconst C 907 1 dL_law_907 rfl ?_
  refine k_iadd C 908 dL_law_908 ?_
  refine k_sld C 909 hX hbl hbA (l_in hi h6 1 (by decide)) dL_law_909 ?_
  refine k_aload_n C 910 0 dL_law_910 rfl ?_
  refine k_iload_n C 911 3 dL_law_911 rfl ?_
  refine k_iconst C 912 2 dL_law_912 rfl ?_
  refine k_iadd C 913 dL_law_913 ?_
  refine k_sld C 914 hX hbl hbA (l_in hi h6 2 (by decide)) dL_law_914 ?_
  refine k_aload_n C 915 0 dL_law_915 rfl ?_
  refine k_iload_n C 916 3 dL_law_916 rfl ?_
  refine k_iconst C 917 3 dL_law_917 rfl ?_
  refine k_iadd C 918 dL_law_918 ?_
  refine k_sld C 919 hX hbl hbA (l_in hi h6 3 (by decide)) dL_law_919 ?_
  refine k_swap ?_
  refine k_callVi (st := []) (As := [.int (xs (nI i + 1).toNatClampNeg), .int (xs (nI i + 2).toNatClampNeg), .int (xs (nI i + 3).toNatClampNeg)]) C0 E0_ok E0_vm 920 3 (tX7_wax (ad := ad2) LF (xs (nI i + 1).toNatClampNeg) (xs (nI i + 2).toNatClampNeg) (xs (nI i + 3).toNatClampNeg) v) e2 rfl gL_law_X7_wax rfl rfl rfl (by decide +kernel) ⟨Nat.le_of_ble_eq_true rfl, Nat.le_of_ble_eq_true rfl⟩ ⟨Nat.le_of_ble_eq_true rfl, Nat.le_of_ble_eq_true rfl⟩ rfl rfl rfl (Nat.le_of_ble_eq_true rfl) dL_law_920 ?_
  refine k_swap ?_
  refine k_pop C 923 dL_law_923 rfl ?_
  exact k_goto C 924 1723 dL_law_924 (by decide) k
set_option maxRecDepth 100000 in
set_option maxHeartbeats 4000000 in
theorem law_c23 {p : Program} {l : Launch} {e : Env} {s : State} {m : MethodId} {below : List Frame} {meth : Method} {c : Code} {D : va_G} {cI cZ : ClassId} {ad ad2 : Nat → Nat} {tBURNS tFLAME_BOUNDS : Nat} {tS : Option Nat} {adK adV : Nat → Nat} {b L : Nat} {xs : Nat → Int32} (hL : L ≤ 384) (hX : va_X b L xs s s.heap) (hbl : b < s.heap.size) (hbA : ¬ s.heap.size ≤ b) (C : Cx p s m #[Value.ref b] meth c D [(cI, .int), (cZ, .boolean)] (EX tBURNS tFLAME_BOUNDS tS adK adV) (fun q : Nat => s.heap.size ≤ q) cL_law 4 (some .boolean) RL wsL_law) {i : Nat} (h6 : i + 6 ≤ L) {u v u' v' : St} {r : Int32} (e1 : pX6_least LF (xs (nI i + 1).toNatClampNeg) (xs (nI i + 2).toNatClampNeg) (xs (nI i + 3).toNatClampNeg) u = some (r, u')) (e2 : pX7_least LF (xs (nI i + 1).toNatClampNeg) (xs (nI i + 2).toNatClampNeg) (xs (nI i + 3).toNatClampNeg) v = some (r, v')) (k : KX p l e room_1 s m #[Value.ref b] below meth c D (fun q : Nat => s.heap.size ≤ q) 4 91 1902 (lw_Z below #[Value.ref b] s) 1723 [(0, .ref b), (1, .ref (ad 0)), (2, .ref (ad2 0)), (3, .int (nI i))] [] (wX ad cI cZ u' ++ wM ad2 cI cZ v')) : KX p l e room_1 s m #[Value.ref b] below meth c D (fun q : Nat => s.heap.size ≤ q) 4 91 1902 (lw_Z below #[Value.ref b] s) 927 [(0, .ref b), (1, .ref (ad 0)), (2, .ref (ad2 0)), (3, .int (nI i))] [] (wX ad cI cZ u ++ wM ad2 cI cZ v) := by
  have C0 := C.env (EV2 := E0) trivial
  have hi := hL
  refine k_aload_n C 927 1 dL_law_927 rfl ?_
  refine k_aload_n C 928 0 dL_law_928 rfl ?_
  refine k_iload_n C 929 3 dL_law_929 rfl ?_
  refine k_iconst C 930 1 dL_law_930 rfl ?_
  refine k_iadd C 931 dL_law_931 ?_
  refine k_sld C 932 hX hbl hbA (l_in hi h6 1 (by decide)) dL_law_932 ?_
  refine k_aload_n C 933 0 dL_law_933 rfl ?_
  refine k_iload_n C 934 3 dL_law_934 rfl ?_
  refine k_iconst C 935 2 dL_law_935 rfl ?_
  refine k_iadd C 936 dL_law_936 ?_
  refine k_sld C 937 hX hbl hbA (l_in hi h6 2 (by decide)) dL_law_937 ?_
  refine k_aload_n C 938 0 dL_law_938 rfl ?_
  refine k_iload_n C 939 3 dL_law_939 rfl ?_
  refine k_iconst C 940 3 dL_law_940 rfl ?_
  refine k_iadd C 941 dL_law_941 ?_
  refine k_sld C 942 hX hbl hbA (l_in hi h6 3 (by decide)) dL_law_942 ?_
  refine k_callVi (st := []) (As := [.int (xs (nI i + 1).toNatClampNeg), .int (xs (nI i + 2).toNatClampNeg), .int (xs (nI i + 3).toNatClampNeg)]) C EX_ok EX_vm 943 3 (tX6_least (ad := ad) LF (xs (nI i + 1).toNatClampNeg) (xs (nI i + 2).toNatClampNeg) (xs (nI i + 3).toNatClampNeg) u) e1 rfl gL_law_X6_least rfl rfl rfl (by decide +kernel) ⟨Nat.le_of_ble_eq_true rfl, Nat.le_of_ble_eq_true rfl⟩ ⟨Nat.le_of_ble_eq_true rfl, Nat.le_of_ble_eq_true rfl⟩ rfl rfl rfl (Nat.le_of_ble_eq_true rfl) dL_law_943 ?_
  refine k_pop C 946 dL_law_946 rfl ?_
  refine k_aload_n C 947 2 dL_law_947 rfl ?_
  refine k_aload_n C 948 0 dL_law_948 rfl ?_
  refine k_iload_n C 949 3 dL_law_949 rfl ?_
  refine k_iconst C 950 1 dL_law_950 rfl ?_
  refine k_iadd C 951 dL_law_951 ?_
  refine k_sld C 952 hX hbl hbA (l_in hi h6 1 (by decide)) dL_law_952 ?_
  refine k_aload_n C 953 0 dL_law_953 rfl ?_
  refine k_iload_n C 954 3 dL_law_954 rfl ?_
  refine k_iconst C 955 2 dL_law_955 rfl ?_
  refine k_iadd C 956 dL_law_956 ?_
  refine k_sld C 957 hX hbl hbA (l_in hi h6 2 (by decide)) dL_law_957 ?_
  refine k_aload_n C 958 0 dL_law_958 rfl ?_
  refine k_iload_n C 959 3 dL_law_959 rfl ?_
  refine k_iconst C 960 3 dL_law_960 rfl ?_
  refine k_iadd C 961 dL_law_961 ?_
  refine k_sld C 962 hX hbl hbA (l_in hi h6 3 (by decide)) dL_law_962 ?_
  refine k_swap ?_
  refine k_callVi (st := []) (As := [.int (xs (nI i + 1).toNatClampNeg), .int (xs (nI i + 2).toNatClampNeg), .int (xs (nI i + 3).toNatClampNeg)]) C0 E0_ok E0_vm 963 3 (tX7_least (ad := ad2) LF (xs (nI i + 1).toNatClampNeg) (xs (nI i + 2).toNatClampNeg) (xs (nI i + 3).toNatClampNeg) v) e2 rfl gL_law_X7_least rfl rfl rfl (by decide +kernel) ⟨Nat.le_of_ble_eq_true rfl, Nat.le_of_ble_eq_true rfl⟩ ⟨Nat.le_of_ble_eq_true rfl, Nat.le_of_ble_eq_true rfl⟩ rfl rfl rfl (Nat.le_of_ble_eq_true rfl) dL_law_963 ?_
  refine k_swap ?_
  refine k_pop C 966 dL_law_966 rfl ?_
  exact k_goto C 967 1723 dL_law_967 (by decide) k
set_option maxRecDepth 100000 in
set_option maxHeartbeats 4000000 in
theorem law_c24 {p : Program} {l : Launch} {e : Env} {s : State} {m : MethodId} {below : List Frame} {meth : Method} {c : Code} {D : va_G} {cI cZ : ClassId} {ad ad2 : Nat → Nat} {tBURNS tFLAME_BOUNDS : Nat} {tS : Option Nat} {adK adV : Nat → Nat} {b L : Nat} {xs : Nat → Int32} (hL : L ≤ 384) (hX : va_X b L xs s s.heap) (hbl : b < s.heap.size) (hbA : ¬ s.heap.size ≤ b) (C : Cx p s m #[Value.ref b] meth c D [(cI, .int), (cZ, .boolean)] (EX tBURNS tFLAME_BOUNDS tS adK adV) (fun q : Nat => s.heap.size ≤ q) cL_law 4 (some .boolean) RL wsL_law) {i : Nat} (h6 : i + 6 ≤ L) {u v u' v' : St} {r : Int32} (e1 : pX6_hand LF (xs (nI i + 1).toNatClampNeg) (xs (nI i + 2).toNatClampNeg) (xs (nI i + 3).toNatClampNeg) u = some (r, u')) (e2 : pX7_hand LF (xs (nI i + 1).toNatClampNeg) (xs (nI i + 2).toNatClampNeg) (xs (nI i + 3).toNatClampNeg) v = some (r, v')) (k : KX p l e room_1 s m #[Value.ref b] below meth c D (fun q : Nat => s.heap.size ≤ q) 4 91 1902 (lw_Z below #[Value.ref b] s) 1723 [(0, .ref b), (1, .ref (ad 0)), (2, .ref (ad2 0)), (3, .int (nI i))] [] (wX ad cI cZ u' ++ wM ad2 cI cZ v')) : KX p l e room_1 s m #[Value.ref b] below meth c D (fun q : Nat => s.heap.size ≤ q) 4 91 1902 (lw_Z below #[Value.ref b] s) 970 [(0, .ref b), (1, .ref (ad 0)), (2, .ref (ad2 0)), (3, .int (nI i))] [] (wX ad cI cZ u ++ wM ad2 cI cZ v) := by
  have C0 := C.env (EV2 := E0) trivial
  have hi := hL
  refine k_aload_n C 970 1 dL_law_970 rfl ?_
  refine k_aload_n C 971 0 dL_law_971 rfl ?_
  refine k_iload_n C 972 3 dL_law_972 rfl ?_
  refine k_iconst C 973 1 dL_law_973 rfl ?_
  refine k_iadd C 974 dL_law_974 ?_
  refine k_sld C 975 hX hbl hbA (l_in hi h6 1 (by decide)) dL_law_975 ?_
  refine k_aload_n C 976 0 dL_law_976 rfl ?_
  refine k_iload_n C 977 3 dL_law_977 rfl ?_
  refine k_iconst C 978 2 dL_law_978 rfl ?_
  refine k_iadd C 979 dL_law_979 ?_
  refine k_sld C 980 hX hbl hbA (l_in hi h6 2 (by decide)) dL_law_980 ?_
  refine k_aload_n C 981 0 dL_law_981 rfl ?_
  refine k_iload_n C 982 3 dL_law_982 rfl ?_
  refine k_iconst C 983 3 dL_law_983 rfl ?_
  refine k_iadd C 984 dL_law_984 ?_
  refine k_sld C 985 hX hbl hbA (l_in hi h6 3 (by decide)) dL_law_985 ?_
  refine k_callVi (st := []) (As := [.int (xs (nI i + 1).toNatClampNeg), .int (xs (nI i + 2).toNatClampNeg), .int (xs (nI i + 3).toNatClampNeg)]) C EX_ok EX_vm 986 3 (tX6_hand (ad := ad) LF (xs (nI i + 1).toNatClampNeg) (xs (nI i + 2).toNatClampNeg) (xs (nI i + 3).toNatClampNeg) u) e1 rfl gL_law_X6_hand rfl rfl rfl (by decide +kernel) ⟨Nat.le_of_ble_eq_true rfl, Nat.le_of_ble_eq_true rfl⟩ ⟨Nat.le_of_ble_eq_true rfl, Nat.le_of_ble_eq_true rfl⟩ rfl rfl rfl (Nat.le_of_ble_eq_true rfl) dL_law_986 ?_
  refine k_pop C 989 dL_law_989 rfl ?_
  refine k_aload_n C 990 2 dL_law_990 rfl ?_
  refine k_aload_n C 991 0 dL_law_991 rfl ?_
  refine k_iload_n C 992 3 dL_law_992 rfl ?_
  refine k_iconst C 993 1 dL_law_993 rfl ?_
  refine k_iadd C 994 dL_law_994 ?_
  refine k_sld C 995 hX hbl hbA (l_in hi h6 1 (by decide)) dL_law_995 ?_
  refine k_aload_n C 996 0 dL_law_996 rfl ?_
  refine k_iload_n C 997 3 dL_law_997 rfl ?_
  refine k_iconst C 998 2 dL_law_998 rfl ?_
  refine k_iadd C 999 dL_law_999 ?_
  refine k_sld C 1000 hX hbl hbA (l_in hi h6 2 (by decide)) dL_law_1000 ?_
  refine k_aload_n C 1001 0 dL_law_1001 rfl ?_
  refine k_iload_n C 1002 3 dL_law_1002 rfl ?_
  refine k_iconst C 1003 3 dL_law_1003 rfl ?_
  refine k_iadd C 1004 dL_law_1004 ?_
  refine k_sld C 1005 hX hbl hbA (l_in hi h6 3 (by decide)) dL_law_1005 ?_
  refine k_swap ?_
  refine k_callVi (st := []) (As := [.int (xs (nI i + 1).toNatClampNeg), .int (xs (nI i + 2).toNatClampNeg), .int (xs (nI i + 3).toNatClampNeg)]) C0 E0_ok E0_vm 1006 3 (tX7_hand (ad := ad2) LF (xs (nI i + 1).toNatClampNeg) (xs (nI i + 2).toNatClampNeg) (xs (nI i + 3).toNatClampNeg) v) e2 rfl gL_law_X7_hand rfl rfl rfl (by decide +kernel) ⟨Nat.le_of_ble_eq_true rfl, Nat.le_of_ble_eq_true rfl⟩ ⟨Nat.le_of_ble_eq_true rfl, Nat.le_of_ble_eq_true rfl⟩ rfl rfl rfl (Nat.le_of_ble_eq_true rfl) dL_law_1006 ?_
  refine k_swap ?_
  refine k_pop C 1009 dL_law_1009 rfl ?_
  exact k_goto C 1010 1723 dL_law_1010 (by decide) k
set_option maxRecDepth 100000 in
set_option maxHeartbeats 4000000 in
theorem law_c25 {p : Program} {l : Launch} {e : Env} {s : State} {m : MethodId} {below : List Frame} {meth : Method} {c : Code} {D : va_G} {cI cZ : ClassId} {ad ad2 : Nat → Nat} {tBURNS tFLAME_BOUNDS : Nat} {tS : Option Nat} {adK adV : Nat → Nat} {b L : Nat} {xs : Nat → Int32} (hL : L ≤ 384) (hX : va_X b L xs s s.heap) (hbl : b < s.heap.size) (hbA : ¬ s.heap.size ≤ b) (C : Cx p s m #[Value.ref b] meth c D [(cI, .int), (cZ, .boolean)] (EX tBURNS tFLAME_BOUNDS tS adK adV) (fun q : Nat => s.heap.size ≤ q) cL_law 4 (some .boolean) RL wsL_law) {i : Nat} (h6 : i + 6 ≤ L) {u v u' v' : St} {r : Int32} (e1 : pX6_turn LF (xs (nI i + 1).toNatClampNeg) (xs (nI i + 2).toNatClampNeg) (xs (nI i + 3).toNatClampNeg) u = some (r, u')) (e2 : pX7_turn LF (xs (nI i + 1).toNatClampNeg) (xs (nI i + 2).toNatClampNeg) (xs (nI i + 3).toNatClampNeg) v = some (r, v')) (k : KX p l e room_1 s m #[Value.ref b] below meth c D (fun q : Nat => s.heap.size ≤ q) 4 91 1902 (lw_Z below #[Value.ref b] s) 1723 [(0, .ref b), (1, .ref (ad 0)), (2, .ref (ad2 0)), (3, .int (nI i))] [] (wX ad cI cZ u' ++ wM ad2 cI cZ v')) : KX p l e room_1 s m #[Value.ref b] below meth c D (fun q : Nat => s.heap.size ≤ q) 4 91 1902 (lw_Z below #[Value.ref b] s) 1013 [(0, .ref b), (1, .ref (ad 0)), (2, .ref (ad2 0)), (3, .int (nI i))] [] (wX ad cI cZ u ++ wM ad2 cI cZ v) := by
  have C0 := C.env (EV2 := E0) trivial
  have hi := hL
  refine k_aload_n C 1013 1 dL_law_1013 rfl ?_
  refine k_aload_n C 1014 0 dL_law_1014 rfl ?_
  refine k_iload_n C 1015 3 dL_law_1015 rfl ?_
  refine k_iconst C 1016 1 dL_law_1016 rfl ?_
  refine k_iadd C 1017 dL_law_1017 ?_
  refine k_sld C 1018 hX hbl hbA (l_in hi h6 1 (by decide)) dL_law_1018 ?_
  refine k_aload_n C 1019 0 dL_law_1019 rfl ?_
  refine k_iload_n C 1020 3 dL_law_1020 rfl ?_
  refine k_iconst C 1021 2 dL_law_1021 rfl ?_
  refine k_iadd C 1022 dL_law_1022 ?_
  refine k_sld C 1023 hX hbl hbA (l_in hi h6 2 (by decide)) dL_law_1023 ?_
  refine k_aload_n C 1024 0 dL_law_1024 rfl ?_
  refine k_iload_n C 1025 3 dL_law_1025 rfl ?_
  refine k_iconst C 1026 3 dL_law_1026 rfl ?_
  refine k_iadd C 1027 dL_law_1027 ?_
  refine k_sld C 1028 hX hbl hbA (l_in hi h6 3 (by decide)) dL_law_1028 ?_
  refine k_callVi (st := []) (As := [.int (xs (nI i + 1).toNatClampNeg), .int (xs (nI i + 2).toNatClampNeg), .int (xs (nI i + 3).toNatClampNeg)]) C EX_ok EX_vm 1029 3 (tX6_turn (ad := ad) LF (xs (nI i + 1).toNatClampNeg) (xs (nI i + 2).toNatClampNeg) (xs (nI i + 3).toNatClampNeg) u) e1 rfl gL_law_X6_turn rfl rfl rfl (by decide +kernel) ⟨Nat.le_of_ble_eq_true rfl, Nat.le_of_ble_eq_true rfl⟩ ⟨Nat.le_of_ble_eq_true rfl, Nat.le_of_ble_eq_true rfl⟩ rfl rfl rfl (Nat.le_of_ble_eq_true rfl) dL_law_1029 ?_
  refine k_pop C 1032 dL_law_1032 rfl ?_
  refine k_aload_n C 1033 2 dL_law_1033 rfl ?_
  refine k_aload_n C 1034 0 dL_law_1034 rfl ?_
  refine k_iload_n C 1035 3 dL_law_1035 rfl ?_
  refine k_iconst C 1036 1 dL_law_1036 rfl ?_
  refine k_iadd C 1037 dL_law_1037 ?_
  refine k_sld C 1038 hX hbl hbA (l_in hi h6 1 (by decide)) dL_law_1038 ?_
  refine k_aload_n C 1039 0 dL_law_1039 rfl ?_
  refine k_iload_n C 1040 3 dL_law_1040 rfl ?_
  refine k_iconst C 1041 2 dL_law_1041 rfl ?_
  refine k_iadd C 1042 dL_law_1042 ?_
  refine k_sld C 1043 hX hbl hbA (l_in hi h6 2 (by decide)) dL_law_1043 ?_
  refine k_aload_n C 1044 0 dL_law_1044 rfl ?_
  refine k_iload_n C 1045 3 dL_law_1045 rfl ?_
  refine k_iconst C 1046 3 dL_law_1046 rfl ?_
  refine k_iadd C 1047 dL_law_1047 ?_
  refine k_sld C 1048 hX hbl hbA (l_in hi h6 3 (by decide)) dL_law_1048 ?_
  refine k_swap ?_
  refine k_callVi (st := []) (As := [.int (xs (nI i + 1).toNatClampNeg), .int (xs (nI i + 2).toNatClampNeg), .int (xs (nI i + 3).toNatClampNeg)]) C0 E0_ok E0_vm 1049 3 (tX7_turn (ad := ad2) LF (xs (nI i + 1).toNatClampNeg) (xs (nI i + 2).toNatClampNeg) (xs (nI i + 3).toNatClampNeg) v) e2 rfl gL_law_X7_turn rfl rfl rfl (by decide +kernel) ⟨Nat.le_of_ble_eq_true rfl, Nat.le_of_ble_eq_true rfl⟩ ⟨Nat.le_of_ble_eq_true rfl, Nat.le_of_ble_eq_true rfl⟩ rfl rfl rfl (Nat.le_of_ble_eq_true rfl) dL_law_1049 ?_
  refine k_swap ?_
  refine k_pop C 1052 dL_law_1052 rfl ?_
  exact k_goto C 1053 1723 dL_law_1053 (by decide) k
set_option maxRecDepth 100000 in
set_option maxHeartbeats 4000000 in
theorem law_c26 {p : Program} {l : Launch} {e : Env} {s : State} {m : MethodId} {below : List Frame} {meth : Method} {c : Code} {D : va_G} {cI cZ : ClassId} {ad ad2 : Nat → Nat} {tBURNS tFLAME_BOUNDS : Nat} {tS : Option Nat} {adK adV : Nat → Nat} {b L : Nat} {xs : Nat → Int32} (hL : L ≤ 384) (hX : va_X b L xs s s.heap) (hbl : b < s.heap.size) (hbA : ¬ s.heap.size ≤ b) (C : Cx p s m #[Value.ref b] meth c D [(cI, .int), (cZ, .boolean)] (EX tBURNS tFLAME_BOUNDS tS adK adV) (fun q : Nat => s.heap.size ≤ q) cL_law 4 (some .boolean) RL wsL_law) {i : Nat} (h6 : i + 6 ≤ L) {u v u' v' : St} {r : Int32} (e1 : pX6_sure LF (xs (nI i + 1).toNatClampNeg) (xs (nI i + 2).toNatClampNeg) (xs (nI i + 3).toNatClampNeg) u = some (r, u')) (e2 : pX7_sure LF (xs (nI i + 1).toNatClampNeg) (xs (nI i + 2).toNatClampNeg) (xs (nI i + 3).toNatClampNeg) v = some (r, v')) (k : KX p l e room_1 s m #[Value.ref b] below meth c D (fun q : Nat => s.heap.size ≤ q) 4 91 1902 (lw_Z below #[Value.ref b] s) 1723 [(0, .ref b), (1, .ref (ad 0)), (2, .ref (ad2 0)), (3, .int (nI i))] [] (wX ad cI cZ u' ++ wM ad2 cI cZ v')) : KX p l e room_1 s m #[Value.ref b] below meth c D (fun q : Nat => s.heap.size ≤ q) 4 91 1902 (lw_Z below #[Value.ref b] s) 1056 [(0, .ref b), (1, .ref (ad 0)), (2, .ref (ad2 0)), (3, .int (nI i))] [] (wX ad cI cZ u ++ wM ad2 cI cZ v) := by
  have C0 := C.env (EV2 := E0) trivial
  have hi := hL
  refine k_aload_n C 1056 1 dL_law_1056 rfl ?_
  refine k_aload_n C 1057 0 dL_law_1057 rfl ?_
  refine k_iload_n C 1058 3 dL_law_1058 rfl ?_
  refine k_iconst C 1059 1 dL_law_1059 rfl ?_
  refine k_iadd C 1060 dL_law_1060 ?_
  refine k_sld C 1061 hX hbl hbA (l_in hi h6 1 (by decide)) dL_law_1061 ?_
  refine k_aload_n C 1062 0 dL_law_1062 rfl ?_
  refine k_iload_n C 1063 3 dL_law_1063 rfl ?_
  refine k_iconst C 1064 2 dL_law_1064 rfl ?_
  refine k_iadd C 1065 dL_law_1065 ?_
  refine k_sld C 1066 hX hbl hbA (l_in hi h6 2 (by decide)) dL_law_1066 ?_
  refine k_aload_n C 1067 0 dL_law_1067 rfl ?_
  refine k_iload_n C 1068 3 dL_law_1068 rfl ?_
  refine k_iconst C 1069 3 dL_law_1069 rfl ?_
  refine k_iadd C 1070 dL_law_1070 ?_
  refine k_sld C 1071 hX hbl hbA (l_in hi h6 3 (by decide)) dL_law_1071 ?_
  refine k_callVi (st := []) (As := [.int (xs (nI i + 1).toNatClampNeg), .int (xs (nI i + 2).toNatClampNeg), .int (xs (nI i + 3).toNatClampNeg)]) C EX_ok EX_vm 1072 3 (tX6_sure (ad := ad) LF (xs (nI i + 1).toNatClampNeg) (xs (nI i + 2).toNatClampNeg) (xs (nI i + 3).toNatClampNeg) u) e1 rfl gL_law_X6_sure rfl rfl rfl (by decide +kernel) ⟨Nat.le_of_ble_eq_true rfl, Nat.le_of_ble_eq_true rfl⟩ ⟨Nat.le_of_ble_eq_true rfl, Nat.le_of_ble_eq_true rfl⟩ rfl rfl rfl (Nat.le_of_ble_eq_true rfl) dL_law_1072 ?_
  refine k_pop C 1075 dL_law_1075 rfl ?_
  refine k_aload_n C 1076 2 dL_law_1076 rfl ?_
  refine k_aload_n C 1077 0 dL_law_1077 rfl ?_
  refine k_iload_n C 1078 3 dL_law_1078 rfl ?_
  refine k_iconst C 1079 1 dL_law_1079 rfl ?_
  refine k_iadd C 1080 dL_law_1080 ?_
  refine k_sld C 1081 hX hbl hbA (l_in hi h6 1 (by decide)) dL_law_1081 ?_
  refine k_aload_n C 1082 0 dL_law_1082 rfl ?_
  refine k_iload_n C 1083 3 dL_law_1083 rfl ?_
  refine k_iconst C 1084 2 dL_law_1084 rfl ?_
  refine k_iadd C 1085 dL_law_1085 ?_
  refine k_sld C 1086 hX hbl hbA (l_in hi h6 2 (by decide)) dL_law_1086 ?_
  refine k_aload_n C 1087 0 dL_law_1087 rfl ?_
  refine k_iload_n C 1088 3 dL_law_1088 rfl ?_
  refine k_iconst C 1089 3 dL_law_1089 rfl ?_
  refine k_iadd C 1090 dL_law_1090 ?_
  refine k_sld C 1091 hX hbl hbA (l_in hi h6 3 (by decide)) dL_law_1091 ?_
  refine k_swap ?_
  refine k_callVi (st := []) (As := [.int (xs (nI i + 1).toNatClampNeg), .int (xs (nI i + 2).toNatClampNeg), .int (xs (nI i + 3).toNatClampNeg)]) C0 E0_ok E0_vm 1092 3 (tX7_sure (ad := ad2) LF (xs (nI i + 1).toNatClampNeg) (xs (nI i + 2).toNatClampNeg) (xs (nI i + 3).toNatClampNeg) v) e2 rfl gL_law_X7_sure rfl rfl rfl (by decide +kernel) ⟨Nat.le_of_ble_eq_true rfl, Nat.le_of_ble_eq_true rfl⟩ ⟨Nat.le_of_ble_eq_true rfl, Nat.le_of_ble_eq_true rfl⟩ rfl rfl rfl (Nat.le_of_ble_eq_true rfl) dL_law_1092 ?_
  refine k_swap ?_
  refine k_pop C 1095 dL_law_1095 rfl ?_
  exact k_goto C 1096 1723 dL_law_1096 (by decide) k
set_option maxRecDepth 100000 in
set_option maxHeartbeats 4000000 in
theorem law_c27 {p : Program} {l : Launch} {e : Env} {s : State} {m : MethodId} {below : List Frame} {meth : Method} {c : Code} {D : va_G} {cI cZ : ClassId} {ad ad2 : Nat → Nat} {tBURNS tFLAME_BOUNDS : Nat} {tS : Option Nat} {adK adV : Nat → Nat} {b L : Nat} {xs : Nat → Int32} (hL : L ≤ 384) (hX : va_X b L xs s s.heap) (hbl : b < s.heap.size) (hbA : ¬ s.heap.size ≤ b) (C : Cx p s m #[Value.ref b] meth c D [(cI, .int), (cZ, .boolean)] (EX tBURNS tFLAME_BOUNDS tS adK adV) (fun q : Nat => s.heap.size ≤ q) cL_law 4 (some .boolean) RL wsL_law) {i : Nat} (h6 : i + 6 ≤ L) {u v u' v' : St} {r : Int32} (e1 : pX6_rest LF (xs (nI i + 1).toNatClampNeg) (xs (nI i + 2).toNatClampNeg) (xs (nI i + 3).toNatClampNeg) u = some (r, u')) (e2 : pX7_rest LF (xs (nI i + 1).toNatClampNeg) (xs (nI i + 2).toNatClampNeg) (xs (nI i + 3).toNatClampNeg) v = some (r, v')) (k : KX p l e room_1 s m #[Value.ref b] below meth c D (fun q : Nat => s.heap.size ≤ q) 4 91 1902 (lw_Z below #[Value.ref b] s) 1723 [(0, .ref b), (1, .ref (ad 0)), (2, .ref (ad2 0)), (3, .int (nI i))] [] (wX ad cI cZ u' ++ wM ad2 cI cZ v')) : KX p l e room_1 s m #[Value.ref b] below meth c D (fun q : Nat => s.heap.size ≤ q) 4 91 1902 (lw_Z below #[Value.ref b] s) 1099 [(0, .ref b), (1, .ref (ad 0)), (2, .ref (ad2 0)), (3, .int (nI i))] [] (wX ad cI cZ u ++ wM ad2 cI cZ v) := by
  have C0 := C.env (EV2 := E0) trivial
  have hi := hL
  refine k_aload_n C 1099 1 dL_law_1099 rfl ?_
  refine k_aload_n C 1100 0 dL_law_1100 rfl ?_
  refine k_iload_n C 1101 3 dL_law_1101 rfl ?_
  refine k_iconst C 1102 1 dL_law_1102 rfl ?_
  refine k_iadd C 1103 dL_law_1103 ?_
  refine k_sld C 1104 hX hbl hbA (l_in hi h6 1 (by decide)) dL_law_1104 ?_
  refine k_aload_n C 1105 0 dL_law_1105 rfl ?_
  refine k_iload_n C 1106 3 dL_law_1106 rfl ?_
  refine k_iconst C 1107 2 dL_law_1107 rfl ?_
  refine k_iadd C 1108 dL_law_1108 ?_
  refine k_sld C 1109 hX hbl hbA (l_in hi h6 2 (by decide)) dL_law_1109 ?_
  refine k_aload_n C 1110 0 dL_law_1110 rfl ?_
  refine k_iload_n C 1111 3 dL_law_1111 rfl ?_
  refine k_iconst C 1112 3 dL_law_1112 rfl ?_
  refine k_iadd C 1113 dL_law_1113 ?_
  refine k_sld C 1114 hX hbl hbA (l_in hi h6 3 (by decide)) dL_law_1114 ?_
  refine k_callVi (st := []) (As := [.int (xs (nI i + 1).toNatClampNeg), .int (xs (nI i + 2).toNatClampNeg), .int (xs (nI i + 3).toNatClampNeg)]) C EX_ok EX_vm 1115 3 (tX6_rest (ad := ad) LF (xs (nI i + 1).toNatClampNeg) (xs (nI i + 2).toNatClampNeg) (xs (nI i + 3).toNatClampNeg) u) e1 rfl gL_law_X6_rest rfl rfl rfl (by decide +kernel) ⟨Nat.le_of_ble_eq_true rfl, Nat.le_of_ble_eq_true rfl⟩ ⟨Nat.le_of_ble_eq_true rfl, Nat.le_of_ble_eq_true rfl⟩ rfl rfl rfl (Nat.le_of_ble_eq_true rfl) dL_law_1115 ?_
  refine k_pop C 1118 dL_law_1118 rfl ?_
  refine k_aload_n C 1119 2 dL_law_1119 rfl ?_
  refine k_aload_n C 1120 0 dL_law_1120 rfl ?_
  refine k_iload_n C 1121 3 dL_law_1121 rfl ?_
  refine k_iconst C 1122 1 dL_law_1122 rfl ?_
  refine k_iadd C 1123 dL_law_1123 ?_
  refine k_sld C 1124 hX hbl hbA (l_in hi h6 1 (by decide)) dL_law_1124 ?_
  refine k_aload_n C 1125 0 dL_law_1125 rfl ?_
  refine k_iload_n C 1126 3 dL_law_1126 rfl ?_
  refine k_iconst C 1127 2 dL_law_1127 rfl ?_
  refine k_iadd C 1128 dL_law_1128 ?_
  refine k_sld C 1129 hX hbl hbA (l_in hi h6 2 (by decide)) dL_law_1129 ?_
  refine k_aload_n C 1130 0 dL_law_1130 rfl ?_
  refine k_iload_n C 1131 3 dL_law_1131 rfl ?_
  refine k_iconst C 1132 3 dL_law_1132 rfl ?_
  refine k_iadd C 1133 dL_law_1133 ?_
  refine k_sld C 1134 hX hbl hbA (l_in hi h6 3 (by decide)) dL_law_1134 ?_
  refine k_swap ?_
  refine k_callVi (st := []) (As := [.int (xs (nI i + 1).toNatClampNeg), .int (xs (nI i + 2).toNatClampNeg), .int (xs (nI i + 3).toNatClampNeg)]) C0 E0_ok E0_vm 1135 3 (tX7_rest (ad := ad2) LF (xs (nI i + 1).toNatClampNeg) (xs (nI i + 2).toNatClampNeg) (xs (nI i + 3).toNatClampNeg) v) e2 rfl gL_law_X7_rest rfl rfl rfl (by decide +kernel) ⟨Nat.le_of_ble_eq_true rfl, Nat.le_of_ble_eq_true rfl⟩ ⟨Nat.le_of_ble_eq_true rfl, Nat.le_of_ble_eq_true rfl⟩ rfl rfl rfl (Nat.le_of_ble_eq_true rfl) dL_law_1135 ?_
  refine k_swap ?_
  refine k_pop C 1138 dL_law_1138 rfl ?_
  exact k_goto C 1139 1723 dL_law_1139 (by decide) k
set_option maxRecDepth 100000 in
set_option maxHeartbeats 4000000 in
theorem law_c28 {p : Program} {l : Launch} {e : Env} {s : State} {m : MethodId} {below : List Frame} {meth : Method} {c : Code} {D : va_G} {cI cZ : ClassId} {ad ad2 : Nat → Nat} {tBURNS tFLAME_BOUNDS : Nat} {tS : Option Nat} {adK adV : Nat → Nat} {b L : Nat} {xs : Nat → Int32} (hL : L ≤ 384) (hX : va_X b L xs s s.heap) (hbl : b < s.heap.size) (hbA : ¬ s.heap.size ≤ b) (C : Cx p s m #[Value.ref b] meth c D [(cI, .int), (cZ, .boolean)] (EX tBURNS tFLAME_BOUNDS tS adK adV) (fun q : Nat => s.heap.size ≤ q) cL_law 4 (some .boolean) RL wsL_law) {i : Nat} (h6 : i + 6 ≤ L) {u v u' v' : St} {r : Int32} (e1 : pX6_share LF (xs (nI i + 1).toNatClampNeg) (xs (nI i + 2).toNatClampNeg) u = some (r, u')) (e2 : pX7_share LF (xs (nI i + 1).toNatClampNeg) (xs (nI i + 2).toNatClampNeg) v = some (r, v')) (k : KX p l e room_1 s m #[Value.ref b] below meth c D (fun q : Nat => s.heap.size ≤ q) 4 91 1902 (lw_Z below #[Value.ref b] s) 1723 [(0, .ref b), (1, .ref (ad 0)), (2, .ref (ad2 0)), (3, .int (nI i))] [] (wX ad cI cZ u' ++ wM ad2 cI cZ v')) : KX p l e room_1 s m #[Value.ref b] below meth c D (fun q : Nat => s.heap.size ≤ q) 4 91 1902 (lw_Z below #[Value.ref b] s) 1142 [(0, .ref b), (1, .ref (ad 0)), (2, .ref (ad2 0)), (3, .int (nI i))] [] (wX ad cI cZ u ++ wM ad2 cI cZ v) := by
  have C0 := C.env (EV2 := E0) trivial
  have hi := hL
  refine k_aload_n C 1142 1 dL_law_1142 rfl ?_
  refine k_aload_n C 1143 0 dL_law_1143 rfl ?_
  refine k_iload_n C 1144 3 dL_law_1144 rfl ?_
  refine k_iconst C 1145 1 dL_law_1145 rfl ?_
  refine k_iadd C 1146 dL_law_1146 ?_
  refine k_sld C 1147 hX hbl hbA (l_in hi h6 1 (by decide)) dL_law_1147 ?_
  refine k_aload_n C 1148 0 dL_law_1148 rfl ?_
  refine k_iload_n C 1149 3 dL_law_1149 rfl ?_
  refine k_iconst C 1150 2 dL_law_1150 rfl ?_
  refine k_iadd C 1151 dL_law_1151 ?_
  refine k_sld C 1152 hX hbl hbA (l_in hi h6 2 (by decide)) dL_law_1152 ?_
  refine k_callVi (st := []) (As := [.int (xs (nI i + 1).toNatClampNeg), .int (xs (nI i + 2).toNatClampNeg)]) C EX_ok EX_vm 1153 2 (tX6_share (ad := ad) LF (xs (nI i + 1).toNatClampNeg) (xs (nI i + 2).toNatClampNeg) u) e1 rfl gL_law_X6_share rfl rfl rfl (by decide +kernel) ⟨Nat.le_of_ble_eq_true rfl, Nat.le_of_ble_eq_true rfl⟩ ⟨Nat.le_of_ble_eq_true rfl, Nat.le_of_ble_eq_true rfl⟩ rfl rfl rfl (Nat.le_of_ble_eq_true rfl) dL_law_1153 ?_
  refine k_pop C 1156 dL_law_1156 rfl ?_
  refine k_aload_n C 1157 2 dL_law_1157 rfl ?_
  refine k_aload_n C 1158 0 dL_law_1158 rfl ?_
  refine k_iload_n C 1159 3 dL_law_1159 rfl ?_
  refine k_iconst C 1160 1 dL_law_1160 rfl ?_
  refine k_iadd C 1161 dL_law_1161 ?_
  refine k_sld C 1162 hX hbl hbA (l_in hi h6 1 (by decide)) dL_law_1162 ?_
  refine k_aload_n C 1163 0 dL_law_1163 rfl ?_
  refine k_iload_n C 1164 3 dL_law_1164 rfl ?_
  refine k_iconst C 1165 2 dL_law_1165 rfl ?_
  refine k_iadd C 1166 dL_law_1166 ?_
  refine k_sld C 1167 hX hbl hbA (l_in hi h6 2 (by decide)) dL_law_1167 ?_
  refine k_swap ?_
  refine k_callVi (st := []) (As := [.int (xs (nI i + 1).toNatClampNeg), .int (xs (nI i + 2).toNatClampNeg)]) C0 E0_ok E0_vm 1168 2 (tX7_share (ad := ad2) LF (xs (nI i + 1).toNatClampNeg) (xs (nI i + 2).toNatClampNeg) v) e2 rfl gL_law_X7_share rfl rfl rfl (by decide +kernel) ⟨Nat.le_of_ble_eq_true rfl, Nat.le_of_ble_eq_true rfl⟩ ⟨Nat.le_of_ble_eq_true rfl, Nat.le_of_ble_eq_true rfl⟩ rfl rfl rfl (Nat.le_of_ble_eq_true rfl) dL_law_1168 ?_
  refine k_swap ?_
  refine k_pop C 1171 dL_law_1171 rfl ?_
  exact k_goto C 1172 1723 dL_law_1172 (by decide) k
set_option maxRecDepth 100000 in
set_option maxHeartbeats 4000000 in
theorem law_c29 {p : Program} {l : Launch} {e : Env} {s : State} {m : MethodId} {below : List Frame} {meth : Method} {c : Code} {D : va_G} {cI cZ : ClassId} {ad ad2 : Nat → Nat} {tBURNS tFLAME_BOUNDS : Nat} {tS : Option Nat} {adK adV : Nat → Nat} {b L : Nat} {xs : Nat → Int32} (hL : L ≤ 384) (hX : va_X b L xs s s.heap) (hbl : b < s.heap.size) (hbA : ¬ s.heap.size ≤ b) (C : Cx p s m #[Value.ref b] meth c D [(cI, .int), (cZ, .boolean)] (EX tBURNS tFLAME_BOUNDS tS adK adV) (fun q : Nat => s.heap.size ≤ q) cL_law 4 (some .boolean) RL wsL_law) {i : Nat} (h6 : i + 6 ≤ L) {u v u' v' : St} {r : Int32} (e1 : pX6_swap LF (xs (nI i + 1).toNatClampNeg) (xs (nI i + 2).toNatClampNeg) u = some (r, u')) (e2 : pX7_swap LF (xs (nI i + 1).toNatClampNeg) (xs (nI i + 2).toNatClampNeg) v = some (r, v')) (k : KX p l e room_1 s m #[Value.ref b] below meth c D (fun q : Nat => s.heap.size ≤ q) 4 91 1902 (lw_Z below #[Value.ref b] s) 1723 [(0, .ref b), (1, .ref (ad 0)), (2, .ref (ad2 0)), (3, .int (nI i))] [] (wX ad cI cZ u' ++ wM ad2 cI cZ v')) : KX p l e room_1 s m #[Value.ref b] below meth c D (fun q : Nat => s.heap.size ≤ q) 4 91 1902 (lw_Z below #[Value.ref b] s) 1175 [(0, .ref b), (1, .ref (ad 0)), (2, .ref (ad2 0)), (3, .int (nI i))] [] (wX ad cI cZ u ++ wM ad2 cI cZ v) := by
  have C0 := C.env (EV2 := E0) trivial
  have hi := hL
  refine k_aload_n C 1175 1 dL_law_1175 rfl ?_
  refine k_aload_n C 1176 0 dL_law_1176 rfl ?_
  refine k_iload_n C 1177 3 dL_law_1177 rfl ?_
  refine k_iconst C 1178 1 dL_law_1178 rfl ?_
  refine k_iadd C 1179 dL_law_1179 ?_
  refine k_sld C 1180 hX hbl hbA (l_in hi h6 1 (by decide)) dL_law_1180 ?_
  refine k_aload_n C 1181 0 dL_law_1181 rfl ?_
  refine k_iload_n C 1182 3 dL_law_1182 rfl ?_
  refine k_iconst C 1183 2 dL_law_1183 rfl ?_
  refine k_iadd C 1184 dL_law_1184 ?_
  refine k_sld C 1185 hX hbl hbA (l_in hi h6 2 (by decide)) dL_law_1185 ?_
  refine k_callVi (st := []) (As := [.int (xs (nI i + 1).toNatClampNeg), .int (xs (nI i + 2).toNatClampNeg)]) C EX_ok EX_vm 1186 2 (tX6_swap (ad := ad) LF (xs (nI i + 1).toNatClampNeg) (xs (nI i + 2).toNatClampNeg) u) e1 rfl gL_law_X6_swap rfl rfl rfl (by decide +kernel) ⟨Nat.le_of_ble_eq_true rfl, Nat.le_of_ble_eq_true rfl⟩ ⟨Nat.le_of_ble_eq_true rfl, Nat.le_of_ble_eq_true rfl⟩ rfl rfl rfl (Nat.le_of_ble_eq_true rfl) dL_law_1186 ?_
  refine k_pop C 1189 dL_law_1189 rfl ?_
  refine k_aload_n C 1190 2 dL_law_1190 rfl ?_
  refine k_aload_n C 1191 0 dL_law_1191 rfl ?_
  refine k_iload_n C 1192 3 dL_law_1192 rfl ?_
  refine k_iconst C 1193 1 dL_law_1193 rfl ?_
  refine k_iadd C 1194 dL_law_1194 ?_
  refine k_sld C 1195 hX hbl hbA (l_in hi h6 1 (by decide)) dL_law_1195 ?_
  refine k_aload_n C 1196 0 dL_law_1196 rfl ?_
  refine k_iload_n C 1197 3 dL_law_1197 rfl ?_
  refine k_iconst C 1198 2 dL_law_1198 rfl ?_
  refine k_iadd C 1199 dL_law_1199 ?_
  refine k_sld C 1200 hX hbl hbA (l_in hi h6 2 (by decide)) dL_law_1200 ?_
  refine k_swap ?_
  refine k_callVi (st := []) (As := [.int (xs (nI i + 1).toNatClampNeg), .int (xs (nI i + 2).toNatClampNeg)]) C0 E0_ok E0_vm 1201 2 (tX7_swap (ad := ad2) LF (xs (nI i + 1).toNatClampNeg) (xs (nI i + 2).toNatClampNeg) v) e2 rfl gL_law_X7_swap rfl rfl rfl (by decide +kernel) ⟨Nat.le_of_ble_eq_true rfl, Nat.le_of_ble_eq_true rfl⟩ ⟨Nat.le_of_ble_eq_true rfl, Nat.le_of_ble_eq_true rfl⟩ rfl rfl rfl (Nat.le_of_ble_eq_true rfl) dL_law_1201 ?_
  refine k_swap ?_
  refine k_pop C 1204 dL_law_1204 rfl ?_
  exact k_goto C 1205 1723 dL_law_1205 (by decide) k
set_option maxRecDepth 100000 in
set_option maxHeartbeats 4000000 in
theorem law_c30 {p : Program} {l : Launch} {e : Env} {s : State} {m : MethodId} {below : List Frame} {meth : Method} {c : Code} {D : va_G} {cI cZ : ClassId} {ad ad2 : Nat → Nat} {tBURNS tFLAME_BOUNDS : Nat} {tS : Option Nat} {adK adV : Nat → Nat} {b L : Nat} {xs : Nat → Int32} (hL : L ≤ 384) (hX : va_X b L xs s s.heap) (hbl : b < s.heap.size) (hbA : ¬ s.heap.size ≤ b) (C : Cx p s m #[Value.ref b] meth c D [(cI, .int), (cZ, .boolean)] (EX tBURNS tFLAME_BOUNDS tS adK adV) (fun q : Nat => s.heap.size ≤ q) cL_law 4 (some .boolean) RL wsL_law) {i : Nat} (h6 : i + 6 ≤ L) {u v u' v' : St} {r : Int64} (e1 : pX6_luck LF (xs (nI i + 1).toNatClampNeg) (xs (nI i + 2).toNatClampNeg) (xs (nI i + 3).toNatClampNeg) (xs (nI i + 4).toNatClampNeg) (xs (nI i + 5).toNatClampNeg) u = some (r, u')) (e2 : pX7_luck LF (xs (nI i + 1).toNatClampNeg) (xs (nI i + 2).toNatClampNeg) (xs (nI i + 3).toNatClampNeg) (xs (nI i + 4).toNatClampNeg) (xs (nI i + 5).toNatClampNeg) v = some (r, v')) (k : KX p l e room_1 s m #[Value.ref b] below meth c D (fun q : Nat => s.heap.size ≤ q) 4 91 1902 (lw_Z below #[Value.ref b] s) 1723 [(0, .ref b), (1, .ref (ad 0)), (2, .ref (ad2 0)), (3, .int (nI i))] [] (wX ad cI cZ u' ++ wM ad2 cI cZ v')) : KX p l e room_1 s m #[Value.ref b] below meth c D (fun q : Nat => s.heap.size ≤ q) 4 91 1902 (lw_Z below #[Value.ref b] s) 1208 [(0, .ref b), (1, .ref (ad 0)), (2, .ref (ad2 0)), (3, .int (nI i))] [] (wX ad cI cZ u ++ wM ad2 cI cZ v) := by
  have C0 := C.env (EV2 := E0) trivial
  have hi := hL
  refine k_aload_n C 1208 1 dL_law_1208 rfl ?_
  refine k_aload_n C 1209 0 dL_law_1209 rfl ?_
  refine k_iload_n C 1210 3 dL_law_1210 rfl ?_
  refine k_iconst C 1211 1 dL_law_1211 rfl ?_
  refine k_iadd C 1212 dL_law_1212 ?_
  refine k_sld C 1213 hX hbl hbA (l_in hi h6 1 (by decide)) dL_law_1213 ?_
  refine k_aload_n C 1214 0 dL_law_1214 rfl ?_
  refine k_iload_n C 1215 3 dL_law_1215 rfl ?_
  refine k_iconst C 1216 2 dL_law_1216 rfl ?_
  refine k_iadd C 1217 dL_law_1217 ?_
  refine k_sld C 1218 hX hbl hbA (l_in hi h6 2 (by decide)) dL_law_1218 ?_
  refine k_aload_n C 1219 0 dL_law_1219 rfl ?_
  refine k_iload_n C 1220 3 dL_law_1220 rfl ?_
  refine k_iconst C 1221 3 dL_law_1221 rfl ?_
  refine k_iadd C 1222 dL_law_1222 ?_
  refine k_sld C 1223 hX hbl hbA (l_in hi h6 3 (by decide)) dL_law_1223 ?_
  refine k_aload_n C 1224 0 dL_law_1224 rfl ?_
  refine k_iload_n C 1225 3 dL_law_1225 rfl ?_
  refine k_iconst C 1226 4 dL_law_1226 rfl ?_
  refine k_iadd C 1227 dL_law_1227 ?_
  refine k_sld C 1228 hX hbl hbA (l_in hi h6 4 (by decide)) dL_law_1228 ?_
  refine k_aload_n C 1229 0 dL_law_1229 rfl ?_
  refine k_iload_n C 1230 3 dL_law_1230 rfl ?_
  refine k_iconst C 1231 5 dL_law_1231 rfl ?_
  refine k_iadd C 1232 dL_law_1232 ?_
  refine k_sld C 1233 hX hbl hbA (l_in hi h6 5 (by decide)) dL_law_1233 ?_
  refine k_callVl (st := []) (As := [.int (xs (nI i + 1).toNatClampNeg), .int (xs (nI i + 2).toNatClampNeg), .int (xs (nI i + 3).toNatClampNeg), .int (xs (nI i + 4).toNatClampNeg), .int (xs (nI i + 5).toNatClampNeg)]) C EX_ok EX_vm 1234 5 (tX6_luck (ad := ad) LF (xs (nI i + 1).toNatClampNeg) (xs (nI i + 2).toNatClampNeg) (xs (nI i + 3).toNatClampNeg) (xs (nI i + 4).toNatClampNeg) (xs (nI i + 5).toNatClampNeg) u) e1 rfl gL_law_X6_luck rfl rfl rfl (by decide +kernel) ⟨Nat.le_of_ble_eq_true rfl, Nat.le_of_ble_eq_true rfl⟩ ⟨Nat.le_of_ble_eq_true rfl, Nat.le_of_ble_eq_true rfl⟩ rfl rfl rfl (Nat.le_of_ble_eq_true rfl) dL_law_1234 ?_
  refine k_pop2 C 1237 dL_law_1237 rfl ?_
  refine k_aload_n C 1238 2 dL_law_1238 rfl ?_
  refine k_aload_n C 1239 0 dL_law_1239 rfl ?_
  refine k_iload_n C 1240 3 dL_law_1240 rfl ?_
  refine k_iconst C 1241 1 dL_law_1241 rfl ?_
  refine k_iadd C 1242 dL_law_1242 ?_
  refine k_sld C 1243 hX hbl hbA (l_in hi h6 1 (by decide)) dL_law_1243 ?_
  refine k_aload_n C 1244 0 dL_law_1244 rfl ?_
  refine k_iload_n C 1245 3 dL_law_1245 rfl ?_
  refine k_iconst C 1246 2 dL_law_1246 rfl ?_
  refine k_iadd C 1247 dL_law_1247 ?_
  refine k_sld C 1248 hX hbl hbA (l_in hi h6 2 (by decide)) dL_law_1248 ?_
  refine k_aload_n C 1249 0 dL_law_1249 rfl ?_
  refine k_iload_n C 1250 3 dL_law_1250 rfl ?_
  refine k_iconst C 1251 3 dL_law_1251 rfl ?_
  refine k_iadd C 1252 dL_law_1252 ?_
  refine k_sld C 1253 hX hbl hbA (l_in hi h6 3 (by decide)) dL_law_1253 ?_
  refine k_aload_n C 1254 0 dL_law_1254 rfl ?_
  refine k_iload_n C 1255 3 dL_law_1255 rfl ?_
  refine k_iconst C 1256 4 dL_law_1256 rfl ?_
  refine k_iadd C 1257 dL_law_1257 ?_
  refine k_sld C 1258 hX hbl hbA (l_in hi h6 4 (by decide)) dL_law_1258 ?_
  refine k_aload_n C 1259 0 dL_law_1259 rfl ?_
  refine k_iload_n C 1260 3 dL_law_1260 rfl ?_
  refine k_iconst C 1261 5 dL_law_1261 rfl ?_
  refine k_iadd C 1262 dL_law_1262 ?_
  refine k_sld C 1263 hX hbl hbA (l_in hi h6 5 (by decide)) dL_law_1263 ?_
  refine k_swap ?_
  refine k_callVl (st := []) (As := [.int (xs (nI i + 1).toNatClampNeg), .int (xs (nI i + 2).toNatClampNeg), .int (xs (nI i + 3).toNatClampNeg), .int (xs (nI i + 4).toNatClampNeg), .int (xs (nI i + 5).toNatClampNeg)]) C0 E0_ok E0_vm 1264 5 (tX7_luck (ad := ad2) LF (xs (nI i + 1).toNatClampNeg) (xs (nI i + 2).toNatClampNeg) (xs (nI i + 3).toNatClampNeg) (xs (nI i + 4).toNatClampNeg) (xs (nI i + 5).toNatClampNeg) v) e2 rfl gL_law_X7_luck rfl rfl rfl (by decide +kernel) ⟨Nat.le_of_ble_eq_true rfl, Nat.le_of_ble_eq_true rfl⟩ ⟨Nat.le_of_ble_eq_true rfl, Nat.le_of_ble_eq_true rfl⟩ rfl rfl rfl (Nat.le_of_ble_eq_true rfl) dL_law_1264 ?_
  refine k_swap ?_
  refine k_pop2 C 1267 dL_law_1267 rfl ?_
  exact k_goto C 1268 1723 dL_law_1268 (by decide) k
set_option maxRecDepth 100000 in
set_option maxHeartbeats 4000000 in
theorem law_c31 {p : Program} {l : Launch} {e : Env} {s : State} {m : MethodId} {below : List Frame} {meth : Method} {c : Code} {D : va_G} {cI cZ : ClassId} {ad ad2 : Nat → Nat} {tBURNS tFLAME_BOUNDS : Nat} {tS : Option Nat} {adK adV : Nat → Nat} {b L : Nat} {xs : Nat → Int32} (hL : L ≤ 384) (hX : va_X b L xs s s.heap) (hbl : b < s.heap.size) (hbA : ¬ s.heap.size ≤ b) (C : Cx p s m #[Value.ref b] meth c D [(cI, .int), (cZ, .boolean)] (EX tBURNS tFLAME_BOUNDS tS adK adV) (fun q : Nat => s.heap.size ≤ q) cL_law 4 (some .boolean) RL wsL_law) {i : Nat} (h6 : i + 6 ≤ L) {u v u' v' : St} {r : Int64} (e1 : pX6_mean LF (xs (nI i + 1).toNatClampNeg) (xs (nI i + 2).toNatClampNeg) (xs (nI i + 3).toNatClampNeg) u = some (r, u')) (e2 : pX7_mean LF (xs (nI i + 1).toNatClampNeg) (xs (nI i + 2).toNatClampNeg) (xs (nI i + 3).toNatClampNeg) v = some (r, v')) (k : KX p l e room_1 s m #[Value.ref b] below meth c D (fun q : Nat => s.heap.size ≤ q) 4 91 1902 (lw_Z below #[Value.ref b] s) 1723 [(0, .ref b), (1, .ref (ad 0)), (2, .ref (ad2 0)), (3, .int (nI i))] [] (wX ad cI cZ u' ++ wM ad2 cI cZ v')) : KX p l e room_1 s m #[Value.ref b] below meth c D (fun q : Nat => s.heap.size ≤ q) 4 91 1902 (lw_Z below #[Value.ref b] s) 1271 [(0, .ref b), (1, .ref (ad 0)), (2, .ref (ad2 0)), (3, .int (nI i))] [] (wX ad cI cZ u ++ wM ad2 cI cZ v) := by
  have C0 := C.env (EV2 := E0) trivial
  have hi := hL
  refine k_aload_n C 1271 1 dL_law_1271 rfl ?_
  refine k_aload_n C 1272 0 dL_law_1272 rfl ?_
  refine k_iload_n C 1273 3 dL_law_1273 rfl ?_
  refine k_iconst C 1274 1 dL_law_1274 rfl ?_
  refine k_iadd C 1275 dL_law_1275 ?_
  refine k_sld C 1276 hX hbl hbA (l_in hi h6 1 (by decide)) dL_law_1276 ?_
  refine k_aload_n C 1277 0 dL_law_1277 rfl ?_
  refine k_iload_n C 1278 3 dL_law_1278 rfl ?_
  refine k_iconst C 1279 2 dL_law_1279 rfl ?_
  refine k_iadd C 1280 dL_law_1280 ?_
  refine k_sld C 1281 hX hbl hbA (l_in hi h6 2 (by decide)) dL_law_1281 ?_
  refine k_aload_n C 1282 0 dL_law_1282 rfl ?_
  refine k_iload_n C 1283 3 dL_law_1283 rfl ?_
  refine k_iconst C 1284 3 dL_law_1284 rfl ?_
  refine k_iadd C 1285 dL_law_1285 ?_
  refine k_sld C 1286 hX hbl hbA (l_in hi h6 3 (by decide)) dL_law_1286 ?_
  refine k_callVl (st := []) (As := [.int (xs (nI i + 1).toNatClampNeg), .int (xs (nI i + 2).toNatClampNeg), .int (xs (nI i + 3).toNatClampNeg)]) C EX_ok EX_vm 1287 3 (tX6_mean (ad := ad) LF (xs (nI i + 1).toNatClampNeg) (xs (nI i + 2).toNatClampNeg) (xs (nI i + 3).toNatClampNeg) u) e1 rfl gL_law_X6_mean rfl rfl rfl (by decide +kernel) ⟨Nat.le_of_ble_eq_true rfl, Nat.le_of_ble_eq_true rfl⟩ ⟨Nat.le_of_ble_eq_true rfl, Nat.le_of_ble_eq_true rfl⟩ rfl rfl rfl (Nat.le_of_ble_eq_true rfl) dL_law_1287 ?_
  refine k_pop2 C 1290 dL_law_1290 rfl ?_
  refine k_aload_n C 1291 2 dL_law_1291 rfl ?_
  refine k_aload_n C 1292 0 dL_law_1292 rfl ?_
  refine k_iload_n C 1293 3 dL_law_1293 rfl ?_
  refine k_iconst C 1294 1 dL_law_1294 rfl ?_
  refine k_iadd C 1295 dL_law_1295 ?_
  refine k_sld C 1296 hX hbl hbA (l_in hi h6 1 (by decide)) dL_law_1296 ?_
  refine k_aload_n C 1297 0 dL_law_1297 rfl ?_
  refine k_iload_n C 1298 3 dL_law_1298 rfl ?_
  refine k_iconst C 1299 2 dL_law_1299 rfl ?_
  refine k_iadd C 1300 dL_law_1300 ?_
  refine k_sld C 1301 hX hbl hbA (l_in hi h6 2 (by decide)) dL_law_1301 ?_
  refine k_aload_n C 1302 0 dL_law_1302 rfl ?_
  refine k_iload_n C 1303 3 dL_law_1303 rfl ?_
  refine k_iconst C 1304 3 dL_law_1304 rfl ?_
  refine k_iadd C 1305 dL_law_1305 ?_
  refine k_sld C 1306 hX hbl hbA (l_in hi h6 3 (by decide)) dL_law_1306 ?_
  refine k_swap ?_
  refine k_callVl (st := []) (As := [.int (xs (nI i + 1).toNatClampNeg), .int (xs (nI i + 2).toNatClampNeg), .int (xs (nI i + 3).toNatClampNeg)]) C0 E0_ok E0_vm 1307 3 (tX7_mean (ad := ad2) LF (xs (nI i + 1).toNatClampNeg) (xs (nI i + 2).toNatClampNeg) (xs (nI i + 3).toNatClampNeg) v) e2 rfl gL_law_X7_mean rfl rfl rfl (by decide +kernel) ⟨Nat.le_of_ble_eq_true rfl, Nat.le_of_ble_eq_true rfl⟩ ⟨Nat.le_of_ble_eq_true rfl, Nat.le_of_ble_eq_true rfl⟩ rfl rfl rfl (Nat.le_of_ble_eq_true rfl) dL_law_1307 ?_
  refine k_swap ?_
  refine k_pop2 C 1310 dL_law_1310 rfl ?_
  exact k_goto C 1311 1723 dL_law_1311 (by decide) k
set_option maxRecDepth 100000 in
set_option maxHeartbeats 4000000 in
theorem law_c32 {p : Program} {l : Launch} {e : Env} {s : State} {m : MethodId} {below : List Frame} {meth : Method} {c : Code} {D : va_G} {cI cZ : ClassId} {ad ad2 : Nat → Nat} {tBURNS tFLAME_BOUNDS : Nat} {tS : Option Nat} {adK adV : Nat → Nat} {b L : Nat} {xs : Nat → Int32} (hL : L ≤ 384) (hX : va_X b L xs s s.heap) (hbl : b < s.heap.size) (hbA : ¬ s.heap.size ≤ b) (C : Cx p s m #[Value.ref b] meth c D [(cI, .int), (cZ, .boolean)] (EX tBURNS tFLAME_BOUNDS tS adK adV) (fun q : Nat => s.heap.size ≤ q) cL_law 4 (some .boolean) RL wsL_law) {i : Nat} (h6 : i + 6 ≤ L) {u v u' v' : St} {r : Int32} (e1 : pX6_see LF (xs (nI i + 1).toNatClampNeg) (xs (nI i + 2).toNatClampNeg) (xs (nI i + 3).toNatClampNeg) u = some (r, u')) (e2 : pX7_see LF (xs (nI i + 1).toNatClampNeg) (xs (nI i + 2).toNatClampNeg) (xs (nI i + 3).toNatClampNeg) v = some (r, v')) (k : KX p l e room_1 s m #[Value.ref b] below meth c D (fun q : Nat => s.heap.size ≤ q) 4 91 1902 (lw_Z below #[Value.ref b] s) 1723 [(0, .ref b), (1, .ref (ad 0)), (2, .ref (ad2 0)), (3, .int (nI i))] [] (wX ad cI cZ u' ++ wM ad2 cI cZ v')) : KX p l e room_1 s m #[Value.ref b] below meth c D (fun q : Nat => s.heap.size ≤ q) 4 91 1902 (lw_Z below #[Value.ref b] s) 1314 [(0, .ref b), (1, .ref (ad 0)), (2, .ref (ad2 0)), (3, .int (nI i))] [] (wX ad cI cZ u ++ wM ad2 cI cZ v) := by
  have C0 := C.env (EV2 := E0) trivial
  have hi := hL
  refine k_aload_n C 1314 1 dL_law_1314 rfl ?_
  refine k_aload_n C 1315 0 dL_law_1315 rfl ?_
  refine k_iload_n C 1316 3 dL_law_1316 rfl ?_
  refine k_iconst C 1317 1 dL_law_1317 rfl ?_
  refine k_iadd C 1318 dL_law_1318 ?_
  refine k_sld C 1319 hX hbl hbA (l_in hi h6 1 (by decide)) dL_law_1319 ?_
  refine k_aload_n C 1320 0 dL_law_1320 rfl ?_
  refine k_iload_n C 1321 3 dL_law_1321 rfl ?_
  refine k_iconst C 1322 2 dL_law_1322 rfl ?_
  refine k_iadd C 1323 dL_law_1323 ?_
  refine k_sld C 1324 hX hbl hbA (l_in hi h6 2 (by decide)) dL_law_1324 ?_
  refine k_aload_n C 1325 0 dL_law_1325 rfl ?_
  refine k_iload_n C 1326 3 dL_law_1326 rfl ?_
  refine k_iconst C 1327 3 dL_law_1327 rfl ?_
  refine k_iadd C 1328 dL_law_1328 ?_
  refine k_sld C 1329 hX hbl hbA (l_in hi h6 3 (by decide)) dL_law_1329 ?_
  refine k_callVi (st := []) (As := [.int (xs (nI i + 1).toNatClampNeg), .int (xs (nI i + 2).toNatClampNeg), .int (xs (nI i + 3).toNatClampNeg)]) C EX_ok EX_vm 1330 3 (tX6_see (ad := ad) LF (xs (nI i + 1).toNatClampNeg) (xs (nI i + 2).toNatClampNeg) (xs (nI i + 3).toNatClampNeg) u) e1 rfl gL_law_X6_see rfl rfl rfl (by decide +kernel) ⟨Nat.le_of_ble_eq_true rfl, Nat.le_of_ble_eq_true rfl⟩ ⟨Nat.le_of_ble_eq_true rfl, Nat.le_of_ble_eq_true rfl⟩ rfl rfl rfl (Nat.le_of_ble_eq_true rfl) dL_law_1330 ?_
  refine k_pop C 1333 dL_law_1333 rfl ?_
  refine k_aload_n C 1334 2 dL_law_1334 rfl ?_
  refine k_aload_n C 1335 0 dL_law_1335 rfl ?_
  refine k_iload_n C 1336 3 dL_law_1336 rfl ?_
  refine k_iconst C 1337 1 dL_law_1337 rfl ?_
  refine k_iadd C 1338 dL_law_1338 ?_
  refine k_sld C 1339 hX hbl hbA (l_in hi h6 1 (by decide)) dL_law_1339 ?_
  refine k_aload_n C 1340 0 dL_law_1340 rfl ?_
  refine k_iload_n C 1341 3 dL_law_1341 rfl ?_
  refine k_iconst C 1342 2 dL_law_1342 rfl ?_
  refine k_iadd C 1343 dL_law_1343 ?_
  refine k_sld C 1344 hX hbl hbA (l_in hi h6 2 (by decide)) dL_law_1344 ?_
  refine k_aload_n C 1345 0 dL_law_1345 rfl ?_
  refine k_iload_n C 1346 3 dL_law_1346 rfl ?_
  refine k_iconst C 1347 3 dL_law_1347 rfl ?_
  refine k_iadd C 1348 dL_law_1348 ?_
  refine k_sld C 1349 hX hbl hbA (l_in hi h6 3 (by decide)) dL_law_1349 ?_
  refine k_swap ?_
  refine k_callVi (st := []) (As := [.int (xs (nI i + 1).toNatClampNeg), .int (xs (nI i + 2).toNatClampNeg), .int (xs (nI i + 3).toNatClampNeg)]) C0 E0_ok E0_vm 1350 3 (tX7_see (ad := ad2) LF (xs (nI i + 1).toNatClampNeg) (xs (nI i + 2).toNatClampNeg) (xs (nI i + 3).toNatClampNeg) v) e2 rfl gL_law_X7_see rfl rfl rfl (by decide +kernel) ⟨Nat.le_of_ble_eq_true rfl, Nat.le_of_ble_eq_true rfl⟩ ⟨Nat.le_of_ble_eq_true rfl, Nat.le_of_ble_eq_true rfl⟩ rfl rfl rfl (Nat.le_of_ble_eq_true rfl) dL_law_1350 ?_
  refine k_swap ?_
  refine k_pop C 1353 dL_law_1353 rfl ?_
  exact k_goto C 1354 1723 dL_law_1354 (by decide) k
set_option maxRecDepth 100000 in
set_option maxHeartbeats 4000000 in
theorem law_c33 {p : Program} {l : Launch} {e : Env} {s : State} {m : MethodId} {below : List Frame} {meth : Method} {c : Code} {D : va_G} {cI cZ : ClassId} {ad ad2 : Nat → Nat} {tBURNS tFLAME_BOUNDS : Nat} {tS : Option Nat} {adK adV : Nat → Nat} {b L : Nat} {xs : Nat → Int32} (hL : L ≤ 384) (hX : va_X b L xs s s.heap) (hbl : b < s.heap.size) (hbA : ¬ s.heap.size ≤ b) (C : Cx p s m #[Value.ref b] meth c D [(cI, .int), (cZ, .boolean)] (EX tBURNS tFLAME_BOUNDS tS adK adV) (fun q : Nat => s.heap.size ≤ q) cL_law 4 (some .boolean) RL wsL_law) {i : Nat} (h6 : i + 6 ≤ L) {u v u' v' : St} {r : Int32} (e1 : pX6_forget LF (xs (nI i + 1).toNatClampNeg) u = some (r, u')) (e2 : pX7_forget LF (xs (nI i + 1).toNatClampNeg) v = some (r, v')) (k : KX p l e room_1 s m #[Value.ref b] below meth c D (fun q : Nat => s.heap.size ≤ q) 4 91 1902 (lw_Z below #[Value.ref b] s) 1723 [(0, .ref b), (1, .ref (ad 0)), (2, .ref (ad2 0)), (3, .int (nI i))] [] (wX ad cI cZ u' ++ wM ad2 cI cZ v')) : KX p l e room_1 s m #[Value.ref b] below meth c D (fun q : Nat => s.heap.size ≤ q) 4 91 1902 (lw_Z below #[Value.ref b] s) 1357 [(0, .ref b), (1, .ref (ad 0)), (2, .ref (ad2 0)), (3, .int (nI i))] [] (wX ad cI cZ u ++ wM ad2 cI cZ v) := by
  have C0 := C.env (EV2 := E0) trivial
  have hi := hL
  refine k_aload_n C 1357 1 dL_law_1357 rfl ?_
  refine k_aload_n C 1358 0 dL_law_1358 rfl ?_
  refine k_iload_n C 1359 3 dL_law_1359 rfl ?_
  refine k_iconst C 1360 1 dL_law_1360 rfl ?_
  refine k_iadd C 1361 dL_law_1361 ?_
  refine k_sld C 1362 hX hbl hbA (l_in hi h6 1 (by decide)) dL_law_1362 ?_
  refine k_callVi (st := []) (As := [.int (xs (nI i + 1).toNatClampNeg)]) C EX_ok EX_vm 1363 1 (tX6_forget (ad := ad) LF (xs (nI i + 1).toNatClampNeg) u) e1 rfl gL_law_X6_forget rfl rfl rfl (by decide +kernel) ⟨Nat.le_of_ble_eq_true rfl, Nat.le_of_ble_eq_true rfl⟩ ⟨Nat.le_of_ble_eq_true rfl, Nat.le_of_ble_eq_true rfl⟩ rfl rfl rfl (Nat.le_of_ble_eq_true rfl) dL_law_1363 ?_
  refine k_pop C 1366 dL_law_1366 rfl ?_
  refine k_aload_n C 1367 2 dL_law_1367 rfl ?_
  refine k_aload_n C 1368 0 dL_law_1368 rfl ?_
  refine k_iload_n C 1369 3 dL_law_1369 rfl ?_
  refine k_iconst C 1370 1 dL_law_1370 rfl ?_
  refine k_iadd C 1371 dL_law_1371 ?_
  refine k_sld C 1372 hX hbl hbA (l_in hi h6 1 (by decide)) dL_law_1372 ?_
  refine k_swap ?_
  refine k_callVi (st := []) (As := [.int (xs (nI i + 1).toNatClampNeg)]) C0 E0_ok E0_vm 1373 1 (tX7_forget (ad := ad2) LF (xs (nI i + 1).toNatClampNeg) v) e2 rfl gL_law_X7_forget rfl rfl rfl (by decide +kernel) ⟨Nat.le_of_ble_eq_true rfl, Nat.le_of_ble_eq_true rfl⟩ ⟨Nat.le_of_ble_eq_true rfl, Nat.le_of_ble_eq_true rfl⟩ rfl rfl rfl (Nat.le_of_ble_eq_true rfl) dL_law_1373 ?_
  refine k_swap ?_
  refine k_pop C 1376 dL_law_1376 rfl ?_
  exact k_goto C 1377 1723 dL_law_1377 (by decide) k
set_option maxRecDepth 100000 in
set_option maxHeartbeats 4000000 in
theorem law_c34 {p : Program} {l : Launch} {e : Env} {s : State} {m : MethodId} {below : List Frame} {meth : Method} {c : Code} {D : va_G} {cI cZ : ClassId} {ad ad2 : Nat → Nat} {tBURNS tFLAME_BOUNDS : Nat} {tS : Option Nat} {adK adV : Nat → Nat} {b L : Nat} {xs : Nat → Int32} (hL : L ≤ 384) (hX : va_X b L xs s s.heap) (hbl : b < s.heap.size) (hbA : ¬ s.heap.size ≤ b) (C : Cx p s m #[Value.ref b] meth c D [(cI, .int), (cZ, .boolean)] (EX tBURNS tFLAME_BOUNDS tS adK adV) (fun q : Nat => s.heap.size ≤ q) cL_law 4 (some .boolean) RL wsL_law) {i : Nat} (h6 : i + 6 ≤ L) {u v u' v' : St} {r : Int32} (e1 : pX6_habits LF (xs (nI i + 1).toNatClampNeg) u = some (r, u')) (e2 : pX7_habits LF (xs (nI i + 1).toNatClampNeg) v = some (r, v')) (k : KX p l e room_1 s m #[Value.ref b] below meth c D (fun q : Nat => s.heap.size ≤ q) 4 91 1902 (lw_Z below #[Value.ref b] s) 1723 [(0, .ref b), (1, .ref (ad 0)), (2, .ref (ad2 0)), (3, .int (nI i))] [] (wX ad cI cZ u' ++ wM ad2 cI cZ v')) : KX p l e room_1 s m #[Value.ref b] below meth c D (fun q : Nat => s.heap.size ≤ q) 4 91 1902 (lw_Z below #[Value.ref b] s) 1380 [(0, .ref b), (1, .ref (ad 0)), (2, .ref (ad2 0)), (3, .int (nI i))] [] (wX ad cI cZ u ++ wM ad2 cI cZ v) := by
  have C0 := C.env (EV2 := E0) trivial
  have hi := hL
  refine k_aload_n C 1380 1 dL_law_1380 rfl ?_
  refine k_aload_n C 1381 0 dL_law_1381 rfl ?_
  refine k_iload_n C 1382 3 dL_law_1382 rfl ?_
  refine k_iconst C 1383 1 dL_law_1383 rfl ?_
  refine k_iadd C 1384 dL_law_1384 ?_
  refine k_sld C 1385 hX hbl hbA (l_in hi h6 1 (by decide)) dL_law_1385 ?_
  refine k_callVi (st := []) (As := [.int (xs (nI i + 1).toNatClampNeg)]) C EX_ok EX_vm 1386 1 (tX6_habits (ad := ad) LF (xs (nI i + 1).toNatClampNeg) u) e1 rfl gL_law_X6_habits rfl rfl rfl (by decide +kernel) ⟨Nat.le_of_ble_eq_true rfl, Nat.le_of_ble_eq_true rfl⟩ ⟨Nat.le_of_ble_eq_true rfl, Nat.le_of_ble_eq_true rfl⟩ rfl rfl rfl (Nat.le_of_ble_eq_true rfl) dL_law_1386 ?_
  refine k_pop C 1389 dL_law_1389 rfl ?_
  refine k_aload_n C 1390 2 dL_law_1390 rfl ?_
  refine k_aload_n C 1391 0 dL_law_1391 rfl ?_
  refine k_iload_n C 1392 3 dL_law_1392 rfl ?_
  refine k_iconst C 1393 1 dL_law_1393 rfl ?_
  refine k_iadd C 1394 dL_law_1394 ?_
  refine k_sld C 1395 hX hbl hbA (l_in hi h6 1 (by decide)) dL_law_1395 ?_
  refine k_swap ?_
  refine k_callVi (st := []) (As := [.int (xs (nI i + 1).toNatClampNeg)]) C0 E0_ok E0_vm 1396 1 (tX7_habits (ad := ad2) LF (xs (nI i + 1).toNatClampNeg) v) e2 rfl gL_law_X7_habits rfl rfl rfl (by decide +kernel) ⟨Nat.le_of_ble_eq_true rfl, Nat.le_of_ble_eq_true rfl⟩ ⟨Nat.le_of_ble_eq_true rfl, Nat.le_of_ble_eq_true rfl⟩ rfl rfl rfl (Nat.le_of_ble_eq_true rfl) dL_law_1396 ?_
  refine k_swap ?_
  refine k_pop C 1399 dL_law_1399 rfl ?_
  exact k_goto C 1400 1723 dL_law_1400 (by decide) k
set_option maxRecDepth 100000 in
set_option maxHeartbeats 4000000 in
theorem law_c35 {p : Program} {l : Launch} {e : Env} {s : State} {m : MethodId} {below : List Frame} {meth : Method} {c : Code} {D : va_G} {cI cZ : ClassId} {ad ad2 : Nat → Nat} {tBURNS tFLAME_BOUNDS : Nat} {tS : Option Nat} {adK adV : Nat → Nat} {b L : Nat} {xs : Nat → Int32} (hL : L ≤ 384) (hX : va_X b L xs s s.heap) (hbl : b < s.heap.size) (hbA : ¬ s.heap.size ≤ b) (C : Cx p s m #[Value.ref b] meth c D [(cI, .int), (cZ, .boolean)] (EX tBURNS tFLAME_BOUNDS tS adK adV) (fun q : Nat => s.heap.size ≤ q) cL_law 4 (some .boolean) RL wsL_law) {i : Nat} (h6 : i + 6 ≤ L) {u v u' v' : St} {r : Int32} (e1 : pX6_slows LF (xs (nI i + 1).toNatClampNeg) u = some (r, u')) (e2 : pX7_slows LF (xs (nI i + 1).toNatClampNeg) v = some (r, v')) (k : KX p l e room_1 s m #[Value.ref b] below meth c D (fun q : Nat => s.heap.size ≤ q) 4 91 1902 (lw_Z below #[Value.ref b] s) 1723 [(0, .ref b), (1, .ref (ad 0)), (2, .ref (ad2 0)), (3, .int (nI i))] [] (wX ad cI cZ u' ++ wM ad2 cI cZ v')) : KX p l e room_1 s m #[Value.ref b] below meth c D (fun q : Nat => s.heap.size ≤ q) 4 91 1902 (lw_Z below #[Value.ref b] s) 1403 [(0, .ref b), (1, .ref (ad 0)), (2, .ref (ad2 0)), (3, .int (nI i))] [] (wX ad cI cZ u ++ wM ad2 cI cZ v) := by
  have C0 := C.env (EV2 := E0) trivial
  have hi := hL
  refine k_aload_n C 1403 1 dL_law_1403 rfl ?_
  refine k_aload_n C 1404 0 dL_law_1404 rfl ?_
  refine k_iload_n C 1405 3 dL_law_1405 rfl ?_
  refine k_iconst C 1406 1 dL_law_1406 rfl ?_
  refine k_iadd C 1407 dL_law_1407 ?_
  refine k_sld C 1408 hX hbl hbA (l_in hi h6 1 (by decide)) dL_law_1408 ?_
  refine k_callVi (st := []) (As := [.int (xs (nI i + 1).toNatClampNeg)]) C EX_ok EX_vm 1409 1 (tX6_slows (ad := ad) LF (xs (nI i + 1).toNatClampNeg) u) e1 rfl gL_law_X6_slows rfl rfl rfl (by decide +kernel) ⟨Nat.le_of_ble_eq_true rfl, Nat.le_of_ble_eq_true rfl⟩ ⟨Nat.le_of_ble_eq_true rfl, Nat.le_of_ble_eq_true rfl⟩ rfl rfl rfl (Nat.le_of_ble_eq_true rfl) dL_law_1409 ?_
  refine k_pop C 1412 dL_law_1412 rfl ?_
  refine k_aload_n C 1413 2 dL_law_1413 rfl ?_
  refine k_aload_n C 1414 0 dL_law_1414 rfl ?_
  refine k_iload_n C 1415 3 dL_law_1415 rfl ?_
  refine k_iconst C 1416 1 dL_law_1416 rfl ?_
  refine k_iadd C 1417 dL_law_1417 ?_
  refine k_sld C 1418 hX hbl hbA (l_in hi h6 1 (by decide)) dL_law_1418 ?_
  refine k_swap ?_
  refine k_callVi (st := []) (As := [.int (xs (nI i + 1).toNatClampNeg)]) C0 E0_ok E0_vm 1419 1 (tX7_slows (ad := ad2) LF (xs (nI i + 1).toNatClampNeg) v) e2 rfl gL_law_X7_slows rfl rfl rfl (by decide +kernel) ⟨Nat.le_of_ble_eq_true rfl, Nat.le_of_ble_eq_true rfl⟩ ⟨Nat.le_of_ble_eq_true rfl, Nat.le_of_ble_eq_true rfl⟩ rfl rfl rfl (Nat.le_of_ble_eq_true rfl) dL_law_1419 ?_
  refine k_swap ?_
  refine k_pop C 1422 dL_law_1422 rfl ?_
  exact k_goto C 1423 1723 dL_law_1423 (by decide) k
set_option maxRecDepth 100000 in
set_option maxHeartbeats 4000000 in
theorem law_c36 {p : Program} {l : Launch} {e : Env} {s : State} {m : MethodId} {below : List Frame} {meth : Method} {c : Code} {D : va_G} {cI cZ : ClassId} {ad ad2 : Nat → Nat} {tBURNS tFLAME_BOUNDS : Nat} {tS : Option Nat} {adK adV : Nat → Nat} {b L : Nat} {xs : Nat → Int32} (hL : L ≤ 384) (hX : va_X b L xs s s.heap) (hbl : b < s.heap.size) (hbA : ¬ s.heap.size ≤ b) (C : Cx p s m #[Value.ref b] meth c D [(cI, .int), (cZ, .boolean)] (EX tBURNS tFLAME_BOUNDS tS adK adV) (fun q : Nat => s.heap.size ≤ q) cL_law 4 (some .boolean) RL wsL_law) {i : Nat} (h6 : i + 6 ≤ L) {u v u' v' : St} {r : Int32} (e1 : pX6_ask LF (xs (nI i + 1).toNatClampNeg) (xs (nI i + 2).toNatClampNeg) u = some (r, u')) (e2 : pX7_ask LF (xs (nI i + 1).toNatClampNeg) (xs (nI i + 2).toNatClampNeg) v = some (r, v')) (k : KX p l e room_1 s m #[Value.ref b] below meth c D (fun q : Nat => s.heap.size ≤ q) 4 91 1902 (lw_Z below #[Value.ref b] s) 1723 [(0, .ref b), (1, .ref (ad 0)), (2, .ref (ad2 0)), (3, .int (nI i))] [] (wX ad cI cZ u' ++ wM ad2 cI cZ v')) : KX p l e room_1 s m #[Value.ref b] below meth c D (fun q : Nat => s.heap.size ≤ q) 4 91 1902 (lw_Z below #[Value.ref b] s) 1426 [(0, .ref b), (1, .ref (ad 0)), (2, .ref (ad2 0)), (3, .int (nI i))] [] (wX ad cI cZ u ++ wM ad2 cI cZ v) := by
  have C0 := C.env (EV2 := E0) trivial
  have hi := hL
  refine k_aload_n C 1426 1 dL_law_1426 rfl ?_
  refine k_aload_n C 1427 0 dL_law_1427 rfl ?_
  refine k_iload_n C 1428 3 dL_law_1428 rfl ?_
  refine k_iconst C 1429 1 dL_law_1429 rfl ?_
  refine k_iadd C 1430 dL_law_1430 ?_
  refine k_sld C 1431 hX hbl hbA (l_in hi h6 1 (by decide)) dL_law_1431 ?_
  refine k_aload_n C 1432 0 dL_law_1432 rfl ?_
  refine k_iload_n C 1433 3 dL_law_1433 rfl ?_
  refine k_iconst C 1434 2 dL_law_1434 rfl ?_
  refine k_iadd C 1435 dL_law_1435 ?_
  refine k_sld C 1436 hX hbl hbA (l_in hi h6 2 (by decide)) dL_law_1436 ?_
  refine k_callVi (st := []) (As := [.int (xs (nI i + 1).toNatClampNeg), .int (xs (nI i + 2).toNatClampNeg)]) C EX_ok EX_vm 1437 2 (tX6_ask (ad := ad) LF (xs (nI i + 1).toNatClampNeg) (xs (nI i + 2).toNatClampNeg) u) e1 rfl gL_law_X6_ask rfl rfl rfl (by decide +kernel) ⟨Nat.le_of_ble_eq_true rfl, Nat.le_of_ble_eq_true rfl⟩ ⟨Nat.le_of_ble_eq_true rfl, Nat.le_of_ble_eq_true rfl⟩ rfl rfl rfl (Nat.le_of_ble_eq_true rfl) dL_law_1437 ?_
  refine k_pop C 1440 dL_law_1440 rfl ?_
  refine k_aload_n C 1441 2 dL_law_1441 rfl ?_
  refine k_aload_n C 1442 0 dL_law_1442 rfl ?_
  refine k_iload_n C 1443 3 dL_law_1443 rfl ?_
  refine k_iconst C 1444 1 dL_law_1444 rfl ?_
  refine k_iadd C 1445 dL_law_1445 ?_
  refine k_sld C 1446 hX hbl hbA (l_in hi h6 1 (by decide)) dL_law_1446 ?_
  refine k_aload_n C 1447 0 dL_law_1447 rfl ?_
  refine k_iload_n C 1448 3 dL_law_1448 rfl ?_
  refine k_iconst C 1449 2 dL_law_1449 rfl ?_
  refine k_iadd C 1450 dL_law_1450 ?_
  refine k_sld C 1451 hX hbl hbA (l_in hi h6 2 (by decide)) dL_law_1451 ?_
  refine k_swap ?_
  refine k_callVi (st := []) (As := [.int (xs (nI i + 1).toNatClampNeg), .int (xs (nI i + 2).toNatClampNeg)]) C0 E0_ok E0_vm 1452 2 (tX7_ask (ad := ad2) LF (xs (nI i + 1).toNatClampNeg) (xs (nI i + 2).toNatClampNeg) v) e2 rfl gL_law_X7_ask rfl rfl rfl (by decide +kernel) ⟨Nat.le_of_ble_eq_true rfl, Nat.le_of_ble_eq_true rfl⟩ ⟨Nat.le_of_ble_eq_true rfl, Nat.le_of_ble_eq_true rfl⟩ rfl rfl rfl (Nat.le_of_ble_eq_true rfl) dL_law_1452 ?_
  refine k_swap ?_
  refine k_pop C 1455 dL_law_1455 rfl ?_
  exact k_goto C 1456 1723 dL_law_1456 (by decide) k
set_option maxRecDepth 100000 in
set_option maxHeartbeats 4000000 in
theorem law_c37 {p : Program} {l : Launch} {e : Env} {s : State} {m : MethodId} {below : List Frame} {meth : Method} {c : Code} {D : va_G} {cI cZ : ClassId} {ad ad2 : Nat → Nat} {tBURNS tFLAME_BOUNDS : Nat} {tS : Option Nat} {adK adV : Nat → Nat} {b L : Nat} {xs : Nat → Int32} (hL : L ≤ 384) (hX : va_X b L xs s s.heap) (hbl : b < s.heap.size) (hbA : ¬ s.heap.size ≤ b) (C : Cx p s m #[Value.ref b] meth c D [(cI, .int), (cZ, .boolean)] (EX tBURNS tFLAME_BOUNDS tS adK adV) (fun q : Nat => s.heap.size ≤ q) cL_law 4 (some .boolean) RL wsL_law) {i : Nat} (h6 : i + 6 ≤ L) {u v u' v' : St} {r : Int32} (e1 : pX6_drift LF (xs (nI i + 1).toNatClampNeg) (xs (nI i + 2).toNatClampNeg) (xs (nI i + 3).toNatClampNeg) u = some (r, u')) (e2 : pX7_drift LF (xs (nI i + 1).toNatClampNeg) (xs (nI i + 2).toNatClampNeg) (xs (nI i + 3).toNatClampNeg) v = some (r, v')) (k : KX p l e room_1 s m #[Value.ref b] below meth c D (fun q : Nat => s.heap.size ≤ q) 4 91 1902 (lw_Z below #[Value.ref b] s) 1723 [(0, .ref b), (1, .ref (ad 0)), (2, .ref (ad2 0)), (3, .int (nI i))] [] (wX ad cI cZ u' ++ wM ad2 cI cZ v')) : KX p l e room_1 s m #[Value.ref b] below meth c D (fun q : Nat => s.heap.size ≤ q) 4 91 1902 (lw_Z below #[Value.ref b] s) 1459 [(0, .ref b), (1, .ref (ad 0)), (2, .ref (ad2 0)), (3, .int (nI i))] [] (wX ad cI cZ u ++ wM ad2 cI cZ v) := by
  have C0 := C.env (EV2 := E0) trivial
  have hi := hL
  refine k_aload_n C 1459 1 dL_law_1459 rfl ?_
  refine k_aload_n C 1460 0 dL_law_1460 rfl ?_
  refine k_iload_n C 1461 3 dL_law_1461 rfl ?_
  refine k_iconst C 1462 1 dL_law_1462 rfl ?_
  refine k_iadd C 1463 dL_law_1463 ?_
  refine k_sld C 1464 hX hbl hbA (l_in hi h6 1 (by decide)) dL_law_1464 ?_
  refine k_aload_n C 1465 0 dL_law_1465 rfl ?_
  refine k_iload_n C 1466 3 dL_law_1466 rfl ?_
  refine k_iconst C 1467 2 dL_law_1467 rfl ?_
  refine k_iadd C 1468 dL_law_1468 ?_
  refine k_sld C 1469 hX hbl hbA (l_in hi h6 2 (by decide)) dL_law_1469 ?_
  refine k_aload_n C 1470 0 dL_law_1470 rfl ?_
  refine k_iload_n C 1471 3 dL_law_1471 rfl ?_
  refine k_iconst C 1472 3 dL_law_1472 rfl ?_
  refine k_iadd C 1473 dL_law_1473 ?_
  refine k_sld C 1474 hX hbl hbA (l_in hi h6 3 (by decide)) dL_law_1474 ?_
  refine k_callVi (st := []) (As := [.int (xs (nI i + 1).toNatClampNeg), .int (xs (nI i + 2).toNatClampNeg), .int (xs (nI i + 3).toNatClampNeg)]) C EX_ok EX_vm 1475 3 (tX6_drift (ad := ad) LF (xs (nI i + 1).toNatClampNeg) (xs (nI i + 2).toNatClampNeg) (xs (nI i + 3).toNatClampNeg) u) e1 rfl gL_law_X6_drift rfl rfl rfl (by decide +kernel) ⟨Nat.le_of_ble_eq_true rfl, Nat.le_of_ble_eq_true rfl⟩ ⟨Nat.le_of_ble_eq_true rfl, Nat.le_of_ble_eq_true rfl⟩ rfl rfl rfl (Nat.le_of_ble_eq_true rfl) dL_law_1475 ?_
  refine k_pop C 1478 dL_law_1478 rfl ?_
  refine k_aload_n C 1479 2 dL_law_1479 rfl ?_
  refine k_aload_n C 1480 0 dL_law_1480 rfl ?_
  refine k_iload_n C 1481 3 dL_law_1481 rfl ?_
  refine k_iconst C 1482 1 dL_law_1482 rfl ?_
  refine k_iadd C 1483 dL_law_1483 ?_
  refine k_sld C 1484 hX hbl hbA (l_in hi h6 1 (by decide)) dL_law_1484 ?_
  refine k_aload_n C 1485 0 dL_law_1485 rfl ?_
  refine k_iload_n C 1486 3 dL_law_1486 rfl ?_
  refine k_iconst C 1487 2 dL_law_1487 rfl ?_
  refine k_iadd C 1488 dL_law_1488 ?_
  refine k_sld C 1489 hX hbl hbA (l_in hi h6 2 (by decide)) dL_law_1489 ?_
  refine k_aload_n C 1490 0 dL_law_1490 rfl ?_
  refine k_iload_n C 1491 3 dL_law_1491 rfl ?_
  refine k_iconst C 1492 3 dL_law_1492 rfl ?_
  refine k_iadd C 1493 dL_law_1493 ?_
  refine k_sld C 1494 hX hbl hbA (l_in hi h6 3 (by decide)) dL_law_1494 ?_
  refine k_swap ?_
  refine k_callVi (st := []) (As := [.int (xs (nI i + 1).toNatClampNeg), .int (xs (nI i + 2).toNatClampNeg), .int (xs (nI i + 3).toNatClampNeg)]) C0 E0_ok E0_vm 1495 3 (tX7_drift (ad := ad2) LF (xs (nI i + 1).toNatClampNeg) (xs (nI i + 2).toNatClampNeg) (xs (nI i + 3).toNatClampNeg) v) e2 rfl gL_law_X7_drift rfl rfl rfl (by decide +kernel) ⟨Nat.le_of_ble_eq_true rfl, Nat.le_of_ble_eq_true rfl⟩ ⟨Nat.le_of_ble_eq_true rfl, Nat.le_of_ble_eq_true rfl⟩ rfl rfl rfl (Nat.le_of_ble_eq_true rfl) dL_law_1495 ?_
  refine k_swap ?_
  refine k_pop C 1498 dL_law_1498 rfl ?_
  exact k_goto C 1499 1723 dL_law_1499 (by decide) k
set_option maxRecDepth 100000 in
set_option maxHeartbeats 4000000 in
theorem law_c38 {p : Program} {l : Launch} {e : Env} {s : State} {m : MethodId} {below : List Frame} {meth : Method} {c : Code} {D : va_G} {cI cZ : ClassId} {ad ad2 : Nat → Nat} {tBURNS tFLAME_BOUNDS : Nat} {tS : Option Nat} {adK adV : Nat → Nat} {b L : Nat} {xs : Nat → Int32} (hL : L ≤ 384) (hX : va_X b L xs s s.heap) (hbl : b < s.heap.size) (hbA : ¬ s.heap.size ≤ b) (C : Cx p s m #[Value.ref b] meth c D [(cI, .int), (cZ, .boolean)] (EX tBURNS tFLAME_BOUNDS tS adK adV) (fun q : Nat => s.heap.size ≤ q) cL_law 4 (some .boolean) RL wsL_law) {i : Nat} (h6 : i + 6 ≤ L) {u v u' v' : St} {r : Int32} (e1 : pX6_keep LF (xs (nI i + 1).toNatClampNeg) u = some (r, u')) (e2 : pX7_keep LF (xs (nI i + 1).toNatClampNeg) v = some (r, v')) (k : KX p l e room_1 s m #[Value.ref b] below meth c D (fun q : Nat => s.heap.size ≤ q) 4 91 1902 (lw_Z below #[Value.ref b] s) 1723 [(0, .ref b), (1, .ref (ad 0)), (2, .ref (ad2 0)), (3, .int (nI i))] [] (wX ad cI cZ u' ++ wM ad2 cI cZ v')) : KX p l e room_1 s m #[Value.ref b] below meth c D (fun q : Nat => s.heap.size ≤ q) 4 91 1902 (lw_Z below #[Value.ref b] s) 1502 [(0, .ref b), (1, .ref (ad 0)), (2, .ref (ad2 0)), (3, .int (nI i))] [] (wX ad cI cZ u ++ wM ad2 cI cZ v) := by
  have C0 := C.env (EV2 := E0) trivial
  have hi := hL
  refine k_aload_n C 1502 1 dL_law_1502 rfl ?_
  refine k_aload_n C 1503 0 dL_law_1503 rfl ?_
  refine k_iload_n C 1504 3 dL_law_1504 rfl ?_
  refine k_iconst C 1505 1 dL_law_1505 rfl ?_
  refine k_iadd C 1506 dL_law_1506 ?_
  refine k_sld C 1507 hX hbl hbA (l_in hi h6 1 (by decide)) dL_law_1507 ?_
  refine k_callVi (st := []) (As := [.int (xs (nI i + 1).toNatClampNeg)]) C EX_ok EX_vm 1508 1 (tX6_keep (ad := ad) LF (xs (nI i + 1).toNatClampNeg) u) e1 rfl gL_law_X6_keep rfl rfl rfl (by decide +kernel) ⟨Nat.le_of_ble_eq_true rfl, Nat.le_of_ble_eq_true rfl⟩ ⟨Nat.le_of_ble_eq_true rfl, Nat.le_of_ble_eq_true rfl⟩ rfl rfl rfl (Nat.le_of_ble_eq_true rfl) dL_law_1508 ?_
  refine k_pop C 1511 dL_law_1511 rfl ?_
  refine k_aload_n C 1512 2 dL_law_1512 rfl ?_
  refine k_aload_n C 1513 0 dL_law_1513 rfl ?_
  refine k_iload_n C 1514 3 dL_law_1514 rfl ?_
  refine k_iconst C 1515 1 dL_law_1515 rfl ?_
  refine k_iadd C 1516 dL_law_1516 ?_
  refine k_sld C 1517 hX hbl hbA (l_in hi h6 1 (by decide)) dL_law_1517 ?_
  refine k_swap ?_
  refine k_callVi (st := []) (As := [.int (xs (nI i + 1).toNatClampNeg)]) C0 E0_ok E0_vm 1518 1 (tX7_keep (ad := ad2) LF (xs (nI i + 1).toNatClampNeg) v) e2 rfl gL_law_X7_keep rfl rfl rfl (by decide +kernel) ⟨Nat.le_of_ble_eq_true rfl, Nat.le_of_ble_eq_true rfl⟩ ⟨Nat.le_of_ble_eq_true rfl, Nat.le_of_ble_eq_true rfl⟩ rfl rfl rfl (Nat.le_of_ble_eq_true rfl) dL_law_1518 ?_
  refine k_swap ?_
  refine k_pop C 1521 dL_law_1521 rfl ?_
  exact k_goto C 1522 1723 dL_law_1522 (by decide) k
set_option maxRecDepth 100000 in
set_option maxHeartbeats 4000000 in
theorem law_c39 {p : Program} {l : Launch} {e : Env} {s : State} {m : MethodId} {below : List Frame} {meth : Method} {c : Code} {D : va_G} {cI cZ : ClassId} {ad ad2 : Nat → Nat} {tBURNS tFLAME_BOUNDS : Nat} {tS : Option Nat} {adK adV : Nat → Nat} {b L : Nat} {xs : Nat → Int32} (hL : L ≤ 384) (hX : va_X b L xs s s.heap) (hbl : b < s.heap.size) (hbA : ¬ s.heap.size ≤ b) (C : Cx p s m #[Value.ref b] meth c D [(cI, .int), (cZ, .boolean)] (EX tBURNS tFLAME_BOUNDS tS adK adV) (fun q : Nat => s.heap.size ≤ q) cL_law 4 (some .boolean) RL wsL_law) {i : Nat} (h6 : i + 6 ≤ L) {u v u' v' : St} {r : Int32} (e1 : pX6_back LF (xs (nI i + 1).toNatClampNeg) u = some (r, u')) (e2 : pX7_back LF (xs (nI i + 1).toNatClampNeg) v = some (r, v')) (k : KX p l e room_1 s m #[Value.ref b] below meth c D (fun q : Nat => s.heap.size ≤ q) 4 91 1902 (lw_Z below #[Value.ref b] s) 1723 [(0, .ref b), (1, .ref (ad 0)), (2, .ref (ad2 0)), (3, .int (nI i))] [] (wX ad cI cZ u' ++ wM ad2 cI cZ v')) : KX p l e room_1 s m #[Value.ref b] below meth c D (fun q : Nat => s.heap.size ≤ q) 4 91 1902 (lw_Z below #[Value.ref b] s) 1525 [(0, .ref b), (1, .ref (ad 0)), (2, .ref (ad2 0)), (3, .int (nI i))] [] (wX ad cI cZ u ++ wM ad2 cI cZ v) := by
  have C0 := C.env (EV2 := E0) trivial
  have hi := hL
  refine k_aload_n C 1525 1 dL_law_1525 rfl ?_
  refine k_aload_n C 1526 0 dL_law_1526 rfl ?_
  refine k_iload_n C 1527 3 dL_law_1527 rfl ?_
  refine k_iconst C 1528 1 dL_law_1528 rfl ?_
  refine k_iadd C 1529 dL_law_1529 ?_
  refine k_sld C 1530 hX hbl hbA (l_in hi h6 1 (by decide)) dL_law_1530 ?_
  refine k_callVi (st := []) (As := [.int (xs (nI i + 1).toNatClampNeg)]) C EX_ok EX_vm 1531 1 (tX6_back (ad := ad) LF (xs (nI i + 1).toNatClampNeg) u) e1 rfl gL_law_X6_back rfl rfl rfl (by decide +kernel) ⟨Nat.le_of_ble_eq_true rfl, Nat.le_of_ble_eq_true rfl⟩ ⟨Nat.le_of_ble_eq_true rfl, Nat.le_of_ble_eq_true rfl⟩ rfl rfl rfl (Nat.le_of_ble_eq_true rfl) dL_law_1531 ?_
  refine k_pop C 1534 dL_law_1534 rfl ?_
  refine k_aload_n C 1535 2 dL_law_1535 rfl ?_
  refine k_aload_n C 1536 0 dL_law_1536 rfl ?_
  refine k_iload_n C 1537 3 dL_law_1537 rfl ?_
  refine k_iconst C 1538 1 dL_law_1538 rfl ?_
  refine k_iadd C 1539 dL_law_1539 ?_
  refine k_sld C 1540 hX hbl hbA (l_in hi h6 1 (by decide)) dL_law_1540 ?_
  refine k_swap ?_
  refine k_callVi (st := []) (As := [.int (xs (nI i + 1).toNatClampNeg)]) C0 E0_ok E0_vm 1541 1 (tX7_back (ad := ad2) LF (xs (nI i + 1).toNatClampNeg) v) e2 rfl gL_law_X7_back rfl rfl rfl (by decide +kernel) ⟨Nat.le_of_ble_eq_true rfl, Nat.le_of_ble_eq_true rfl⟩ ⟨Nat.le_of_ble_eq_true rfl, Nat.le_of_ble_eq_true rfl⟩ rfl rfl rfl (Nat.le_of_ble_eq_true rfl) dL_law_1541 ?_
  refine k_swap ?_
  refine k_pop C 1544 dL_law_1544 rfl ?_
  exact k_goto C 1545 1723 dL_law_1545 (by decide) k
set_option maxRecDepth 100000 in
set_option maxHeartbeats 4000000 in
theorem law_c40 {p : Program} {l : Launch} {e : Env} {s : State} {m : MethodId} {below : List Frame} {meth : Method} {c : Code} {D : va_G} {cI cZ : ClassId} {ad ad2 : Nat → Nat} {tBURNS tFLAME_BOUNDS : Nat} {tS : Option Nat} {adK adV : Nat → Nat} {b L : Nat} {xs : Nat → Int32} (hL : L ≤ 384) (hX : va_X b L xs s s.heap) (hbl : b < s.heap.size) (hbA : ¬ s.heap.size ≤ b) (C : Cx p s m #[Value.ref b] meth c D [(cI, .int), (cZ, .boolean)] (EX tBURNS tFLAME_BOUNDS tS adK adV) (fun q : Nat => s.heap.size ≤ q) cL_law 4 (some .boolean) RL wsL_law) {i : Nat} (h6 : i + 6 ≤ L) {u v u' v' : St} {r : Int32} (e1 : pX6_sheet LF (xs (nI i + 1).toNatClampNeg) (xs (nI i + 2).toNatClampNeg) (xs (nI i + 3).toNatClampNeg) u = some (r, u')) (e2 : pX7_sheet LF (xs (nI i + 1).toNatClampNeg) (xs (nI i + 2).toNatClampNeg) (xs (nI i + 3).toNatClampNeg) v = some (r, v')) (k : KX p l e room_1 s m #[Value.ref b] below meth c D (fun q : Nat => s.heap.size ≤ q) 4 91 1902 (lw_Z below #[Value.ref b] s) 1723 [(0, .ref b), (1, .ref (ad 0)), (2, .ref (ad2 0)), (3, .int (nI i))] [] (wX ad cI cZ u' ++ wM ad2 cI cZ v')) : KX p l e room_1 s m #[Value.ref b] below meth c D (fun q : Nat => s.heap.size ≤ q) 4 91 1902 (lw_Z below #[Value.ref b] s) 1548 [(0, .ref b), (1, .ref (ad 0)), (2, .ref (ad2 0)), (3, .int (nI i))] [] (wX ad cI cZ u ++ wM ad2 cI cZ v) := by
  have C0 := C.env (EV2 := E0) trivial
  have hi := hL
  refine k_aload_n C 1548 1 dL_law_1548 rfl ?_
  refine k_aload_n C 1549 0 dL_law_1549 rfl ?_
  refine k_iload_n C 1550 3 dL_law_1550 rfl ?_
  refine k_iconst C 1551 1 dL_law_1551 rfl ?_
  refine k_iadd C 1552 dL_law_1552 ?_
  refine k_sld C 1553 hX hbl hbA (l_in hi h6 1 (by decide)) dL_law_1553 ?_
  refine k_aload_n C 1554 0 dL_law_1554 rfl ?_
  refine k_iload_n C 1555 3 dL_law_1555 rfl ?_
  refine k_iconst C 1556 2 dL_law_1556 rfl ?_
  refine k_iadd C 1557 dL_law_1557 ?_
  refine k_sld C 1558 hX hbl hbA (l_in hi h6 2 (by decide)) dL_law_1558 ?_
  refine k_aload_n C 1559 0 dL_law_1559 rfl ?_
  refine k_iload_n C 1560 3 dL_law_1560 rfl ?_
  refine k_iconst C 1561 3 dL_law_1561 rfl ?_
  refine k_iadd C 1562 dL_law_1562 ?_
  refine k_sld C 1563 hX hbl hbA (l_in hi h6 3 (by decide)) dL_law_1563 ?_
  refine k_callVi (st := []) (As := [.int (xs (nI i + 1).toNatClampNeg), .int (xs (nI i + 2).toNatClampNeg), .int (xs (nI i + 3).toNatClampNeg)]) C EX_ok EX_vm 1564 3 (tX6_sheet (ad := ad) LF (xs (nI i + 1).toNatClampNeg) (xs (nI i + 2).toNatClampNeg) (xs (nI i + 3).toNatClampNeg) u) e1 rfl gL_law_X6_sheet rfl rfl rfl (by decide +kernel) ⟨Nat.le_of_ble_eq_true rfl, Nat.le_of_ble_eq_true rfl⟩ ⟨Nat.le_of_ble_eq_true rfl, Nat.le_of_ble_eq_true rfl⟩ rfl rfl rfl (Nat.le_of_ble_eq_true rfl) dL_law_1564 ?_
  refine k_pop C 1567 dL_law_1567 rfl ?_
  refine k_aload_n C 1568 2 dL_law_1568 rfl ?_
  refine k_aload_n C 1569 0 dL_law_1569 rfl ?_
  refine k_iload_n C 1570 3 dL_law_1570 rfl ?_
  refine k_iconst C 1571 1 dL_law_1571 rfl ?_
  refine k_iadd C 1572 dL_law_1572 ?_
  refine k_sld C 1573 hX hbl hbA (l_in hi h6 1 (by decide)) dL_law_1573 ?_
  refine k_aload_n C 1574 0 dL_law_1574 rfl ?_
  refine k_iload_n C 1575 3 dL_law_1575 rfl ?_
  refine k_iconst C 1576 2 dL_law_1576 rfl ?_
  refine k_iadd C 1577 dL_law_1577 ?_
  refine k_sld C 1578 hX hbl hbA (l_in hi h6 2 (by decide)) dL_law_1578 ?_
  refine k_aload_n C 1579 0 dL_law_1579 rfl ?_
  refine k_iload_n C 1580 3 dL_law_1580 rfl ?_
  refine k_iconst C 1581 3 dL_law_1581 rfl ?_
  refine k_iadd C 1582 dL_law_1582 ?_
  refine k_sld C 1583 hX hbl hbA (l_in hi h6 3 (by decide)) dL_law_1583 ?_
  refine k_swap ?_
  refine k_callVi (st := []) (As := [.int (xs (nI i + 1).toNatClampNeg), .int (xs (nI i + 2).toNatClampNeg), .int (xs (nI i + 3).toNatClampNeg)]) C0 E0_ok E0_vm 1584 3 (tX7_sheet (ad := ad2) LF (xs (nI i + 1).toNatClampNeg) (xs (nI i + 2).toNatClampNeg) (xs (nI i + 3).toNatClampNeg) v) e2 rfl gL_law_X7_sheet rfl rfl rfl (by decide +kernel) ⟨Nat.le_of_ble_eq_true rfl, Nat.le_of_ble_eq_true rfl⟩ ⟨Nat.le_of_ble_eq_true rfl, Nat.le_of_ble_eq_true rfl⟩ rfl rfl rfl (Nat.le_of_ble_eq_true rfl) dL_law_1584 ?_
  refine k_swap ?_
  refine k_pop C 1587 dL_law_1587 rfl ?_
  exact k_goto C 1588 1723 dL_law_1588 (by decide) k
set_option maxRecDepth 100000 in
set_option maxHeartbeats 4000000 in
theorem law_c41 {p : Program} {l : Launch} {e : Env} {s : State} {m : MethodId} {below : List Frame} {meth : Method} {c : Code} {D : va_G} {cI cZ : ClassId} {ad ad2 : Nat → Nat} {tBURNS tFLAME_BOUNDS : Nat} {tS : Option Nat} {adK adV : Nat → Nat} {b L : Nat} {xs : Nat → Int32} (hL : L ≤ 384) (hX : va_X b L xs s s.heap) (hbl : b < s.heap.size) (hbA : ¬ s.heap.size ≤ b) (C : Cx p s m #[Value.ref b] meth c D [(cI, .int), (cZ, .boolean)] (EX tBURNS tFLAME_BOUNDS tS adK adV) (fun q : Nat => s.heap.size ≤ q) cL_law 4 (some .boolean) RL wsL_law) {i : Nat} (h6 : i + 6 ≤ L) {u v u' v' : St} {r : Int32} (e1 : pX6_lay LF (xs (nI i + 1).toNatClampNeg) (xs (nI i + 2).toNatClampNeg) (xs (nI i + 3).toNatClampNeg) u = some (r, u')) (e2 : pX7_lay LF (xs (nI i + 1).toNatClampNeg) (xs (nI i + 2).toNatClampNeg) (xs (nI i + 3).toNatClampNeg) v = some (r, v')) (k : KX p l e room_1 s m #[Value.ref b] below meth c D (fun q : Nat => s.heap.size ≤ q) 4 91 1902 (lw_Z below #[Value.ref b] s) 1723 [(0, .ref b), (1, .ref (ad 0)), (2, .ref (ad2 0)), (3, .int (nI i))] [] (wX ad cI cZ u' ++ wM ad2 cI cZ v')) : KX p l e room_1 s m #[Value.ref b] below meth c D (fun q : Nat => s.heap.size ≤ q) 4 91 1902 (lw_Z below #[Value.ref b] s) 1591 [(0, .ref b), (1, .ref (ad 0)), (2, .ref (ad2 0)), (3, .int (nI i))] [] (wX ad cI cZ u ++ wM ad2 cI cZ v) := by
  have C0 := C.env (EV2 := E0) trivial
  have hi := hL
  refine k_aload_n C 1591 1 dL_law_1591 rfl ?_
  refine k_aload_n C 1592 0 dL_law_1592 rfl ?_
  refine k_iload_n C 1593 3 dL_law_1593 rfl ?_
  refine k_iconst C 1594 1 dL_law_1594 rfl ?_
  refine k_iadd C 1595 dL_law_1595 ?_
  refine k_sld C 1596 hX hbl hbA (l_in hi h6 1 (by decide)) dL_law_1596 ?_
  refine k_aload_n C 1597 0 dL_law_1597 rfl ?_
  refine k_iload_n C 1598 3 dL_law_1598 rfl ?_
  refine k_iconst C 1599 2 dL_law_1599 rfl ?_
  refine k_iadd C 1600 dL_law_1600 ?_
  refine k_sld C 1601 hX hbl hbA (l_in hi h6 2 (by decide)) dL_law_1601 ?_
  refine k_aload_n C 1602 0 dL_law_1602 rfl ?_
  refine k_iload_n C 1603 3 dL_law_1603 rfl ?_
  refine k_iconst C 1604 3 dL_law_1604 rfl ?_
  refine k_iadd C 1605 dL_law_1605 ?_
  refine k_sld C 1606 hX hbl hbA (l_in hi h6 3 (by decide)) dL_law_1606 ?_
  refine k_callVi (st := []) (As := [.int (xs (nI i + 1).toNatClampNeg), .int (xs (nI i + 2).toNatClampNeg), .int (xs (nI i + 3).toNatClampNeg)]) C EX_ok EX_vm 1607 3 (tX6_lay (ad := ad) LF (xs (nI i + 1).toNatClampNeg) (xs (nI i + 2).toNatClampNeg) (xs (nI i + 3).toNatClampNeg) u) e1 rfl gL_law_X6_lay rfl rfl rfl (by decide +kernel) ⟨Nat.le_of_ble_eq_true rfl, Nat.le_of_ble_eq_true rfl⟩ ⟨Nat.le_of_ble_eq_true rfl, Nat.le_of_ble_eq_true rfl⟩ rfl rfl rfl (Nat.le_of_ble_eq_true rfl) dL_law_1607 ?_
  refine k_pop C 1610 dL_law_1610 rfl ?_
  refine k_aload_n C 1611 2 dL_law_1611 rfl ?_
  refine k_aload_n C 1612 0 dL_law_1612 rfl ?_
  refine k_iload_n C 1613 3 dL_law_1613 rfl ?_
  refine k_iconst C 1614 1 dL_law_1614 rfl ?_
  refine k_iadd C 1615 dL_law_1615 ?_
  refine k_sld C 1616 hX hbl hbA (l_in hi h6 1 (by decide)) dL_law_1616 ?_
  refine k_aload_n C 1617 0 dL_law_1617 rfl ?_
  refine k_iload_n C 1618 3 dL_law_1618 rfl ?_
  refine k_iconst C 1619 2 dL_law_1619 rfl ?_
  refine k_iadd C 1620 dL_law_1620 ?_
  refine k_sld C 1621 hX hbl hbA (l_in hi h6 2 (by decide)) dL_law_1621 ?_
  refine k_aload_n C 1622 0 dL_law_1622 rfl ?_
  refine k_iload_n C 1623 3 dL_law_1623 rfl ?_
  refine k_iconst C 1624 3 dL_law_1624 rfl ?_
  refine k_iadd C 1625 dL_law_1625 ?_
  refine k_sld C 1626 hX hbl hbA (l_in hi h6 3 (by decide)) dL_law_1626 ?_
  refine k_swap ?_
  refine k_callVi (st := []) (As := [.int (xs (nI i + 1).toNatClampNeg), .int (xs (nI i + 2).toNatClampNeg), .int (xs (nI i + 3).toNatClampNeg)]) C0 E0_ok E0_vm 1627 3 (tX7_lay (ad := ad2) LF (xs (nI i + 1).toNatClampNeg) (xs (nI i + 2).toNatClampNeg) (xs (nI i + 3).toNatClampNeg) v) e2 rfl gL_law_X7_lay rfl rfl rfl (by decide +kernel) ⟨Nat.le_of_ble_eq_true rfl, Nat.le_of_ble_eq_true rfl⟩ ⟨Nat.le_of_ble_eq_true rfl, Nat.le_of_ble_eq_true rfl⟩ rfl rfl rfl (Nat.le_of_ble_eq_true rfl) dL_law_1627 ?_
  refine k_swap ?_
  refine k_pop C 1630 dL_law_1630 rfl ?_
  exact k_goto C 1631 1723 dL_law_1631 (by decide) k
set_option maxRecDepth 100000 in
set_option maxHeartbeats 4000000 in
theorem law_c42 {p : Program} {l : Launch} {e : Env} {s : State} {m : MethodId} {below : List Frame} {meth : Method} {c : Code} {D : va_G} {cI cZ : ClassId} {ad ad2 : Nat → Nat} {tBURNS tFLAME_BOUNDS : Nat} {tS : Option Nat} {adK adV : Nat → Nat} {b L : Nat} {xs : Nat → Int32} (hL : L ≤ 384) (hX : va_X b L xs s s.heap) (hbl : b < s.heap.size) (hbA : ¬ s.heap.size ≤ b) (C : Cx p s m #[Value.ref b] meth c D [(cI, .int), (cZ, .boolean)] (EX tBURNS tFLAME_BOUNDS tS adK adV) (fun q : Nat => s.heap.size ≤ q) cL_law 4 (some .boolean) RL wsL_law) {i : Nat} (h6 : i + 6 ≤ L) {u v u' v' : St} {r : Int32} (e1 : pX6_read LF (xs (nI i + 1).toNatClampNeg) (xs (nI i + 2).toNatClampNeg) (xs (nI i + 3).toNatClampNeg) (xs (nI i + 4).toNatClampNeg) u = some (r, u')) (e2 : pX7_read LF (xs (nI i + 1).toNatClampNeg) (xs (nI i + 2).toNatClampNeg) (xs (nI i + 3).toNatClampNeg) (xs (nI i + 4).toNatClampNeg) v = some (r, v')) (k : KX p l e room_1 s m #[Value.ref b] below meth c D (fun q : Nat => s.heap.size ≤ q) 4 91 1902 (lw_Z below #[Value.ref b] s) 1723 [(0, .ref b), (1, .ref (ad 0)), (2, .ref (ad2 0)), (3, .int (nI i))] [] (wX ad cI cZ u' ++ wM ad2 cI cZ v')) : KX p l e room_1 s m #[Value.ref b] below meth c D (fun q : Nat => s.heap.size ≤ q) 4 91 1902 (lw_Z below #[Value.ref b] s) 1634 [(0, .ref b), (1, .ref (ad 0)), (2, .ref (ad2 0)), (3, .int (nI i))] [] (wX ad cI cZ u ++ wM ad2 cI cZ v) := by
  have C0 := C.env (EV2 := E0) trivial
  have hi := hL
  refine k_aload_n C 1634 1 dL_law_1634 rfl ?_
  refine k_aload_n C 1635 0 dL_law_1635 rfl ?_
  refine k_iload_n C 1636 3 dL_law_1636 rfl ?_
  refine k_iconst C 1637 1 dL_law_1637 rfl ?_
  refine k_iadd C 1638 dL_law_1638 ?_
  refine k_sld C 1639 hX hbl hbA (l_in hi h6 1 (by decide)) dL_law_1639 ?_
  refine k_aload_n C 1640 0 dL_law_1640 rfl ?_
  refine k_iload_n C 1641 3 dL_law_1641 rfl ?_
  refine k_iconst C 1642 2 dL_law_1642 rfl ?_
  refine k_iadd C 1643 dL_law_1643 ?_
  refine k_sld C 1644 hX hbl hbA (l_in hi h6 2 (by decide)) dL_law_1644 ?_
  refine k_aload_n C 1645 0 dL_law_1645 rfl ?_
  refine k_iload_n C 1646 3 dL_law_1646 rfl ?_
  refine k_iconst C 1647 3 dL_law_1647 rfl ?_
  refine k_iadd C 1648 dL_law_1648 ?_
  refine k_sld C 1649 hX hbl hbA (l_in hi h6 3 (by decide)) dL_law_1649 ?_
  refine k_aload_n C 1650 0 dL_law_1650 rfl ?_
  refine k_iload_n C 1651 3 dL_law_1651 rfl ?_
  refine k_iconst C 1652 4 dL_law_1652 rfl ?_
  refine k_iadd C 1653 dL_law_1653 ?_
  refine k_sld C 1654 hX hbl hbA (l_in hi h6 4 (by decide)) dL_law_1654 ?_
  refine k_callVi (st := []) (As := [.int (xs (nI i + 1).toNatClampNeg), .int (xs (nI i + 2).toNatClampNeg), .int (xs (nI i + 3).toNatClampNeg), .int (xs (nI i + 4).toNatClampNeg)]) C EX_ok EX_vm 1655 4 (tX6_read (ad := ad) LF (xs (nI i + 1).toNatClampNeg) (xs (nI i + 2).toNatClampNeg) (xs (nI i + 3).toNatClampNeg) (xs (nI i + 4).toNatClampNeg) u) e1 rfl gL_law_X6_read rfl rfl rfl (by decide +kernel) ⟨Nat.le_of_ble_eq_true rfl, Nat.le_of_ble_eq_true rfl⟩ ⟨Nat.le_of_ble_eq_true rfl, Nat.le_of_ble_eq_true rfl⟩ rfl rfl rfl (Nat.le_of_ble_eq_true rfl) dL_law_1655 ?_
  refine k_pop C 1658 dL_law_1658 rfl ?_
  refine k_aload_n C 1659 2 dL_law_1659 rfl ?_
  refine k_aload_n C 1660 0 dL_law_1660 rfl ?_
  refine k_iload_n C 1661 3 dL_law_1661 rfl ?_
  refine k_iconst C 1662 1 dL_law_1662 rfl ?_
  refine k_iadd C 1663 dL_law_1663 ?_
  refine k_sld C 1664 hX hbl hbA (l_in hi h6 1 (by decide)) dL_law_1664 ?_
  refine k_aload_n C 1665 0 dL_law_1665 rfl ?_
  refine k_iload_n C 1666 3 dL_law_1666 rfl ?_
  refine k_iconst C 1667 2 dL_law_1667 rfl ?_
  refine k_iadd C 1668 dL_law_1668 ?_
  refine k_sld C 1669 hX hbl hbA (l_in hi h6 2 (by decide)) dL_law_1669 ?_
  refine k_aload_n C 1670 0 dL_law_1670 rfl ?_
  refine k_iload_n C 1671 3 dL_law_1671 rfl ?_
  refine k_iconst C 1672 3 dL_law_1672 rfl ?_
  refine k_iadd C 1673 dL_law_1673 ?_
  refine k_sld C 1674 hX hbl hbA (l_in hi h6 3 (by decide)) dL_law_1674 ?_
  refine k_aload_n C 1675 0 dL_law_1675 rfl ?_
  refine k_iload_n C 1676 3 dL_law_1676 rfl ?_
  refine k_iconst C 1677 4 dL_law_1677 rfl ?_
  refine k_iadd C 1678 dL_law_1678 ?_
  refine k_sld C 1679 hX hbl hbA (l_in hi h6 4 (by decide)) dL_law_1679 ?_
  refine k_swap ?_
  refine k_callVi (st := []) (As := [.int (xs (nI i + 1).toNatClampNeg), .int (xs (nI i + 2).toNatClampNeg), .int (xs (nI i + 3).toNatClampNeg), .int (xs (nI i + 4).toNatClampNeg)]) C0 E0_ok E0_vm 1680 4 (tX7_read (ad := ad2) LF (xs (nI i + 1).toNatClampNeg) (xs (nI i + 2).toNatClampNeg) (xs (nI i + 3).toNatClampNeg) (xs (nI i + 4).toNatClampNeg) v) e2 rfl gL_law_X7_read rfl rfl rfl (by decide +kernel) ⟨Nat.le_of_ble_eq_true rfl, Nat.le_of_ble_eq_true rfl⟩ ⟨Nat.le_of_ble_eq_true rfl, Nat.le_of_ble_eq_true rfl⟩ rfl rfl rfl (Nat.le_of_ble_eq_true rfl) dL_law_1680 ?_
  refine k_swap ?_
  refine k_pop C 1683 dL_law_1683 rfl ?_
  exact k_goto C 1684 1723 dL_law_1684 (by decide) k
set_option maxRecDepth 100000 in
set_option maxHeartbeats 4000000 in
theorem law_c43 {p : Program} {l : Launch} {e : Env} {s : State} {m : MethodId} {below : List Frame} {meth : Method} {c : Code} {D : va_G} {cI cZ : ClassId} {ad ad2 : Nat → Nat} {tBURNS tFLAME_BOUNDS : Nat} {tS : Option Nat} {adK adV : Nat → Nat} {b L : Nat} {xs : Nat → Int32} (hL : L ≤ 384) (hX : va_X b L xs s s.heap) (hbl : b < s.heap.size) (hbA : ¬ s.heap.size ≤ b) (C : Cx p s m #[Value.ref b] meth c D [(cI, .int), (cZ, .boolean)] (EX tBURNS tFLAME_BOUNDS tS adK adV) (fun q : Nat => s.heap.size ≤ q) cL_law 4 (some .boolean) RL wsL_law) {i : Nat} (h6 : i + 6 ≤ L) {u v u' v' : St} {r : Int32} (e1 : pX6_torn LF u = some (r, u')) (e2 : pX7_torn LF v = some (r, v')) (k : KX p l e room_1 s m #[Value.ref b] below meth c D (fun q : Nat => s.heap.size ≤ q) 4 91 1902 (lw_Z below #[Value.ref b] s) 1723 [(0, .ref b), (1, .ref (ad 0)), (2, .ref (ad2 0)), (3, .int (nI i))] [] (wX ad cI cZ u' ++ wM ad2 cI cZ v')) : KX p l e room_1 s m #[Value.ref b] below meth c D (fun q : Nat => s.heap.size ≤ q) 4 91 1902 (lw_Z below #[Value.ref b] s) 1687 [(0, .ref b), (1, .ref (ad 0)), (2, .ref (ad2 0)), (3, .int (nI i))] [] (wX ad cI cZ u ++ wM ad2 cI cZ v) := by
  have C0 := C.env (EV2 := E0) trivial
  have hi := hL
  refine k_aload_n C 1687 1 dL_law_1687 rfl ?_
  refine k_callVi (st := []) (As := []) C EX_ok EX_vm 1688 0 (tX6_torn (ad := ad) LF u) e1 rfl gL_law_X6_torn rfl rfl rfl (by decide +kernel) ⟨Nat.le_of_ble_eq_true rfl, Nat.le_of_ble_eq_true rfl⟩ ⟨Nat.le_of_ble_eq_true rfl, Nat.le_of_ble_eq_true rfl⟩ rfl rfl rfl (Nat.le_of_ble_eq_true rfl) dL_law_1688 ?_
  refine k_pop C 1691 dL_law_1691 rfl ?_
  refine k_aload_n C 1692 2 dL_law_1692 rfl ?_
  refine k_swap ?_
  refine k_callVi (st := []) (As := []) C0 E0_ok E0_vm 1693 0 (tX7_torn (ad := ad2) LF v) e2 rfl gL_law_X7_torn rfl rfl rfl (by decide +kernel) ⟨Nat.le_of_ble_eq_true rfl, Nat.le_of_ble_eq_true rfl⟩ ⟨Nat.le_of_ble_eq_true rfl, Nat.le_of_ble_eq_true rfl⟩ rfl rfl rfl (Nat.le_of_ble_eq_true rfl) dL_law_1693 ?_
  refine k_swap ?_
  refine k_pop C 1696 dL_law_1696 rfl ?_
  exact k_goto C 1697 1723 dL_law_1697 (by decide) k
set_option maxRecDepth 100000 in
set_option maxHeartbeats 4000000 in
theorem law_c44 {p : Program} {l : Launch} {e : Env} {s : State} {m : MethodId} {below : List Frame} {meth : Method} {c : Code} {D : va_G} {cI cZ : ClassId} {ad ad2 : Nat → Nat} {tBURNS tFLAME_BOUNDS : Nat} {tS : Option Nat} {adK adV : Nat → Nat} {b L : Nat} {xs : Nat → Int32} (hL : L ≤ 384) (hX : va_X b L xs s s.heap) (hbl : b < s.heap.size) (hbA : ¬ s.heap.size ≤ b) (C : Cx p s m #[Value.ref b] meth c D [(cI, .int), (cZ, .boolean)] (EX tBURNS tFLAME_BOUNDS tS adK adV) (fun q : Nat => s.heap.size ≤ q) cL_law 4 (some .boolean) RL wsL_law) {i : Nat} (h6 : i + 6 ≤ L) {u v u' v' : St} {r : Int32} (e1 : pX6_count LF (xs (nI i + 1).toNatClampNeg) u = some (r, u')) (e2 : pX7_count LF (xs (nI i + 1).toNatClampNeg) v = some (r, v')) (k : KX p l e room_1 s m #[Value.ref b] below meth c D (fun q : Nat => s.heap.size ≤ q) 4 91 1902 (lw_Z below #[Value.ref b] s) 1723 [(0, .ref b), (1, .ref (ad 0)), (2, .ref (ad2 0)), (3, .int (nI i))] [] (wX ad cI cZ u' ++ wM ad2 cI cZ v')) : KX p l e room_1 s m #[Value.ref b] below meth c D (fun q : Nat => s.heap.size ≤ q) 4 91 1902 (lw_Z below #[Value.ref b] s) 1700 [(0, .ref b), (1, .ref (ad 0)), (2, .ref (ad2 0)), (3, .int (nI i))] [] (wX ad cI cZ u ++ wM ad2 cI cZ v) := by
  have C0 := C.env (EV2 := E0) trivial
  have hi := hL
  refine k_aload_n C 1700 1 dL_law_1700 rfl ?_
  refine k_aload_n C 1701 0 dL_law_1701 rfl ?_
  refine k_iload_n C 1702 3 dL_law_1702 rfl ?_
  refine k_iconst C 1703 1 dL_law_1703 rfl ?_
  refine k_iadd C 1704 dL_law_1704 ?_
  refine k_sld C 1705 hX hbl hbA (l_in hi h6 1 (by decide)) dL_law_1705 ?_
  refine k_callVi (st := []) (As := [.int (xs (nI i + 1).toNatClampNeg)]) C EX_ok EX_vm 1706 1 (tX6_count (ad := ad) LF (xs (nI i + 1).toNatClampNeg) u) e1 rfl gL_law_X6_count rfl rfl rfl (by decide +kernel) ⟨Nat.le_of_ble_eq_true rfl, Nat.le_of_ble_eq_true rfl⟩ ⟨Nat.le_of_ble_eq_true rfl, Nat.le_of_ble_eq_true rfl⟩ rfl rfl rfl (Nat.le_of_ble_eq_true rfl) dL_law_1706 ?_
  refine k_aload_n C 1709 2 dL_law_1709 rfl ?_
  refine k_aload_n C 1710 0 dL_law_1710 rfl ?_
  refine k_iload_n C 1711 3 dL_law_1711 rfl ?_
  refine k_iconst C 1712 1 dL_law_1712 rfl ?_
  refine k_iadd C 1713 dL_law_1713 ?_
  refine k_sld C 1714 hX hbl hbA (l_in hi h6 1 (by decide)) dL_law_1714 ?_
  refine k_swap ?_
  refine k_callVi (st := [.int r]) (As := [.int (xs (nI i + 1).toNatClampNeg)]) C0 E0_ok E0_vm 1715 1 (tX7_count (ad := ad2) LF (xs (nI i + 1).toNatClampNeg) v) e2 rfl gL_law_X7_count rfl rfl rfl (by decide +kernel) ⟨Nat.le_of_ble_eq_true rfl, Nat.le_of_ble_eq_true rfl⟩ ⟨Nat.le_of_ble_eq_true rfl, Nat.le_of_ble_eq_true rfl⟩ rfl rfl rfl (Nat.le_of_ble_eq_true rfl) dL_law_1715 ?_
  refine k_swap ?_
  exact k_icmp_eqT C 1718 1723 dL_law_1718 (by decide) k
end
