/-! CONSTRUCTORS: a world that grows -/
def KX (p : Program) (l : Launch) (e : Env) (R : Room) (s : State) (m : MethodId) (args : Array Value) (below : List Frame) (meth : Method) (c : Code) (D : va_G) (A : Nat → Prop) (n cells slots : Nat) (Q : State → Prop) (pc : Nat) (lv : List (Nat × Value)) (st : List Value) (ws : va_W) : Prop :=
  ∀ (H : Heap) (locs : List Loc) (ls : Array Slot), lv_has ls n lv → va_P D vwCl ws H → va_D A ws → va_S A s.heap H locs → W p l e R s m args below meth c H locs cells slots Q (F0 m pc ls st)
def CtK (l : Launch) (D : va_G) (tys : List (ClassId × FieldType)) (EV : (Nat → Prop) → State → Heap → Prop) (y : MethodName) (ws : List Cond) (rm : Room) (ci : Nat) (fs : List Value) (W0 : Nat → (Nat → Nat) → va_W) : Prop :=
  ∀ h0 sz : Nat, Met l y ws rm (va_Pc [.ref h0] (fun U => U.heap.size = sz ∧ va_P D vwCl [(h0, .inr (ci, fs))] U.heap ∧ va_K D vwCl tys U ∧ va_D (fun _ => True) [(h0, .inr (ci, fs))] ∧ EV (va_A [(h0, .inr (ci, fs))] sz) U U.heap)) (va_Qv (fun (_ : Nat → Nat) => True) (fun q t => va_P D vwCl (W0 h0 q) t.heap ∧ va_K D vwCl tys t ∧ va_D (va_A [(h0, .inr (ci, fs))] sz) (W0 h0 q)) (va_A [(h0, .inr (ci, fs))] sz)) rm.cells rm.slots (va_A [(h0, .inr (ci, fs))] sz)
theorem range_get {α : Type} (ws : List α) : ∀ (wr wt : List α), ws = wr ++ wt → (List.range wr.length).map (fun i => ws[i]?) = wr.map some := by
  intro wr wt h
  subst h
  apply List.ext_getElem?
  intro i
  by_cases hi : i < wr.length
  · simp [hi, List.getElem?_append_left hi]
  · simp [hi]
theorem nd_range : ∀ (k a : Nat), va_nd ((List.range k).map (fun i => i + a)) = true := by
  intro k
  induction k with
  | zero => intro a; rfl
  | succ k ih =>
    intro a
    rw [List.range_succ_eq_map, List.map_cons, List.map_map]
    show (decide (_ ∉ _) && va_nd _) = true
    rw [Bool.and_eq_true]
    refine ⟨decide_eq_true ?_, ?_⟩
    · intro h
      obtain ⟨i, -, hi⟩ := List.mem_map.mp h
      simp at hi
    · have e : (List.range k).map ((fun i => i + a) ∘ Nat.succ) = (List.range k).map (fun i => i + (a + 1)) := by
        apply List.map_congr_left
        intro i _
        simp
        omega
      rw [e]
      exact ih (a + 1)
section KXR
variable {p : Program} {l : Launch} {e : Env} {R : Room} {s : State} {m : MethodId} {args : Array Value} {below : List Frame} {meth : Method} {c : Code} {D : va_G} {tys : List (ClassId × FieldType)} {EV : (Nat → Prop) → State → Heap → Prop} {A : Nat → Prop} {cc : ByteArray} {n : Nat} {ret : Option FieldType} {own : String} {Ts : List Cond} {Q : State → Prop} {lv : List (Nat × Value)} {st : List Value} {ws ws' : va_W} {cells slots : Nat}
theorem k_norm {pc : Nat} (w2 : va_W) (h : ws = w2) (kk : KX p l e R s m args below meth c D A n cells slots Q pc lv st w2) : KX p l e R s m args below meth c D A n cells slots Q pc lv st ws := h ▸ kk
theorem k_aload_n (C : Cx p s m args meth c D tys EV A cc n ret own Ts) (pc k : Nat) {i : Fin 4} {v : Nat} (hd : decode cc pc = .ok (.aload_n i, 1)) (hl : lv[k]? = some ((i : Nat), .ref v)) (kk : KX p l e R s m args below meth c D A n cells slots Q (pc + 1) lv (.ref v :: st) ws) : KX p l e R s m args below meth c D A n cells slots Q pc lv st ws := fun H locs ls h1 h2 h3 h4 => lv_aload_n C.1 C.2.1 hd rfl (lv_at h1 k hl) (kk H locs ls h1 h2 h3 h4)
theorem k_iconst (C : Cx p s m args meth c D tys EV A cc n ret own Ts) (pc : Nat) {k : Int} (v : Int32) (hd : decode cc pc = .ok (.iconst k, 1)) (hv : Int32.ofInt k = v) (kk : KX p l e R s m args below meth c D A n cells slots Q (pc + 1) lv (.int v :: st) ws) : KX p l e R s m args below meth c D A n cells slots Q pc lv st ws := fun H locs ls h1 h2 h3 h4 => lv_iconst C.1 C.2.1 hd hv (kk H locs ls h1 h2 h3 h4)
theorem k_bipush (C : Cx p s m args meth c D tys EV A cc n ret own Ts) (pc : Nat) {k : Int} (v : Int32) (hd : decode cc pc = .ok (.bipush k, 2)) (hv : (Int8.ofInt k).toInt32 = v) (kk : KX p l e R s m args below meth c D A n cells slots Q (pc + 2) lv (.int v :: st) ws) : KX p l e R s m args below meth c D A n cells slots Q pc lv st ws := fun H locs ls h1 h2 h3 h4 => lv_bipush C.1 C.2.1 hd hv (kk H locs ls h1 h2 h3 h4)
theorem k_sipush (C : Cx p s m args meth c D tys EV A cc n ret own Ts) (pc : Nat) {k : Int} (v : Int32) (hd : decode cc pc = .ok (.sipush k, 3)) (hv : (Int16.ofInt k).toInt32 = v) (kk : KX p l e R s m args below meth c D A n cells slots Q (pc + 3) lv (.int v :: st) ws) : KX p l e R s m args below meth c D A n cells slots Q pc lv st ws := fun H locs ls h1 h2 h3 h4 => lv_sipush C.1 C.2.1 hd hv (kk H locs ls h1 h2 h3 h4)
theorem k_dup (C : Cx p s m args meth c D tys EV A cc n ret own Ts) (pc : Nat) {v : Value} (hd : decode cc pc = .ok (.dup, 1)) (hv : v.category = 1) (kk : KX p l e R s m args below meth c D A n cells slots Q (pc + 1) lv (v :: v :: st) ws) : KX p l e R s m args below meth c D A n cells slots Q pc lv (v :: st) ws := fun H locs ls h1 h2 h3 h4 => lv_dup C.1 C.2.1 hd hv (kk H locs ls h1 h2 h3 h4)
theorem k_obj (C : Cx p s m args meth c D tys EV A cc n ret own Ts) (pc : Nat) {idx a : Nat} (w1 : Cond.methodLink own idx Lib.objectInit ∈ Ts) (w2 : Cond.instanceMethod Lib.objectInit ∈ Ts) (w3 : Cond.code Lib.objectInit ⟨#[0xb1]⟩ 1 none ∈ Ts) (hd : decode cc pc = .ok (.invokespecial idx, 3)) (hR : 1 ≤ R.frames ∧ 12 ≤ R.locals) (kk : KX p l e R s m args below meth c D A n cells slots Q (pc + 3) lv [] ws) : KX p l e R s m args below meth c D A n cells slots Q pc lv [.ref a] ws := fun H locs ls h1 h2 h3 h4 => W.objInit C.1 C.2.1 C.2.2.2.1 (C.2.2.2.2.1 _ w1) (C.2.2.2.2.1 _ w2) (C.2.2.2.2.1 _ w3) rfl (by rw [C.2.2.1]; exact h1.1) rfl hd hR.1 (by show 2 * 0 + 0 + 12 ≤ _; omega) (kk H locs ls h1 h2 h3 h4)
theorem k_newi (C : Cx p s m args meth c D tys EV A cc n ret own Ts) (pc t0 : Nat) {k : Int32} {cA : ClassId} (N : Nat) (w : Cond.arrayClass .int ∈ Ts) (ht : tys[t0]? = some (cA, .int)) (hk : ¬ k < 0) (hN : k.toNatClampNeg = N) (hb : N * 4 ≤ 536870912) (hR : cells + 1 ≤ R.cells ∧ slots + N ≤ R.slots) (hd : decode cc pc = .ok (.newarray .int, 2)) (kk : ∀ q : Nat, KX p l e R s m args below meth c D A n (cells + 1) (slots + N) Q (pc + 2) lv (.ref q :: st) (ws ++ [(q, .inl (cA, (N, .inl (fun _ => 0))))])) : KX p l e R s m args below meth c D A n cells slots Q pc lv (.int k :: st) ws := fun H locs ls h1 h2 h3 h4 => by
  refine va_newa (atype := .int) (ty := .int) (a0 := (N, .inl (fun _ => 0))) C.1 C.2.1 (C.2.2.2.2.1 _ w) rfl C.2.2.2.2.2.1 h2 h3 h4 C.2.2.2.2.2.2.1 (fun _ => rfl) hk hN hb hR.1 hR.2 hd (fun q cB H1 g1 g2 g3 g4 => ?_)
  have e1 : s.vm.findClass ("[" ++ FieldType.int.toString) = some cB := (g1.2 tys.length (cB, .int) (by simp)).2
  have e2 : s.vm.findClass ("[" ++ FieldType.int.toString) = some cA := (C.2.2.2.2.2.1.2 t0 _ ht).2
  have e3 : cB = cA := Option.some.inj (e1.symm.trans e2)
  subst e3
  exact kk q H1 locs ls h1 g2 g3 g4
theorem k_newz (C : Cx p s m args meth c D tys EV A cc n ret own Ts) (pc t0 : Nat) {k : Int32} {cA : ClassId} (N : Nat) (w : Cond.arrayClass .boolean ∈ Ts) (ht : tys[t0]? = some (cA, .boolean)) (hk : ¬ k < 0) (hN : k.toNatClampNeg = N) (hb : N * 1 ≤ 536870912) (hR : cells + 1 ≤ R.cells ∧ slots + N ≤ R.slots) (hd : decode cc pc = .ok (.newarray .boolean, 2)) (kk : ∀ q : Nat, KX p l e R s m args below meth c D A n (cells + 1) (slots + N) Q (pc + 2) lv (.ref q :: st) (ws ++ [(q, .inl (cA, (N, .inl (fun _ => 0))))])) : KX p l e R s m args below meth c D A n cells slots Q pc lv (.int k :: st) ws := fun H locs ls h1 h2 h3 h4 => by
  refine va_newa (atype := .boolean) (ty := .boolean) (a0 := (N, .inl (fun _ => 0))) C.1 C.2.1 (C.2.2.2.2.1 _ w) rfl C.2.2.2.2.2.1 h2 h3 h4 C.2.2.2.2.2.2.1 (fun _ => rfl) hk hN hb hR.1 hR.2 hd (fun q cB H1 g1 g2 g3 g4 => ?_)
  have e1 : s.vm.findClass ("[" ++ FieldType.boolean.toString) = some cB := (g1.2 tys.length (cB, .boolean) (by simp)).2
  have e2 : s.vm.findClass ("[" ++ FieldType.boolean.toString) = some cA := (C.2.2.2.2.2.1.2 t0 _ ht).2
  have e3 : cB = cA := Option.some.inj (e1.symm.trans e2)
  subst e3
  exact kk q H1 locs ls h1 g2 g3 g4
theorem k_iast (C : Cx p s m args meth c D tys EV A cc n ret own Ts) (pc q0 t0 : Nat) {a N : Nat} {cA : ClassId} {f : Nat → Int32} {i v : Int32} (ws' : va_W) (he : ws[q0]? = some (a, .inl (cA, (N, .inl f)))) (ht : tys[t0]? = some (cA, .int)) (hi : inb i N = true) (hset : ws.set q0 (a, .inl (cA, (N, .inl (upd f i.toNatClampNeg v)))) = ws') (hd : decode cc pc = .ok (.iastore, 1)) (kk : KX p l e R s m args below meth c D A n cells slots Q (pc + 1) lv st ws') : KX p l e R s m args below meth c D A n cells slots Q pc lv (.int v :: .int i :: .ref a :: st) ws := fun H locs ls h1 h2 h3 h4 => va_iast C.1 C.2.1 C.2.2.2.2.2.1 h2 h3 h4 q0 t0 he ht (inb_in hi) hd (fun H locs g2 g3 g4 => kk H locs ls h1 (hset ▸ g2) (hset ▸ g3) g4)
theorem k_putF (C : Cx p s m args meth c D tys EV A cc n ret own Ts) (hin2 : meth.name = "<init>") (pc q k : Nat) {ci idx a N : Nat} {Cn : String} {T : u_T} (ty : Nat → FieldType) {fs : List Value} {v : Value} (t0 : FieldType) (ws' : va_W) (hin : ∀ w ∈ u_ws Cn T N, w ∈ Ts) (hty : ∀ k, k < N → parseFieldDescriptor (T k).2.2.1 = some (ty k)) (hnm : ∀ a, a < N → ∀ b, b < N → a ≠ b → (T a).2.1 ≠ (T b).2.1) (he : ws[q]? = some (a, .inr (ci, fs))) (hset : ws.set q (a, .inr (ci, fs.set k v)) = ws') (hc : vwCl[ci]? = some (Cn, T, N)) (hk : k < N) (hlink : Cond.fieldLink own idx (T k).1 (T k).2.1 (T k).2.2.1 ∈ Ts) (hfin : (T k).2.2.2 = true) (hdecl : (T k).1 = own) (ht0 : parseFieldDescriptor (T k).2.2.1 = some t0) (hn : narrow t0 v = v) (hf : fits t0 v = true) (hl : k < fs.length) (hd : decode cc pc = .ok (.putfield idx, 3)) (kk : KX p l e R s m args below meth c D A n cells slots Q (pc + 3) lv st ws') : KX p l e R s m args below meth c D A n cells slots Q pc lv (v :: .ref a :: st) ws := fun H locs ls h1 h2 h3 h4 =>
  va_putF C.1 C.2.1 C.2.2.2.2.1 hin ty hty hnm C.2.2.2.1 C.2.2.2.2.2.1 h2 h3 h4 q he hc k hk (C.2.2.2.2.1 _ hlink) (fun _ h => h) hfin hin2 hdecl ht0 hn hf hl hd (fun H locs g2 g3 g4 => kk H locs ls h1 (hset ▸ g2) (hset ▸ g3) g4)
theorem k_put (C : Cx p s m args meth c D tys EV A cc n ret own Ts) (pc q k : Nat) {ci idx a N : Nat} {Cn : String} {T : u_T} (ty : Nat → FieldType) {fs : List Value} {v : Value} (t0 : FieldType) (ws' : va_W) (hin : ∀ w ∈ u_ws Cn T N, w ∈ Ts) (hty : ∀ k, k < N → parseFieldDescriptor (T k).2.2.1 = some (ty k)) (hnm : ∀ a, a < N → ∀ b, b < N → a ≠ b → (T a).2.1 ≠ (T b).2.1) (he : ws[q]? = some (a, .inr (ci, fs))) (hset : ws.set q (a, .inr (ci, fs.set k v)) = ws') (hc : vwCl[ci]? = some (Cn, T, N)) (hk : k < N) (hlink : Cond.fieldLink own idx (T k).1 (T k).2.1 (T k).2.2.1 ∈ Ts) (hfin : (T k).2.2.2 = false) (ht0 : parseFieldDescriptor (T k).2.2.1 = some t0) (hn : narrow t0 v = v) (hf : fits t0 v = true) (hl : k < fs.length) (hd : decode cc pc = .ok (.putfield idx, 3)) (kk : KX p l e R s m args below meth c D A n cells slots Q (pc + 3) lv st ws') : KX p l e R s m args below meth c D A n cells slots Q pc lv (v :: .ref a :: st) ws := fun H locs ls h1 h2 h3 h4 =>
  va_put C.1 C.2.1 C.2.2.2.2.1 hin ty hty hnm C.2.2.2.1 C.2.2.2.2.2.1 h2 h3 h4 q he hc k hk (C.2.2.2.2.1 _ hlink) (fun _ h => h) hfin ht0 hn hf hl hd (fun H locs g2 g3 g4 => kk H locs ls h1 (hset ▸ g2) (hset ▸ g3) g4)
theorem k_new (C : Cx p s m args meth c D tys EV A cc n ret own Ts) (pc : Nat) {Cn : String} {T : u_T} {N ci idx : Nat} (ty : Nat → FieldType) (fs : List Value) (hin : ∀ w ∈ u_ws Cn T N, w ∈ Ts) (hty : ∀ k, k < N → parseFieldDescriptor (T k).2.2.1 = some (ty k)) (w1 : Cond.classLink own idx Cn ∈ Ts) (w2 : Cond.instantiable Cn N ∈ Ts) (w3 : Cond.initialized Cn ∈ Ts) (hc : vwCl[ci]? = some (Cn, T, N)) (hfs : ∀ j, j < N → defaultValue (ty j) = vp_V fs j) (hR : cells + 1 ≤ R.cells ∧ slots + N ≤ R.slots) (hd : decode cc pc = .ok (.new idx, 3)) (kk : ∀ q : Nat, KX p l e R s m args below meth c D A n (cells + 1) (slots + N) Q (pc + 3) lv (.ref q :: st) (ws ++ [(q, .inr (ci, fs))])) : KX p l e R s m args below meth c D A n cells slots Q pc lv st ws := fun H locs ls h1 h2 h3 h4 =>
  va_new C.1 C.2.1 C.2.2.2.2.1 hin ty hty C.2.2.2.1 (C.2.2.2.2.1 _ w1) (C.2.2.2.2.1 _ w2) (C.2.2.2.2.1 _ w3) C.2.2.2.2.2.1 h2 h3 h4 C.2.2.2.2.2.2.1 hc hfs hR.1 hR.2 hd (fun q H1 g1 g2 g3 => kk q H1 locs ls h1 g1 g2 g3)
/-- a callee's cell is the last one: what came back takes its place -/
theorem k_join {wr w1 : va_W} {b : Nat} {x : va_E} (hws : ws = wr ++ [(b, x)]) {H H1 : Heap} (h2 : va_P D vwCl ws H) (h3 : va_D A ws) (hk1 : ∀ q : Nat, q < H.size → ¬ va_A [(b, x)] H.size q → H1[q]? = H[q]?) (hF : ∀ q, va_A [(b, x)] H.size q → A q) (hP1 : va_P D vwCl w1 H1) (hD1 : va_D (va_A [(b, x)] H.size) w1) : va_P D vwCl (wr ++ w1) H1 ∧ va_D A (wr ++ w1) := by
  have hn : va_nd (List.range wr.length) = true := by
    have h := nd_range wr.length 0
    simpa using h
  refine va_join (wr := wr) (w1 := w1) (wc := [(b, x)]) h2 h3 [wr.length] (List.range wr.length) ?_ (range_get ws wr _ hws) hn ?_ hk1 hF hP1 hD1
  · subst hws; simp
  · intro i hi; simp at hi; simp; omega
theorem k_call (C : Cx p s m args meth c D tys EV A cc n ret own Ts) (hE : EVok EV) (hV : EVvm EV) (pc : Nat) {idx b ci maxL : Nat} {fs : List Value} {host : String} {y : MethodName} {w0 w0' : List Cond} {rm : Room} {bytes : ByteArray} {W0 : Nat → (Nat → Nat) → va_W} (wr : va_W) (hM : CtK l D tys EV y w0 rm ci fs W0) (hG : GoodIn Ts w0) (hw : w0 = Cond.code y bytes maxL none :: w0') (hl : va_Nw (.methodLinkNest own idx y host) s) (hini : Cond.initialized y.cls ∈ Ts) (hins : Cond.instanceMethod y ∈ Ts) (hyn : y.name = "<init>") (hy : y.cls ≠ "java/lang/invoke/MethodHandle" ∧ y.cls ≠ "java/lang/invoke/VarHandle" ∧ (parseMethodDescriptor y.desc).map (fun d => d.parameters.length) = some 0) (hR : rm.frames + 1 ≤ R.frames ∧ 8 + (maxL + 11) + rm.locals ≤ R.locals) (hR2 : cells + rm.cells ≤ R.cells ∧ slots + rm.slots ≤ R.slots) (hws : ws = wr ++ [(b, .inr (ci, fs))]) (h8 : (st.map fun v => v.category).sum ≤ 8) (hd : decode cc pc = .ok (.invokespecial idx, 3)) (kk : ∀ q : Nat → Nat, KX p l e R s m args below meth c D A n (cells + rm.cells) (slots + rm.slots) Q (pc + 3) lv st (wr ++ W0 b q)) : KX p l e R s m args below meth c D A n cells slots Q pc lv (.ref b :: st) ws := fun H locs ls h1 h2 h3 h4 => by
  have hb : ws[wr.length]? = some (b, .inr (ci, fs)) := by subst hws; simp
  have hPc : va_P D vwCl [(b, .inr (ci, fs))] H := h2.sub [wr.length] (by simp [hb])
  have hDc : va_D A [(b, .inr (ci, fs))] := h3.sub [wr.length] (by simp [va_nd]) (by simp [hb])
  have hF : ∀ q, va_A [(b, .inr (ci, fs))] H.size q → A q := fun q h => by
    rcases h with ⟨k, x, h⟩ | h
    · exact hDc.2 k _ h
    · exact C.2.2.2.2.2.2.1 q (Nat.le_trans h4.1 h)
  refine va_callv (va_runIN (As := []) (rest := st) ⟨C.1, C.2.1, C.2.2.1, C.2.2.2.1, C.2.2.2.2.1⟩ (hM b H.size) ⟨va_cnB 0 C.2.2.2.2.1 hG hw rfl rfl hl (C.2.2.2.2.1 _ hini) hy hR, hyn, C.2.2.2.2.1 _ hins⟩ ⟨fun a U g mk q => ⟨q.1, q.2.1, q.2.2.1, va_K.moved (u := U) (U := U.calling g mk a) (Vm.Alike.refl U.vm) q.2.2.2.1, q.2.2.2.2.1, hV _ U (U.calling g mk a) U.heap rfl q.2.2.2.2.2⟩, fun U hU hW => ⟨rfl, by rw [hU], by rw [hU]; exact hPc, va_K.moved hW.alike C.2.2.2.2.2.1, hDc.weaken (fun _ _ _ _ => trivial), by rw [hU]; exact hE A _ s U H locs C.2.2.2.2.2.2.2.2.1 h4 hW hF⟩⟩ rfl rfl h1.1 rfl (lv_room h8) hd hR2) h4 (fun q _ h => hF q h) hF (fun q t H1 locs1 ht hvm hw hB hz hk1 hS => ?_)
  obtain ⟨b1, -, b3⟩ := hB
  rw [ht] at b1
  obtain ⟨g1, g2⟩ := k_join hws h2 h3 hk1 hF b1 b3
  exact kk q H1 locs1 ls h1 g1 g2 hS
end KXR
section KXE
variable {p : Program} {l : Launch} {e : Env} {R : Room} {s : State} {m : MethodId} {args : Array Value} {below : List Frame} {meth : Method} {c : Code} {D : va_G} {tys : List (ClassId × FieldType)} {EV : (Nat → Prop) → State → Heap → Prop} {cc : ByteArray} {n : Nat} {own : String} {Ts : List Cond} {lv : List (Nat × Value)} {ws : va_W}
def QK (below : List Frame) (args : Array Value) (s : State) (D : va_G) (tys : List (ClassId × FieldType)) (W0 : Nat → (Nat → Nat) → va_W) (h0 : Nat) (A : Nat → Prop) (mc ms : Nat) : State → Prop := MQ below (va_Qv (fun (_ : Nat → Nat) => True) (fun q t => va_P D vwCl (W0 h0 q) t.heap ∧ va_K D vwCl tys t ∧ va_D A (W0 h0 q)) A) args s mc ms A
theorem k_vret {W0 : Nat → (Nat → Nat) → va_W} {h0 mc ms cells slots : Nat} {A : Nat → Prop} (C : Cx p s m args meth c D tys EV A cc n none own Ts) (pc : Nat) (q : Nat → Nat) (is : List Nat) (hd : decode cc pc = .ok (.return_, 1)) (hs : is.map (fun i => ws[i]?) = (W0 h0 q).map some) (hn : va_nd is = true) (hc : cells = mc) (hsl : slots = ms) : KX p l e R s m args below meth c D A n cells slots (QK below args s D tys W0 h0 A mc ms) pc lv [] ws := fun H locs ls h1 h2 h3 h4 => by
  subst hc; subst hsl
  have hP : va_P D vwCl (W0 h0 q) H := by
    intro k x hk
    have g1 : (is.map (fun i => ws[i]?))[k]? = some (some x) := by rw [hs, List.getElem?_map, hk]; rfl
    rw [List.getElem?_map] at g1
    cases hi : is[k]? with
    | none => rw [hi] at g1; cases g1
    | some i => rw [hi] at g1; exact h2 i x (Option.some.inj g1)
  exact W.vret C.1 C.2.1 C.2.2.2.2.2.2.2.2.2 (fun t ht hW => ⟨⟨q, rfl, trivial, by rw [ht]; exact hP, va_K.moved hW.alike C.2.2.2.2.2.1, h3.sub is hn hs⟩, h4.F ht⟩) h4.2.2 hd (hlocks := C.2.2.2.2.2.2.2.1)
theorem ctK_of {y : MethodName} {w0 w0' : List Cond} {rm : Room} {ci : Nat} {fs : List Value} {W0 : Nat → (Nat → Nat) → va_W} (hy : plainName y.cls = true) (hw : w0 = Cond.code y cc n none :: w0') (hcl : y.cls = own) (hyn : y.name = "<init>") (hn : 1 ≤ n)
    (body : ∀ {p : Program} {e : Env} {s : State} {m : MethodId} {args : Array Value} {below : List Frame} {meth : Method} {c : Code} (h0 : Nat), meth.name = "<init>" → Cx p s m args meth c D tys EV (va_A [(h0, .inr (ci, fs))] s.heap.size) cc n none own w0 → KX p l e rm s m args below meth c D (va_A [(h0, .inr (ci, fs))] s.heap.size) n 0 0 (QK below args s D tys W0 h0 (va_A [(h0, .inr (ci, fs))] s.heap.size) rm.cells rm.slots) 0 [(0, .ref h0)] [] [(h0, .inr (ci, fs))]) : CtK l D tys EV y w0 rm ci fs W0 := by
  intro h0 sz
  refine Met.ofW (cc := cc) (maxL := n) (ret := none) hy hw ?_
  intro p e s m args below meth c s₁ B hml hv
  obtain ⟨rfl, hsz, hP, hK, hD, hE⟩ := hv
  subst hsz
  have hin : meth.name = "<init>" := (name_of_methodNamed B.named B.method).1.trans hyn
  have hl := lv_entry [.ref h0] (n := n) hn
  rw [lg_entry_eq]
  exact body h0 hin ⟨B.exec, B.bytes, hml, hcl ▸ findClass_of_methodNamed B.named, atoms_spec (ws := w0) B.pre, hK, fun q h => Or.inr h, B.notSynchronized, hE, B.returns⟩ _ _ _ hl hP hD.self va_S.rf
end KXE
