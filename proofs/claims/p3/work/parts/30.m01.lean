def jX7_text_175 (F : Nat) (a10 : Int32)  (u15 : St) : Option (Int32 × St) :=
  vl (stf u15 0 (u15.1 2)) (fun (u16 : St) => vl (stf u16 1 (u16.1 3)) (fun (u17 : St) => vl (stf u17 21 0) (fun (u18 : St) => gd (inb 0 2) (vl (stz u18 12 0 0) (fun (u19 : St) => gd (inb 1 2) (vl (stz u19 12 1 0) (fun (u20 : St) => some (a10, u20))))))))
def bX7_text_151 (F : Nat) (J175 : St → Option (Int32 × St)) (self23 : Int32 → St → Option (Int32 × St)) (x21 : Int32) (u22 : St) : Option (Int32 × St) :=
  if 68 ≤ x21 then (J175 u22) else gd (inb x21 68) (gd (inb x21 408) (vl (sta u22 0 x21 (u22.2 2 (Int32.toNatClampNeg x21))) (fun (u24 : St) => (self23 (x21 + 1) u24))))
def jX7_text_86 (F : Nat)  (a10 : Int32) (u11 : St) : Option (Int32 × St) :=
  jn (fun (u12 : St) => vl (stf u12 7 0) (fun (u13 : St) => vl (stf u13 8 (u13.1 9)) (fun (u14 : St) => if (u14.1 9) ≤ 0 then jn (jX7_text_175 F a10) (fun (J175 : St → Option (Int32 × St)) => (lq1 (bX7_text_151 F J175) F 0 u14)) else some (((-10) - (u14.1 10)), u14)))) (fun (J121 : St → Option (Int32 × St)) => if (u11.1 9) = 0 then jn (fun (u25 : St) => bd (pX7_fails F 6 u25) (fun (_ : Unit) (u26 : St) => (J121 u26))) (fun (J115 : St → Option (Int32 × St)) => if (u11.1 2) ≤ (u11.1 5) then (J115 u11) else if (u11.1 6) < (u11.1 3) then (J121 u11) else (J115 u11)) else (J121 u11))
def bX7_text_62 (F : Nat) (J86 : Int32 → St → Option (Int32 × St)) (self29 : Int32 → St → Option (Int32 × St)) (x27 : Int32) (u28 : St) : Option (Int32 × St) :=
  if (u28.1 9) = 0 then if (u28.1 13) = 0 then (J86 x27 u28) else bd (pX7_readLine F u28) (fun (_ : Unit) (u30 : St) => (self29 (x27 + 1) u30)) else (J86 x27 u28)
def jX7_text_58 (F : Nat)   (u8 : St) : Option (Int32 × St) :=
  bd (pX7_step F u8) (fun (_ : Unit) (u9 : St) => jn (jX7_text_86 F) (fun (J86 : Int32 → St → Option (Int32 × St)) => (lq1 (bX7_text_62 F J86) F 0 u9)))
def bX7_text_39 (F : Nat) (J58 : St → Option (Int32 × St)) (self33 : Int32 → St → Option (Int32 × St)) (x31 : Int32) (u32 : St) : Option (Int32 × St) :=
  if 68 ≤ x31 then (J58 u32) else gd (inb x31 68) (vl (sta u32 2 x31 0) (fun (u34 : St) => (self33 (x31 + 1) u34)))
def pX7_text (F : Nat)  (u : St) : Option (Int32 × St) :=
  vl (stf u 9 0) (fun (u1 : St) => vl (stf u1 11 0) (fun (u2 : St) => vl (stf u2 2 0) (fun (u3 : St) => vl (stf u3 3 0) (fun (u4 : St) => gd (z01 0) (vl (stf u4 4 0) (fun (u5 : St) => vl (stf u5 5 (-1)) (fun (u6 : St) => vl (stf u6 6 (-1)) (fun (u7 : St) => jn (jX7_text_58 F) (fun (J58 : St → Option (Int32 × St)) => (lq1 (bX7_text_39 F J58) F 0 u7))))))))))
set_option maxRecDepth 100000 in
set_option maxHeartbeats 4000000 in
theorem tX7_text {l : Launch} {D : va_G} {cI cZ : ClassId} {ad : Nat → Nat} (F : Nat)  (u : St) : CtI l D [(cI, .int), (cZ, .boolean)] (wM ad cI cZ) E0 yX7_text wsX7_text ({ frames := 6, cells := 0, slots := 0, locals := 133 } : Room) [.ref (ad 0)] u (pX7_text F u) := by
  refine ctI_of (own := RX7) (cc := cX7_text) (n := 3) (ret := (some .int)) (by decide) rfl rfl (Nat.le_of_ble_eq_true rfl) (lv := [(0, .ref (ad 0))]) rfl (fun C => ?_)
  have iX7 : ∀ w ∈ wsX70, w ∈ wsX7_text := fun w h => List.mem_cons_of_mem _ (List.mem_append_right _ (inlX7 w h))
  rw [pX7_text]
  refine g_aload_n C 0 0 dX7_text_0 rfl ?_
  refine g_iconst C 1 0 dX7_text_1 rfl ?_
  refine pfM_X7_broken C 2 iX7 (List.mem_cons_of_mem _ (List.mem_append_right _ wgL_15_6.1)) dX7_text_2 (fun u1 => ?_)
  refine g_aload_n C 5 0 dX7_text_5 rfl ?_
  refine g_iconst C 6 0 dX7_text_6 rfl ?_
  refine pfM_X7_spot C 7 iX7 (List.mem_cons_of_mem _ (List.mem_append_right _ wgL_15_7.1)) dX7_text_7 (fun u2 => ?_)
  refine g_aload_n C 10 0 dX7_text_10 rfl ?_
  refine g_iconst C 11 0 dX7_text_11 rfl ?_
  refine pfM_X7_readCases C 12 iX7 (List.mem_cons_of_mem _ (List.mem_append_right _ wgL_15_8.1)) dX7_text_12 (fun u3 => ?_)
  refine g_aload_n C 15 0 dX7_text_15 rfl ?_
  refine g_iconst C 16 0 dX7_text_16 rfl ?_
  refine pfM_X7_readJudges C 17 iX7 (List.mem_cons_of_mem _ (List.mem_append_right _ wgL_15_9.1)) dX7_text_17 (fun u4 => ?_)
  refine g_aload_n C 20 0 dX7_text_20 rfl ?_
  refine g_iconst C 21 0 dX7_text_21 rfl ?_
  refine pfM_X7_isDocketTold C 22 iX7 (List.mem_cons_of_mem _ (List.mem_append_right _ wgL_15_10.1)) dX7_text_22 (fun u5 => ?_)
  refine g_aload_n C 25 0 dX7_text_25 rfl ?_
  refine g_iconst C 26 (-1) dX7_text_26 rfl ?_
  refine pfM_X7_highCase C 27 iX7 (List.mem_cons_of_mem _ (List.mem_append_right _ wgL_15_11.1)) dX7_text_27 (fun u6 => ?_)
  refine g_aload_n C 30 0 dX7_text_30 rfl ?_
  refine g_iconst C 31 (-1) dX7_text_31 rfl ?_
  refine pfM_X7_highJudge C 32 iX7 (List.mem_cons_of_mem _ (List.mem_append_right _ wgL_15_12.1)) dX7_text_32 (fun u7 => ?_)
  refine g_iconst C 35 0 dX7_text_35 rfl ?_
  refine g_istore_n C 36 [(1, .int 0), (0, .ref (ad 0))] dX7_text_36 (by decide) rfl ?_
  refine g_iconst C 37 0 dX7_text_37 rfl ?_
  refine g_istore_n C 38 [(2, .int 0), (1, .int 0), (0, .ref (ad 0))] dX7_text_38 (by decide) rfl ?_
  refine g_jn0 58 ([(0, .ref (ad 0)), (1, .int 0)]) ([]) (fun u8 => ?_) (fun J58 hJ58 => ?_)
  · skip
    rw [jX7_text_58]
    refine g_aload_n C 58 0 dX7_text_58 rfl ?_
    refine g_callVv (st := []) (As := []) C E0_ok E0_vm 59 0 0 (tX7_step F u8) rfl gX7_text_X7_step rfl rfl rfl (by decide +kernel) ⟨Nat.le_of_ble_eq_true rfl, Nat.le_of_ble_eq_true rfl⟩ rfl rfl rfl (Nat.le_of_ble_eq_true rfl) dX7_text_59 (fun u9 => ?_)
    refine g_jn1 86 (fun (a10 : Int32) => [(0, .ref (ad 0)), (1, .int a10)]) (fun (a10 : Int32) => []) (fun a10 u11 => ?_) (fun J86 hJ86 => ?_)
    · skip
      rw [jX7_text_86]
      refine g_aload_n C 86 0 dX7_text_86 rfl ?_
      refine gfM_X7_broken C 87 iX7 (List.mem_cons_of_mem _ (List.mem_append_right _ wgL_15_6.1)) dX7_text_87 ?_
      refine g_jn0 121 ([(0, .ref (ad 0)), (1, .int a10)]) ([]) (fun u12 => ?_) (fun J121 hJ121 => ?_)
      · skip
        refine g_aload_n C 121 0 dX7_text_121 rfl ?_
        refine g_iconst C 122 0 dX7_text_122 rfl ?_
        refine pfM_X7_taped C 123 iX7 (List.mem_cons_of_mem _ (List.mem_append_right _ wgL_6_20.1)) dX7_text_123 (fun u13 => ?_)
        refine g_aload_n C 126 0 dX7_text_126 rfl ?_
        refine g_aload_n C 127 0 dX7_text_127 rfl ?_
        refine gfM_X7_broken C 128 iX7 (List.mem_cons_of_mem _ (List.mem_append_right _ wgL_15_6.1)) dX7_text_128 ?_
        refine pfM_X7_fault C 131 iX7 (List.mem_cons_of_mem _ (List.mem_append_right _ wgL_15_14.1)) dX7_text_131 (fun u14 => ?_)
        refine g_aload_n C 134 0 dX7_text_134 rfl ?_
        refine gfM_X7_broken C 135 iX7 (List.mem_cons_of_mem _ (List.mem_append_right _ wgL_15_6.1)) dX7_text_135 ?_
        refine g_if_le C 138 149 dX7_text_138 (by decide) ?_ ?_
        · skip
          refine g_iconst C 149 0 dX7_text_149 rfl ?_
          refine g_istore_n C 150 [(2, .int 0), (0, .ref (ad 0)), (1, .int a10)] dX7_text_150 (by decide) rfl ?_
          refine g_jn0 175 ([(0, .ref (ad 0)), (1, .int a10)]) ([]) (fun u15 => ?_) (fun J175 hJ175 => ?_)
          · skip
            rw [jX7_text_175]
            refine g_aload_n C 175 0 dX7_text_175 rfl ?_
            refine g_aload_n C 176 0 dX7_text_176 rfl ?_
            refine gfM_X7_readCases C 177 iX7 (List.mem_cons_of_mem _ (List.mem_append_right _ wgL_15_8.1)) dX7_text_177 ?_
            refine pfM_X7_caseMany C 180 iX7 (List.mem_cons_of_mem _ (List.mem_append_right _ wgL_15_16.1)) dX7_text_180 (fun u16 => ?_)
            refine g_aload_n C 183 0 dX7_text_183 rfl ?_
            refine g_aload_n C 184 0 dX7_text_184 rfl ?_
            refine gfM_X7_readJudges C 185 iX7 (List.mem_cons_of_mem _ (List.mem_append_right _ wgL_15_9.1)) dX7_text_185 ?_
            refine pfM_X7_judgeMany C 188 iX7 (List.mem_cons_of_mem _ (List.mem_append_right _ wgL_15_17.1)) dX7_text_188 (fun u17 => ?_)
            refine g_aload_n C 191 0 dX7_text_191 rfl ?_
            refine g_iconst C 192 0 dX7_text_192 rfl ?_
            refine pfM_X7_seenMany C 193 iX7 (List.mem_cons_of_mem _ (List.mem_append_right _ wgL_15_18.1)) dX7_text_193 (fun u18 => ?_)
            refine g_aload_n C 196 0 dX7_text_196 rfl ?_
            refine gfM_X7_isKept C 197 iX7 (List.mem_cons_of_mem _ (List.mem_append_right _ wgL_5_23.1)) dX7_text_197 ?_
            refine g_iconst C 200 0 dX7_text_200 rfl ?_
            refine g_iconst C 201 0 dX7_text_201 rfl ?_
            refine g_zast C 202 (1 + 12) 1 12 (wM_arrz 12 (by decide) (by decide)) (wM_asetz 12 (by decide) (by decide)) rfl dX7_text_202 (fun u19 => ?_)
            refine g_aload_n C 203 0 dX7_text_203 rfl ?_
            refine gfM_X7_isKept C 204 iX7 (List.mem_cons_of_mem _ (List.mem_append_right _ wgL_5_23.1)) dX7_text_204 ?_
            refine g_iconst C 207 1 dX7_text_207 rfl ?_
            refine g_iconst C 208 0 dX7_text_208 rfl ?_
            refine g_zast C 209 (1 + 12) 1 12 (wM_arrz 12 (by decide) (by decide)) (wM_asetz 12 (by decide) (by decide)) rfl dX7_text_209 (fun u20 => ?_)
            refine g_iload_n C 210 1 dX7_text_210 rfl ?_
            exact g_iret C 211 dX7_text_211
          · skip
            refine g_sub _ [1, 2, 0] rfl ?_
            refine g_lq1 (fun (x21 : Int32) => [(0, .ref (ad 0)), (1, .int a10), (2, .int x21)]) (fun self23 hself23 x21 u22 => ?_) F 0 u14
            rw [bX7_text_151]
            refine g_iload_n C 151 2 dX7_text_151 rfl ?_
            refine g_bipush C 152 68 dX7_text_152 rfl ?_
            refine g_icmp_ge C 154 175 dX7_text_154 (by decide) ?_ ?_
            · skip
              exact g_sub _ [0, 1] rfl (hJ175 u22)
            · skip
              refine g_aload_n C 157 0 dX7_text_157 rfl ?_
              refine gfM_X7_state C 158 iX7 (List.mem_cons_of_mem _ (List.mem_append_right _ wgL_5_14.1)) dX7_text_158 ?_
              refine g_iload_n C 161 2 dX7_text_161 rfl ?_
              refine g_aload_n C 162 0 dX7_text_162 rfl ?_
              refine gfM_X7_readPage C 163 iX7 (List.mem_cons_of_mem _ (List.mem_append_right _ wgL_5_16.1)) dX7_text_163 ?_
              refine g_iload_n C 166 2 dX7_text_166 rfl ?_
              refine g_iald C 167 (1 + 2) 0 (wM_arr 2 (by decide)) rfl dX7_text_167 ?_
              refine g_iast C 168 (1 + 0) 0 0 (wM_arr 0 (by decide)) (wM_aset 0 (by decide)) rfl dX7_text_168 (fun u24 => ?_)
              refine g_iinc C 169 2 [(2, .int (x21 + 1)), (0, .ref (ad 0)), (1, .int a10)] dX7_text_169 rfl rfl (by decide) rfl ?_
              refine g_goto C 172 151 dX7_text_172 (by decide) ?_
              exact g_sub _ [1, 2, 0] rfl (hself23 (x21 + 1) u24)
        · skip
          refine g_bipush C 141 (-10) dX7_text_141 rfl ?_
          refine g_aload_n C 143 0 dX7_text_143 rfl ?_
          refine gfM_X7_brokenAt C 144 iX7 (List.mem_cons_of_mem _ (List.mem_append_right _ wgL_15_15.1)) dX7_text_144 ?_
          refine g_isub C 147 dX7_text_147 ?_
          exact g_iret C 148 dX7_text_148
      · skip
        refine g_if_ne C 90 121 dX7_text_90 (by decide) ?_ ?_
        · skip
          exact g_sub _ [0, 1] rfl (hJ121 u11)
        · skip
          refine g_aload_n C 93 0 dX7_text_93 rfl ?_
          refine gfM_X7_highCase C 94 iX7 (List.mem_cons_of_mem _ (List.mem_append_right _ wgL_15_11.1)) dX7_text_94 ?_
          refine g_aload_n C 97 0 dX7_text_97 rfl ?_
          refine gfM_X7_readCases C 98 iX7 (List.mem_cons_of_mem _ (List.mem_append_right _ wgL_15_8.1)) dX7_text_98 ?_
          refine g_jn0 115 ([(0, .ref (ad 0)), (1, .int a10)]) ([]) (fun u25 => ?_) (fun J115 hJ115 => ?_)
          · skip
            refine g_aload_n C 115 0 dX7_text_115 rfl ?_
            refine g_bipush C 116 6 dX7_text_116 rfl ?_
            refine g_callVv (st := []) (As := [.int 6]) C E0_ok E0_vm 118 0 1 (tX7_fails F 6 u25) rfl gX7_text_X7_fails rfl rfl rfl (by decide +kernel) ⟨Nat.le_of_ble_eq_true rfl, Nat.le_of_ble_eq_true rfl⟩ rfl rfl rfl (Nat.le_of_ble_eq_true rfl) dX7_text_118 (fun u26 => ?_)
            exact g_sub _ [0, 1] rfl (hJ121 u26)
          · skip
            refine g_icmp_ge C 101 115 dX7_text_101 (by decide) ?_ ?_
            · skip
              exact g_sub _ [0, 1] rfl (hJ115 u11)
            · skip
              refine g_aload_n C 104 0 dX7_text_104 rfl ?_
              refine gfM_X7_highJudge C 105 iX7 (List.mem_cons_of_mem _ (List.mem_append_right _ wgL_15_12.1)) dX7_text_105 ?_
              refine g_aload_n C 108 0 dX7_text_108 rfl ?_
              refine gfM_X7_readJudges C 109 iX7 (List.mem_cons_of_mem _ (List.mem_append_right _ wgL_15_9.1)) dX7_text_109 ?_
              refine g_icmp_lt C 112 121 dX7_text_112 (by decide) ?_ ?_
              · skip
                exact g_sub _ [0, 1] rfl (hJ121 u11)
              · skip
                exact g_sub _ [0, 1] rfl (hJ115 u11)
    · skip
      refine g_sub _ [0, 1] rfl ?_
      refine g_lq1 (fun (x27 : Int32) => [(0, .ref (ad 0)), (1, .int x27)]) (fun self29 hself29 x27 u28 => ?_) F 0 u9
      rw [bX7_text_62]
      refine g_aload_n C 62 0 dX7_text_62 rfl ?_
      refine gfM_X7_broken C 63 iX7 (List.mem_cons_of_mem _ (List.mem_append_right _ wgL_15_6.1)) dX7_text_63 ?_
      refine g_if_ne C 66 86 dX7_text_66 (by decide) ?_ ?_
      · skip
        exact g_sub _ [0, 1] rfl (hJ86 x27 u28)
      · skip
        refine g_aload_n C 69 0 dX7_text_69 rfl ?_
        refine gfM_X7_token C 70 iX7 (List.mem_cons_of_mem _ (List.mem_append_right _ wgL_15_13.1)) dX7_text_70 ?_
        refine g_if_eq C 73 86 dX7_text_73 (by decide) ?_ ?_
        · skip
          exact g_sub _ [0, 1] rfl (hJ86 x27 u28)
        · skip
          refine g_aload_n C 76 0 dX7_text_76 rfl ?_
          refine g_callVv (st := []) (As := []) C E0_ok E0_vm 77 0 0 (tX7_readLine F u28) rfl gX7_text_X7_readLine rfl rfl rfl (by decide +kernel) ⟨Nat.le_of_ble_eq_true rfl, Nat.le_of_ble_eq_true rfl⟩ rfl rfl rfl (Nat.le_of_ble_eq_true rfl) dX7_text_77 (fun u30 => ?_)
          refine g_iinc C 80 1 [(1, .int (x27 + 1)), (0, .ref (ad 0))] dX7_text_80 rfl rfl (by decide) rfl ?_
          refine g_goto C 83 62 dX7_text_83 (by decide) ?_
          exact g_sub _ [1, 0] rfl (hself29 (x27 + 1) u30)
  · skip
    refine g_sub _ [2, 1, 0] rfl ?_
    refine g_lq1 (fun (x31 : Int32) => [(0, .ref (ad 0)), (1, .int 0), (2, .int x31)]) (fun self33 hself33 x31 u32 => ?_) F 0 u7
    rw [bX7_text_39]
    refine g_iload_n C 39 2 dX7_text_39 rfl ?_
    refine g_bipush C 40 68 dX7_text_40 rfl ?_
    refine g_icmp_ge C 42 58 dX7_text_42 (by decide) ?_ ?_
    · skip
      exact g_sub _ [0, 1] rfl (hJ58 u32)
    · skip
      refine g_aload_n C 45 0 dX7_text_45 rfl ?_
      refine gfM_X7_readPage C 46 iX7 (List.mem_cons_of_mem _ (List.mem_append_right _ wgL_5_16.1)) dX7_text_46 ?_
      refine g_iload_n C 49 2 dX7_text_49 rfl ?_
      refine g_iconst C 50 0 dX7_text_50 rfl ?_
      refine g_iast C 51 (1 + 2) 0 2 (wM_arr 2 (by decide)) (wM_aset 2 (by decide)) rfl dX7_text_51 (fun u34 => ?_)
      refine g_iinc C 52 2 [(2, .int (x31 + 1)), (0, .ref (ad 0)), (1, .int 0)] dX7_text_52 rfl rfl (by decide) rfl ?_
      refine g_goto C 55 39 dX7_text_55 (by decide) ?_
      exact g_sub _ [1, 2, 0] rfl (hself33 (x31 + 1) u34)
def pX7_fault (F : Nat)  (u : St) : Option (Int32 × St) :=
  some ((u.1 8), u)
set_option maxRecDepth 100000 in
set_option maxHeartbeats 4000000 in
theorem tX7_fault {l : Launch} {D : va_G} {cI cZ : ClassId} {ad : Nat → Nat} (F : Nat)  (u : St) : CtI l D [(cI, .int), (cZ, .boolean)] (wM ad cI cZ) E0 yX7_fault wsX7_fault ({ frames := 0, cells := 0, slots := 0, locals := 0 } : Room) [.ref (ad 0)] u (pX7_fault F u) := by
  refine ctI_of (own := RX7) (cc := cX7_fault) (n := 1) (ret := (some .int)) (by decide) rfl rfl (Nat.le_of_ble_eq_true rfl) (lv := [(0, .ref (ad 0))]) rfl (fun C => ?_)
  have iX7 : ∀ w ∈ wsX70, w ∈ wsX7_fault := fun w h => List.mem_cons_of_mem _ (List.mem_append_right _ (inlX7 w h))
  rw [pX7_fault]
  refine g_aload_n C 0 0 dX7_fault_0 rfl ?_
  refine gfM_X7_fault C 1 iX7 (List.mem_cons_of_mem _ (List.mem_append_right _ wgL_15_14.1)) dX7_fault_1 ?_
  exact g_iret C 4 dX7_fault_4
def pX7_isCase (F : Nat) (p1 : Int32) (u : St) : Option (Int32 × St) :=
  bd (pX7_in F (Int32.toInt64 p1) 0 (Int32.toInt64 ((u.1 0) - 1)) u) (fun (r2 : Int32) (u1 : St) => gd (z01 r2) (some (r2, u1)))
set_option maxRecDepth 100000 in
set_option maxHeartbeats 4000000 in
theorem tX7_isCase {l : Launch} {D : va_G} {cI cZ : ClassId} {ad : Nat → Nat} (F : Nat) (p1 : Int32) (u : St) : CtI l D [(cI, .int), (cZ, .boolean)] (wM ad cI cZ) E0 yX7_isCase wsX7_isCase ({ frames := 1, cells := 0, slots := 0, locals := 25 } : Room) [.ref (ad 0), .int p1] u (pX7_isCase F p1 u) := by
  refine ctI_of (own := RX7) (cc := cX7_isCase) (n := 2) (ret := (some .boolean)) (by decide) rfl rfl (Nat.le_of_ble_eq_true rfl) (lv := [(0, .ref (ad 0)), (1, .int p1)]) rfl (fun C => ?_)
  have iX7 : ∀ w ∈ wsX70, w ∈ wsX7_isCase := fun w h => List.mem_cons_of_mem _ (List.mem_append_right _ (inlX7 w h))
  rw [pX7_isCase]
  refine g_iload_n C 0 1 dX7_isCase_0 rfl ?_
  refine g_i2l C 1 dX7_isCase_1 ?_
  refine g_lconst C 2 0 dX7_isCase_2 rfl ?_
  refine g_aload_n C 3 0 dX7_isCase_3 rfl ?_
  refine gfM_X7_caseMany C 4 iX7 (List.mem_cons_of_mem _ (List.mem_append_right _ wgL_15_16.1)) dX7_isCase_4 ?_
  refine g_iconst C 7 1 dX7_isCase_7 rfl ?_
  refine g_isub C 8 dX7_isCase_8 ?_
  refine g_i2l C 9 dX7_isCase_9 ?_
  refine g_callSi (st := []) (As := [.long (Int32.toInt64 p1), .long 0, .long (Int32.toInt64 ((u.1 0) - 1))]) C E0_ok E0_vm 10 3 (tX7_in F (Int32.toInt64 p1) 0 (Int32.toInt64 ((u.1 0) - 1)) u) rfl gX7_isCase_X7_in rfl rfl rfl (by decide +kernel) ⟨Nat.le_of_ble_eq_true rfl, Nat.le_of_ble_eq_true rfl⟩ rfl (Nat.le_of_ble_eq_true rfl) dX7_isCase_10 (fun r2 u1 => ?_)
  exact g_zret C 13 dX7_isCase_13
def pX7_isJudge (F : Nat) (p1 : Int32) (u : St) : Option (Int32 × St) :=
  bd (pX7_in F (Int32.toInt64 p1) 0 (Int32.toInt64 ((u.1 1) - 1)) u) (fun (r2 : Int32) (u1 : St) => gd (z01 r2) (some (r2, u1)))
set_option maxRecDepth 100000 in
set_option maxHeartbeats 4000000 in
theorem tX7_isJudge {l : Launch} {D : va_G} {cI cZ : ClassId} {ad : Nat → Nat} (F : Nat) (p1 : Int32) (u : St) : CtI l D [(cI, .int), (cZ, .boolean)] (wM ad cI cZ) E0 yX7_isJudge wsX7_isJudge ({ frames := 1, cells := 0, slots := 0, locals := 25 } : Room) [.ref (ad 0), .int p1] u (pX7_isJudge F p1 u) := by
  refine ctI_of (own := RX7) (cc := cX7_isJudge) (n := 2) (ret := (some .boolean)) (by decide) rfl rfl (Nat.le_of_ble_eq_true rfl) (lv := [(0, .ref (ad 0)), (1, .int p1)]) rfl (fun C => ?_)
  have iX7 : ∀ w ∈ wsX70, w ∈ wsX7_isJudge := fun w h => List.mem_cons_of_mem _ (List.mem_append_right _ (inlX7 w h))
  rw [pX7_isJudge]
  refine g_iload_n C 0 1 dX7_isJudge_0 rfl ?_
  refine g_i2l C 1 dX7_isJudge_1 ?_
  refine g_lconst C 2 0 dX7_isJudge_2 rfl ?_
  refine g_aload_n C 3 0 dX7_isJudge_3 rfl ?_
  refine gfM_X7_judgeMany C 4 iX7 (List.mem_cons_of_mem _ (List.mem_append_right _ wgL_15_17.1)) dX7_isJudge_4 ?_
  refine g_iconst C 7 1 dX7_isJudge_7 rfl ?_
  refine g_isub C 8 dX7_isJudge_8 ?_
  refine g_i2l C 9 dX7_isJudge_9 ?_
  refine g_callSi (st := []) (As := [.long (Int32.toInt64 p1), .long 0, .long (Int32.toInt64 ((u.1 1) - 1))]) C E0_ok E0_vm 10 3 (tX7_in F (Int32.toInt64 p1) 0 (Int32.toInt64 ((u.1 1) - 1)) u) rfl gX7_isJudge_X7_in rfl rfl rfl (by decide +kernel) ⟨Nat.le_of_ble_eq_true rfl, Nat.le_of_ble_eq_true rfl⟩ rfl (Nat.le_of_ble_eq_true rfl) dX7_isJudge_10 (fun r2 u1 => ?_)
  exact g_zret C 13 dX7_isJudge_13
def pX7_isSide (F : Nat) (p1 : Int32) (u : St) : Option (Int32 × St) :=
  bd (pX7_in F (Int32.toInt64 p1) 0 1 u) (fun (r2 : Int32) (u1 : St) => gd (z01 r2) (some (r2, u1)))
set_option maxRecDepth 100000 in
set_option maxHeartbeats 4000000 in
theorem tX7_isSide {l : Launch} {D : va_G} {cI cZ : ClassId} {ad : Nat → Nat} (F : Nat) (p1 : Int32) (u : St) : CtI l D [(cI, .int), (cZ, .boolean)] (wM ad cI cZ) E0 yX7_isSide wsX7_isSide ({ frames := 1, cells := 0, slots := 0, locals := 25 } : Room) [.int p1] u (pX7_isSide F p1 u) := by
  refine ctI_of (own := RX7) (cc := cX7_isSide) (n := 1) (ret := (some .boolean)) (by decide) rfl rfl (Nat.le_of_ble_eq_true rfl) (lv := [(0, .int p1)]) rfl (fun C => ?_)
  rw [pX7_isSide]
  refine g_iload_n C 0 0 dX7_isSide_0 rfl ?_
  refine g_i2l C 1 dX7_isSide_1 ?_
  refine g_lconst C 2 0 dX7_isSide_2 rfl ?_
  refine g_lconst C 3 1 dX7_isSide_3 rfl ?_
  refine g_callSi (st := []) (As := [.long (Int32.toInt64 p1), .long 0, .long 1]) C E0_ok E0_vm 4 3 (tX7_in F (Int32.toInt64 p1) 0 1 u) rfl gX7_isSide_X7_in rfl rfl rfl (by decide +kernel) ⟨Nat.le_of_ble_eq_true rfl, Nat.le_of_ble_eq_true rfl⟩ rfl (Nat.le_of_ble_eq_true rfl) dX7_isSide_4 (fun r2 u1 => ?_)
  exact g_zret C 7 dX7_isSide_7
def bX7_isBlown_26 (F : Nat) (p1 : Int32) (p2 : Int32) (p3 : Int32) (self6 : Int32 → Int32 → St → Option (Int32 × St)) (x3 : Int32) (x4 : Int32) (u5 : St) : Option (Int32 × St) :=
  gd (inb (p1 + 46) 408) (if (u5.2 0 (Int32.toNatClampNeg (p1 + 46))) ≤ x4 then gd (z01 x3) (some (x3, u5)) else jn (fun (a7 : Int32) (u8 : St) => jn (fun (a9 : Int32) (u10 : St) => (self6 a9 (x4 + 1) u10)) (fun (J106 : Int32 → St → Option (Int32 × St)) => jn (fun (u11 : St) => (J106 1 u11)) (fun (J101 : St → Option (Int32 × St)) => if x3 = 0 then jn (fun (u12 : St) => (J106 0 u12)) (fun (J105 : St → Option (Int32 × St)) => if a7 = 0 then (J105 u8) else gd (inb ((p1 + 51) + x4) 408) (if (u8.2 0 (Int32.toNatClampNeg ((p1 + 51) + x4))) ≤ p3 then (J105 u8) else (J101 u8))) else (J101 u8)))) (fun (J73 : Int32 → St → Option (Int32 × St)) => jn (fun (u13 : St) => (J73 0 u13)) (fun (J72 : St → Option (Int32 × St)) => if (((u5.1 15) >>> (x4 &&& 31)) &&& 1) = 0 then gd (inb ((p1 + 47) + x4) 408) (if (u5.2 0 (Int32.toNatClampNeg ((p1 + 47) + x4))) = p2 then (J73 1 u5) else (J72 u5)) else (J72 u5))))
def pX7_isBlown (F : Nat) (p1 : Int32) (p2 : Int32) (p3 : Int32) (u : St) : Option (Int32 × St) :=
  jn (fun (a1 : Int32) (u2 : St) => (lq2 (bX7_isBlown_26 F p1 p2 p3) F a1 0 u2)) (fun (J21 : Int32 → St → Option (Int32 × St)) => jn (fun (u14 : St) => (J21 0 u14)) (fun (J20 : St → Option (Int32 × St)) => if (u.1 17) ≤ p3 then (J20 u) else if (u.1 16) = p2 then (J21 1 u) else (J20 u)))
set_option maxRecDepth 100000 in
set_option maxHeartbeats 4000000 in
theorem tX7_isBlown {l : Launch} {D : va_G} {cI cZ : ClassId} {ad : Nat → Nat} (F : Nat) (p1 : Int32) (p2 : Int32) (p3 : Int32) (u : St) : CtI l D [(cI, .int), (cZ, .boolean)] (wM ad cI cZ) E0 yX7_isBlown wsX7_isBlown ({ frames := 0, cells := 0, slots := 0, locals := 0 } : Room) [.ref (ad 0), .int p1, .int p2, .int p3] u (pX7_isBlown F p1 p2 p3 u) := by
  refine ctI_of (own := RX7) (cc := cX7_isBlown) (n := 7) (ret := (some .boolean)) (by decide) rfl rfl (Nat.le_of_ble_eq_true rfl) (lv := [(0, .ref (ad 0)), (1, .int p1), (2, .int p2), (3, .int p3)]) rfl (fun C => ?_)
  have iX7 : ∀ w ∈ wsX70, w ∈ wsX7_isBlown := fun w h => List.mem_cons_of_mem _ (List.mem_append_right _ (inlX7 w h))
  rw [pX7_isBlown]
  refine g_aload_n C 0 0 dX7_isBlown_0 rfl ?_
  refine gfM_X7_moreStrength C 1 iX7 (List.mem_cons_of_mem _ (List.mem_append_right _ wgL_28_1.1)) dX7_isBlown_1 ?_
  refine g_iload_n C 4 3 dX7_isBlown_4 rfl ?_
  refine g_jn1 21 (fun (a1 : Int32) => [(0, .ref (ad 0)), (1, .int p1), (2, .int p2), (3, .int p3)]) (fun (a1 : Int32) => [.int a1]) (fun a1 u2 => ?_) (fun J21 hJ21 => ?_)
  · skip
    refine g_istore C 21 [(4, .int a1), (0, .ref (ad 0)), (1, .int p1), (2, .int p2), (3, .int p3)] dX7_isBlown_21 (by decide) rfl ?_
    refine g_iconst C 23 0 dX7_isBlown_23 rfl ?_
    refine g_istore C 24 [(5, .int 0), (4, .int a1), (0, .ref (ad 0)), (1, .int p1), (2, .int p2), (3, .int p3)] dX7_isBlown_24 (by decide) rfl ?_
    refine g_sub _ [2, 3, 4, 5, 1, 0] rfl ?_
    refine g_lq2 (fun (x3 : Int32) (x4 : Int32) => [(0, .ref (ad 0)), (1, .int p1), (2, .int p2), (3, .int p3), (4, .int x3), (5, .int x4)]) (fun self6 hself6 x3 x4 u5 => ?_) F a1 0 u2
    rw [bX7_isBlown_26]
    refine g_iload C 26 5 dX7_isBlown_26 rfl ?_
    refine g_aload_n C 28 0 dX7_isBlown_28 rfl ?_
    refine gfM_X7_state C 29 iX7 (List.mem_cons_of_mem _ (List.mem_append_right _ wgL_5_14.1)) dX7_isBlown_29 ?_
    refine g_iload_n C 32 1 dX7_isBlown_32 rfl ?_
    refine g_bipush C 33 46 dX7_isBlown_33 rfl ?_
    refine g_iadd C 35 dX7_isBlown_35 ?_
    refine g_iald C 36 (1 + 0) 0 (wM_arr 0 (by decide)) rfl dX7_isBlown_36 ?_
    refine g_icmp_ge C 37 114 dX7_isBlown_37 (by decide) ?_ ?_
    · skip
      refine g_iload C 114 4 dX7_isBlown_114 rfl ?_
      exact g_zret C 116 dX7_isBlown_116
    · skip
      refine g_aload_n C 40 0 dX7_isBlown_40 rfl ?_
      refine gfM_X7_away C 41 iX7 (List.mem_cons_of_mem _ (List.mem_append_right _ wgL_28_3.1)) dX7_isBlown_41 ?_
      refine g_iload C 44 5 dX7_isBlown_44 rfl ?_
      refine g_ishr C 46 dX7_isBlown_46 ?_
      refine g_iconst C 47 1 dX7_isBlown_47 rfl ?_
      refine g_iand C 48 dX7_isBlown_48 ?_
      refine g_jn1 73 (fun (a7 : Int32) => [(0, .ref (ad 0)), (1, .int p1), (2, .int p2), (3, .int p3), (4, .int x3), (5, .int x4)]) (fun (a7 : Int32) => [.int a7]) (fun a7 u8 => ?_) (fun J73 hJ73 => ?_)
      · skip
        refine g_istore C 73 [(6, .int a7), (0, .ref (ad 0)), (1, .int p1), (2, .int p2), (3, .int p3), (4, .int x3), (5, .int x4)] dX7_isBlown_73 (by decide) rfl ?_
        refine g_iload C 75 5 dX7_isBlown_75 rfl ?_
        refine g_jn1 106 (fun (a9 : Int32) => [(0, .ref (ad 0)), (1, .int p1), (2, .int p2), (3, .int p3), (5, .int x4)]) (fun (a9 : Int32) => [.int a9]) (fun a9 u10 => ?_) (fun J106 hJ106 => ?_)
        · skip
          refine g_istore C 106 [(4, .int a9), (0, .ref (ad 0)), (1, .int p1), (2, .int p2), (3, .int p3), (5, .int x4)] dX7_isBlown_106 (by decide) rfl ?_
          refine g_iinc C 108 5 [(5, .int (x4 + 1)), (4, .int a9), (0, .ref (ad 0)), (1, .int p1), (2, .int p2), (3, .int p3)] dX7_isBlown_108 rfl rfl (by decide) rfl ?_
          refine g_goto C 111 26 dX7_isBlown_111 (by decide) ?_
          exact g_sub _ [2, 3, 4, 5, 1, 0] rfl (hself6 a9 (x4 + 1) u10)
        · skip
          refine g_jn0 101 ([(0, .ref (ad 0)), (1, .int p1), (2, .int p2), (3, .int p3), (5, .int x4)]) ([]) (fun u11 => ?_) (fun J101 hJ101 => ?_)
          · skip
            refine g_iconst C 101 1 dX7_isBlown_101 rfl ?_
            refine g_goto C 102 106 dX7_isBlown_102 (by decide) ?_
            exact g_sub _ [0, 1, 2, 3, 4] rfl (hJ106 1 u11)
          · skip
            refine g_if_ne C 77 101 dX7_isBlown_77 (by decide) ?_ ?_
            · skip
              exact g_sub _ [1, 2, 3, 4, 6] rfl (hJ101 u8)
            · skip
              refine g_iload C 80 0 dX7_isBlown_80 rfl ?_
              refine g_jn0 105 ([(0, .ref (ad 0)), (1, .int p1), (2, .int p2), (3, .int p3), (5, .int x4)]) ([]) (fun u12 => ?_) (fun J105 hJ105 => ?_)
              · skip
                refine g_iconst C 105 0 dX7_isBlown_105 rfl ?_
                exact g_sub _ [0, 1, 2, 3, 4] rfl (hJ106 0 u12)
              · skip
                refine g_if_eq C 82 105 dX7_isBlown_82 (by decide) ?_ ?_
                · skip
                  exact g_sub _ [1, 2, 3, 4, 6] rfl (hJ105 u8)
                · skip
                  refine g_aload_n C 85 1 dX7_isBlown_85 rfl ?_
                  refine gfM_X7_state C 86 iX7 (List.mem_cons_of_mem _ (List.mem_append_right _ wgL_5_14.1)) dX7_isBlown_86 ?_
                  refine g_iload_n C 89 2 dX7_isBlown_89 rfl ?_
                  refine g_bipush C 90 51 dX7_isBlown_90 rfl ?_
                  refine g_iadd C 92 dX7_isBlown_92 ?_
                  refine g_iload C 93 6 dX7_isBlown_93 rfl ?_
                  refine g_iadd C 95 dX7_isBlown_95 ?_
                  refine g_iald C 96 (1 + 0) 0 (wM_arr 0 (by decide)) rfl dX7_isBlown_96 ?_
                  refine g_iload_n C 97 4 dX7_isBlown_97 rfl ?_
                  refine g_icmp_le C 98 105 dX7_isBlown_98 (by decide) ?_ ?_
                  · skip
                    exact g_sub _ [1, 2, 3, 4, 6] rfl (hJ105 u8)
                  · skip
                    exact g_sub _ [1, 2, 3, 4, 6] rfl (hJ101 u8)
      · skip
        refine g_jn0 72 ([(0, .ref (ad 0)), (1, .int p1), (2, .int p2), (3, .int p3), (4, .int x3), (5, .int x4)]) ([]) (fun u13 => ?_) (fun J72 hJ72 => ?_)
        · skip
          refine g_iconst C 72 0 dX7_isBlown_72 rfl ?_
          exact g_sub _ [0, 1, 2, 3, 4, 5] rfl (hJ73 0 u13)
        · skip
          refine g_if_ne C 49 72 dX7_isBlown_49 (by decide) ?_ ?_
          · skip
            exact g_sub _ [0, 1, 2, 3, 4, 5] rfl (hJ72 u5)
          · skip
            refine g_aload_n C 52 0 dX7_isBlown_52 rfl ?_
            refine gfM_X7_state C 53 iX7 (List.mem_cons_of_mem _ (List.mem_append_right _ wgL_5_14.1)) dX7_isBlown_53 ?_
            refine g_iload_n C 56 1 dX7_isBlown_56 rfl ?_
            refine g_bipush C 57 47 dX7_isBlown_57 rfl ?_
            refine g_iadd C 59 dX7_isBlown_59 ?_
            refine g_iload C 60 5 dX7_isBlown_60 rfl ?_
            refine g_iadd C 62 dX7_isBlown_62 ?_
            refine g_iald C 63 (1 + 0) 0 (wM_arr 0 (by decide)) rfl dX7_isBlown_63 ?_
            refine g_iload_n C 64 2 dX7_isBlown_64 rfl ?_
            refine g_icmp_ne C 65 72 dX7_isBlown_65 (by decide) ?_ ?_
            · skip
              exact g_sub _ [0, 1, 2, 3, 4, 5] rfl (hJ72 u5)
            · skip
              refine g_iconst C 68 1 dX7_isBlown_68 rfl ?_
              refine g_goto C 69 73 dX7_isBlown_69 (by decide) ?_
              exact g_sub _ [0, 1, 2, 3, 4, 5] rfl (hJ73 1 u5)
  · skip
    refine g_jn0 20 ([(0, .ref (ad 0)), (1, .int p1), (2, .int p2), (3, .int p3)]) ([]) (fun u14 => ?_) (fun J20 hJ20 => ?_)
    · skip
      refine g_iconst C 20 0 dX7_isBlown_20 rfl ?_
      exact g_sub _ [0, 1, 2, 3] rfl (hJ21 0 u14)
    · skip
      refine g_icmp_le C 5 20 dX7_isBlown_5 (by decide) ?_ ?_
      · skip
        exact g_sub _ [0, 1, 2, 3] rfl (hJ20 u)
      · skip
        refine g_aload_n C 8 0 dX7_isBlown_8 rfl ?_
        refine gfM_X7_moreMinute C 9 iX7 (List.mem_cons_of_mem _ (List.mem_append_right _ wgL_28_2.1)) dX7_isBlown_9 ?_
        refine g_iload_n C 12 2 dX7_isBlown_12 rfl ?_
        refine g_icmp_ne C 13 20 dX7_isBlown_13 (by decide) ?_ ?_
        · skip
          exact g_sub _ [0, 1, 2, 3] rfl (hJ20 u)
        · skip
          refine g_iconst C 16 1 dX7_isBlown_16 rfl ?_
          refine g_goto C 17 21 dX7_isBlown_17 (by decide) ?_
          exact g_sub _ [0, 1, 2, 3] rfl (hJ21 1 u)
def pX7_isOut (F : Nat) (p1 : Int32) (p2 : Int32) (p3 : Int32) (u : St) : Option (Int32 × St) :=
  gd (inb ((p1 + 8) + p2) 408) (if (u.2 0 (Int32.toNatClampNeg ((p1 + 8) + p2))) = 0 then some (1, u) else gd (inb ((p1 + 16) + p2) 408) (bd (pX7_isBlown F p1 p3 (u.2 0 (Int32.toNatClampNeg ((p1 + 16) + p2))) u) (fun (r2 : Int32) (u1 : St) => if r2 = 0 then some (0, u1) else some (1, u1))))
set_option maxRecDepth 100000 in
set_option maxHeartbeats 4000000 in
theorem tX7_isOut {l : Launch} {D : va_G} {cI cZ : ClassId} {ad : Nat → Nat} (F : Nat) (p1 : Int32) (p2 : Int32) (p3 : Int32) (u : St) : CtI l D [(cI, .int), (cZ, .boolean)] (wM ad cI cZ) E0 yX7_isOut wsX7_isOut ({ frames := 1, cells := 0, slots := 0, locals := 26 } : Room) [.ref (ad 0), .int p1, .int p2, .int p3] u (pX7_isOut F p1 p2 p3 u) := by
  refine ctI_of (own := RX7) (cc := cX7_isOut) (n := 4) (ret := (some .boolean)) (by decide) rfl rfl (Nat.le_of_ble_eq_true rfl) (lv := [(0, .ref (ad 0)), (1, .int p1), (2, .int p2), (3, .int p3)]) rfl (fun C => ?_)
  have iX7 : ∀ w ∈ wsX70, w ∈ wsX7_isOut := fun w h => List.mem_cons_of_mem _ (List.mem_append_right _ (inlX7 w h))
  rw [pX7_isOut]
  refine g_aload_n C 0 0 dX7_isOut_0 rfl ?_
  refine gfM_X7_state C 1 iX7 (List.mem_cons_of_mem _ (List.mem_append_right _ wgL_5_14.1)) dX7_isOut_1 ?_
  refine g_iload_n C 4 1 dX7_isOut_4 rfl ?_
  refine g_bipush C 5 8 dX7_isOut_5 rfl ?_
  refine g_iadd C 7 dX7_isOut_7 ?_
  refine g_iload_n C 8 2 dX7_isOut_8 rfl ?_
  refine g_iadd C 9 dX7_isOut_9 ?_
  refine g_iald C 10 (1 + 0) 0 (wM_arr 0 (by decide)) rfl dX7_isOut_10 ?_
  refine g_if_eq C 11 34 dX7_isOut_11 (by decide) ?_ ?_
  · skip
    refine g_iconst C 34 1 dX7_isOut_34 rfl ?_
    refine g_goto C 35 39 dX7_isOut_35 (by decide) ?_
    exact g_nret C 39 rfl dX7_isOut_39
  · skip
    refine g_aload_n C 14 0 dX7_isOut_14 rfl ?_
    refine g_iload_n C 15 1 dX7_isOut_15 rfl ?_
    refine g_iload_n C 16 3 dX7_isOut_16 rfl ?_
    refine g_aload_n C 17 0 dX7_isOut_17 rfl ?_
    refine gfM_X7_state C 18 iX7 (List.mem_cons_of_mem _ (List.mem_append_right _ wgL_5_14.1)) dX7_isOut_18 ?_
    refine g_iload_n C 21 1 dX7_isOut_21 rfl ?_
    refine g_bipush C 22 16 dX7_isOut_22 rfl ?_
    refine g_iadd C 24 dX7_isOut_24 ?_
    refine g_iload_n C 25 2 dX7_isOut_25 rfl ?_
    refine g_iadd C 26 dX7_isOut_26 ?_
    refine g_iald C 27 (1 + 0) 0 (wM_arr 0 (by decide)) rfl dX7_isOut_27 ?_
    refine g_callVi (st := []) (As := [.int p1, .int p3, .int (u.2 0 (Int32.toNatClampNeg ((p1 + 16) + p2)))]) C E0_ok E0_vm 28 0 3 (tX7_isBlown F p1 p3 (u.2 0 (Int32.toNatClampNeg ((p1 + 16) + p2))) u) rfl gX7_isOut_X7_isBlown rfl rfl rfl (by decide +kernel) ⟨Nat.le_of_ble_eq_true rfl, Nat.le_of_ble_eq_true rfl⟩ rfl rfl rfl (Nat.le_of_ble_eq_true rfl) dX7_isOut_28 (fun r2 u1 => ?_)
    refine g_if_eq C 31 38 dX7_isOut_31 (by decide) ?_ ?_
    · skip
      refine g_iconst C 38 0 dX7_isOut_38 rfl ?_
      exact g_nret C 39 rfl dX7_isOut_39
    · skip
      refine g_iconst C 34 1 dX7_isOut_34 rfl ?_
      refine g_goto C 35 39 dX7_isOut_35 (by decide) ?_
      exact g_nret C 39 rfl dX7_isOut_39
def pX7_goesTo (F : Nat) (p1 : Int32) (p2 : Int32) (p3 : Int32) (u : St) : Option (Int32 × St) :=
  vl (2 * p2) (fun v1 => gd (inb (((p1 + 8) + v1) + 1) 408) (gd (inb ((p1 + 8) + v1) 408) (jn (fun (a2 : Int32) (u3 : St) => gd (inb ((p1 + 40) + p3) 408) (if (u3.2 0 (Int32.toNatClampNeg ((p1 + 40) + p3))) = 0 then some (0, u3) else if (u3.2 0 (Int32.toNatClampNeg ((p1 + 40) + p3))) = 1 then some (a2, u3) else if (u3.2 0 (Int32.toNatClampNeg ((p1 + 40) + p3))) = 2 then some ((1 - a2), u3) else gd (inb (((p1 + 16) + v1) + 1) 408) (gd (inb ((p1 + 16) + v1) 408) (if (u3.2 0 (Int32.toNatClampNeg ((p1 + 16) + v1))) ≤ (u3.2 0 (Int32.toNatClampNeg (((p1 + 16) + v1) + 1))) then some (0, u3) else some (1, u3))))) (fun (J39 : Int32 → St → Option (Int32 × St)) => if (u.2 0 (Int32.toNatClampNeg (((p1 + 8) + v1) + 1))) ≤ (u.2 0 (Int32.toNatClampNeg ((p1 + 8) + v1))) then (J39 0 u) else (J39 1 u)))))
set_option maxRecDepth 100000 in
set_option maxHeartbeats 4000000 in
theorem tX7_goesTo {l : Launch} {D : va_G} {cI cZ : ClassId} {ad : Nat → Nat} (F : Nat) (p1 : Int32) (p2 : Int32) (p3 : Int32) (u : St) : CtI l D [(cI, .int), (cZ, .boolean)] (wM ad cI cZ) E0 yX7_goesTo wsX7_goesTo ({ frames := 0, cells := 0, slots := 0, locals := 0 } : Room) [.ref (ad 0), .int p1, .int p2, .int p3] u (pX7_goesTo F p1 p2 p3 u) := by
  refine ctI_of (own := RX7) (cc := cX7_goesTo) (n := 6) (ret := (some .int)) (by decide) rfl rfl (Nat.le_of_ble_eq_true rfl) (lv := [(0, .ref (ad 0)), (1, .int p1), (2, .int p2), (3, .int p3)]) rfl (fun C => ?_)
  have iX7 : ∀ w ∈ wsX70, w ∈ wsX7_goesTo := fun w h => List.mem_cons_of_mem _ (List.mem_append_right _ (inlX7 w h))
  rw [pX7_goesTo]
  refine g_iconst C 0 2 dX7_goesTo_0 rfl ?_
  refine g_iload_n C 1 2 dX7_goesTo_1 rfl ?_
  refine g_imul C 2 dX7_goesTo_2 ?_
  refine g_istoreV C 3 (fun v1 => [(4, .int v1), (0, .ref (ad 0)), (1, .int p1), (2, .int p2), (3, .int p3)]) dX7_goesTo_3 (by decide) (fun _ => rfl) (fun v1 => ?_)
  refine g_aload_n C 5 1 dX7_goesTo_5 rfl ?_
  refine gfM_X7_state C 6 iX7 (List.mem_cons_of_mem _ (List.mem_append_right _ wgL_5_14.1)) dX7_goesTo_6 ?_
  refine g_iload_n C 9 2 dX7_goesTo_9 rfl ?_
  refine g_bipush C 10 8 dX7_goesTo_10 rfl ?_
  refine g_iadd C 12 dX7_goesTo_12 ?_
  refine g_iload C 13 0 dX7_goesTo_13 rfl ?_
  refine g_iadd C 15 dX7_goesTo_15 ?_
  refine g_iconst C 16 1 dX7_goesTo_16 rfl ?_
  refine g_iadd C 17 dX7_goesTo_17 ?_
  refine g_iald C 18 (1 + 0) 0 (wM_arr 0 (by decide)) rfl dX7_goesTo_18 ?_
  refine g_aload_n C 19 1 dX7_goesTo_19 rfl ?_
  refine gfM_X7_state C 20 iX7 (List.mem_cons_of_mem _ (List.mem_append_right _ wgL_5_14.1)) dX7_goesTo_20 ?_
  refine g_iload_n C 23 2 dX7_goesTo_23 rfl ?_
  refine g_bipush C 24 8 dX7_goesTo_24 rfl ?_
  refine g_iadd C 26 dX7_goesTo_26 ?_
  refine g_iload C 27 0 dX7_goesTo_27 rfl ?_
  refine g_iadd C 29 dX7_goesTo_29 ?_
  refine g_iald C 30 (1 + 0) 0 (wM_arr 0 (by decide)) rfl dX7_goesTo_30 ?_
  refine g_jn1 39 (fun (a2 : Int32) => [(0, .ref (ad 0)), (1, .int p1), (3, .int p3), (4, .int v1)]) (fun (a2 : Int32) => [.int a2]) (fun a2 u3 => ?_) (fun J39 hJ39 => ?_)
  · skip
    refine g_istore C 39 [(5, .int a2), (0, .ref (ad 0)), (1, .int p1), (3, .int p3), (4, .int v1)] dX7_goesTo_39 (by decide) rfl ?_
    refine g_aload_n C 41 1 dX7_goesTo_41 rfl ?_
    refine gfM_X7_state C 42 iX7 (List.mem_cons_of_mem _ (List.mem_append_right _ wgL_5_14.1)) dX7_goesTo_42 ?_
    refine g_iload_n C 45 2 dX7_goesTo_45 rfl ?_
    refine g_bipush C 46 40 dX7_goesTo_46 rfl ?_
    refine g_iadd C 48 dX7_goesTo_48 ?_
    refine g_iload_n C 49 3 dX7_goesTo_49 rfl ?_
    refine g_iadd C 50 dX7_goesTo_50 ?_
    refine g_iald C 51 (1 + 0) 0 (wM_arr 0 (by decide)) rfl dX7_goesTo_51 ?_
    refine g_tsw C 52 80 0 dX7_goesTo_52 (by decide) rfl (by decide) ?_ (fun q0 => ?_)
    · skip
      refine g_iconst C 80 0 dX7_goesTo_80 rfl ?_
      exact g_iret C 81 dX7_goesTo_81
    refine g_tsw C 52 82 1 dX7_goesTo_52 (by decide) rfl (by decide) ?_ (fun q1 => ?_)
    · skip
      refine g_iload C 82 0 dX7_goesTo_82 rfl ?_
      exact g_iret C 84 dX7_goesTo_84
    refine g_tsw C 52 85 2 dX7_goesTo_52 (by decide) rfl (by decide) ?_ (fun q2 => ?_)
    · skip
      refine g_iconst C 85 1 dX7_goesTo_85 rfl ?_
      refine g_iload C 86 0 dX7_goesTo_86 rfl ?_
      refine g_isub C 88 dX7_goesTo_88 ?_
      exact g_iret C 89 dX7_goesTo_89
    refine g_tswD C 52 90 dX7_goesTo_52 (by have r0 := lv_neT (a := 0) q0 rfl; have r1 := lv_neT (a := 1) q1 rfl; have r2 := lv_neT (a := 2) q2 rfl; omega) (by decide) ?_
    refine g_aload_n C 90 1 dX7_goesTo_90 rfl ?_
    refine gfM_X7_state C 91 iX7 (List.mem_cons_of_mem _ (List.mem_append_right _ wgL_5_14.1)) dX7_goesTo_91 ?_
    refine g_iload_n C 94 2 dX7_goesTo_94 rfl ?_
    refine g_bipush C 95 16 dX7_goesTo_95 rfl ?_
    refine g_iadd C 97 dX7_goesTo_97 ?_
    refine g_iload C 98 4 dX7_goesTo_98 rfl ?_
    refine g_iadd C 100 dX7_goesTo_100 ?_
    refine g_iconst C 101 1 dX7_goesTo_101 rfl ?_
    refine g_iadd C 102 dX7_goesTo_102 ?_
    refine g_iald C 103 (1 + 0) 0 (wM_arr 0 (by decide)) rfl dX7_goesTo_103 ?_
    refine g_aload_n C 104 1 dX7_goesTo_104 rfl ?_
    refine gfM_X7_state C 105 iX7 (List.mem_cons_of_mem _ (List.mem_append_right _ wgL_5_14.1)) dX7_goesTo_105 ?_
    refine g_iload_n C 108 2 dX7_goesTo_108 rfl ?_
    refine g_bipush C 109 16 dX7_goesTo_109 rfl ?_
    refine g_iadd C 111 dX7_goesTo_111 ?_
    refine g_iload C 112 4 dX7_goesTo_112 rfl ?_
    refine g_iadd C 114 dX7_goesTo_114 ?_
    refine g_iald C 115 (1 + 0) 0 (wM_arr 0 (by decide)) rfl dX7_goesTo_115 ?_
    refine g_icmp_ge C 116 123 dX7_goesTo_116 (by decide) ?_ ?_
    · skip
      refine g_iconst C 123 0 dX7_goesTo_123 rfl ?_
      exact g_iret C 124 dX7_goesTo_124
    · skip
      refine g_iconst C 119 1 dX7_goesTo_119 rfl ?_
      refine g_goto C 120 124 dX7_goesTo_120 (by decide) ?_
      exact g_iret C 124 dX7_goesTo_124
  · skip
    refine g_icmp_le C 31 38 dX7_goesTo_31 (by decide) ?_ ?_
    · skip
      refine g_iconst C 38 0 dX7_goesTo_38 rfl ?_
      exact g_sub _ [1, 2, 4, 0] rfl (hJ39 0 u)
    · skip
      refine g_iconst C 34 1 dX7_goesTo_34 rfl ?_
      refine g_goto C 35 39 dX7_goesTo_35 (by decide) ?_
      exact g_sub _ [1, 2, 4, 0] rfl (hJ39 1 u)
def pX7_burnsOn (F : Nat) (p1 : Int32) (p2 : Int32) (u : St) : Option (Unit × St) :=
  gd (inb ((p1 + 8) + p2) 408) (gd (inb (p1 + p2) 408) (gd (inb (u.2 0 (Int32.toNatClampNeg (p1 + p2))) 4) (vl ((u.2 0 (Int32.toNatClampNeg ((p1 + 8) + p2))) - (u.2 1 (Int32.toNatClampNeg (u.2 0 (Int32.toNatClampNeg (p1 + p2)))))) (fun v1 => jn (fun (a2 : Int32) (u3 : St) => gd (inb ((p1 + 8) + p2) 408) (vl (sta u3 0 ((p1 + 8) + p2) a2) (fun (u4 : St) => some ((), u4)))) (fun (J45 : Int32 → St → Option (Unit × St)) => if 0 ≤ v1 then (J45 v1 u) else (J45 0 u))))))
set_option maxRecDepth 100000 in
set_option maxHeartbeats 4000000 in
theorem tX7_burnsOn {l : Launch} {D : va_G} {cI cZ : ClassId} {ad : Nat → Nat} (F : Nat) (p1 : Int32) (p2 : Int32) (u : St) : CtV l D [(cI, .int), (cZ, .boolean)] (wM ad cI cZ) E0 yX7_burnsOn wsX7_burnsOn ({ frames := 0, cells := 0, slots := 0, locals := 0 } : Room) [.ref (ad 0), .int p1, .int p2] u (pX7_burnsOn F p1 p2 u) := by
  refine ctV_of (own := RX7) (cc := cX7_burnsOn) (n := 4) (ret := none) (by decide) rfl rfl (Nat.le_of_ble_eq_true rfl) (lv := [(0, .ref (ad 0)), (1, .int p1), (2, .int p2)]) rfl (fun C => ?_)
  have iX7 : ∀ w ∈ wsX70, w ∈ wsX7_burnsOn := fun w h => List.mem_cons_of_mem _ (List.mem_append_right _ (inlX7 w h))
  rw [pX7_burnsOn]
  refine g_aload_n C 0 0 dX7_burnsOn_0 rfl ?_
  refine gfM_X7_state C 1 iX7 (List.mem_cons_of_mem _ (List.mem_append_right _ wgL_5_14.1)) dX7_burnsOn_1 ?_
  refine g_iload_n C 4 1 dX7_burnsOn_4 rfl ?_
  refine g_bipush C 5 8 dX7_burnsOn_5 rfl ?_
  refine g_iadd C 7 dX7_burnsOn_7 ?_
  refine g_iload_n C 8 2 dX7_burnsOn_8 rfl ?_
  refine g_iadd C 9 dX7_burnsOn_9 ?_
  refine g_iald C 10 (1 + 0) 0 (wM_arr 0 (by decide)) rfl dX7_burnsOn_10 ?_
  refine g_aload_n C 11 0 dX7_burnsOn_11 rfl ?_
  refine gfM_X7_burns C 12 iX7 (List.mem_cons_of_mem _ (List.mem_append_right _ wgL_5_15.1)) dX7_burnsOn_12 ?_
  refine g_aload_n C 15 0 dX7_burnsOn_15 rfl ?_
  refine gfM_X7_state C 16 iX7 (List.mem_cons_of_mem _ (List.mem_append_right _ wgL_5_14.1)) dX7_burnsOn_16 ?_
  refine g_iload_n C 19 1 dX7_burnsOn_19 rfl ?_
  refine g_iload_n C 20 2 dX7_burnsOn_20 rfl ?_
  refine g_iadd C 21 dX7_burnsOn_21 ?_
  refine g_iald C 22 (1 + 0) 0 (wM_arr 0 (by decide)) rfl dX7_burnsOn_22 ?_
  refine g_iald C 23 (1 + 1) 0 (wM_arr 1 (by decide)) rfl dX7_burnsOn_23 ?_
  refine g_isub C 24 dX7_burnsOn_24 ?_
  refine g_istore_nV C 25 (fun v1 => [(3, .int v1), (0, .ref (ad 0)), (1, .int p1), (2, .int p2)]) dX7_burnsOn_25 (by decide) (fun _ => rfl) (fun v1 => ?_)
  refine g_aload_n C 26 1 dX7_burnsOn_26 rfl ?_
  refine gfM_X7_state C 27 iX7 (List.mem_cons_of_mem _ (List.mem_append_right _ wgL_5_14.1)) dX7_burnsOn_27 ?_
  refine g_iload_n C 30 2 dX7_burnsOn_30 rfl ?_
  refine g_bipush C 31 8 dX7_burnsOn_31 rfl ?_
  refine g_iadd C 33 dX7_burnsOn_33 ?_
  refine g_iload_n C 34 3 dX7_burnsOn_34 rfl ?_
  refine g_iadd C 35 dX7_burnsOn_35 ?_
  refine g_iload_n C 36 0 dX7_burnsOn_36 rfl ?_
  refine g_jn1 45 (fun (a2 : Int32) => []) (fun (a2 : Int32) => [.int a2, .int ((p1 + 8) + p2), .ref (ad (1 + 0))]) (fun a2 u3 => ?_) (fun J45 hJ45 => ?_)
  · skip
    refine g_iast C 45 (1 + 0) 0 0 (wM_arr 0 (by decide)) (wM_aset 0 (by decide)) rfl dX7_burnsOn_45 (fun u4 => ?_)
    exact g_vret C 46 dX7_burnsOn_46
  · skip
    refine g_if_ge C 37 44 dX7_burnsOn_37 (by decide) ?_ ?_
    · skip
      refine g_iload_n C 44 0 dX7_burnsOn_44 rfl ?_
      exact g_sub _ [] rfl (hJ45 v1 u)
    · skip
      refine g_iconst C 40 0 dX7_burnsOn_40 rfl ?_
      refine g_goto C 41 45 dX7_burnsOn_41 (by decide) ?_
      exact g_sub _ [] rfl (hJ45 0 u)
def jX7_hearsOn_101 (F : Nat)  (a1 : Int32) (a2 : Int32) (a3 : Int32) (u4 : St) : Option (Int32 × St) :=
  vl (stf u4 18 a1) (fun (u5 : St) => jn (fun (u6 : St) => if a2 = 0 then some (1, u6) else some (2, u6)) (fun (J121 : St → Option (Int32 × St)) => if a2 = 0 then (J121 u5) else if a3 = 0 then (J121 u5) else some (3, u5)))
def bX7_hearsOn_3 (F : Nat) (p1 : Int32) (p2 : Int32) (p3 : Int32) (J101 : Int32 → Int32 → Int32 → St → Option (Int32 × St)) (self9 : Int32 → St → Option (Int32 × St)) (x7 : Int32) (u8 : St) : Option (Int32 × St) :=
  if 9 < x7 then some (0, u8) else bd (pX7_isOut F p1 (2 * p2) x7 u8) (fun (r11 : Int32) (u10 : St) => bd (pX7_isOut F p1 ((2 * p2) + 1) x7 u10) (fun (r13 : Int32) (u12 : St) => jn (fun (a14 : Int32) (a15 : Int32) (u16 : St) => if a14 = 0 then if a15 = 0 then bd (pX7_burnsOn F p1 (2 * p2) u16) (fun (_ : Unit) (u17 : St) => bd (pX7_burnsOn F p1 ((2 * p2) + 1) u17) (fun (_ : Unit) (u18 : St) => (self9 (x7 + 1) u18))) else (J101 x7 a14 a15 u16) else (J101 x7 a14 a15 u16)) (fun (J91 : Int32 → Int32 → St → Option (Int32 × St)) => if r11 = 0 then if r13 = 0 then gd (inb ((p1 + 43) + p3) 408) (if x7 = (u12.2 0 (Int32.toNatClampNeg ((p1 + 43) + p3))) then bd (pX7_goesTo F p1 p2 p3 u12) (fun (r20 : Int32) (u19 : St) => jn (fun (a21 : Int32) (u22 : St) => jn (fun (a23 : Int32) (u24 : St) => (J91 a21 a23 u24)) (fun (J89 : Int32 → St → Option (Int32 × St)) => if a21 = 0 then (J89 1 u22) else (J89 0 u22))) (fun (J77 : Int32 → St → Option (Int32 × St)) => if r20 = 0 then (J77 1 u19) else (J77 0 u19))) else (J91 r11 r13 u12)) else (J91 r11 r13 u12) else (J91 r11 r13 u12))))
def pX7_hearsOn (F : Nat) (p1 : Int32) (p2 : Int32) (p3 : Int32) (u : St) : Option (Int32 × St) :=
  jn (jX7_hearsOn_101 F) (fun (J101 : Int32 → Int32 → Int32 → St → Option (Int32 × St)) => (lq1 (bX7_hearsOn_3 F p1 p2 p3 J101) F 0 u))
set_option maxRecDepth 100000 in
set_option maxHeartbeats 4000000 in
theorem tX7_hearsOn {l : Launch} {D : va_G} {cI cZ : ClassId} {ad : Nat → Nat} (F : Nat) (p1 : Int32) (p2 : Int32) (p3 : Int32) (u : St) : CtI l D [(cI, .int), (cZ, .boolean)] (wM ad cI cZ) E0 yX7_hearsOn wsX7_hearsOn ({ frames := 2, cells := 0, slots := 0, locals := 49 } : Room) [.ref (ad 0), .int p1, .int p2, .int p3] u (pX7_hearsOn F p1 p2 p3 u) := by
  refine ctI_of (own := RX7) (cc := cX7_hearsOn) (n := 7) (ret := (some .int)) (by decide) rfl rfl (Nat.le_of_ble_eq_true rfl) (lv := [(0, .ref (ad 0)), (1, .int p1), (2, .int p2), (3, .int p3)]) rfl (fun C => ?_)
  have iX7 : ∀ w ∈ wsX70, w ∈ wsX7_hearsOn := fun w h => List.mem_cons_of_mem _ (List.mem_append_right _ (inlX7 w h))
  rw [pX7_hearsOn]
  refine g_iconst C 0 0 dX7_hearsOn_0 rfl ?_
  refine g_istore C 1 [(4, .int 0), (0, .ref (ad 0)), (1, .int p1), (2, .int p2), (3, .int p3)] dX7_hearsOn_1 (by decide) rfl ?_
  refine g_jn3 101 (fun (a1 : Int32) (a2 : Int32) (a3 : Int32) => [(0, .ref (ad 0)), (4, .int a1), (5, .int a2), (6, .int a3)]) (fun (a1 : Int32) (a2 : Int32) (a3 : Int32) => []) (fun a1 a2 a3 u4 => ?_) (fun J101 hJ101 => ?_)
  · skip
    rw [jX7_hearsOn_101]
    refine g_aload_n C 101 0 dX7_hearsOn_101 rfl ?_
    refine g_iload C 102 1 dX7_hearsOn_102 rfl ?_
    refine pfM_X7_endedAt C 104 iX7 (List.mem_cons_of_mem _ (List.mem_append_right _ wgL_27_12.1)) dX7_hearsOn_104 (fun u5 => ?_)
    refine g_iload C 107 2 dX7_hearsOn_107 rfl ?_
    refine g_jn0 121 ([(5, .int a2)]) ([]) (fun u6 => ?_) (fun J121 hJ121 => ?_)
    · skip
      refine g_iload C 121 0 dX7_hearsOn_121 rfl ?_
      refine g_if_eq C 123 130 dX7_hearsOn_123 (by decide) ?_ ?_
      · skip
        refine g_iconst C 130 1 dX7_hearsOn_130 rfl ?_
        exact g_iret C 131 dX7_hearsOn_131
      · skip
        refine g_iconst C 126 2 dX7_hearsOn_126 rfl ?_
        refine g_goto C 127 131 dX7_hearsOn_127 (by decide) ?_
        exact g_iret C 131 dX7_hearsOn_131
    · skip
      refine g_if_eq C 109 121 dX7_hearsOn_109 (by decide) ?_ ?_
      · skip
        exact g_sub _ [2] rfl (hJ121 u5)
      · skip
        refine g_iload C 112 3 dX7_hearsOn_112 rfl ?_
        refine g_if_eq C 114 121 dX7_hearsOn_114 (by decide) ?_ ?_
        · skip
          exact g_sub _ [2] rfl (hJ121 u5)
        · skip
          refine g_iconst C 117 3 dX7_hearsOn_117 rfl ?_
          refine g_goto C 118 131 dX7_hearsOn_118 (by decide) ?_
          exact g_iret C 131 dX7_hearsOn_131
  · skip
    refine g_sub _ [1, 2, 3, 4, 0] rfl ?_
    refine g_lq1 (fun (x7 : Int32) => [(0, .ref (ad 0)), (1, .int p1), (2, .int p2), (3, .int p3), (4, .int x7)]) (fun self9 hself9 x7 u8 => ?_) F 0 u
    rw [bX7_hearsOn_3]
    refine g_iload C 3 4 dX7_hearsOn_3 rfl ?_
    refine g_bipush C 5 9 dX7_hearsOn_5 rfl ?_
    refine g_icmp_gt C 7 156 dX7_hearsOn_7 (by decide) ?_ ?_
    · skip
      refine g_iconst C 156 0 dX7_hearsOn_156 rfl ?_
      exact g_iret C 157 dX7_hearsOn_157
    · skip
      refine g_aload_n C 10 0 dX7_hearsOn_10 rfl ?_
      refine g_iload_n C 11 1 dX7_hearsOn_11 rfl ?_
      refine g_iconst C 12 2 dX7_hearsOn_12 rfl ?_
      refine g_iload_n C 13 2 dX7_hearsOn_13 rfl ?_
      refine g_imul C 14 dX7_hearsOn_14 ?_
      refine g_iload C 15 4 dX7_hearsOn_15 rfl ?_
      refine g_callVi (st := []) (As := [.int p1, .int (2 * p2), .int x7]) C E0_ok E0_vm 17 0 3 (tX7_isOut F p1 (2 * p2) x7 u8) rfl gX7_hearsOn_X7_isOut rfl rfl rfl (by decide +kernel) ⟨Nat.le_of_ble_eq_true rfl, Nat.le_of_ble_eq_true rfl⟩ rfl rfl rfl (Nat.le_of_ble_eq_true rfl) dX7_hearsOn_17 (fun r11 u10 => ?_)
      refine g_istore C 20 [(5, .int r11), (0, .ref (ad 0)), (1, .int p1), (2, .int p2), (3, .int p3), (4, .int x7)] dX7_hearsOn_20 (by decide) rfl ?_
      refine g_aload_n C 22 1 dX7_hearsOn_22 rfl ?_
      refine g_iload_n C 23 2 dX7_hearsOn_23 rfl ?_
      refine g_iconst C 24 2 dX7_hearsOn_24 rfl ?_
      refine g_iload_n C 25 3 dX7_hearsOn_25 rfl ?_
      refine g_imul C 26 dX7_hearsOn_26 ?_
      refine g_iconst C 27 1 dX7_hearsOn_27 rfl ?_
      refine g_iadd C 28 dX7_hearsOn_28 ?_
      refine g_iload C 29 5 dX7_hearsOn_29 rfl ?_
      refine g_callVi (st := []) (As := [.int p1, .int ((2 * p2) + 1), .int x7]) C E0_ok E0_vm 31 0 3 (tX7_isOut F p1 ((2 * p2) + 1) x7 u10) rfl gX7_hearsOn_X7_isOut rfl rfl rfl (by decide +kernel) ⟨Nat.le_of_ble_eq_true rfl, Nat.le_of_ble_eq_true rfl⟩ rfl rfl rfl (Nat.le_of_ble_eq_true rfl) dX7_hearsOn_31 (fun r13 u12 => ?_)
      refine g_istore C 34 [(6, .int r13), (5, .int r11), (0, .ref (ad 0)), (1, .int p1), (2, .int p2), (3, .int p3), (4, .int x7)] dX7_hearsOn_34 (by decide) rfl ?_
      refine g_iload C 36 1 dX7_hearsOn_36 rfl ?_
      refine g_jn2 91 (fun (a14 : Int32) (a15 : Int32) => [(0, .ref (ad 0)), (1, .int p1), (2, .int p2), (3, .int p3), (4, .int x7), (5, .int a14), (6, .int a15)]) (fun (a14 : Int32) (a15 : Int32) => []) (fun a14 a15 u16 => ?_) (fun J91 hJ91 => ?_)
      · skip
        refine g_iload C 91 5 dX7_hearsOn_91 rfl ?_
        refine g_if_ne C 93 101 dX7_hearsOn_93 (by decide) ?_ ?_
        · skip
          exact g_sub _ [0, 4, 5, 6] rfl (hJ101 x7 a14 a15 u16)
        · skip
          refine g_iload C 96 6 dX7_hearsOn_96 rfl ?_
          refine g_if_eq C 98 132 dX7_hearsOn_98 (by decide) ?_ ?_
          · skip
            refine g_aload_n C 132 0 dX7_hearsOn_132 rfl ?_
            refine g_iload_n C 133 1 dX7_hearsOn_133 rfl ?_
            refine g_iconst C 134 2 dX7_hearsOn_134 rfl ?_
            refine g_iload_n C 135 2 dX7_hearsOn_135 rfl ?_
            refine g_imul C 136 dX7_hearsOn_136 ?_
            refine g_callVv (st := []) (As := [.int p1, .int (2 * p2)]) C E0_ok E0_vm 137 0 2 (tX7_burnsOn F p1 (2 * p2) u16) rfl gX7_hearsOn_X7_burnsOn rfl rfl rfl (by decide +kernel) ⟨Nat.le_of_ble_eq_true rfl, Nat.le_of_ble_eq_true rfl⟩ rfl rfl rfl (Nat.le_of_ble_eq_true rfl) dX7_hearsOn_137 (fun u17 => ?_)
            refine g_aload_n C 140 0 dX7_hearsOn_140 rfl ?_
            refine g_iload_n C 141 1 dX7_hearsOn_141 rfl ?_
            refine g_iconst C 142 2 dX7_hearsOn_142 rfl ?_
            refine g_iload_n C 143 2 dX7_hearsOn_143 rfl ?_
            refine g_imul C 144 dX7_hearsOn_144 ?_
            refine g_iconst C 145 1 dX7_hearsOn_145 rfl ?_
            refine g_iadd C 146 dX7_hearsOn_146 ?_
            refine g_callVv (st := []) (As := [.int p1, .int ((2 * p2) + 1)]) C E0_ok E0_vm 147 0 2 (tX7_burnsOn F p1 ((2 * p2) + 1) u17) rfl gX7_hearsOn_X7_burnsOn rfl rfl rfl (by decide +kernel) ⟨Nat.le_of_ble_eq_true rfl, Nat.le_of_ble_eq_true rfl⟩ rfl rfl rfl (Nat.le_of_ble_eq_true rfl) dX7_hearsOn_147 (fun u18 => ?_)
            refine g_iinc C 150 4 [(4, .int (x7 + 1)), (0, .ref (ad 0)), (1, .int p1), (2, .int p2), (3, .int p3), (5, .int a14), (6, .int a15)] dX7_hearsOn_150 rfl rfl (by decide) rfl ?_
            refine g_goto C 153 3 dX7_hearsOn_153 (by decide) ?_
            exact g_sub _ [1, 2, 3, 4, 0] rfl (hself9 (x7 + 1) u18)
          · skip
            exact g_sub _ [0, 4, 5, 6] rfl (hJ101 x7 a14 a15 u16)
      · skip
        refine g_if_ne C 38 91 dX7_hearsOn_38 (by decide) ?_ ?_
        · skip
          exact g_sub _ [2, 3, 4, 5, 6, 1, 0] rfl (hJ91 r11 r13 u12)
        · skip
          refine g_iload C 41 0 dX7_hearsOn_41 rfl ?_
          refine g_if_ne C 43 91 dX7_hearsOn_43 (by decide) ?_ ?_
          · skip
            exact g_sub _ [2, 3, 4, 5, 6, 1, 0] rfl (hJ91 r11 r13 u12)
          · skip
            refine g_iload C 46 6 dX7_hearsOn_46 rfl ?_
            refine g_aload_n C 48 2 dX7_hearsOn_48 rfl ?_
            refine gfM_X7_state C 49 iX7 (List.mem_cons_of_mem _ (List.mem_append_right _ wgL_5_14.1)) dX7_hearsOn_49 ?_
            refine g_iload_n C 52 3 dX7_hearsOn_52 rfl ?_
            refine g_bipush C 53 43 dX7_hearsOn_53 rfl ?_
            refine g_iadd C 55 dX7_hearsOn_55 ?_
            refine g_iload_n C 56 5 dX7_hearsOn_56 rfl ?_
            refine g_iadd C 57 dX7_hearsOn_57 ?_
            refine g_iald C 58 (1 + 0) 0 (wM_arr 0 (by decide)) rfl dX7_hearsOn_58 ?_
            refine g_icmp_ne C 59 91 dX7_hearsOn_59 (by decide) ?_ ?_
            · skip
              exact g_sub _ [2, 3, 4, 5, 6, 1, 0] rfl (hJ91 r11 r13 u12)
            · skip
              refine g_aload_n C 62 2 dX7_hearsOn_62 rfl ?_
              refine g_iload_n C 63 3 dX7_hearsOn_63 rfl ?_
              refine g_iload_n C 64 4 dX7_hearsOn_64 rfl ?_
              refine g_iload_n C 65 5 dX7_hearsOn_65 rfl ?_
              refine g_callVi (st := []) (As := [.int p1, .int p2, .int p3]) C E0_ok E0_vm 66 0 3 (tX7_goesTo F p1 p2 p3 u12) rfl gX7_hearsOn_X7_goesTo rfl rfl rfl (by decide +kernel) ⟨Nat.le_of_ble_eq_true rfl, Nat.le_of_ble_eq_true rfl⟩ rfl rfl rfl (Nat.le_of_ble_eq_true rfl) dX7_hearsOn_66 (fun r20 u19 => ?_)
              refine g_jn1 77 (fun (a21 : Int32) => [(0, .ref (ad 0)), (1, .int p1), (2, .int p2), (3, .int p3), (4, .int x7)]) (fun (a21 : Int32) => [.int a21]) (fun a21 u22 => ?_) (fun J77 hJ77 => ?_)
              · skip
                refine g_istore C 77 [(5, .int a21), (0, .ref (ad 0)), (1, .int p1), (2, .int p2), (3, .int p3), (4, .int x7)] dX7_hearsOn_77 (by decide) rfl ?_
                refine g_iload C 79 0 dX7_hearsOn_79 rfl ?_
                refine g_jn1 89 (fun (a23 : Int32) => [(0, .ref (ad 0)), (1, .int p1), (2, .int p2), (3, .int p3), (4, .int x7), (5, .int a21)]) (fun (a23 : Int32) => [.int a23]) (fun a23 u24 => ?_) (fun J89 hJ89 => ?_)
                · skip
                  refine g_istore C 89 [(6, .int a23), (0, .ref (ad 0)), (1, .int p1), (2, .int p2), (3, .int p3), (4, .int x7), (5, .int a21)] dX7_hearsOn_89 (by decide) rfl ?_
                  exact g_sub _ [1, 2, 3, 4, 5, 6, 0] rfl (hJ91 a21 a23 u24)
                · skip
                  refine g_if_ne C 81 88 dX7_hearsOn_81 (by decide) ?_ ?_
                  · skip
                    refine g_iconst C 88 0 dX7_hearsOn_88 rfl ?_
                    exact g_sub _ [1, 2, 3, 4, 5, 0] rfl (hJ89 0 u22)
                  · skip
                    refine g_iconst C 84 1 dX7_hearsOn_84 rfl ?_
                    refine g_goto C 85 89 dX7_hearsOn_85 (by decide) ?_
                    exact g_sub _ [1, 2, 3, 4, 5, 0] rfl (hJ89 1 u22)
              · skip
                refine g_if_ne C 69 76 dX7_hearsOn_69 (by decide) ?_ ?_
                · skip
                  refine g_iconst C 76 0 dX7_hearsOn_76 rfl ?_
                  exact g_sub _ [2, 3, 4, 5, 6] rfl (hJ77 0 u19)
                · skip
                  refine g_iconst C 72 1 dX7_hearsOn_72 rfl ?_
                  refine g_goto C 73 77 dX7_hearsOn_73 (by decide) ?_
                  exact g_sub _ [2, 3, 4, 5, 6] rfl (hJ77 1 u19)
def bX7_wonOn_5 (F : Nat) (p1 : Int32) (p2 : Int32) (self4 : Int32 → Int32 → St → Option (Int32 × St)) (x1 : Int32) (x2 : Int32) (u3 : St) : Option (Int32 × St) :=
  if (u3.1 0) ≤ x2 then some (x1, u3) else gd (inb ((p1 + 24) + x2) 408) (jn (fun (a5 : Int32) (u6 : St) => vl (x1 ||| a5) (fun v7 => (self4 v7 (x2 + 1) u6))) (fun (J39 : Int32 → St → Option (Int32 × St)) => if (u3.2 0 (Int32.toNatClampNeg ((p1 + 24) + x2))) = p2 then (J39 (1 <<< (x2 &&& 31)) u3) else (J39 0 u3)))
def pX7_wonOn (F : Nat) (p1 : Int32) (p2 : Int32) (u : St) : Option (Int32 × St) :=
  (lq2 (bX7_wonOn_5 F p1 p2) F 0 0 u)
set_option maxRecDepth 100000 in
set_option maxHeartbeats 4000000 in
theorem tX7_wonOn {l : Launch} {D : va_G} {cI cZ : ClassId} {ad : Nat → Nat} (F : Nat) (p1 : Int32) (p2 : Int32) (u : St) : CtI l D [(cI, .int), (cZ, .boolean)] (wM ad cI cZ) E0 yX7_wonOn wsX7_wonOn ({ frames := 0, cells := 0, slots := 0, locals := 0 } : Room) [.ref (ad 0), .int p1, .int p2] u (pX7_wonOn F p1 p2 u) := by
  refine ctI_of (own := RX7) (cc := cX7_wonOn) (n := 5) (ret := (some .int)) (by decide) rfl rfl (Nat.le_of_ble_eq_true rfl) (lv := [(0, .ref (ad 0)), (1, .int p1), (2, .int p2)]) rfl (fun C => ?_)
  have iX7 : ∀ w ∈ wsX70, w ∈ wsX7_wonOn := fun w h => List.mem_cons_of_mem _ (List.mem_append_right _ (inlX7 w h))
  rw [pX7_wonOn]
  refine g_iconst C 0 0 dX7_wonOn_0 rfl ?_
  refine g_istore_n C 1 [(3, .int 0), (0, .ref (ad 0)), (1, .int p1), (2, .int p2)] dX7_wonOn_1 (by decide) rfl ?_
  refine g_iconst C 2 0 dX7_wonOn_2 rfl ?_
  refine g_istore C 3 [(4, .int 0), (3, .int 0), (0, .ref (ad 0)), (1, .int p1), (2, .int p2)] dX7_wonOn_3 (by decide) rfl ?_
  refine g_sub _ [2, 3, 4, 1, 0] rfl ?_
  refine g_lq2 (fun (x1 : Int32) (x2 : Int32) => [(0, .ref (ad 0)), (1, .int p1), (2, .int p2), (3, .int x1), (4, .int x2)]) (fun self4 hself4 x1 x2 u3 => ?_) F 0 0 u
  rw [bX7_wonOn_5]
  refine g_iload C 5 4 dX7_wonOn_5 rfl ?_
  refine g_aload_n C 7 0 dX7_wonOn_7 rfl ?_
  refine gfM_X7_caseMany C 8 iX7 (List.mem_cons_of_mem _ (List.mem_append_right _ wgL_15_16.1)) dX7_wonOn_8 ?_
  refine g_icmp_ge C 11 47 dX7_wonOn_11 (by decide) ?_ ?_
  · skip
    refine g_iload_n C 47 3 dX7_wonOn_47 rfl ?_
    exact g_iret C 48 dX7_wonOn_48
  · skip
    refine g_iload_n C 14 3 dX7_wonOn_14 rfl ?_
    refine g_aload_n C 15 0 dX7_wonOn_15 rfl ?_
    refine gfM_X7_state C 16 iX7 (List.mem_cons_of_mem _ (List.mem_append_right _ wgL_5_14.1)) dX7_wonOn_16 ?_
    refine g_iload_n C 19 1 dX7_wonOn_19 rfl ?_
    refine g_bipush C 20 24 dX7_wonOn_20 rfl ?_
    refine g_iadd C 22 dX7_wonOn_22 ?_
    refine g_iload C 23 4 dX7_wonOn_23 rfl ?_
    refine g_iadd C 25 dX7_wonOn_25 ?_
    refine g_iald C 26 (1 + 0) 0 (wM_arr 0 (by decide)) rfl dX7_wonOn_26 ?_
    refine g_iload_n C 27 2 dX7_wonOn_27 rfl ?_
    refine g_jn1 39 (fun (a5 : Int32) => [(0, .ref (ad 0)), (1, .int p1), (2, .int p2), (4, .int x2)]) (fun (a5 : Int32) => [.int a5, .int x1]) (fun a5 u6 => ?_) (fun J39 hJ39 => ?_)
    · skip
      refine g_ior C 39 dX7_wonOn_39 ?_
      refine g_istore_nV C 40 (fun v7 => [(3, .int v7), (0, .ref (ad 0)), (1, .int p1), (2, .int p2), (4, .int x2)]) dX7_wonOn_40 (by decide) (fun _ => rfl) (fun v7 => ?_)
      refine g_iinc C 41 4 [(4, .int (x2 + 1)), (3, .int v7), (0, .ref (ad 0)), (1, .int p1), (2, .int p2)] dX7_wonOn_41 rfl rfl (by decide) rfl ?_
      refine g_goto C 44 5 dX7_wonOn_44 (by decide) ?_
      exact g_sub _ [2, 3, 4, 1, 0] rfl (hself4 v7 (x2 + 1) u6)
    · skip
      refine g_icmp_ne C 28 38 dX7_wonOn_28 (by decide) ?_ ?_
      · skip
        refine g_iconst C 38 0 dX7_wonOn_38 rfl ?_
        exact g_sub _ [0, 1, 2, 4] rfl (hJ39 0 u3)
      · skip
        refine g_iconst C 31 1 dX7_wonOn_31 rfl ?_
        refine g_iload C 32 4 dX7_wonOn_32 rfl ?_
        refine g_ishl C 34 dX7_wonOn_34 ?_
        refine g_goto C 35 39 dX7_wonOn_35 (by decide) ?_
        exact g_sub _ [0, 1, 2, 4] rfl (hJ39 (1 <<< (x2 &&& 31)) u3)
def bX7_lengthsOn_4 (F : Nat) (p1 : Int32) (self4 : Int32 → Int32 → St → Option (Int32 × St)) (x1 : Int32) (x2 : Int32) (u3 : St) : Option (Int32 × St) :=
  if (2 * (u3.1 0)) ≤ x2 then some (x1, u3) else gd (inb ((p1 + 8) + x2) 408) (vl (x1 + (u3.2 0 (Int32.toNatClampNeg ((p1 + 8) + x2)))) (fun v5 => (self4 v5 (x2 + 1) u3)))
def pX7_lengthsOn (F : Nat) (p1 : Int32) (u : St) : Option (Int32 × St) :=
  (lq2 (bX7_lengthsOn_4 F p1) F 0 0 u)
set_option maxRecDepth 100000 in
set_option maxHeartbeats 4000000 in
theorem tX7_lengthsOn {l : Launch} {D : va_G} {cI cZ : ClassId} {ad : Nat → Nat} (F : Nat) (p1 : Int32) (u : St) : CtI l D [(cI, .int), (cZ, .boolean)] (wM ad cI cZ) E0 yX7_lengthsOn wsX7_lengthsOn ({ frames := 0, cells := 0, slots := 0, locals := 0 } : Room) [.ref (ad 0), .int p1] u (pX7_lengthsOn F p1 u) := by
  refine ctI_of (own := RX7) (cc := cX7_lengthsOn) (n := 4) (ret := (some .int)) (by decide) rfl rfl (Nat.le_of_ble_eq_true rfl) (lv := [(0, .ref (ad 0)), (1, .int p1)]) rfl (fun C => ?_)
  have iX7 : ∀ w ∈ wsX70, w ∈ wsX7_lengthsOn := fun w h => List.mem_cons_of_mem _ (List.mem_append_right _ (inlX7 w h))
  rw [pX7_lengthsOn]
  refine g_iconst C 0 0 dX7_lengthsOn_0 rfl ?_
  refine g_istore_n C 1 [(2, .int 0), (0, .ref (ad 0)), (1, .int p1)] dX7_lengthsOn_1 (by decide) rfl ?_
  refine g_iconst C 2 0 dX7_lengthsOn_2 rfl ?_
  refine g_istore_n C 3 [(3, .int 0), (2, .int 0), (0, .ref (ad 0)), (1, .int p1)] dX7_lengthsOn_3 (by decide) rfl ?_
  refine g_sub _ [2, 3, 1, 0] rfl ?_
  refine g_lq2 (fun (x1 : Int32) (x2 : Int32) => [(0, .ref (ad 0)), (1, .int p1), (2, .int x1), (3, .int x2)]) (fun self4 hself4 x1 x2 u3 => ?_) F 0 0 u
  rw [bX7_lengthsOn_4]
  refine g_iload_n C 4 3 dX7_lengthsOn_4 rfl ?_
  refine g_iconst C 5 2 dX7_lengthsOn_5 rfl ?_
  refine g_aload_n C 6 0 dX7_lengthsOn_6 rfl ?_
  refine gfM_X7_caseMany C 7 iX7 (List.mem_cons_of_mem _ (List.mem_append_right _ wgL_15_16.1)) dX7_lengthsOn_7 ?_
  refine g_imul C 10 dX7_lengthsOn_10 ?_
  refine g_icmp_ge C 11 34 dX7_lengthsOn_11 (by decide) ?_ ?_
  · skip
    refine g_iload_n C 34 2 dX7_lengthsOn_34 rfl ?_
    exact g_iret C 35 dX7_lengthsOn_35
  · skip
    refine g_iload_n C 14 2 dX7_lengthsOn_14 rfl ?_
    refine g_aload_n C 15 0 dX7_lengthsOn_15 rfl ?_
    refine gfM_X7_state C 16 iX7 (List.mem_cons_of_mem _ (List.mem_append_right _ wgL_5_14.1)) dX7_lengthsOn_16 ?_
    refine g_iload_n C 19 1 dX7_lengthsOn_19 rfl ?_
    refine g_bipush C 20 8 dX7_lengthsOn_20 rfl ?_
    refine g_iadd C 22 dX7_lengthsOn_22 ?_
    refine g_iload_n C 23 3 dX7_lengthsOn_23 rfl ?_
    refine g_iadd C 24 dX7_lengthsOn_24 ?_
    refine g_iald C 25 (1 + 0) 0 (wM_arr 0 (by decide)) rfl dX7_lengthsOn_25 ?_
    refine g_iadd C 26 dX7_lengthsOn_26 ?_
    refine g_istore_nV C 27 (fun v5 => [(2, .int v5), (0, .ref (ad 0)), (1, .int p1), (3, .int x2)]) dX7_lengthsOn_27 (by decide) (fun _ => rfl) (fun v5 => ?_)
    refine g_iinc C 28 3 [(3, .int (x2 + 1)), (2, .int v5), (0, .ref (ad 0)), (1, .int p1)] dX7_lengthsOn_28 rfl rfl (by decide) rfl ?_
    refine g_goto C 31 4 dX7_lengthsOn_31 (by decide) ?_
    exact g_sub _ [2, 3, 1, 0] rfl (hself4 v5 (x2 + 1) u3)
def pX7_lengthOf (F : Nat) (p1 : Int32) (p2 : Int32) (u : St) : Option (Int32 × St) :=
  gd (inb ((p1 + 8) + (2 * p2)) 408) (gd (inb (((p1 + 8) + (2 * p2)) + 1) 408) (some (((u.2 0 (Int32.toNatClampNeg ((p1 + 8) + (2 * p2)))) + (u.2 0 (Int32.toNatClampNeg (((p1 + 8) + (2 * p2)) + 1)))), u)))
set_option maxRecDepth 100000 in
set_option maxHeartbeats 4000000 in
theorem tX7_lengthOf {l : Launch} {D : va_G} {cI cZ : ClassId} {ad : Nat → Nat} (F : Nat) (p1 : Int32) (p2 : Int32) (u : St) : CtI l D [(cI, .int), (cZ, .boolean)] (wM ad cI cZ) E0 yX7_lengthOf wsX7_lengthOf ({ frames := 0, cells := 0, slots := 0, locals := 0 } : Room) [.ref (ad 0), .int p1, .int p2] u (pX7_lengthOf F p1 p2 u) := by
  refine ctI_of (own := RX7) (cc := cX7_lengthOf) (n := 3) (ret := (some .int)) (by decide) rfl rfl (Nat.le_of_ble_eq_true rfl) (lv := [(0, .ref (ad 0)), (1, .int p1), (2, .int p2)]) rfl (fun C => ?_)
  have iX7 : ∀ w ∈ wsX70, w ∈ wsX7_lengthOf := fun w h => List.mem_cons_of_mem _ (List.mem_append_right _ (inlX7 w h))
  rw [pX7_lengthOf]
  refine g_aload_n C 0 0 dX7_lengthOf_0 rfl ?_
  refine gfM_X7_state C 1 iX7 (List.mem_cons_of_mem _ (List.mem_append_right _ wgL_5_14.1)) dX7_lengthOf_1 ?_
  refine g_iload_n C 4 1 dX7_lengthOf_4 rfl ?_
  refine g_bipush C 5 8 dX7_lengthOf_5 rfl ?_
  refine g_iadd C 7 dX7_lengthOf_7 ?_
  refine g_iconst C 8 2 dX7_lengthOf_8 rfl ?_
  refine g_iload_n C 9 2 dX7_lengthOf_9 rfl ?_
  refine g_imul C 10 dX7_lengthOf_10 ?_
  refine g_iadd C 11 dX7_lengthOf_11 ?_
  refine g_iald C 12 (1 + 0) 0 (wM_arr 0 (by decide)) rfl dX7_lengthOf_12 ?_
  refine g_aload_n C 13 0 dX7_lengthOf_13 rfl ?_
  refine gfM_X7_state C 14 iX7 (List.mem_cons_of_mem _ (List.mem_append_right _ wgL_5_14.1)) dX7_lengthOf_14 ?_
  refine g_iload_n C 17 1 dX7_lengthOf_17 rfl ?_
  refine g_bipush C 18 8 dX7_lengthOf_18 rfl ?_
  refine g_iadd C 20 dX7_lengthOf_20 ?_
  refine g_iconst C 21 2 dX7_lengthOf_21 rfl ?_
  refine g_iload_n C 22 2 dX7_lengthOf_22 rfl ?_
  refine g_imul C 23 dX7_lengthOf_23 ?_
  refine g_iadd C 24 dX7_lengthOf_24 ?_
  refine g_iconst C 25 1 dX7_lengthOf_25 rfl ?_
  refine g_iadd C 26 dX7_lengthOf_26 ?_
  refine g_iald C 27 (1 + 0) 0 (wM_arr 0 (by decide)) rfl dX7_lengthOf_27 ?_
  refine g_iadd C 28 dX7_lengthOf_28 ?_
  exact g_iret C 29 dX7_lengthOf_29
def pX7_rule (F : Nat) (p1 : Int32) (u : St) : Option (Int32 × St) :=
  if p1 = 0 then some ((u.1 0), u) else if p1 = 1 then some ((u.1 1), u) else if p1 = 2 then gd (inb 46 408) (some ((u.2 0 (Int32.toNatClampNeg 46)), u)) else if p1 = 3 then gd (inb 55 408) (some ((u.2 0 (Int32.toNatClampNeg 55)), u)) else if p1 = 4 then bd (pX7_wonOn F 0 (p1 - 3) u) (fun (r2 : Int32) (u1 : St) => some (r2, u1)) else if p1 = 5 then bd (pX7_wonOn F 0 (p1 - 3) u) (fun (r4 : Int32) (u3 : St) => some (r4, u3)) else if p1 = 6 then bd (pX7_wonOn F 0 (p1 - 3) u) (fun (r6 : Int32) (u5 : St) => some (r6, u5)) else if p1 = 7 then bd (pX7_lengthsOn F 0 u) (fun (r8 : Int32) (u7 : St) => some (r8, u7)) else some ((-1), u)
set_option maxRecDepth 100000 in
set_option maxHeartbeats 4000000 in
theorem tX7_rule {l : Launch} {D : va_G} {cI cZ : ClassId} {ad : Nat → Nat} (F : Nat) (p1 : Int32) (u : St) : CtI l D [(cI, .int), (cZ, .boolean)] (wM ad cI cZ) E0 yX7_rule wsX7_rule ({ frames := 1, cells := 0, slots := 0, locals := 24 } : Room) [.ref (ad 0), .int p1] u (pX7_rule F p1 u) := by
  refine ctI_of (own := RX7) (cc := cX7_rule) (n := 2) (ret := (some .int)) (by decide) rfl rfl (Nat.le_of_ble_eq_true rfl) (lv := [(0, .ref (ad 0)), (1, .int p1)]) rfl (fun C => ?_)
  have iX7 : ∀ w ∈ wsX70, w ∈ wsX7_rule := fun w h => List.mem_cons_of_mem _ (List.mem_append_right _ (inlX7 w h))
  rw [pX7_rule]
  refine g_iload_n C 0 1 dX7_rule_0 rfl ?_
  refine g_tsw C 1 48 0 dX7_rule_1 (by decide) rfl (by decide) ?_ (fun q0 => ?_)
  · skip
    refine g_aload_n C 48 0 dX7_rule_48 rfl ?_
    refine gfM_X7_caseMany C 49 iX7 (List.mem_cons_of_mem _ (List.mem_append_right _ wgL_15_16.1)) dX7_rule_49 ?_
    exact g_iret C 52 dX7_rule_52
  refine g_tsw C 1 53 1 dX7_rule_1 (by decide) rfl (by decide) ?_ (fun q1 => ?_)
  · skip
    refine g_aload_n C 53 0 dX7_rule_53 rfl ?_
    refine gfM_X7_judgeMany C 54 iX7 (List.mem_cons_of_mem _ (List.mem_append_right _ wgL_15_17.1)) dX7_rule_54 ?_
    exact g_iret C 57 dX7_rule_57
  refine g_tsw C 1 58 2 dX7_rule_1 (by decide) rfl (by decide) ?_ (fun q2 => ?_)
  · skip
    refine g_aload_n C 58 0 dX7_rule_58 rfl ?_
    refine gfM_X7_state C 59 iX7 (List.mem_cons_of_mem _ (List.mem_append_right _ wgL_5_14.1)) dX7_rule_59 ?_
    refine g_bipush C 62 46 dX7_rule_62 rfl ?_
    refine g_iald C 64 (1 + 0) 0 (wM_arr 0 (by decide)) rfl dX7_rule_64 ?_
    exact g_iret C 65 dX7_rule_65
  refine g_tsw C 1 66 3 dX7_rule_1 (by decide) rfl (by decide) ?_ (fun q3 => ?_)
  · skip
    refine g_aload_n C 66 0 dX7_rule_66 rfl ?_
    refine gfM_X7_state C 67 iX7 (List.mem_cons_of_mem _ (List.mem_append_right _ wgL_5_14.1)) dX7_rule_67 ?_
    refine g_bipush C 70 55 dX7_rule_70 rfl ?_
    refine g_iald C 72 (1 + 0) 0 (wM_arr 0 (by decide)) rfl dX7_rule_72 ?_
    exact g_iret C 73 dX7_rule_73
  refine g_tsw C 1 74 4 dX7_rule_1 (by decide) rfl (by decide) ?_ (fun q4 => ?_)
  · skip
    refine g_aload_n C 74 0 dX7_rule_74 rfl ?_
    refine g_iconst C 75 0 dX7_rule_75 rfl ?_
    refine g_iload_n C 76 1 dX7_rule_76 rfl ?_
    refine g_iconst C 77 3 dX7_rule_77 rfl ?_
    refine g_isub C 78 dX7_rule_78 ?_
    refine g_callVi (st := []) (As := [.int 0, .int (p1 - 3)]) C E0_ok E0_vm 79 0 2 (tX7_wonOn F 0 (p1 - 3) u) rfl gX7_rule_X7_wonOn rfl rfl rfl (by decide +kernel) ⟨Nat.le_of_ble_eq_true rfl, Nat.le_of_ble_eq_true rfl⟩ rfl rfl rfl (Nat.le_of_ble_eq_true rfl) dX7_rule_79 (fun r2 u1 => ?_)
    exact g_iret C 82 dX7_rule_82
  refine g_tsw C 1 74 5 dX7_rule_1 (by decide) rfl (by decide) ?_ (fun q5 => ?_)
  · skip
    refine g_aload_n C 74 0 dX7_rule_74 rfl ?_
    refine g_iconst C 75 0 dX7_rule_75 rfl ?_
    refine g_iload_n C 76 1 dX7_rule_76 rfl ?_
    refine g_iconst C 77 3 dX7_rule_77 rfl ?_
    refine g_isub C 78 dX7_rule_78 ?_
    refine g_callVi (st := []) (As := [.int 0, .int (p1 - 3)]) C E0_ok E0_vm 79 0 2 (tX7_wonOn F 0 (p1 - 3) u) rfl gX7_rule_X7_wonOn rfl rfl rfl (by decide +kernel) ⟨Nat.le_of_ble_eq_true rfl, Nat.le_of_ble_eq_true rfl⟩ rfl rfl rfl (Nat.le_of_ble_eq_true rfl) dX7_rule_79 (fun r4 u3 => ?_)
    exact g_iret C 82 dX7_rule_82
  refine g_tsw C 1 74 6 dX7_rule_1 (by decide) rfl (by decide) ?_ (fun q6 => ?_)
  · skip
    refine g_aload_n C 74 0 dX7_rule_74 rfl ?_
    refine g_iconst C 75 0 dX7_rule_75 rfl ?_
    refine g_iload_n C 76 1 dX7_rule_76 rfl ?_
    refine g_iconst C 77 3 dX7_rule_77 rfl ?_
    refine g_isub C 78 dX7_rule_78 ?_
    refine g_callVi (st := []) (As := [.int 0, .int (p1 - 3)]) C E0_ok E0_vm 79 0 2 (tX7_wonOn F 0 (p1 - 3) u) rfl gX7_rule_X7_wonOn rfl rfl rfl (by decide +kernel) ⟨Nat.le_of_ble_eq_true rfl, Nat.le_of_ble_eq_true rfl⟩ rfl rfl rfl (Nat.le_of_ble_eq_true rfl) dX7_rule_79 (fun r6 u5 => ?_)
    exact g_iret C 82 dX7_rule_82
  refine g_tsw C 1 83 7 dX7_rule_1 (by decide) rfl (by decide) ?_ (fun q7 => ?_)
  · skip
    refine g_aload_n C 83 0 dX7_rule_83 rfl ?_
    refine g_iconst C 84 0 dX7_rule_84 rfl ?_
    refine g_callVi (st := []) (As := [.int 0]) C E0_ok E0_vm 85 0 1 (tX7_lengthsOn F 0 u) rfl gX7_rule_X7_lengthsOn rfl rfl rfl (by decide +kernel) ⟨Nat.le_of_ble_eq_true rfl, Nat.le_of_ble_eq_true rfl⟩ rfl rfl rfl (Nat.le_of_ble_eq_true rfl) dX7_rule_85 (fun r8 u7 => ?_)
    exact g_iret C 88 dX7_rule_88
  refine g_tswD C 1 89 dX7_rule_1 (by have r0 := lv_neT (a := 0) q0 rfl; have r1 := lv_neT (a := 1) q1 rfl; have r2 := lv_neT (a := 2) q2 rfl; have r3 := lv_neT (a := 3) q3 rfl; have r4 := lv_neT (a := 4) q4 rfl; have r5 := lv_neT (a := 5) q5 rfl; have r6 := lv_neT (a := 6) q6 rfl; have r7 := lv_neT (a := 7) q7 rfl; omega) (by decide) ?_
  refine g_iconst C 89 (-1) dX7_rule_89 rfl ?_
  exact g_iret C 90 dX7_rule_90
def pX7_flame (F : Nat) (p1 : Int32) (p2 : Int32) (p3 : Int32) (u : St) : Option (Int32 × St) :=
  bd (pX7_isCase F p1 u) (fun (r2 : Int32) (u1 : St) => if r2 = 0 then some ((-1), u1) else bd (pX7_isSide F p2 u1) (fun (r4 : Int32) (u3 : St) => if r4 = 0 then some ((-1), u3) else bd (pX7_in F (Int32.toInt64 p3) 0 3 u3) (fun (r6 : Int32) (u5 : St) => if r6 = 0 then some ((-1), u5) else if p3 = 3 then gd (inb ((2 * p1) + p2) 408) (gd (inb (u5.2 0 (Int32.toNatClampNeg ((2 * p1) + p2))) 4) (some ((u5.2 1 (Int32.toNatClampNeg (u5.2 0 (Int32.toNatClampNeg ((2 * p1) + p2))))), u5))) else gd (inb (((8 * p3) + (2 * p1)) + p2) 408) (some ((u5.2 0 (Int32.toNatClampNeg (((8 * p3) + (2 * p1)) + p2))), u5)))))
set_option maxRecDepth 100000 in
set_option maxHeartbeats 4000000 in
theorem tX7_flame {l : Launch} {D : va_G} {cI cZ : ClassId} {ad : Nat → Nat} (F : Nat) (p1 : Int32) (p2 : Int32) (p3 : Int32) (u : St) : CtI l D [(cI, .int), (cZ, .boolean)] (wM ad cI cZ) E0 yX7_flame wsX7_flame ({ frames := 2, cells := 0, slots := 0, locals := 46 } : Room) [.ref (ad 0), .int p1, .int p2, .int p3] u (pX7_flame F p1 p2 p3 u) := by
  refine ctI_of (own := RX7) (cc := cX7_flame) (n := 4) (ret := (some .int)) (by decide) rfl rfl (Nat.le_of_ble_eq_true rfl) (lv := [(0, .ref (ad 0)), (1, .int p1), (2, .int p2), (3, .int p3)]) rfl (fun C => ?_)
  have iX7 : ∀ w ∈ wsX70, w ∈ wsX7_flame := fun w h => List.mem_cons_of_mem _ (List.mem_append_right _ (inlX7 w h))
  rw [pX7_flame]
  refine g_aload_n C 0 0 dX7_flame_0 rfl ?_
  refine g_iload_n C 1 1 dX7_flame_1 rfl ?_
  refine g_callVi (st := []) (As := [.int p1]) C E0_ok E0_vm 2 0 1 (tX7_isCase F p1 u) rfl gX7_flame_X7_isCase rfl rfl rfl (by decide +kernel) ⟨Nat.le_of_ble_eq_true rfl, Nat.le_of_ble_eq_true rfl⟩ rfl rfl rfl (Nat.le_of_ble_eq_true rfl) dX7_flame_2 (fun r2 u1 => ?_)
  refine g_if_eq C 5 27 dX7_flame_5 (by decide) ?_ ?_
  · skip
    refine g_iconst C 27 (-1) dX7_flame_27 rfl ?_
    exact g_iret C 28 dX7_flame_28
  · skip
    refine g_iload_n C 8 2 dX7_flame_8 rfl ?_
    refine g_callSi (st := []) (As := [.int p2]) C E0_ok E0_vm 9 1 (tX7_isSide F p2 u1) rfl gX7_flame_X7_isSide rfl rfl rfl (by decide +kernel) ⟨Nat.le_of_ble_eq_true rfl, Nat.le_of_ble_eq_true rfl⟩ rfl (Nat.le_of_ble_eq_true rfl) dX7_flame_9 (fun r4 u3 => ?_)
    refine g_if_eq C 12 27 dX7_flame_12 (by decide) ?_ ?_
    · skip
      refine g_iconst C 27 (-1) dX7_flame_27 rfl ?_
      exact g_iret C 28 dX7_flame_28
    · skip
      refine g_iload_n C 15 3 dX7_flame_15 rfl ?_
      refine g_i2l C 16 dX7_flame_16 ?_
      refine g_lconst C 17 0 dX7_flame_17 rfl ?_
      refine g_ldc2 C 18 3 (by decide +kernel) dX7_flame_18 ?_
      refine g_callSi (st := []) (As := [.long (Int32.toInt64 p3), .long 0, .long 3]) C E0_ok E0_vm 21 3 (tX7_in F (Int32.toInt64 p3) 0 3 u3) rfl gX7_flame_X7_in rfl rfl rfl (by decide +kernel) ⟨Nat.le_of_ble_eq_true rfl, Nat.le_of_ble_eq_true rfl⟩ rfl (Nat.le_of_ble_eq_true rfl) dX7_flame_21 (fun r6 u5 => ?_)
      refine g_if_ne C 24 29 dX7_flame_24 (by decide) ?_ ?_
      · skip
        refine g_iload_n C 29 3 dX7_flame_29 rfl ?_
        refine g_iconst C 30 3 dX7_flame_30 rfl ?_
        refine g_icmp_ne C 31 52 dX7_flame_31 (by decide) ?_ ?_
        · skip
          refine g_aload_n C 52 0 dX7_flame_52 rfl ?_
          refine gfM_X7_state C 53 iX7 (List.mem_cons_of_mem _ (List.mem_append_right _ wgL_5_14.1)) dX7_flame_53 ?_
          refine g_bipush C 56 8 dX7_flame_56 rfl ?_
          refine g_iload_n C 58 3 dX7_flame_58 rfl ?_
          refine g_imul C 59 dX7_flame_59 ?_
          refine g_iconst C 60 2 dX7_flame_60 rfl ?_
          refine g_iload_n C 61 1 dX7_flame_61 rfl ?_
          refine g_imul C 62 dX7_flame_62 ?_
          refine g_iadd C 63 dX7_flame_63 ?_
          refine g_iload_n C 64 2 dX7_flame_64 rfl ?_
          refine g_iadd C 65 dX7_flame_65 ?_
          refine g_iald C 66 (1 + 0) 0 (wM_arr 0 (by decide)) rfl dX7_flame_66 ?_
          exact g_iret C 67 dX7_flame_67
        · skip
          refine g_aload_n C 34 0 dX7_flame_34 rfl ?_
          refine gfM_X7_burns C 35 iX7 (List.mem_cons_of_mem _ (List.mem_append_right _ wgL_5_15.1)) dX7_flame_35 ?_
          refine g_aload_n C 38 0 dX7_flame_38 rfl ?_
          refine gfM_X7_state C 39 iX7 (List.mem_cons_of_mem _ (List.mem_append_right _ wgL_5_14.1)) dX7_flame_39 ?_
          refine g_iconst C 42 2 dX7_flame_42 rfl ?_
          refine g_iload_n C 43 1 dX7_flame_43 rfl ?_
          refine g_imul C 44 dX7_flame_44 ?_
          refine g_iload_n C 45 2 dX7_flame_45 rfl ?_
          refine g_iadd C 46 dX7_flame_46 ?_
          refine g_iald C 47 (1 + 0) 0 (wM_arr 0 (by decide)) rfl dX7_flame_47 ?_
          refine g_iald C 48 (1 + 1) 0 (wM_arr 1 (by decide)) rfl dX7_flame_48 ?_
          refine g_goto C 49 67 dX7_flame_49 (by decide) ?_
          exact g_iret C 67 dX7_flame_67
      · skip
        refine g_iconst C 27 (-1) dX7_flame_27 rfl ?_
        exact g_iret C 28 dX7_flame_28
def pX7_suit (F : Nat) (p1 : Int32) (p2 : Int32) (u : St) : Option (Int32 × St) :=
  bd (pX7_isCase F p1 u) (fun (r2 : Int32) (u1 : St) => if r2 = 0 then some ((-1), u1) else bd (pX7_in F (Int32.toInt64 p2) 0 3 u1) (fun (r4 : Int32) (u3 : St) => if r4 = 0 then some ((-1), u3) else gd (inb ((24 + (4 * p2)) + p1) 408) (vl (u3.2 0 (Int32.toNatClampNeg ((24 + (4 * p2)) + p1))) (fun v5 => if 2 ≤ p2 then if v5 = 0 then some ((-4), u3) else some ((v5 - 1), u3) else some (v5, u3)))))
set_option maxRecDepth 100000 in
set_option maxHeartbeats 4000000 in
theorem tX7_suit {l : Launch} {D : va_G} {cI cZ : ClassId} {ad : Nat → Nat} (F : Nat) (p1 : Int32) (p2 : Int32) (u : St) : CtI l D [(cI, .int), (cZ, .boolean)] (wM ad cI cZ) E0 yX7_suit wsX7_suit ({ frames := 2, cells := 0, slots := 0, locals := 46 } : Room) [.ref (ad 0), .int p1, .int p2] u (pX7_suit F p1 p2 u) := by
  refine ctI_of (own := RX7) (cc := cX7_suit) (n := 4) (ret := (some .int)) (by decide) rfl rfl (Nat.le_of_ble_eq_true rfl) (lv := [(0, .ref (ad 0)), (1, .int p1), (2, .int p2)]) rfl (fun C => ?_)
  have iX7 : ∀ w ∈ wsX70, w ∈ wsX7_suit := fun w h => List.mem_cons_of_mem _ (List.mem_append_right _ (inlX7 w h))
  rw [pX7_suit]
  refine g_aload_n C 0 0 dX7_suit_0 rfl ?_
  refine g_iload_n C 1 1 dX7_suit_1 rfl ?_
  refine g_callVi (st := []) (As := [.int p1]) C E0_ok E0_vm 2 0 1 (tX7_isCase F p1 u) rfl gX7_suit_X7_isCase rfl rfl rfl (by decide +kernel) ⟨Nat.le_of_ble_eq_true rfl, Nat.le_of_ble_eq_true rfl⟩ rfl rfl rfl (Nat.le_of_ble_eq_true rfl) dX7_suit_2 (fun r2 u1 => ?_)
  refine g_if_eq C 5 20 dX7_suit_5 (by decide) ?_ ?_
  · skip
    refine g_iconst C 20 (-1) dX7_suit_20 rfl ?_
    exact g_iret C 21 dX7_suit_21
  · skip
    refine g_iload_n C 8 2 dX7_suit_8 rfl ?_
    refine g_i2l C 9 dX7_suit_9 ?_
    refine g_lconst C 10 0 dX7_suit_10 rfl ?_
    refine g_ldc2 C 11 3 (by decide +kernel) dX7_suit_11 ?_
    refine g_callSi (st := []) (As := [.long (Int32.toInt64 p2), .long 0, .long 3]) C E0_ok E0_vm 14 3 (tX7_in F (Int32.toInt64 p2) 0 3 u1) rfl gX7_suit_X7_in rfl rfl rfl (by decide +kernel) ⟨Nat.le_of_ble_eq_true rfl, Nat.le_of_ble_eq_true rfl⟩ rfl (Nat.le_of_ble_eq_true rfl) dX7_suit_14 (fun r4 u3 => ?_)
    refine g_if_ne C 17 22 dX7_suit_17 (by decide) ?_ ?_
    · skip
      refine g_aload_n C 22 0 dX7_suit_22 rfl ?_
      refine gfM_X7_state C 23 iX7 (List.mem_cons_of_mem _ (List.mem_append_right _ wgL_5_14.1)) dX7_suit_23 ?_
      refine g_bipush C 26 24 dX7_suit_26 rfl ?_
      refine g_iconst C 28 4 dX7_suit_28 rfl ?_
      refine g_iload_n C 29 2 dX7_suit_29 rfl ?_
      refine g_imul C 30 dX7_suit_30 ?_
      refine g_iadd C 31 dX7_suit_31 ?_
      refine g_iload_n C 32 1 dX7_suit_32 rfl ?_
      refine g_iadd C 33 dX7_suit_33 ?_
      refine g_iald C 34 (1 + 0) 0 (wM_arr 0 (by decide)) rfl dX7_suit_34 ?_
      refine g_istore_nV C 35 (fun v5 => [(3, .int v5), (0, .ref (ad 0)), (1, .int p1), (2, .int p2)]) dX7_suit_35 (by decide) (fun _ => rfl) (fun v5 => ?_)
      refine g_iload_n C 36 3 dX7_suit_36 rfl ?_
      refine g_iconst C 37 2 dX7_suit_37 rfl ?_
      refine g_icmp_ge C 38 45 dX7_suit_38 (by decide) ?_ ?_
      · skip
        refine g_iload_n C 45 0 dX7_suit_45 rfl ?_
        refine g_if_ne C 46 54 dX7_suit_46 (by decide) ?_ ?_
        · skip
          refine g_iload_n C 54 0 dX7_suit_54 rfl ?_
          refine g_iconst C 55 1 dX7_suit_55 rfl ?_
          refine g_isub C 56 dX7_suit_56 ?_
          exact g_iret C 57 dX7_suit_57
        · skip
          refine g_bipush C 49 (-4) dX7_suit_49 rfl ?_
          refine g_goto C 51 57 dX7_suit_51 (by decide) ?_
          exact g_iret C 57 dX7_suit_57
      · skip
        refine g_iload_n C 41 0 dX7_suit_41 rfl ?_
        refine g_goto C 42 57 dX7_suit_42 (by decide) ?_
        exact g_iret C 57 dX7_suit_57
    · skip
      refine g_iconst C 20 (-1) dX7_suit_20 rfl ?_
      exact g_iret C 21 dX7_suit_21
def pX7_judge (F : Nat) (p1 : Int32) (p2 : Int32) (u : St) : Option (Int32 × St) :=
  bd (pX7_isJudge F p1 u) (fun (r2 : Int32) (u1 : St) => if r2 = 0 then some ((-1), u1) else bd (pX7_in F (Int32.toInt64 p2) 0 1 u1) (fun (r4 : Int32) (u3 : St) => if r4 = 0 then some ((-1), u3) else gd (inb ((40 + (3 * p2)) + p1) 408) (some ((u3.2 0 (Int32.toNatClampNeg ((40 + (3 * p2)) + p1))), u3))))
set_option maxRecDepth 100000 in
set_option maxHeartbeats 4000000 in
theorem tX7_judge {l : Launch} {D : va_G} {cI cZ : ClassId} {ad : Nat → Nat} (F : Nat) (p1 : Int32) (p2 : Int32) (u : St) : CtI l D [(cI, .int), (cZ, .boolean)] (wM ad cI cZ) E0 yX7_judge wsX7_judge ({ frames := 2, cells := 0, slots := 0, locals := 46 } : Room) [.ref (ad 0), .int p1, .int p2] u (pX7_judge F p1 p2 u) := by
  refine ctI_of (own := RX7) (cc := cX7_judge) (n := 3) (ret := (some .int)) (by decide) rfl rfl (Nat.le_of_ble_eq_true rfl) (lv := [(0, .ref (ad 0)), (1, .int p1), (2, .int p2)]) rfl (fun C => ?_)
  have iX7 : ∀ w ∈ wsX70, w ∈ wsX7_judge := fun w h => List.mem_cons_of_mem _ (List.mem_append_right _ (inlX7 w h))
  rw [pX7_judge]
  refine g_aload_n C 0 0 dX7_judge_0 rfl ?_
  refine g_iload_n C 1 1 dX7_judge_1 rfl ?_
  refine g_callVi (st := []) (As := [.int p1]) C E0_ok E0_vm 2 0 1 (tX7_isJudge F p1 u) rfl gX7_judge_X7_isJudge rfl rfl rfl (by decide +kernel) ⟨Nat.le_of_ble_eq_true rfl, Nat.le_of_ble_eq_true rfl⟩ rfl rfl rfl (Nat.le_of_ble_eq_true rfl) dX7_judge_2 (fun r2 u1 => ?_)
  refine g_if_eq C 5 34 dX7_judge_5 (by decide) ?_ ?_
  · skip
    refine g_iconst C 34 (-1) dX7_judge_34 rfl ?_
    exact g_iret C 35 dX7_judge_35
  · skip
    refine g_iload_n C 8 2 dX7_judge_8 rfl ?_
    refine g_i2l C 9 dX7_judge_9 ?_
    refine g_lconst C 10 0 dX7_judge_10 rfl ?_
    refine g_lconst C 11 1 dX7_judge_11 rfl ?_
    refine g_callSi (st := []) (As := [.long (Int32.toInt64 p2), .long 0, .long 1]) C E0_ok E0_vm 12 3 (tX7_in F (Int32.toInt64 p2) 0 1 u1) rfl gX7_judge_X7_in rfl rfl rfl (by decide +kernel) ⟨Nat.le_of_ble_eq_true rfl, Nat.le_of_ble_eq_true rfl⟩ rfl (Nat.le_of_ble_eq_true rfl) dX7_judge_12 (fun r4 u3 => ?_)
    refine g_if_eq C 15 34 dX7_judge_15 (by decide) ?_ ?_
    · skip
      refine g_iconst C 34 (-1) dX7_judge_34 rfl ?_
      exact g_iret C 35 dX7_judge_35
    · skip
      refine g_aload_n C 18 0 dX7_judge_18 rfl ?_
      refine gfM_X7_state C 19 iX7 (List.mem_cons_of_mem _ (List.mem_append_right _ wgL_5_14.1)) dX7_judge_19 ?_
      refine g_bipush C 22 40 dX7_judge_22 rfl ?_
      refine g_iconst C 24 3 dX7_judge_24 rfl ?_
      refine g_iload_n C 25 2 dX7_judge_25 rfl ?_
      refine g_imul C 26 dX7_judge_26 ?_
      refine g_iadd C 27 dX7_judge_27 ?_
      refine g_iload_n C 28 1 dX7_judge_28 rfl ?_
      refine g_iadd C 29 dX7_judge_29 ?_
      refine g_iald C 30 (1 + 0) 0 (wM_arr 0 (by decide)) rfl dX7_judge_30 ?_
      refine g_goto C 31 35 dX7_judge_31 (by decide) ?_
      exact g_iret C 35 dX7_judge_35
def pX7_draught (F : Nat) (p1 : Int32) (p2 : Int32) (u : St) : Option (Int32 × St) :=
  gd (inb 46 408) (bd (pX7_in F (Int32.toInt64 p1) 0 (Int32.toInt64 ((u.2 0 (Int32.toNatClampNeg 46)) - 1)) u) (fun (r2 : Int32) (u1 : St) => if r2 = 0 then some ((-1), u1) else bd (pX7_in F (Int32.toInt64 p2) 0 1 u1) (fun (r4 : Int32) (u3 : St) => if r4 = 0 then some ((-1), u3) else gd (inb ((47 + (4 * p2)) + p1) 408) (some ((u3.2 0 (Int32.toNatClampNeg ((47 + (4 * p2)) + p1))), u3)))))
set_option maxRecDepth 100000 in
set_option maxHeartbeats 4000000 in
theorem tX7_draught {l : Launch} {D : va_G} {cI cZ : ClassId} {ad : Nat → Nat} (F : Nat) (p1 : Int32) (p2 : Int32) (u : St) : CtI l D [(cI, .int), (cZ, .boolean)] (wM ad cI cZ) E0 yX7_draught wsX7_draught ({ frames := 1, cells := 0, slots := 0, locals := 25 } : Room) [.ref (ad 0), .int p1, .int p2] u (pX7_draught F p1 p2 u) := by
  refine ctI_of (own := RX7) (cc := cX7_draught) (n := 3) (ret := (some .int)) (by decide) rfl rfl (Nat.le_of_ble_eq_true rfl) (lv := [(0, .ref (ad 0)), (1, .int p1), (2, .int p2)]) rfl (fun C => ?_)
  have iX7 : ∀ w ∈ wsX70, w ∈ wsX7_draught := fun w h => List.mem_cons_of_mem _ (List.mem_append_right _ (inlX7 w h))
  rw [pX7_draught]
  refine g_iload_n C 0 1 dX7_draught_0 rfl ?_
  refine g_i2l C 1 dX7_draught_1 ?_
  refine g_lconst C 2 0 dX7_draught_2 rfl ?_
  refine g_aload_n C 3 0 dX7_draught_3 rfl ?_
  refine gfM_X7_state C 4 iX7 (List.mem_cons_of_mem _ (List.mem_append_right _ wgL_5_14.1)) dX7_draught_4 ?_
  refine g_bipush C 7 46 dX7_draught_7 rfl ?_
  refine g_iald C 9 (1 + 0) 0 (wM_arr 0 (by decide)) rfl dX7_draught_9 ?_
  refine g_iconst C 10 1 dX7_draught_10 rfl ?_
  refine g_isub C 11 dX7_draught_11 ?_
  refine g_i2l C 12 dX7_draught_12 ?_
  refine g_callSi (st := []) (As := [.long (Int32.toInt64 p1), .long 0, .long (Int32.toInt64 ((u.2 0 (Int32.toNatClampNeg 46)) - 1))]) C E0_ok E0_vm 13 3 (tX7_in F (Int32.toInt64 p1) 0 (Int32.toInt64 ((u.2 0 (Int32.toNatClampNeg 46)) - 1)) u) rfl gX7_draught_X7_in rfl rfl rfl (by decide +kernel) ⟨Nat.le_of_ble_eq_true rfl, Nat.le_of_ble_eq_true rfl⟩ rfl (Nat.le_of_ble_eq_true rfl) dX7_draught_13 (fun r2 u1 => ?_)
  refine g_if_eq C 16 45 dX7_draught_16 (by decide) ?_ ?_
  · skip
    refine g_iconst C 45 (-1) dX7_draught_45 rfl ?_
    exact g_iret C 46 dX7_draught_46
  · skip
    refine g_iload_n C 19 2 dX7_draught_19 rfl ?_
    refine g_i2l C 20 dX7_draught_20 ?_
    refine g_lconst C 21 0 dX7_draught_21 rfl ?_
    refine g_lconst C 22 1 dX7_draught_22 rfl ?_
    refine g_callSi (st := []) (As := [.long (Int32.toInt64 p2), .long 0, .long 1]) C E0_ok E0_vm 23 3 (tX7_in F (Int32.toInt64 p2) 0 1 u1) rfl gX7_draught_X7_in rfl rfl rfl (by decide +kernel) ⟨Nat.le_of_ble_eq_true rfl, Nat.le_of_ble_eq_true rfl⟩ rfl (Nat.le_of_ble_eq_true rfl) dX7_draught_23 (fun r4 u3 => ?_)
    refine g_if_eq C 26 45 dX7_draught_26 (by decide) ?_ ?_
    · skip
      refine g_iconst C 45 (-1) dX7_draught_45 rfl ?_
      exact g_iret C 46 dX7_draught_46
    · skip
      refine g_aload_n C 29 0 dX7_draught_29 rfl ?_
      refine gfM_X7_state C 30 iX7 (List.mem_cons_of_mem _ (List.mem_append_right _ wgL_5_14.1)) dX7_draught_30 ?_
      refine g_bipush C 33 47 dX7_draught_33 rfl ?_
      refine g_iconst C 35 4 dX7_draught_35 rfl ?_
      refine g_iload_n C 36 2 dX7_draught_36 rfl ?_
      refine g_imul C 37 dX7_draught_37 ?_
      refine g_iadd C 38 dX7_draught_38 ?_
      refine g_iload_n C 39 1 dX7_draught_39 rfl ?_
      refine g_iadd C 40 dX7_draught_40 ?_
      refine g_iald C 41 (1 + 0) 0 (wM_arr 0 (by decide)) rfl dX7_draught_41 ?_
      refine g_goto C 42 46 dX7_draught_42 (by decide) ?_
      exact g_iret C 46 dX7_draught_46
def pX7_docket (F : Nat) (p1 : Int32) (p2 : Int32) (u : St) : Option (Int32 × St) :=
  gd (inb 55 408) (bd (pX7_in F (Int32.toInt64 p1) 0 (Int32.toInt64 ((u.2 0 (Int32.toNatClampNeg 55)) - 1)) u) (fun (r2 : Int32) (u1 : St) => if r2 = 0 then some ((-1), u1) else bd (pX7_in F (Int32.toInt64 p2) 0 1 u1) (fun (r4 : Int32) (u3 : St) => if r4 = 0 then some ((-1), u3) else gd (inb ((56 + (6 * p2)) + p1) 408) (some ((u3.2 0 (Int32.toNatClampNeg ((56 + (6 * p2)) + p1))), u3)))))
set_option maxRecDepth 100000 in
set_option maxHeartbeats 4000000 in
theorem tX7_docket {l : Launch} {D : va_G} {cI cZ : ClassId} {ad : Nat → Nat} (F : Nat) (p1 : Int32) (p2 : Int32) (u : St) : CtI l D [(cI, .int), (cZ, .boolean)] (wM ad cI cZ) E0 yX7_docket wsX7_docket ({ frames := 1, cells := 0, slots := 0, locals := 25 } : Room) [.ref (ad 0), .int p1, .int p2] u (pX7_docket F p1 p2 u) := by
  refine ctI_of (own := RX7) (cc := cX7_docket) (n := 3) (ret := (some .int)) (by decide) rfl rfl (Nat.le_of_ble_eq_true rfl) (lv := [(0, .ref (ad 0)), (1, .int p1), (2, .int p2)]) rfl (fun C => ?_)
  have iX7 : ∀ w ∈ wsX70, w ∈ wsX7_docket := fun w h => List.mem_cons_of_mem _ (List.mem_append_right _ (inlX7 w h))
  rw [pX7_docket]
  refine g_iload_n C 0 1 dX7_docket_0 rfl ?_
  refine g_i2l C 1 dX7_docket_1 ?_
  refine g_lconst C 2 0 dX7_docket_2 rfl ?_
  refine g_aload_n C 3 0 dX7_docket_3 rfl ?_
  refine gfM_X7_state C 4 iX7 (List.mem_cons_of_mem _ (List.mem_append_right _ wgL_5_14.1)) dX7_docket_4 ?_
  refine g_bipush C 7 55 dX7_docket_7 rfl ?_
  refine g_iald C 9 (1 + 0) 0 (wM_arr 0 (by decide)) rfl dX7_docket_9 ?_
  refine g_iconst C 10 1 dX7_docket_10 rfl ?_
  refine g_isub C 11 dX7_docket_11 ?_
  refine g_i2l C 12 dX7_docket_12 ?_
  refine g_callSi (st := []) (As := [.long (Int32.toInt64 p1), .long 0, .long (Int32.toInt64 ((u.2 0 (Int32.toNatClampNeg 55)) - 1))]) C E0_ok E0_vm 13 3 (tX7_in F (Int32.toInt64 p1) 0 (Int32.toInt64 ((u.2 0 (Int32.toNatClampNeg 55)) - 1)) u) rfl gX7_docket_X7_in rfl rfl rfl (by decide +kernel) ⟨Nat.le_of_ble_eq_true rfl, Nat.le_of_ble_eq_true rfl⟩ rfl (Nat.le_of_ble_eq_true rfl) dX7_docket_13 (fun r2 u1 => ?_)
  refine g_if_eq C 16 46 dX7_docket_16 (by decide) ?_ ?_
  · skip
    refine g_iconst C 46 (-1) dX7_docket_46 rfl ?_
    exact g_iret C 47 dX7_docket_47
  · skip
    refine g_iload_n C 19 2 dX7_docket_19 rfl ?_
    refine g_i2l C 20 dX7_docket_20 ?_
    refine g_lconst C 21 0 dX7_docket_21 rfl ?_
    refine g_lconst C 22 1 dX7_docket_22 rfl ?_
    refine g_callSi (st := []) (As := [.long (Int32.toInt64 p2), .long 0, .long 1]) C E0_ok E0_vm 23 3 (tX7_in F (Int32.toInt64 p2) 0 1 u1) rfl gX7_docket_X7_in rfl rfl rfl (by decide +kernel) ⟨Nat.le_of_ble_eq_true rfl, Nat.le_of_ble_eq_true rfl⟩ rfl (Nat.le_of_ble_eq_true rfl) dX7_docket_23 (fun r4 u3 => ?_)
    refine g_if_eq C 26 46 dX7_docket_26 (by decide) ?_ ?_
    · skip
      refine g_iconst C 46 (-1) dX7_docket_46 rfl ?_
      exact g_iret C 47 dX7_docket_47
    · skip
      refine g_aload_n C 29 0 dX7_docket_29 rfl ?_
      refine gfM_X7_state C 30 iX7 (List.mem_cons_of_mem _ (List.mem_append_right _ wgL_5_14.1)) dX7_docket_30 ?_
      refine g_bipush C 33 56 dX7_docket_33 rfl ?_
      refine g_bipush C 35 6 dX7_docket_35 rfl ?_
      refine g_iload_n C 37 2 dX7_docket_37 rfl ?_
      refine g_imul C 38 dX7_docket_38 ?_
      refine g_iadd C 39 dX7_docket_39 ?_
      refine g_iload_n C 40 1 dX7_docket_40 rfl ?_
      refine g_iadd C 41 dX7_docket_41 ?_
      refine g_iald C 42 (1 + 0) 0 (wM_arr 0 (by decide)) rfl dX7_docket_42 ?_
      refine g_goto C 43 47 dX7_docket_43 (by decide) ?_
      exact g_iret C 47 dX7_docket_47
