/-! ===== the reference's constructor ===== -/
def mI : Nat → Sc
  | 0 => fun _ => 0
  | j + 1 => upd (upd (mI j) (12 * j) 50) (12 * j + 1) 50
def m0 : Sc := upd (upd (upd (mI 16) 194 1) 199 (-1)) 200 (-1)
theorem ix12 (j : Nat) : (0 : Int32) + 12 * nI j = nI (12 * j) := by rw [Int32.zero_add, show (12 : Int32) = nI 12 from by decide, pk_mul]
theorem ix12' (j : Nat) : nI (12 * j) + 1 = nI (12 * j + 1) := nI_1 _
theorem c_M_init {l : Launch} {g : Gh} {q : Nat} : Ct l g yX12_init (Cond.code yX12_init cX12_init 2 none) 1 17 354787 [.ref q] [(q, ob 12 (fun _ => 0) (List.replicate 32 none))] (pX (fun _ : Nat → Nat => none) (fun A : Nat → Nat => [(q, ob 12 (upd (fun _ => 0) 10 (-1)) (rM A)), (A 1, aI g 2616 m0), (A 2, aI g 2616 (fun _ => 0)), (A 4, aI g 201 (fun _ => 0)), (A 5, aI g 400 (fun _ => 0)), (A 12, aI g 5 (fun _ => 0)), (A 16, aI g 9 (fun _ => 0)), (A 19, aI g 30976 (fun _ => 0)), (A 20, aI g 15488 (fun _ => 0)), (A 21, aI g 15488 (fun _ => 0)), (A 22, aI g 15488 (fun _ => 0)), (A 23, aI g 15488 (fun _ => 0)), (A 24, aJ g 8 (fun _ => 0)), (A 25, aJ g 4 (fun _ => 0)), (A 26, aI g 4000 (fun _ => 0)), (A 27, aI g 4000 (fun _ => 0)), (A 28, aJ g 124000 (fun _ => 0)), (A 29, aJ g 124000 (fun _ => 0))]) (fun _ k n => k = 17 ∧ n = 354787)) noX := by
  refine ct_of (M := mtX12_init) [some (.ref q), none] rfl (by decide) (Nat.le_of_ble_eq_true rfl) (fun _ h => h) (fun a => ?_)
  have K : ∀ (A : Nat → Nat) (c j : Nat), c + j = 16 → WPs l g mtX12_init 1 17 354787 (pX (fun _ : Nat → Nat => none) (fun A : Nat → Nat => [(q, ob 12 (upd (fun _ => 0) 10 (-1)) (rM A)), (A 1, aI g 2616 m0), (A 2, aI g 2616 (fun _ => 0)), (A 4, aI g 201 (fun _ => 0)), (A 5, aI g 400 (fun _ => 0)), (A 12, aI g 5 (fun _ => 0)), (A 16, aI g 9 (fun _ => 0)), (A 19, aI g 30976 (fun _ => 0)), (A 20, aI g 15488 (fun _ => 0)), (A 21, aI g 15488 (fun _ => 0)), (A 22, aI g 15488 (fun _ => 0)), (A 23, aI g 15488 (fun _ => 0)), (A 24, aJ g 8 (fun _ => 0)), (A 25, aJ g 4 (fun _ => 0)), (A 26, aI g 4000 (fun _ => 0)), (A 27, aI g 4000 (fun _ => 0)), (A 28, aJ g 124000 (fun _ => 0)), (A 29, aJ g 124000 (fun _ => 0))]) (fun _ k n => k = 17 ∧ n = 354787)) noX a 156 [some (.ref q), some (.int (nI j))] [] [(q, ob 12 (upd (fun _ => 0) 10 (-1)) (rM A)), (A 1, aI g 2616 (mI j)), (A 2, aI g 2616 (fun _ => 0)), (A 4, aI g 201 (fun _ => 0)), (A 5, aI g 400 (fun _ => 0)), (A 12, aI g 5 (fun _ => 0)), (A 16, aI g 9 (fun _ => 0)), (A 19, aI g 30976 (fun _ => 0)), (A 20, aI g 15488 (fun _ => 0)), (A 21, aI g 15488 (fun _ => 0)), (A 22, aI g 15488 (fun _ => 0)), (A 23, aI g 15488 (fun _ => 0)), (A 24, aJ g 8 (fun _ => 0)), (A 25, aJ g 4 (fun _ => 0)), (A 26, aI g 4000 (fun _ => 0)), (A 27, aI g 4000 (fun _ => 0)), (A 28, aJ g 124000 (fun _ => 0)), (A 29, aJ g 124000 (fun _ => 0))] 17 354787 := by
    intro A c
    induction c with
    | zero =>
      intro j hj
      obtain rfl : j = 16 := by omega
      have hge : (16 : Int32) ≤ nI 16 := by decide
      unfold m0
      generalize mI 16 = M9
      refine q_iload_n 1 157 dX12_init_156 rfl rfl rfl ?_
      refine q_bipush 16 159 dX12_init_157 bc_16 rfl ?_
      refine q_icmp_ge 196 162 dX12_init_159 (by decide) rfl (fun h159 => ?_) (fun h159 => absurd hge h159)
      refine q_aload_n 0 197 dX12_init_196 rfl rfl rfl ?_
      refine q_getR 0 200 f_X12_7 dX12_init_197 rfl rfl rfl rfl ?_
      refine q_sipush 194 203 dX12_init_200 sc_194 rfl ?_
      refine q_iconst 1 204 dX12_init_203 ic_1 rfl ?_
      refine q_iast 1 194 205 (w' := [_, _, _, _, _, _, _, _, _, _, _, _, _, _, _, _, _, _]) dX12_init_204 rfl ⟨by decide, by decide, by decide⟩ rfl rfl ?_
      refine q_aload_n 0 206 dX12_init_205 rfl rfl rfl ?_
      refine q_getR 0 209 f_X12_7 dX12_init_206 rfl rfl rfl rfl ?_
      refine q_sipush 199 212 dX12_init_209 sc_199 rfl ?_
      refine q_iconst (-1) 213 dX12_init_212 ic_m1 rfl ?_
      refine q_iast 1 199 214 (w' := [_, _, _, _, _, _, _, _, _, _, _, _, _, _, _, _, _, _]) dX12_init_213 rfl ⟨by decide, by decide, by decide⟩ rfl rfl ?_
      refine q_aload_n 0 215 dX12_init_214 rfl rfl rfl ?_
      refine q_getR 0 218 f_X12_7 dX12_init_215 rfl rfl rfl rfl ?_
      refine q_sipush 200 221 dX12_init_218 sc_200 rfl ?_
      refine q_iconst (-1) 222 dX12_init_221 ic_m1 rfl ?_
      refine q_iast 1 200 223 (w' := [_, _, _, _, _, _, _, _, _, _, _, _, _, _, _, _, _, _]) dX12_init_222 rfl ⟨by decide, by decide, by decide⟩ rfl rfl ?_
      refine q_return dX12_init_223 rfl ?_
      exact pX.mk A ⟨rfl, rfl⟩ rfl rfl
    | succ c ih =>
      intro j hj
      have hlt : ¬ (16 : Int32) ≤ nI j := by rw [show (16 : Int32) = nI 16 from by decide]; exact nI_ge (by omega) (by omega)
      have K1 := ih (j + 1) (by omega)
      rw [mI] at K1
      clear ih
      generalize m0 = M8 at *
      generalize mI j = M9 at *
      generalize hj12 : 12 * j = j12 at *
      refine q_iload_n 1 157 dX12_init_156 rfl rfl rfl ?_
      refine q_bipush 16 159 dX12_init_157 bc_16 rfl ?_
      refine q_icmp_ge 196 162 dX12_init_159 (by decide) rfl (fun h159 => absurd h159 hlt) (fun h159 => ?_)
      refine q_aload_n 0 163 dX12_init_162 rfl rfl rfl ?_
      refine q_getR 0 166 f_X12_7 dX12_init_163 rfl rfl rfl rfl ?_
      refine q_iconst 0 167 dX12_init_166 ic_0 rfl ?_
      refine q_bipush 12 169 dX12_init_167 bc_12 rfl ?_
      refine q_iload_n 1 170 dX12_init_169 rfl rfl rfl ?_
      refine q_imul 171 dX12_init_170 rfl ?_
      refine q_iadd 172 dX12_init_171 rfl ?_
      rw [ix12, hj12]
      refine q_bipush 50 174 dX12_init_172 bc_50 rfl ?_
      refine q_iast 1 j12 175 (w' := [_, _, _, _, _, _, _, _, _, _, _, _, _, _, _, _, _, _]) dX12_init_174 rfl ⟨rfl, by omega, by decide⟩ rfl rfl ?_
      refine q_aload_n 0 176 dX12_init_175 rfl rfl rfl ?_
      refine q_getR 0 179 f_X12_7 dX12_init_176 rfl rfl rfl rfl ?_
      refine q_iconst 0 180 dX12_init_179 ic_0 rfl ?_
      refine q_bipush 12 182 dX12_init_180 bc_12 rfl ?_
      refine q_iload_n 1 183 dX12_init_182 rfl rfl rfl ?_
      refine q_imul 184 dX12_init_183 rfl ?_
      refine q_iadd 185 dX12_init_184 rfl ?_
      rw [ix12, hj12]
      refine q_iconst 1 186 dX12_init_185 ic_1 rfl ?_
      refine q_iadd 187 dX12_init_186 rfl ?_
      rw [nI_1]
      refine q_bipush 50 189 dX12_init_187 bc_50 rfl ?_
      refine q_iast 1 (j12+1) 190 (w' := [_, _, _, _, _, _, _, _, _, _, _, _, _, _, _, _, _, _]) dX12_init_189 rfl ⟨rfl, by omega, by decide⟩ rfl rfl ?_
      refine q_iinc 1 (nI (j + 1)) 193 (L' := [_, _]) dX12_init_190 rfl (inc1 (j)) (by decide) rfl rfl ?_
      refine q_goto 156 dX12_init_193 (by decide) ?_
      exact K1
  have K0 := fun A => K A 16 0 rfl
  rw [show mI 0 = fun _ => 0 from rfl] at K0
  generalize m0 = M8 at *
  refine q_aload_n 0 1 dX12_init_0 rfl rfl rfl ?_
  refine q_objInit 4 m_X12_1 dX12_init_1 (Nat.le_of_ble_eq_true rfl) (by decide) rfl ?_
  refine q_aload_n 0 5 dX12_init_4 rfl rfl rfl ?_
  refine q_sipush 2616 8 dX12_init_5 sc_2616 rfl ?_
  refine q_newI (N := 2616) 10 dX12_init_8 rfl (by decide) (by omega) (by omega) rfl (fun q8 => ?_)
  refine q_putRF 0 13 (w' := [_, _]) (r' := [_, _, _, _, _, _, _, _, _, _, _, _, _, _, _, _, _, _, _, _, _, _, _, _, _, _, _, _, _, _, _, _]) f_X12_7 ft_X12_1 rfl rfl dX12_init_10 rfl rfl (Nat.le_of_ble_eq_true rfl) rfl rfl rfl rfl rfl ?_
  refine q_aload_n 0 14 dX12_init_13 rfl rfl rfl ?_
  refine q_sipush 2616 17 dX12_init_14 sc_2616 rfl ?_
  refine q_newI (N := 2616) 19 dX12_init_17 rfl (by decide) (by omega) (by omega) rfl (fun q17 => ?_)
  refine q_putRF 0 22 (w' := [_, _, _]) (r' := [_, _, _, _, _, _, _, _, _, _, _, _, _, _, _, _, _, _, _, _, _, _, _, _, _, _, _, _, _, _, _, _]) f_X12_13 ft_X12_2 rfl rfl dX12_init_19 rfl rfl (Nat.le_of_ble_eq_true rfl) rfl rfl rfl rfl rfl ?_
  refine q_aload_n 0 23 dX12_init_22 rfl rfl rfl ?_
  refine q_sipush 201 26 dX12_init_23 sc_201 rfl ?_
  refine q_newI (N := 201) 28 dX12_init_26 rfl (by decide) (by omega) (by omega) rfl (fun q26 => ?_)
  refine q_putRF 0 31 (w' := [_, _, _, _]) (r' := [_, _, _, _, _, _, _, _, _, _, _, _, _, _, _, _, _, _, _, _, _, _, _, _, _, _, _, _, _, _, _, _]) f_X12_16 ft_X12_4 rfl rfl dX12_init_28 rfl rfl (Nat.le_of_ble_eq_true rfl) rfl rfl rfl rfl rfl ?_
  refine q_aload_n 0 32 dX12_init_31 rfl rfl rfl ?_
  refine q_sipush 400 35 dX12_init_32 sc_400 rfl ?_
  refine q_newI (N := 400) 37 dX12_init_35 rfl (by decide) (by omega) (by omega) rfl (fun q35 => ?_)
  refine q_putRF 0 40 (w' := [_, _, _, _, _]) (r' := [_, _, _, _, _, _, _, _, _, _, _, _, _, _, _, _, _, _, _, _, _, _, _, _, _, _, _, _, _, _, _, _]) f_X12_19 ft_X12_5 rfl rfl dX12_init_37 rfl rfl (Nat.le_of_ble_eq_true rfl) rfl rfl rfl rfl rfl ?_
  refine q_aload_n 0 41 dX12_init_40 rfl rfl rfl ?_
  refine q_iconst (-1) 42 dX12_init_41 ic_m1 rfl ?_
  refine q_putI 0 45 (w' := [_, _, _, _, _]) f_X12_22 ft_X12_10 dX12_init_42 rfl rfl rfl rfl ?_
  refine q_aload_n 0 46 dX12_init_45 rfl rfl rfl ?_
  refine q_iconst 5 47 dX12_init_46 ic_5 rfl ?_
  refine q_newI (N := 5) 49 dX12_init_47 rfl (by decide) (by omega) (by omega) rfl (fun q47 => ?_)
  refine q_putRF 0 52 (w' := [_, _, _, _, _, _]) (r' := [_, _, _, _, _, _, _, _, _, _, _, _, _, _, _, _, _, _, _, _, _, _, _, _, _, _, _, _, _, _, _, _]) f_X12_26 ft_X12_12 rfl rfl dX12_init_49 rfl rfl (Nat.le_of_ble_eq_true rfl) rfl rfl rfl rfl rfl ?_
  refine q_aload_n 0 53 dX12_init_52 rfl rfl rfl ?_
  refine q_bipush 9 55 dX12_init_53 bc_9 rfl ?_
  refine q_newI (N := 9) 57 dX12_init_55 rfl (by decide) (by omega) (by omega) rfl (fun q55 => ?_)
  refine q_putRF 0 60 (w' := [_, _, _, _, _, _, _]) (r' := [_, _, _, _, _, _, _, _, _, _, _, _, _, _, _, _, _, _, _, _, _, _, _, _, _, _, _, _, _, _, _, _]) f_X12_29 ft_X12_16 rfl rfl dX12_init_57 rfl rfl (Nat.le_of_ble_eq_true rfl) rfl rfl rfl rfl rfl ?_
  refine q_aload_n 0 61 dX12_init_60 rfl rfl rfl ?_
  refine q_sipush 30976 64 dX12_init_61 sc_30976 rfl ?_
  refine q_newI (N := 30976) 66 dX12_init_64 rfl (by decide) (by omega) (by omega) rfl (fun q64 => ?_)
  refine q_putRF 0 69 (w' := [_, _, _, _, _, _, _, _]) (r' := [_, _, _, _, _, _, _, _, _, _, _, _, _, _, _, _, _, _, _, _, _, _, _, _, _, _, _, _, _, _, _, _]) f_X12_32 ft_X12_19 rfl rfl dX12_init_66 rfl rfl (Nat.le_of_ble_eq_true rfl) rfl rfl rfl rfl rfl ?_
  refine q_aload_n 0 70 dX12_init_69 rfl rfl rfl ?_
  refine q_sipush 15488 73 dX12_init_70 sc_15488 rfl ?_
  refine q_newI (N := 15488) 75 dX12_init_73 rfl (by decide) (by omega) (by omega) rfl (fun q73 => ?_)
  refine q_putRF 0 78 (w' := [_, _, _, _, _, _, _, _, _]) (r' := [_, _, _, _, _, _, _, _, _, _, _, _, _, _, _, _, _, _, _, _, _, _, _, _, _, _, _, _, _, _, _, _]) f_X12_35 ft_X12_20 rfl rfl dX12_init_75 rfl rfl (Nat.le_of_ble_eq_true rfl) rfl rfl rfl rfl rfl ?_
  refine q_aload_n 0 79 dX12_init_78 rfl rfl rfl ?_
  refine q_sipush 15488 82 dX12_init_79 sc_15488 rfl ?_
  refine q_newI (N := 15488) 84 dX12_init_82 rfl (by decide) (by omega) (by omega) rfl (fun q82 => ?_)
  refine q_putRF 0 87 (w' := [_, _, _, _, _, _, _, _, _, _]) (r' := [_, _, _, _, _, _, _, _, _, _, _, _, _, _, _, _, _, _, _, _, _, _, _, _, _, _, _, _, _, _, _, _]) f_X12_38 ft_X12_21 rfl rfl dX12_init_84 rfl rfl (Nat.le_of_ble_eq_true rfl) rfl rfl rfl rfl rfl ?_
  refine q_aload_n 0 88 dX12_init_87 rfl rfl rfl ?_
  refine q_sipush 15488 91 dX12_init_88 sc_15488 rfl ?_
  refine q_newI (N := 15488) 93 dX12_init_91 rfl (by decide) (by omega) (by omega) rfl (fun q91 => ?_)
  refine q_putRF 0 96 (w' := [_, _, _, _, _, _, _, _, _, _, _]) (r' := [_, _, _, _, _, _, _, _, _, _, _, _, _, _, _, _, _, _, _, _, _, _, _, _, _, _, _, _, _, _, _, _]) f_X12_41 ft_X12_22 rfl rfl dX12_init_93 rfl rfl (Nat.le_of_ble_eq_true rfl) rfl rfl rfl rfl rfl ?_
  refine q_aload_n 0 97 dX12_init_96 rfl rfl rfl ?_
  refine q_sipush 15488 100 dX12_init_97 sc_15488 rfl ?_
  refine q_newI (N := 15488) 102 dX12_init_100 rfl (by decide) (by omega) (by omega) rfl (fun q100 => ?_)
  refine q_putRF 0 105 (w' := [_, _, _, _, _, _, _, _, _, _, _, _]) (r' := [_, _, _, _, _, _, _, _, _, _, _, _, _, _, _, _, _, _, _, _, _, _, _, _, _, _, _, _, _, _, _, _]) f_X12_44 ft_X12_23 rfl rfl dX12_init_102 rfl rfl (Nat.le_of_ble_eq_true rfl) rfl rfl rfl rfl rfl ?_
  refine q_aload_n 0 106 dX12_init_105 rfl rfl rfl ?_
  refine q_bipush 8 108 dX12_init_106 bc_8 rfl ?_
  refine q_newJ (N := 8) 110 dX12_init_108 rfl (by decide) (by omega) (by omega) rfl (fun q108 => ?_)
  refine q_putRF 0 113 (w' := [_, _, _, _, _, _, _, _, _, _, _, _, _]) (r' := [_, _, _, _, _, _, _, _, _, _, _, _, _, _, _, _, _, _, _, _, _, _, _, _, _, _, _, _, _, _, _, _]) f_X12_47 ft_X12_24 rfl rfl dX12_init_110 rfl rfl (Nat.le_of_ble_eq_true rfl) rfl rfl rfl rfl rfl ?_
  refine q_aload_n 0 114 dX12_init_113 rfl rfl rfl ?_
  refine q_iconst 4 115 dX12_init_114 ic_4 rfl ?_
  refine q_newJ (N := 4) 117 dX12_init_115 rfl (by decide) (by omega) (by omega) rfl (fun q115 => ?_)
  refine q_putRF 0 120 (w' := [_, _, _, _, _, _, _, _, _, _, _, _, _, _]) (r' := [_, _, _, _, _, _, _, _, _, _, _, _, _, _, _, _, _, _, _, _, _, _, _, _, _, _, _, _, _, _, _, _]) f_X12_51 ft_X12_25 rfl rfl dX12_init_117 rfl rfl (Nat.le_of_ble_eq_true rfl) rfl rfl rfl rfl rfl ?_
  refine q_aload_n 0 121 dX12_init_120 rfl rfl rfl ?_
  refine q_sipush 4000 124 dX12_init_121 sc_4000 rfl ?_
  refine q_newI (N := 4000) 126 dX12_init_124 rfl (by decide) (by omega) (by omega) rfl (fun q124 => ?_)
  refine q_putRF 0 129 (w' := [_, _, _, _, _, _, _, _, _, _, _, _, _, _, _]) (r' := [_, _, _, _, _, _, _, _, _, _, _, _, _, _, _, _, _, _, _, _, _, _, _, _, _, _, _, _, _, _, _, _]) f_X12_54 ft_X12_26 rfl rfl dX12_init_126 rfl rfl (Nat.le_of_ble_eq_true rfl) rfl rfl rfl rfl rfl ?_
  refine q_aload_n 0 130 dX12_init_129 rfl rfl rfl ?_
  refine q_sipush 4000 133 dX12_init_130 sc_4000 rfl ?_
  refine q_newI (N := 4000) 135 dX12_init_133 rfl (by decide) (by omega) (by omega) rfl (fun q133 => ?_)
  refine q_putRF 0 138 (w' := [_, _, _, _, _, _, _, _, _, _, _, _, _, _, _, _]) (r' := [_, _, _, _, _, _, _, _, _, _, _, _, _, _, _, _, _, _, _, _, _, _, _, _, _, _, _, _, _, _, _, _]) f_X12_57 ft_X12_27 rfl rfl dX12_init_135 rfl rfl (Nat.le_of_ble_eq_true rfl) rfl rfl rfl rfl rfl ?_
  refine q_aload_n 0 139 dX12_init_138 rfl rfl rfl ?_
  refine q_ldc 124000 141 k_X12_60 dX12_init_139 rfl ?_
  refine q_newJ (N := 124000) 143 dX12_init_141 rfl (by decide) (by omega) (by omega) rfl (fun q141 => ?_)
  refine q_putRF 0 146 (w' := [_, _, _, _, _, _, _, _, _, _, _, _, _, _, _, _, _]) (r' := [_, _, _, _, _, _, _, _, _, _, _, _, _, _, _, _, _, _, _, _, _, _, _, _, _, _, _, _, _, _, _, _]) f_X12_61 ft_X12_28 rfl rfl dX12_init_143 rfl rfl (Nat.le_of_ble_eq_true rfl) rfl rfl rfl rfl rfl ?_
  refine q_aload_n 0 147 dX12_init_146 rfl rfl rfl ?_
  refine q_ldc 124000 149 k_X12_60 dX12_init_147 rfl ?_
  refine q_newJ (N := 124000) 151 dX12_init_149 rfl (by decide) (by omega) (by omega) rfl (fun q149 => ?_)
  refine q_putRF 0 154 (w' := [_, _, _, _, _, _, _, _, _, _, _, _, _, _, _, _, _, _]) (r' := [_, _, _, _, _, _, _, _, _, _, _, _, _, _, _, _, _, _, _, _, _, _, _, _, _, _, _, _, _, _, _, _]) f_X12_64 ft_X12_29 rfl rfl dX12_init_151 rfl rfl (Nat.le_of_ble_eq_true rfl) rfl rfl rfl rfl rfl ?_
  refine q_iconst 0 155 dX12_init_154 ic_0 rfl ?_
  refine q_istore_n 1 156 (L' := [_, _]) dX12_init_155 rfl (by decide) rfl rfl ?_
  exact K0 (fun k => if k = 1 then q8 else if k = 2 then q17 else if k = 4 then q26 else if k = 5 then q35 else if k = 12 then q47 else if k = 16 then q55 else if k = 19 then q64 else if k = 20 then q73 else if k = 21 then q82 else if k = 22 then q91 else if k = 23 then q100 else if k = 24 then q108 else if k = 25 then q115 else if k = 26 then q124 else if k = 27 then q133 else if k = 28 then q141 else if k = 29 then q149 else 0)

