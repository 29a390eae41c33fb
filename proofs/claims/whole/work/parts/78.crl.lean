/-! ===== Rule ===== -/
def faV (s : Sc) (p x : Int32) : Int32 := if x = 14 then (if s 2 = p then 1 else 0) else if x = 15 then (if s 6 = 0 then 0 else 1) else if x = 16 then 3 + (if p = 0 then s 0 else s 1) else if x = 17 then 3 + (if p = 0 then s 1 else s 0) else if x = 18 then (if s 3 = 0 then 10 else if s 6 = 0 ∧ ¬ s 3 = 1 then s 5 else s 4) else if x = 19 then s 3 else if x = 6 then (if p = 0 then s 7 else s 8) else x - 1000
theorem c_X4_fact_6 {l : Launch} {g : Gh} {q : Nat} {s : Sc} {p : Int32} : Cp l g yX4_fact (Cond.code yX4_fact cX4_fact 3 (some .int)) 1 [.int 6, .int p, .ref q] [(q, ob 8 s [])] (some (.int (faV s p 6))) [(q, ob 8 s [])] := by
  refine ct_of (M := mtX4_fact) [some (.int 6), some (.int p), some (.ref q)] rfl (by decide) (Nat.le_of_ble_eq_true rfl) (fun _ h => h) (fun a => ?_)
  refine q_iload_n 0 1 dX4_fact_0 rfl rfl rfl ?_
  refine q_tableIn 179 dX4_fact_1 (by decide) (by decide) rfl (by decide) ?_
  refine q_iload_n 1 180 dX4_fact_179 rfl rfl rfl ?_
  refine q_if_ne 190 183 dX4_fact_180 (by decide) rfl (fun h180 => ?_) (fun h180 => ?_)
  · refine q_aload_n 2 191 dX4_fact_190 rfl rfl rfl ?_
    refine q_getI 0 194 f_X4_70 dX4_fact_191 rfl rfl rfl ?_
    refine q_ireturn dX4_fact_194 rfl ?_
    exact pR.mk (by simp_all [faV]) rfl
  · refine q_aload_n 2 184 dX4_fact_183 rfl rfl rfl ?_
    refine q_getI 0 187 f_X4_67 dX4_fact_184 rfl rfl rfl ?_
    refine q_goto 194 dX4_fact_187 (by decide) ?_
    refine q_ireturn dX4_fact_194 rfl ?_
    exact pR.mk (by simp_all [faV]) rfl
theorem c_X4_fact_7 {l : Launch} {g : Gh} {q : Nat} {s : Sc} {p : Int32} : Cp l g yX4_fact (Cond.code yX4_fact cX4_fact 3 (some .int)) 1 [.int 7, .int p, .ref q] [(q, ob 8 s [])] (some (.int (faV s p 7))) [(q, ob 8 s [])] := by
  refine ct_of (M := mtX4_fact) [some (.int 7), some (.int p), some (.ref q)] rfl (by decide) (Nat.le_of_ble_eq_true rfl) (fun _ h => h) (fun a => ?_)
  refine q_iload_n 0 1 dX4_fact_0 rfl rfl rfl ?_
  refine q_tableIn 195 dX4_fact_1 (by decide) (by decide) rfl (by decide) ?_
  refine q_iload_n 0 196 dX4_fact_195 rfl rfl rfl ?_
  refine q_sipush 1000 199 dX4_fact_196 sc_1000 rfl ?_
  refine q_isub 200 dX4_fact_199 rfl ?_
  refine q_ireturn dX4_fact_200 rfl ?_
  exact pR.mk (by simp_all [faV]) rfl
theorem c_X4_fact_8 {l : Launch} {g : Gh} {q : Nat} {s : Sc} {p : Int32} : Cp l g yX4_fact (Cond.code yX4_fact cX4_fact 3 (some .int)) 1 [.int 8, .int p, .ref q] [(q, ob 8 s [])] (some (.int (faV s p 8))) [(q, ob 8 s [])] := by
  refine ct_of (M := mtX4_fact) [some (.int 8), some (.int p), some (.ref q)] rfl (by decide) (Nat.le_of_ble_eq_true rfl) (fun _ h => h) (fun a => ?_)
  refine q_iload_n 0 1 dX4_fact_0 rfl rfl rfl ?_
  refine q_tableIn 195 dX4_fact_1 (by decide) (by decide) rfl (by decide) ?_
  refine q_iload_n 0 196 dX4_fact_195 rfl rfl rfl ?_
  refine q_sipush 1000 199 dX4_fact_196 sc_1000 rfl ?_
  refine q_isub 200 dX4_fact_199 rfl ?_
  refine q_ireturn dX4_fact_200 rfl ?_
  exact pR.mk (by simp_all [faV]) rfl
theorem c_X4_fact_9 {l : Launch} {g : Gh} {q : Nat} {s : Sc} {p : Int32} : Cp l g yX4_fact (Cond.code yX4_fact cX4_fact 3 (some .int)) 1 [.int 9, .int p, .ref q] [(q, ob 8 s [])] (some (.int (faV s p 9))) [(q, ob 8 s [])] := by
  refine ct_of (M := mtX4_fact) [some (.int 9), some (.int p), some (.ref q)] rfl (by decide) (Nat.le_of_ble_eq_true rfl) (fun _ h => h) (fun a => ?_)
  refine q_iload_n 0 1 dX4_fact_0 rfl rfl rfl ?_
  refine q_tableIn 195 dX4_fact_1 (by decide) (by decide) rfl (by decide) ?_
  refine q_iload_n 0 196 dX4_fact_195 rfl rfl rfl ?_
  refine q_sipush 1000 199 dX4_fact_196 sc_1000 rfl ?_
  refine q_isub 200 dX4_fact_199 rfl ?_
  refine q_ireturn dX4_fact_200 rfl ?_
  exact pR.mk (by simp_all [faV]) rfl
theorem c_X4_fact_10 {l : Launch} {g : Gh} {q : Nat} {s : Sc} {p : Int32} : Cp l g yX4_fact (Cond.code yX4_fact cX4_fact 3 (some .int)) 1 [.int 10, .int p, .ref q] [(q, ob 8 s [])] (some (.int (faV s p 10))) [(q, ob 8 s [])] := by
  refine ct_of (M := mtX4_fact) [some (.int 10), some (.int p), some (.ref q)] rfl (by decide) (Nat.le_of_ble_eq_true rfl) (fun _ h => h) (fun a => ?_)
  refine q_iload_n 0 1 dX4_fact_0 rfl rfl rfl ?_
  refine q_tableIn 195 dX4_fact_1 (by decide) (by decide) rfl (by decide) ?_
  refine q_iload_n 0 196 dX4_fact_195 rfl rfl rfl ?_
  refine q_sipush 1000 199 dX4_fact_196 sc_1000 rfl ?_
  refine q_isub 200 dX4_fact_199 rfl ?_
  refine q_ireturn dX4_fact_200 rfl ?_
  exact pR.mk (by simp_all [faV]) rfl
theorem c_X4_fact_11 {l : Launch} {g : Gh} {q : Nat} {s : Sc} {p : Int32} : Cp l g yX4_fact (Cond.code yX4_fact cX4_fact 3 (some .int)) 1 [.int 11, .int p, .ref q] [(q, ob 8 s [])] (some (.int (faV s p 11))) [(q, ob 8 s [])] := by
  refine ct_of (M := mtX4_fact) [some (.int 11), some (.int p), some (.ref q)] rfl (by decide) (Nat.le_of_ble_eq_true rfl) (fun _ h => h) (fun a => ?_)
  refine q_iload_n 0 1 dX4_fact_0 rfl rfl rfl ?_
  refine q_tableIn 195 dX4_fact_1 (by decide) (by decide) rfl (by decide) ?_
  refine q_iload_n 0 196 dX4_fact_195 rfl rfl rfl ?_
  refine q_sipush 1000 199 dX4_fact_196 sc_1000 rfl ?_
  refine q_isub 200 dX4_fact_199 rfl ?_
  refine q_ireturn dX4_fact_200 rfl ?_
  exact pR.mk (by simp_all [faV]) rfl
theorem c_X4_fact_12 {l : Launch} {g : Gh} {q : Nat} {s : Sc} {p : Int32} : Cp l g yX4_fact (Cond.code yX4_fact cX4_fact 3 (some .int)) 1 [.int 12, .int p, .ref q] [(q, ob 8 s [])] (some (.int (faV s p 12))) [(q, ob 8 s [])] := by
  refine ct_of (M := mtX4_fact) [some (.int 12), some (.int p), some (.ref q)] rfl (by decide) (Nat.le_of_ble_eq_true rfl) (fun _ h => h) (fun a => ?_)
  refine q_iload_n 0 1 dX4_fact_0 rfl rfl rfl ?_
  refine q_tableIn 195 dX4_fact_1 (by decide) (by decide) rfl (by decide) ?_
  refine q_iload_n 0 196 dX4_fact_195 rfl rfl rfl ?_
  refine q_sipush 1000 199 dX4_fact_196 sc_1000 rfl ?_
  refine q_isub 200 dX4_fact_199 rfl ?_
  refine q_ireturn dX4_fact_200 rfl ?_
  exact pR.mk (by simp_all [faV]) rfl
theorem c_X4_fact_13 {l : Launch} {g : Gh} {q : Nat} {s : Sc} {p : Int32} : Cp l g yX4_fact (Cond.code yX4_fact cX4_fact 3 (some .int)) 1 [.int 13, .int p, .ref q] [(q, ob 8 s [])] (some (.int (faV s p 13))) [(q, ob 8 s [])] := by
  refine ct_of (M := mtX4_fact) [some (.int 13), some (.int p), some (.ref q)] rfl (by decide) (Nat.le_of_ble_eq_true rfl) (fun _ h => h) (fun a => ?_)
  refine q_iload_n 0 1 dX4_fact_0 rfl rfl rfl ?_
  refine q_tableIn 195 dX4_fact_1 (by decide) (by decide) rfl (by decide) ?_
  refine q_iload_n 0 196 dX4_fact_195 rfl rfl rfl ?_
  refine q_sipush 1000 199 dX4_fact_196 sc_1000 rfl ?_
  refine q_isub 200 dX4_fact_199 rfl ?_
  refine q_ireturn dX4_fact_200 rfl ?_
  exact pR.mk (by simp_all [faV]) rfl
theorem c_X4_fact_14 {l : Launch} {g : Gh} {q : Nat} {s : Sc} {p : Int32} : Cp l g yX4_fact (Cond.code yX4_fact cX4_fact 3 (some .int)) 1 [.int 14, .int p, .ref q] [(q, ob 8 s [])] (some (.int (faV s p 14))) [(q, ob 8 s [])] := by
  refine ct_of (M := mtX4_fact) [some (.int 14), some (.int p), some (.ref q)] rfl (by decide) (Nat.le_of_ble_eq_true rfl) (fun _ h => h) (fun a => ?_)
  refine q_iload_n 0 1 dX4_fact_0 rfl rfl rfl ?_
  refine q_tableIn 72 dX4_fact_1 (by decide) (by decide) rfl (by decide) ?_
  refine q_aload_n 2 73 dX4_fact_72 rfl rfl rfl ?_
  refine q_getI 0 76 f_X4_42 dX4_fact_73 rfl rfl rfl ?_
  refine q_iload_n 1 77 dX4_fact_76 rfl rfl rfl ?_
  refine q_icmp_ne 84 80 dX4_fact_77 (by decide) rfl (fun h77 => ?_) (fun h77 => ?_)
  · refine q_iconst 0 85 dX4_fact_84 ic_0 rfl ?_
    refine q_ireturn dX4_fact_85 rfl ?_
    exact pR.mk (by simp_all [faV]) rfl
  · refine q_iconst 1 81 dX4_fact_80 ic_1 rfl ?_
    refine q_goto 85 dX4_fact_81 (by decide) ?_
    refine q_ireturn dX4_fact_85 rfl ?_
    exact pR.mk (by simp_all [faV]) rfl
theorem c_X4_fact_15 {l : Launch} {g : Gh} {q : Nat} {s : Sc} {p : Int32} : Cp l g yX4_fact (Cond.code yX4_fact cX4_fact 3 (some .int)) 1 [.int 15, .int p, .ref q] [(q, ob 8 s [])] (some (.int (faV s p 15))) [(q, ob 8 s [])] := by
  refine ct_of (M := mtX4_fact) [some (.int 15), some (.int p), some (.ref q)] rfl (by decide) (Nat.le_of_ble_eq_true rfl) (fun _ h => h) (fun a => ?_)
  refine q_iload_n 0 1 dX4_fact_0 rfl rfl rfl ?_
  refine q_tableIn 86 dX4_fact_1 (by decide) (by decide) rfl (by decide) ?_
  refine q_aload_n 2 87 dX4_fact_86 rfl rfl rfl ?_
  refine q_getI 0 90 f_X4_48 dX4_fact_87 rfl rfl rfl ?_
  refine q_if_eq 97 93 dX4_fact_90 (by decide) rfl (fun h90 => ?_) (fun h90 => ?_)
  · refine q_iconst 0 98 dX4_fact_97 ic_0 rfl ?_
    refine q_ireturn dX4_fact_98 rfl ?_
    exact pR.mk (by simp_all [faV]) rfl
  · refine q_iconst 1 94 dX4_fact_93 ic_1 rfl ?_
    refine q_goto 98 dX4_fact_94 (by decide) ?_
    refine q_ireturn dX4_fact_98 rfl ?_
    exact pR.mk (by simp_all [faV]) rfl
theorem c_X4_fact_16 {l : Launch} {g : Gh} {q : Nat} {s : Sc} {p : Int32} : Cp l g yX4_fact (Cond.code yX4_fact cX4_fact 3 (some .int)) 1 [.int 16, .int p, .ref q] [(q, ob 8 s [])] (some (.int (faV s p 16))) [(q, ob 8 s [])] := by
  refine ct_of (M := mtX4_fact) [some (.int 16), some (.int p), some (.ref q)] rfl (by decide) (Nat.le_of_ble_eq_true rfl) (fun _ h => h) (fun a => ?_)
  refine q_iload_n 0 1 dX4_fact_0 rfl rfl rfl ?_
  refine q_tableIn 99 dX4_fact_1 (by decide) (by decide) rfl (by decide) ?_
  refine q_iconst 3 100 dX4_fact_99 ic_3 rfl ?_
  refine q_iload_n 1 101 dX4_fact_100 rfl rfl rfl ?_
  refine q_if_ne 111 104 dX4_fact_101 (by decide) rfl (fun h101 => ?_) (fun h101 => ?_)
  · refine q_aload_n 2 112 dX4_fact_111 rfl rfl rfl ?_
    refine q_getI 0 115 f_X4_55 dX4_fact_112 rfl rfl rfl ?_
    refine q_iadd 116 dX4_fact_115 rfl ?_
    refine q_ireturn dX4_fact_116 rfl ?_
    exact pR.mk (by simp_all [faV]) rfl
  · refine q_aload_n 2 105 dX4_fact_104 rfl rfl rfl ?_
    refine q_getI 0 108 f_X4_52 dX4_fact_105 rfl rfl rfl ?_
    refine q_goto 115 dX4_fact_108 (by decide) ?_
    refine q_iadd 116 dX4_fact_115 rfl ?_
    refine q_ireturn dX4_fact_116 rfl ?_
    exact pR.mk (by simp_all [faV]) rfl
theorem c_X4_fact_17 {l : Launch} {g : Gh} {q : Nat} {s : Sc} {p : Int32} : Cp l g yX4_fact (Cond.code yX4_fact cX4_fact 3 (some .int)) 1 [.int 17, .int p, .ref q] [(q, ob 8 s [])] (some (.int (faV s p 17))) [(q, ob 8 s [])] := by
  refine ct_of (M := mtX4_fact) [some (.int 17), some (.int p), some (.ref q)] rfl (by decide) (Nat.le_of_ble_eq_true rfl) (fun _ h => h) (fun a => ?_)
  refine q_iload_n 0 1 dX4_fact_0 rfl rfl rfl ?_
  refine q_tableIn 117 dX4_fact_1 (by decide) (by decide) rfl (by decide) ?_
  refine q_iconst 3 118 dX4_fact_117 ic_3 rfl ?_
  refine q_iload_n 1 119 dX4_fact_118 rfl rfl rfl ?_
  refine q_if_ne 129 122 dX4_fact_119 (by decide) rfl (fun h119 => ?_) (fun h119 => ?_)
  · refine q_aload_n 2 130 dX4_fact_129 rfl rfl rfl ?_
    refine q_getI 0 133 f_X4_52 dX4_fact_130 rfl rfl rfl ?_
    refine q_iadd 134 dX4_fact_133 rfl ?_
    refine q_ireturn dX4_fact_134 rfl ?_
    exact pR.mk (by simp_all [faV]) rfl
  · refine q_aload_n 2 123 dX4_fact_122 rfl rfl rfl ?_
    refine q_getI 0 126 f_X4_55 dX4_fact_123 rfl rfl rfl ?_
    refine q_goto 133 dX4_fact_126 (by decide) ?_
    refine q_iadd 134 dX4_fact_133 rfl ?_
    refine q_ireturn dX4_fact_134 rfl ?_
    exact pR.mk (by simp_all [faV]) rfl
theorem c_X4_fact_18 {l : Launch} {g : Gh} {q : Nat} {s : Sc} {p : Int32} : Cp l g yX4_fact (Cond.code yX4_fact cX4_fact 3 (some .int)) 1 [.int 18, .int p, .ref q] [(q, ob 8 s [])] (some (.int (faV s p 18))) [(q, ob 8 s [])] := by
  refine ct_of (M := mtX4_fact) [some (.int 18), some (.int p), some (.ref q)] rfl (by decide) (Nat.le_of_ble_eq_true rfl) (fun _ h => h) (fun a => ?_)
  refine q_iload_n 0 1 dX4_fact_0 rfl rfl rfl ?_
  refine q_tableIn 135 dX4_fact_1 (by decide) (by decide) rfl (by decide) ?_
  refine q_aload_n 2 136 dX4_fact_135 rfl rfl rfl ?_
  refine q_getI 0 139 f_X4_58 dX4_fact_136 rfl rfl rfl ?_
  refine q_if_ne 147 142 dX4_fact_139 (by decide) rfl (fun h139 => ?_) (fun h139 => ?_)
  · refine q_aload_n 2 148 dX4_fact_147 rfl rfl rfl ?_
    refine q_getI 0 151 f_X4_48 dX4_fact_148 rfl rfl rfl ?_
    refine q_if_ne 162 154 dX4_fact_151 (by decide) rfl (fun h151 => ?_) (fun h151 => ?_)
    · refine q_aload_n 2 163 dX4_fact_162 rfl rfl rfl ?_
      refine q_getI 0 166 f_X4_61 dX4_fact_163 rfl rfl rfl ?_
      refine q_goto 173 dX4_fact_166 (by decide) ?_
      refine q_ireturn dX4_fact_173 rfl ?_
      exact pR.mk (by simp_all [faV]) rfl
    · refine q_aload_n 2 155 dX4_fact_154 rfl rfl rfl ?_
      refine q_getI 0 158 f_X4_58 dX4_fact_155 rfl rfl rfl ?_
      refine q_iconst 1 159 dX4_fact_158 ic_1 rfl ?_
      refine q_icmp_ne 169 162 dX4_fact_159 (by decide) rfl (fun h159 => ?_) (fun h159 => ?_)
      · refine q_aload_n 2 170 dX4_fact_169 rfl rfl rfl ?_
        refine q_getI 0 173 f_X4_64 dX4_fact_170 rfl rfl rfl ?_
        refine q_ireturn dX4_fact_173 rfl ?_
        exact pR.mk (by simp_all [faV]) rfl
      · refine q_aload_n 2 163 dX4_fact_162 rfl rfl rfl ?_
        refine q_getI 0 166 f_X4_61 dX4_fact_163 rfl rfl rfl ?_
        refine q_goto 173 dX4_fact_166 (by decide) ?_
        refine q_ireturn dX4_fact_173 rfl ?_
        exact pR.mk (by simp_all [faV]) rfl
  · refine q_bipush 10 144 dX4_fact_142 bc_10 rfl ?_
    refine q_goto 173 dX4_fact_144 (by decide) ?_
    refine q_ireturn dX4_fact_173 rfl ?_
    exact pR.mk (by simp_all [faV]) rfl
theorem c_X4_fact_19 {l : Launch} {g : Gh} {q : Nat} {s : Sc} {p : Int32} : Cp l g yX4_fact (Cond.code yX4_fact cX4_fact 3 (some .int)) 1 [.int 19, .int p, .ref q] [(q, ob 8 s [])] (some (.int (faV s p 19))) [(q, ob 8 s [])] := by
  refine ct_of (M := mtX4_fact) [some (.int 19), some (.int p), some (.ref q)] rfl (by decide) (Nat.le_of_ble_eq_true rfl) (fun _ h => h) (fun a => ?_)
  refine q_iload_n 0 1 dX4_fact_0 rfl rfl rfl ?_
  refine q_tableIn 174 dX4_fact_1 (by decide) (by decide) rfl (by decide) ?_
  refine q_aload_n 2 175 dX4_fact_174 rfl rfl rfl ?_
  refine q_getI 0 178 f_X4_58 dX4_fact_175 rfl rfl rfl ?_
  refine q_ireturn dX4_fact_178 rfl ?_
  exact pR.mk (by simp_all [faV]) rfl
theorem c_X4_fact {l : Launch} {g : Gh} {q : Nat} {s : Sc} {p x : Int32} : Cp l g yX4_fact (Cond.code yX4_fact cX4_fact 3 (some .int)) 1 [.int x, .int p, .ref q] [(q, ob 8 s [])] (some (.int (faV s p x))) [(q, ob 8 s [])] := by
  by_cases h : 6 ≤ x ∧ x ≤ 19
  · obtain ⟨k, hk, rfl⟩ := nat_to (n := 19) (Int32.le_trans (by decide) h.1) h.2 (by decide)
    have hk6 : 6 ≤ k := (nI_leI (a := 6) (by decide) (by omega)).mp h.1
    match k, hk, hk6 with
    | 6, _, _ => exact c_X4_fact_6
    | 7, _, _ => exact c_X4_fact_7
    | 8, _, _ => exact c_X4_fact_8
    | 9, _, _ => exact c_X4_fact_9
    | 10, _, _ => exact c_X4_fact_10
    | 11, _, _ => exact c_X4_fact_11
    | 12, _, _ => exact c_X4_fact_12
    | 13, _, _ => exact c_X4_fact_13
    | 14, _, _ => exact c_X4_fact_14
    | 15, _, _ => exact c_X4_fact_15
    | 16, _, _ => exact c_X4_fact_16
    | 17, _, _ => exact c_X4_fact_17
    | 18, _, _ => exact c_X4_fact_18
    | 19, _, _ => exact c_X4_fact_19
    | 0, _, h6 => omega
    | 1, _, h6 => omega
    | 2, _, h6 => omega
    | 3, _, h6 => omega
    | 4, _, h6 => omega
    | 5, _, h6 => omega
    | (k + 20), hk, _ => omega
  · refine ct_of (M := mtX4_fact) [some (.int x), some (.int p), some (.ref q)] rfl (by decide) (Nat.le_of_ble_eq_true rfl) (fun _ h => h) (fun a => ?_)
    have hne : ∀ v : Int32, 6 ≤ v ∧ v ≤ 19 → ¬ x = v := fun v hv hx => h (hx ▸ hv)
    have hv : faV s p x = x - 1000 := by
      unfold faV
      rw [if_neg (hne 14 (by decide)), if_neg (hne 15 (by decide)), if_neg (hne 16 (by decide)), if_neg (hne 17 (by decide)), if_neg (hne 18 (by decide)), if_neg (hne 19 (by decide)), if_neg (hne 6 (by decide))]
    have hout : x.toInt < 6 ∨ 19 < x.toInt := by
      have e6 : (6 : Int32).toInt = 6 := by decide
      have e19 : (19 : Int32).toInt = 19 := by decide
      rw [i_le, i_le, e6, e19] at h
      omega
    rw [hv]
    refine q_iload_n 0 1 dX4_fact_0 rfl rfl rfl ?_
    refine q_tableOut 195 dX4_fact_1 hout (by decide) ?_
    refine q_iload_n 0 196 dX4_fact_195 rfl rfl rfl ?_
    refine q_sipush 1000 199 dX4_fact_196 sc_1000 rfl ?_
    refine q_isub 200 dX4_fact_199 rfl ?_
    refine q_ireturn dX4_fact_200 rfl ?_
    exact pR.rf
abbrev jnO (x : Int32) : Prop := x = 12 ∨ x = 11 ∨ x = 143 ∨ x = 160 ∨ x = 162
def jnB (x : Int32) : Int32 := if jnO x then 1 else 0
theorem c_X4_joins {l : Launch} {g : Gh} {x : Int32} : Cp l g yX4_joins (Cond.code yX4_joins cX4_joins 1 (some .boolean)) 1 [.int x] [] (some (.int (jnB x))) [] := by
  refine ct_of (M := mtX4_joins) [some (.int x)] rfl (by decide) (Nat.le_of_ble_eq_true rfl) (fun _ h => h) (fun a => ?_)
  refine q_iload_n 0 1 dX4_joins_0 rfl rfl rfl ?_
  refine q_bipush 12 3 dX4_joins_1 bc_12 rfl ?_
  refine q_icmp_eq 33 6 dX4_joins_3 (by decide) rfl (fun h3 => ?_) (fun h3 => ?_)
  · refine q_iconst 1 34 dX4_joins_33 ic_1 rfl ?_
    refine q_goto 38 dX4_joins_34 (by decide) ?_
    refine q_zreturn dX4_joins_38 rfl (Or.inr rfl) ?_
    exact pR.mk (by simp_all [jnB, jnO]) rfl
  · refine q_iload_n 0 7 dX4_joins_6 rfl rfl rfl ?_
    refine q_bipush 11 9 dX4_joins_7 bc_11 rfl ?_
    refine q_icmp_eq 33 12 dX4_joins_9 (by decide) rfl (fun h9 => ?_) (fun h9 => ?_)
    · refine q_iconst 1 34 dX4_joins_33 ic_1 rfl ?_
      refine q_goto 38 dX4_joins_34 (by decide) ?_
      refine q_zreturn dX4_joins_38 rfl (Or.inr rfl) ?_
      exact pR.mk (by simp_all [jnB, jnO]) rfl
    · refine q_iload_n 0 13 dX4_joins_12 rfl rfl rfl ?_
      refine q_sipush 143 16 dX4_joins_13 sc_143 rfl ?_
      refine q_icmp_eq 33 19 dX4_joins_16 (by decide) rfl (fun h16 => ?_) (fun h16 => ?_)
      · refine q_iconst 1 34 dX4_joins_33 ic_1 rfl ?_
        refine q_goto 38 dX4_joins_34 (by decide) ?_
        refine q_zreturn dX4_joins_38 rfl (Or.inr rfl) ?_
        exact pR.mk (by simp_all [jnB, jnO]) rfl
      · refine q_iload_n 0 20 dX4_joins_19 rfl rfl rfl ?_
        refine q_sipush 160 23 dX4_joins_20 sc_160 rfl ?_
        refine q_icmp_eq 33 26 dX4_joins_23 (by decide) rfl (fun h23 => ?_) (fun h23 => ?_)
        · refine q_iconst 1 34 dX4_joins_33 ic_1 rfl ?_
          refine q_goto 38 dX4_joins_34 (by decide) ?_
          refine q_zreturn dX4_joins_38 rfl (Or.inr rfl) ?_
          exact pR.mk (by simp_all [jnB, jnO]) rfl
        · refine q_iload_n 0 27 dX4_joins_26 rfl rfl rfl ?_
          refine q_sipush 162 30 dX4_joins_27 sc_162 rfl ?_
          refine q_icmp_ne 37 33 dX4_joins_30 (by decide) rfl (fun h30 => ?_) (fun h30 => ?_)
          · refine q_iconst 0 38 dX4_joins_37 ic_0 rfl ?_
            refine q_zreturn dX4_joins_38 rfl (Or.inl rfl) ?_
            exact pR.mk (by simp_all [jnB, jnO]) rfl
          · refine q_iconst 1 34 dX4_joins_33 ic_1 rfl ?_
            refine q_goto 38 dX4_joins_34 (by decide) ?_
            refine q_zreturn dX4_joins_38 rfl (Or.inr rfl) ?_
            exact pR.mk (by simp_all [jnB, jnO]) rfl
def joV (x a b : Int32) : Int32 := if x = 12 then a &&& b else if x = 11 then a ||| b else if x = 160 then (if a < b then 1 else 0) else if x = 162 then (if b < a then 1 else 0) else a + b
theorem c_X4_joined_12 {l : Launch} {g : Gh} {a1 b1 : Int32} : Cp l g yX4_joined (Cond.code yX4_joined cX4_joined 3 (some .int)) 1 [.int 12, .int a1, .int b1] [] (some (.int (joV 12 a1 b1))) [] := by
  refine ct_of (M := mtX4_joined) [some (.int 12), some (.int a1), some (.int b1)] rfl (by decide) (Nat.le_of_ble_eq_true rfl) (fun _ h => h) (fun a => ?_)
  refine q_iload_n 0 1 dX4_joined_0 rfl rfl rfl ?_
  refine q_lookup 44 dX4_joined_1 (by decide) rfl (by decide) ?_
  refine q_iload_n 1 45 dX4_joined_44 rfl rfl rfl ?_
  refine q_iload_n 2 46 dX4_joined_45 rfl rfl rfl ?_
  refine q_iand 47 dX4_joined_46 rfl ?_
  refine q_ireturn dX4_joined_47 rfl ?_
  exact pR.mk rfl rfl
theorem c_X4_joined_11 {l : Launch} {g : Gh} {a1 b1 : Int32} : Cp l g yX4_joined (Cond.code yX4_joined cX4_joined 3 (some .int)) 1 [.int 11, .int a1, .int b1] [] (some (.int (joV 11 a1 b1))) [] := by
  refine ct_of (M := mtX4_joined) [some (.int 11), some (.int a1), some (.int b1)] rfl (by decide) (Nat.le_of_ble_eq_true rfl) (fun _ h => h) (fun a => ?_)
  refine q_iload_n 0 1 dX4_joined_0 rfl rfl rfl ?_
  refine q_lookup 48 dX4_joined_1 (by decide) rfl (by decide) ?_
  refine q_iload_n 1 49 dX4_joined_48 rfl rfl rfl ?_
  refine q_iload_n 2 50 dX4_joined_49 rfl rfl rfl ?_
  refine q_ior 51 dX4_joined_50 rfl ?_
  refine q_ireturn dX4_joined_51 rfl ?_
  exact pR.mk rfl rfl
theorem c_X4_joined_143 {l : Launch} {g : Gh} {a1 b1 : Int32} : Cp l g yX4_joined (Cond.code yX4_joined cX4_joined 3 (some .int)) 1 [.int 143, .int a1, .int b1] [] (some (.int (joV 143 a1 b1))) [] := by
  refine ct_of (M := mtX4_joined) [some (.int 143), some (.int a1), some (.int b1)] rfl (by decide) (Nat.le_of_ble_eq_true rfl) (fun _ h => h) (fun a => ?_)
  refine q_iload_n 0 1 dX4_joined_0 rfl rfl rfl ?_
  refine q_lookup 74 dX4_joined_1 (by decide) rfl (by decide) ?_
  refine q_iload_n 1 75 dX4_joined_74 rfl rfl rfl ?_
  refine q_iload_n 2 76 dX4_joined_75 rfl rfl rfl ?_
  refine q_iadd 77 dX4_joined_76 rfl ?_
  refine q_ireturn dX4_joined_77 rfl ?_
  exact pR.mk rfl rfl
theorem c_X4_joined_160 {l : Launch} {g : Gh} {a1 b1 : Int32} : Cp l g yX4_joined (Cond.code yX4_joined cX4_joined 3 (some .int)) 1 [.int 160, .int a1, .int b1] [] (some (.int (joV 160 a1 b1))) [] := by
  refine ct_of (M := mtX4_joined) [some (.int 160), some (.int a1), some (.int b1)] rfl (by decide) (Nat.le_of_ble_eq_true rfl) (fun _ h => h) (fun a => ?_)
  refine q_iload_n 0 1 dX4_joined_0 rfl rfl rfl ?_
  refine q_lookup 52 dX4_joined_1 (by decide) rfl (by decide) ?_
  refine q_iload_n 1 53 dX4_joined_52 rfl rfl rfl ?_
  refine q_iload_n 2 54 dX4_joined_53 rfl rfl rfl ?_
  refine q_icmp_ge 61 57 dX4_joined_54 (by decide) rfl (fun h54 => ?_) (fun h54 => ?_)
  · refine q_iconst 0 62 dX4_joined_61 ic_0 rfl ?_
    refine q_ireturn dX4_joined_62 rfl ?_
    exact pR.mk (by show _ = some (Value.int (if a1 < b1 then 1 else 0)); split <;> first | rfl | (exfalso; (try simp only [i_lt, i_le, i_eq, Int32.reduceToInt] at *); omega)) rfl
  · refine q_iconst 1 58 dX4_joined_57 ic_1 rfl ?_
    refine q_goto 62 dX4_joined_58 (by decide) ?_
    refine q_ireturn dX4_joined_62 rfl ?_
    exact pR.mk (by show _ = some (Value.int (if a1 < b1 then 1 else 0)); split <;> first | rfl | (exfalso; (try simp only [i_lt, i_le, i_eq, Int32.reduceToInt] at *); omega)) rfl
theorem c_X4_joined_162 {l : Launch} {g : Gh} {a1 b1 : Int32} : Cp l g yX4_joined (Cond.code yX4_joined cX4_joined 3 (some .int)) 1 [.int 162, .int a1, .int b1] [] (some (.int (joV 162 a1 b1))) [] := by
  refine ct_of (M := mtX4_joined) [some (.int 162), some (.int a1), some (.int b1)] rfl (by decide) (Nat.le_of_ble_eq_true rfl) (fun _ h => h) (fun a => ?_)
  refine q_iload_n 0 1 dX4_joined_0 rfl rfl rfl ?_
  refine q_lookup 63 dX4_joined_1 (by decide) rfl (by decide) ?_
  refine q_iload_n 1 64 dX4_joined_63 rfl rfl rfl ?_
  refine q_iload_n 2 65 dX4_joined_64 rfl rfl rfl ?_
  refine q_icmp_le 72 68 dX4_joined_65 (by decide) rfl (fun h65 => ?_) (fun h65 => ?_)
  · refine q_iconst 0 73 dX4_joined_72 ic_0 rfl ?_
    refine q_ireturn dX4_joined_73 rfl ?_
    exact pR.mk (by show _ = some (Value.int (if b1 < a1 then 1 else 0)); split <;> first | rfl | (exfalso; (try simp only [i_lt, i_le, i_eq, Int32.reduceToInt] at *); omega)) rfl
  · refine q_iconst 1 69 dX4_joined_68 ic_1 rfl ?_
    refine q_goto 73 dX4_joined_69 (by decide) ?_
    refine q_ireturn dX4_joined_73 rfl ?_
    exact pR.mk (by show _ = some (Value.int (if b1 < a1 then 1 else 0)); split <;> first | rfl | (exfalso; (try simp only [i_lt, i_le, i_eq, Int32.reduceToInt] at *); omega)) rfl
theorem c_X4_joined {l : Launch} {g : Gh} {x a1 b1 : Int32} (h : jnO x) : Cp l g yX4_joined (Cond.code yX4_joined cX4_joined 3 (some .int)) 1 [.int x, .int a1, .int b1] [] (some (.int (joV x a1 b1))) [] := by
  rcases h with rfl | rfl | rfl | rfl | rfl
  · exact c_X4_joined_12
  · exact c_X4_joined_11
  · exact c_X4_joined_143
  · exact c_X4_joined_160
  · exact c_X4_joined_162
/-- one thing of a condition, on the pile (its top first) -/
def hoS (fa : Int32 → Int32) (x : Int32) (st : List Int32) : List Int32 :=
  if x = 13 ∧ 1 ≤ st.length then (1 - st.getD 0 0) :: st.drop 1 else if jnO x ∧ 2 ≤ st.length then joV x (st.getD 1 0) (st.getD 0 0) :: st.drop 2 else if st.length < 40 then fa x :: st else st
def hoL (fa : Int32 → Int32) : List Int32 → List Int32 → List Int32
  | [], st => st
  | x :: xs, st => hoL fa xs (hoS fa x st)
def hoB (fa : Int32 → Int32) (xs : List Int32) : Int32 := if (hoL fa xs []).getD 0 0 = 1 ∧ 0 < (hoL fa xs []).length then 1 else 0
def PilR (st : List Int32) (pf : Sc) : Prop := st.length ≤ 40 ∧ ∀ z, z < st.length → pf (st.length - 1 - z) = st.getD z 0
theorem hoS_len (fa : Int32 → Int32) (x : Int32) {st : List Int32} (h : st.length ≤ 40) : (hoS fa x st).length ≤ 40 := by
  unfold hoS
  split
  · rw [List.length_cons, List.length_drop]; omega
  · split
    · rw [List.length_cons, List.length_drop]; omega
    · split
      · rw [List.length_cons]; omega
      · exact h
theorem drop_getD (st : List Int32) (k z : Nat) : (st.drop k).getD z 0 = st.getD (k + z) 0 := by
  simp [List.getD, List.getElem?_drop]
theorem PilR_push {st : List Int32} {pf : Sc} {v : Int32} (h : PilR st pf) (hl : st.length < 40) : PilR (v :: st) (upd pf st.length v) := by
  refine ⟨by rw [List.length_cons]; omega, fun z hz => ?_⟩
  rw [List.length_cons] at hz ⊢
  cases z with
  | zero => rw [show st.length + 1 - 1 - 0 = st.length by omega, pk_us]; rfl
  | succ z =>
    rw [show st.length + 1 - 1 - (z + 1) = st.length - 1 - z by omega, pk_un (by omega), h.2 z (by omega)]
    rfl
theorem PilR_not {st : List Int32} {pf : Sc} {v : Int32} (h : PilR st pf) (hl : 1 ≤ st.length) : PilR (v :: st.drop 1) (upd pf (st.length - 1) v) := by
  have hlen : (v :: st.drop 1).length = st.length := by rw [List.length_cons, List.length_drop]; omega
  refine ⟨by rw [hlen]; exact h.1, fun z hz => ?_⟩
  rw [hlen] at hz ⊢
  cases z with
  | zero => rw [show st.length - 1 - 0 = st.length - 1 by omega, pk_us]; rfl
  | succ z =>
    rw [pk_un (by omega), h.2 (z + 1) hz]
    show _ = (st.drop 1).getD z 0
    rw [drop_getD, Nat.add_comm]
theorem PilR_join {st : List Int32} {pf : Sc} {v : Int32} (h : PilR st pf) (hl : 2 ≤ st.length) : PilR (v :: st.drop 2) (upd pf (st.length - 2) v) := by
  have hlen : (v :: st.drop 2).length = st.length - 1 := by rw [List.length_cons, List.length_drop]; omega
  refine ⟨by rw [hlen]; have := h.1; omega, fun z hz => ?_⟩
  rw [hlen] at hz ⊢
  cases z with
  | zero => rw [show st.length - 1 - 1 - 0 = st.length - 2 by omega, pk_us]; rfl
  | succ z =>
    rw [pk_un (by omega), show st.length - 1 - 1 - (z + 1) = st.length - 1 - (z + 2) by omega, h.2 (z + 2) (by omega)]
    show _ = (st.drop 2).getD z 0
    rw [drop_getD, Nat.add_comm]
theorem c_X4_holds {l : Launch} {g : Gh} {a0 cc pp q n : Nat} {f pf s : Sc} {p : Int32} {b0 : Nat} {xs : List Int32} (hn : b0 + xs.length ≤ n) (hn4 : n ≤ 400) (hx : ∀ z, z < xs.length → f (b0 + z) = xs.getD z 0) : Ce l g yX4_holds (Cond.code yX4_holds cX4_holds 8 (some .boolean)) 2 [.ref a0, .int (nI b0), .int (nI (b0 + xs.length)), .int p, .ref q] [(a0, ob 4 (fun _ => 0) [some cc, some pp]), (cc, aI g n f), (pp, aI g 40 pf), (q, ob 8 s [])] (fun _ : Sc => some (.int (hoB (faV s p) xs))) (fun z : Sc => [(a0, ob 4 (fun _ => 0) [some cc, some pp]), (cc, aI g n f), (pp, aI g 40 z), (q, ob 8 s [])]) (fun _ : Sc => True) := by
  refine ct_of (M := mtX4_holds) [some (.ref a0), some (.int (nI b0)), some (.int (nI (b0 + xs.length))), some (.int p), some (.ref q), none, none, none] rfl (by decide) (Nat.le_of_ble_eq_true rfl) (fun _ h => h) (fun a => ?_)
  have K6 : ∀ (ys : List Int32) (k : Nat), ys = xs.drop k → k + ys.length = xs.length → ∀ (st : List Int32) (pf1 : Sc) (z7 : Option Value), PilR st pf1 → hoL (faV s p) ys st = hoL (faV s p) xs [] → WPs l g mtX4_holds 2 0 0 (pE (fun _ : Sc => some (.int (hoB (faV s p) xs))) (fun z : Sc => [(a0, ob 4 (fun _ => 0) [some cc, some pp]), (cc, aI g n f), (pp, aI g 40 z), (q, ob 8 s [])]) (fun _ : Sc => True)) noX a 6 [some (.ref a0), some (.int (nI b0)), some (.int (nI (b0 + xs.length))), some (.int p), some (.ref q), some (.int (nI st.length)), some (.int (nI (b0 + k))), z7] [] [(a0, ob 4 (fun _ => 0) [some cc, some pp]), (cc, aI g n f), (pp, aI g 40 pf1), (q, ob 8 s [])] 0 0 := by
    intro ys
    induction ys with
    | nil =>
      intro k hk hlen st pf1 z7 hP hr
      rw [List.length_nil, Nat.add_zero] at hlen
      have hr : st = hoL (faV s p) xs [] := hr
      unfold hoB
      rw [← hr]
      have hge : nI (b0 + xs.length) ≤ nI (b0 + k) := nI_le (by omega) (by omega)
      have hl4 := hP.1
      by_cases h0 : 0 < st.length
      · have hgt : ¬ nI st.length ≤ 0 := nI_nle h0 (by omega)
        have es : nI st.length - 1 = nI (st.length - 1) := by rw [show (1 : Int32) = nI 1 from rfl, pk_sub (by omega)]
        have ev : pf1 (st.length - 1) = st.getD 0 0 := hP.2 0 h0
        by_cases h1 : st.getD 0 0 = 1
        · rw [if_pos ⟨h1, h0⟩]
          generalize hsl : st.length = sl at *
          refine q_iload 6 8 dX4_holds_6 rfl rfl ?_
          refine q_iload_n 2 9 dX4_holds_8 rfl rfl rfl ?_
          refine q_icmp_ge 141 12 dX4_holds_9 (by decide) rfl (fun h9 => ?_) (fun h9 => absurd hge h9)
          refine q_iload 5 143 dX4_holds_141 rfl rfl ?_
          refine q_if_le 163 146 dX4_holds_143 (by decide) rfl (fun h143 => absurd h143 hgt) (fun h143 => ?_)
          refine q_aload_n 0 147 dX4_holds_146 rfl rfl rfl ?_
          refine q_getR 0 150 f_X4_9 dX4_holds_147 rfl rfl rfl rfl ?_
          refine q_iload 5 152 dX4_holds_150 rfl rfl ?_
          refine q_iconst 1 153 dX4_holds_152 ic_1 rfl ?_
          refine q_isub 154 dX4_holds_153 rfl ?_
          refine q_iald 2 (sl-1) 155 dX4_holds_154 rfl ⟨es, by omega, by decide⟩ rfl ?_
          refine q_iconst 1 156 dX4_holds_155 ic_1 rfl ?_
          refine q_icmp_ne 163 159 dX4_holds_156 (by decide) rfl (fun h156 => absurd (ev.trans h1) h156) (fun h156 => ?_)
          refine q_iconst 1 160 dX4_holds_159 ic_1 rfl ?_
          refine q_goto 164 dX4_holds_160 (by decide) ?_
          refine q_zreturn dX4_holds_164 rfl (Or.inr rfl) ?_
          exact pE.mk _ trivial rfl rfl
        · rw [if_neg (fun z => h1 z.1)]
          generalize hsl : st.length = sl at *
          refine q_iload 6 8 dX4_holds_6 rfl rfl ?_
          refine q_iload_n 2 9 dX4_holds_8 rfl rfl rfl ?_
          refine q_icmp_ge 141 12 dX4_holds_9 (by decide) rfl (fun h9 => ?_) (fun h9 => absurd hge h9)
          refine q_iload 5 143 dX4_holds_141 rfl rfl ?_
          refine q_if_le 163 146 dX4_holds_143 (by decide) rfl (fun h143 => absurd h143 hgt) (fun h143 => ?_)
          refine q_aload_n 0 147 dX4_holds_146 rfl rfl rfl ?_
          refine q_getR 0 150 f_X4_9 dX4_holds_147 rfl rfl rfl rfl ?_
          refine q_iload 5 152 dX4_holds_150 rfl rfl ?_
          refine q_iconst 1 153 dX4_holds_152 ic_1 rfl ?_
          refine q_isub 154 dX4_holds_153 rfl ?_
          refine q_iald 2 (sl-1) 155 dX4_holds_154 rfl ⟨es, by omega, by decide⟩ rfl ?_
          refine q_iconst 1 156 dX4_holds_155 ic_1 rfl ?_
          refine q_icmp_ne 163 159 dX4_holds_156 (by decide) rfl (fun h156 => ?_) (fun h156 => absurd h156 (fun z => h1 (ev.symm.trans z)))
          refine q_iconst 0 164 dX4_holds_163 ic_0 rfl ?_
          refine q_zreturn dX4_holds_164 rfl (Or.inl rfl) ?_
          exact pE.mk _ trivial rfl rfl
      · rw [if_neg (fun z => h0 z.2)]
        have hgt : nI st.length ≤ 0 := by rw [show st.length = 0 by omega]; decide
        generalize hsl : st.length = sl at *
        refine q_iload 6 8 dX4_holds_6 rfl rfl ?_
        refine q_iload_n 2 9 dX4_holds_8 rfl rfl rfl ?_
        refine q_icmp_ge 141 12 dX4_holds_9 (by decide) rfl (fun h9 => ?_) (fun h9 => absurd hge h9)
        refine q_iload 5 143 dX4_holds_141 rfl rfl ?_
        refine q_if_le 163 146 dX4_holds_143 (by decide) rfl (fun h143 => ?_) (fun h143 => absurd hgt h143)
        refine q_iconst 0 164 dX4_holds_163 ic_0 rfl ?_
        refine q_zreturn dX4_holds_164 rfl (Or.inl rfl) ?_
        exact pE.mk _ trivial rfl rfl
    | cons y ys ih =>
      intro k hk hlen st pf1 z7 hP hr
      rw [List.length_cons] at hlen
      have hlt : ¬ nI (b0 + xs.length) ≤ nI (b0 + k) := nI_ge (by omega) (by omega)
      have hy : f (b0 + k) = y := by
        rw [hx k (by omega)]
        have : (xs.drop k).getD 0 0 = y := by rw [← hk]; rfl
        rw [drop_getD, Nat.add_zero] at this
        exact this
      have hys : ys = xs.drop (k + 1) := by
        rw [← List.drop_drop, ← hk]
        rfl
      rw [hoL] at hr
      have hl4 := hP.1
      have K135 : ∀ (pf2 : Sc) (z7 : Option Value), PilR (hoS (faV s p) y st) pf2 → WPs l g mtX4_holds 2 0 0 (pE (fun _ : Sc => some (.int (hoB (faV s p) xs))) (fun z : Sc => [(a0, ob 4 (fun _ => 0) [some cc, some pp]), (cc, aI g n f), (pp, aI g 40 z), (q, ob 8 s [])]) (fun _ : Sc => True)) noX a 135 [some (.ref a0), some (.int (nI b0)), some (.int (nI (b0 + xs.length))), some (.int p), some (.ref q), some (.int (nI (hoS (faV s p) y st).length)), some (.int (nI (b0 + k))), z7] [] [(a0, ob 4 (fun _ => 0) [some cc, some pp]), (cc, aI g n f), (pp, aI g 40 pf2), (q, ob 8 s [])] 0 0 := by
        intro pf2 z7 hP2
        have K1 := ih (k + 1) hys (by omega) (hoS (faV s p) y st) pf2 z7 hP2 hr
        clear ih
        rw [show b0 + (k + 1) = b0 + k + 1 from rfl] at K1
        generalize hoB (faV s p) xs = v9 at *
        generalize b0 + k = bk at *
        refine q_iinc 6 (nI (bk + 1)) 138 (L' := [_, _, _, _, _, _, _, _]) dX4_holds_135 rfl (inc1 (bk)) (by decide) rfl rfl ?_
        refine q_goto 6 dX4_holds_138 (by decide) ?_
        exact K1
      clear ih hr
      generalize hoB (faV s p) xs = v9 at *
      by_cases h13 : y = 13 ∧ 1 ≤ st.length
      · have eS : hoS (faV s p) y st = (1 - st.getD 0 0) :: st.drop 1 := if_pos h13
        have hlS : (hoS (faV s p) y st).length = st.length := by rw [eS, List.length_cons, List.length_drop]; omega
        have ev : pf1 (st.length - 1) = st.getD 0 0 := hP.2 0 (by omega)
        have es : nI st.length - 1 = nI (st.length - 1) := by rw [show (1 : Int32) = nI 1 from rfl, pk_sub (by omega)]
        have K1 := fun z7 => K135 (upd pf1 (st.length - 1) (1 - st.getD 0 0)) z7 (by rw [eS]; exact PilR_not hP h13.2)
        rw [hlS] at K1
        clear K135
        have hge1 : ¬ nI st.length < 1 := nI_nlt (b := 1) h13.2 (by omega)
        generalize hsl : st.length = sl at *
        refine q_iload 6 8 dX4_holds_6 rfl rfl ?_
        refine q_iload_n 2 9 dX4_holds_8 rfl rfl rfl ?_
        refine q_icmp_ge 141 12 dX4_holds_9 (by decide) rfl (fun h9 => absurd h9 hlt) (fun h9 => ?_)
        refine q_aload_n 0 13 dX4_holds_12 rfl rfl rfl ?_
        refine q_getR 0 16 f_X4_15 dX4_holds_13 rfl rfl rfl rfl ?_
        refine q_iload 6 18 dX4_holds_16 rfl rfl ?_
        refine q_iald 1 (b0+k) 19 dX4_holds_18 rfl ⟨rfl, by omega, by omega⟩ rfl ?_
        rw [hy]
        refine q_istore 7 21 (L' := [_, _, _, _, _, _, _, _]) dX4_holds_19 (by decide) rfl rfl ?_
        refine q_iload 7 23 dX4_holds_21 rfl rfl ?_
        refine q_bipush 13 25 dX4_holds_23 bc_13 rfl ?_
        refine q_icmp_ne 57 28 dX4_holds_25 (by decide) rfl (fun h25 => absurd h13.1 h25) (fun h25 => ?_)
        refine q_iload 5 30 dX4_holds_28 rfl rfl ?_
        refine q_iconst 1 31 dX4_holds_30 ic_1 rfl ?_
        refine q_icmp_lt 57 34 dX4_holds_31 (by decide) rfl (fun h31 => absurd h31 hge1) (fun h31 => ?_)
        refine q_aload_n 0 35 dX4_holds_34 rfl rfl rfl ?_
        refine q_getR 0 38 f_X4_9 dX4_holds_35 rfl rfl rfl rfl ?_
        refine q_iload 5 40 dX4_holds_38 rfl rfl ?_
        refine q_iconst 1 41 dX4_holds_40 ic_1 rfl ?_
        refine q_isub 42 dX4_holds_41 rfl ?_
        refine q_iconst 1 43 dX4_holds_42 ic_1 rfl ?_
        refine q_aload_n 0 44 dX4_holds_43 rfl rfl rfl ?_
        refine q_getR 0 47 f_X4_9 dX4_holds_44 rfl rfl rfl rfl ?_
        refine q_iload 5 49 dX4_holds_47 rfl rfl ?_
        refine q_iconst 1 50 dX4_holds_49 ic_1 rfl ?_
        refine q_isub 51 dX4_holds_50 rfl ?_
        refine q_iald 2 (sl-1) 52 dX4_holds_51 rfl ⟨es, by omega, by decide⟩ rfl ?_
        rw [ev]
        refine q_isub 53 dX4_holds_52 rfl ?_
        refine q_iast 2 (sl-1) 54 (w' := [_, _, _, _]) dX4_holds_53 rfl ⟨es, by omega, by decide⟩ rfl rfl ?_
        refine q_goto 135 dX4_holds_54 (by decide) ?_
        exact K1 _
      · have K57 : ∀ z7 : Option Value, WPs l g mtX4_holds 2 0 0 (pE (fun _ : Sc => some (.int v9)) (fun z : Sc => [(a0, ob 4 (fun _ => 0) [some cc, some pp]), (cc, aI g n f), (pp, aI g 40 z), (q, ob 8 s [])]) (fun _ : Sc => True)) noX a 57 [some (.ref a0), some (.int (nI b0)), some (.int (nI (b0 + xs.length))), some (.int p), some (.ref q), some (.int (nI st.length)), some (.int (nI (b0 + k))), some (.int y)] [] [(a0, ob 4 (fun _ => 0) [some cc, some pp]), (cc, aI g n f), (pp, aI g 40 pf1), (q, ob 8 s [])] 0 0 := by
          intro z7
          by_cases hj : jnO y ∧ 2 ≤ st.length
          · have eS : hoS (faV s p) y st = joV y (st.getD 1 0) (st.getD 0 0) :: st.drop 2 := (if_neg h13).trans (if_pos hj)
            have hlS : (hoS (faV s p) y st).length = st.length - 1 := by rw [eS, List.length_cons, List.length_drop]; omega
            have ev0 : pf1 (st.length - 1) = st.getD 0 0 := hP.2 0 (by omega)
            have ev1 : pf1 (st.length - 2) = st.getD 1 0 := by have := hP.2 1 (by omega); rw [show st.length - 1 - 1 = st.length - 2 by omega] at this; exact this
            have es1 : nI st.length + Int32.ofInt (-1) = nI (st.length - 1) := by
              obtain ⟨y9, hy9⟩ : ∃ y9, st.length = y9 + 1 := ⟨st.length - 1, by omega⟩
              rw [hy9, show Int32.ofInt (-1) = (-1 : Int32) from rfl, pk_m1]
              rfl
            have es2 : nI (st.length - 1) - 1 = nI (st.length - 2) := by rw [show (1 : Int32) = nI 1 from rfl, pk_sub (by omega)]; rfl
            have K1 := fun z7 => K135 (upd pf1 (st.length - 2) (joV y (st.getD 1 0) (st.getD 0 0))) z7 (by rw [eS]; exact PilR_join hP hj.2)
            rw [hlS] at K1
            clear K135
            have hjb : ¬ jnB y = 0 := by rw [show jnB y = 1 from if_pos hj.1]; decide
            have hge2 : ¬ nI st.length < 2 := nI_nlt (b := 2) hj.2 (by omega)
            generalize hsl : st.length = sl at *
            refine q_iload 7 59 dX4_holds_57 rfl rfl ?_
            refine q_cSi [] [0, 1, 2, 3] [0, 1, 2, 3] 62 (wr := [_, _, _, _]) (w1 := _) (ws' := [_, _, _, _]) c_X4_joins m_X4_30 dX4_holds_59 rfl rfl rfl rfl rfl (by decide) (by decide) (by decide) (by decide) (Nat.le_of_ble_eq_true rfl) (by omega) (by omega) (by omega) rfl ?_
            refine q_if_eq 107 65 dX4_holds_62 (by decide) rfl (fun h62 => absurd h62 hjb) (fun h62 => ?_)
            refine q_iload 5 67 dX4_holds_65 rfl rfl ?_
            refine q_iconst 2 68 dX4_holds_67 ic_2 rfl ?_
            refine q_icmp_lt 107 71 dX4_holds_68 (by decide) rfl (fun h68 => absurd h68 hge2) (fun h68 => ?_)
            refine q_iinc 5 _ 74 (L' := [_, _, _, _, _, _, _, _]) dX4_holds_71 rfl rfl (by decide) rfl rfl ?_
            rw [es1]
            refine q_aload_n 0 75 dX4_holds_74 rfl rfl rfl ?_
            refine q_getR 0 78 f_X4_9 dX4_holds_75 rfl rfl rfl rfl ?_
            refine q_iload 5 80 dX4_holds_78 rfl rfl ?_
            refine q_iconst 1 81 dX4_holds_80 ic_1 rfl ?_
            refine q_isub 82 dX4_holds_81 rfl ?_
            refine q_iload 7 84 dX4_holds_82 rfl rfl ?_
            refine q_aload_n 0 85 dX4_holds_84 rfl rfl rfl ?_
            refine q_getR 0 88 f_X4_9 dX4_holds_85 rfl rfl rfl rfl ?_
            refine q_iload 5 90 dX4_holds_88 rfl rfl ?_
            refine q_iconst 1 91 dX4_holds_90 ic_1 rfl ?_
            refine q_isub 92 dX4_holds_91 rfl ?_
            refine q_iald 2 (sl-2) 93 dX4_holds_92 rfl ⟨es2, by omega, by decide⟩ rfl ?_
            rw [ev1]
            refine q_aload_n 0 94 dX4_holds_93 rfl rfl rfl ?_
            refine q_getR 0 97 f_X4_9 dX4_holds_94 rfl rfl rfl rfl ?_
            refine q_iload 5 99 dX4_holds_97 rfl rfl ?_
            refine q_iald 2 (sl-1) 100 dX4_holds_99 rfl ⟨rfl, by omega, by decide⟩ rfl ?_
            rw [ev0]
            refine q_cSi [] [0, 1, 2, 3] [0, 1, 2, 3] 103 (wr := [_, _, _, _]) (w1 := _) (ws' := [_, _, _, _]) (c_X4_joined hj.1) m_X4_34 dX4_holds_100 rfl rfl rfl rfl rfl (by decide) (by decide) (by decide) (by decide) (Nat.le_of_ble_eq_true rfl) (by omega) (by omega) (by omega) rfl ?_
            refine q_iast 2 (sl-2) 104 (w' := [_, _, _, _]) dX4_holds_103 rfl ⟨es2, by omega, by decide⟩ rfl rfl ?_
            refine q_goto 135 dX4_holds_104 (by decide) ?_
            exact K1 _
          · by_cases h40 : st.length < 40
            · have eS : hoS (faV s p) y st = faV s p y :: st := (if_neg h13).trans ((if_neg hj).trans (if_pos h40))
              have hlS : (hoS (faV s p) y st).length = st.length + 1 := by rw [eS, List.length_cons]
              have K1 := fun z7 => K135 (upd pf1 st.length (faV s p y)) z7 (by rw [eS]; exact PilR_push hP h40)
              rw [hlS] at K1
              clear K135
              have K107 : WPs l g mtX4_holds 2 0 0 (pE (fun _ : Sc => some (.int v9)) (fun z : Sc => [(a0, ob 4 (fun _ => 0) [some cc, some pp]), (cc, aI g n f), (pp, aI g 40 z), (q, ob 8 s [])]) (fun _ : Sc => True)) noX a 107 [some (.ref a0), some (.int (nI b0)), some (.int (nI (b0 + xs.length))), some (.int p), some (.ref q), some (.int (nI st.length)), some (.int (nI (b0 + k))), some (.int y)] [] [(a0, ob 4 (fun _ => 0) [some cc, some pp]), (cc, aI g n f), (pp, aI g 40 pf1), (q, ob 8 s [])] 0 0 := by
                have hlt4 : ¬ nI 40 ≤ nI st.length := nI_ge h40 (by decide)
                generalize hsl : st.length = sl at *
                refine q_iload 5 109 dX4_holds_107 rfl rfl ?_
                refine q_aload_n 0 110 dX4_holds_109 rfl rfl rfl ?_
                refine q_getR 0 113 f_X4_9 dX4_holds_110 rfl rfl rfl rfl ?_
                refine q_alenI 2 _ 114 dX4_holds_113 rfl rfl rfl ?_
                refine q_icmp_ge 135 117 dX4_holds_114 (by decide) rfl (fun h114 => absurd h114 hlt4) (fun h114 => ?_)
                refine q_aload_n 0 118 dX4_holds_117 rfl rfl rfl ?_
                refine q_getR 0 121 f_X4_9 dX4_holds_118 rfl rfl rfl rfl ?_
                refine q_iload 5 123 dX4_holds_121 rfl rfl ?_
                refine q_iinc 5 (nI (sl + 1)) 126 (L' := [_, _, _, _, _, _, _, _]) dX4_holds_123 rfl (inc1 (sl)) (by decide) rfl rfl ?_
                refine q_iload 7 128 dX4_holds_126 rfl rfl ?_
                refine q_iload_n 3 129 dX4_holds_128 rfl rfl rfl ?_
                refine q_aload 4 131 dX4_holds_129 rfl rfl ?_
                refine q_cSi [3] [0, 1, 2] [0, 1, 2, 3] 134 (wr := [_, _, _]) (w1 := _) (ws' := [_, _, _, _]) c_X4_fact m_X4_38 dX4_holds_131 rfl rfl rfl rfl rfl (by decide) (by decide) (by decide) (by decide) (Nat.le_of_ble_eq_true rfl) (by omega) (by omega) (by omega) rfl ?_
                refine q_iast 2 sl 135 (w' := [_, _, _, _]) dX4_holds_134 rfl ⟨rfl, by omega, by decide⟩ rfl rfl ?_
                exact K1 _
              clear K1
              by_cases hjy : jnO y
              · have hjb : ¬ jnB y = 0 := by rw [show jnB y = 1 from if_pos hjy]; decide
                have hlt2 : nI st.length < 2 := nI_lt (b := 2) (Nat.lt_of_not_le (fun z => hj ⟨hjy, z⟩)) (by decide)
                refine q_iload 7 59 dX4_holds_57 rfl rfl ?_
                refine q_cSi [] [0, 1, 2, 3] [0, 1, 2, 3] 62 (wr := [_, _, _, _]) (w1 := _) (ws' := [_, _, _, _]) c_X4_joins m_X4_30 dX4_holds_59 rfl rfl rfl rfl rfl (by decide) (by decide) (by decide) (by decide) (Nat.le_of_ble_eq_true rfl) (by omega) (by omega) (by omega) rfl ?_
                refine q_if_eq 107 65 dX4_holds_62 (by decide) rfl (fun h62 => absurd h62 hjb) (fun h62 => ?_)
                refine q_iload 5 67 dX4_holds_65 rfl rfl ?_
                refine q_iconst 2 68 dX4_holds_67 ic_2 rfl ?_
                refine q_icmp_lt 107 71 dX4_holds_68 (by decide) rfl (fun h68 => ?_) (fun h68 => absurd hlt2 h68)
                exact K107
              · have hjb : jnB y = 0 := if_neg hjy
                refine q_iload 7 59 dX4_holds_57 rfl rfl ?_
                refine q_cSi [] [0, 1, 2, 3] [0, 1, 2, 3] 62 (wr := [_, _, _, _]) (w1 := _) (ws' := [_, _, _, _]) c_X4_joins m_X4_30 dX4_holds_59 rfl rfl rfl rfl rfl (by decide) (by decide) (by decide) (by decide) (Nat.le_of_ble_eq_true rfl) (by omega) (by omega) (by omega) rfl ?_
                refine q_if_eq 107 65 dX4_holds_62 (by decide) rfl (fun h62 => ?_) (fun h62 => absurd hjb h62)
                exact K107
            · have eS : hoS (faV s p) y st = st := (if_neg h13).trans ((if_neg hj).trans (if_neg h40))
              have K1 := fun z7 => K135 pf1 z7 (by rw [eS]; exact hP)
              rw [eS] at K1
              clear K135
              have K107 : WPs l g mtX4_holds 2 0 0 (pE (fun _ : Sc => some (.int v9)) (fun z : Sc => [(a0, ob 4 (fun _ => 0) [some cc, some pp]), (cc, aI g n f), (pp, aI g 40 z), (q, ob 8 s [])]) (fun _ : Sc => True)) noX a 107 [some (.ref a0), some (.int (nI b0)), some (.int (nI (b0 + xs.length))), some (.int p), some (.ref q), some (.int (nI st.length)), some (.int (nI (b0 + k))), some (.int y)] [] [(a0, ob 4 (fun _ => 0) [some cc, some pp]), (cc, aI g n f), (pp, aI g 40 pf1), (q, ob 8 s [])] 0 0 := by
                have hge4 : nI 40 ≤ nI st.length := nI_le (by omega) (by omega)
                refine q_iload 5 109 dX4_holds_107 rfl rfl ?_
                refine q_aload_n 0 110 dX4_holds_109 rfl rfl rfl ?_
                refine q_getR 0 113 f_X4_9 dX4_holds_110 rfl rfl rfl rfl ?_
                refine q_alenI 2 _ 114 dX4_holds_113 rfl rfl rfl ?_
                refine q_icmp_ge 135 117 dX4_holds_114 (by decide) rfl (fun h114 => ?_) (fun h114 => absurd hge4 h114)
                exact K1 _
              clear K1
              by_cases hjy : jnO y
              · have hjb : ¬ jnB y = 0 := by rw [show jnB y = 1 from if_pos hjy]; decide
                have hlt2 : nI st.length < 2 := nI_lt (b := 2) (Nat.lt_of_not_le (fun z => hj ⟨hjy, z⟩)) (by decide)
                refine q_iload 7 59 dX4_holds_57 rfl rfl ?_
                refine q_cSi [] [0, 1, 2, 3] [0, 1, 2, 3] 62 (wr := [_, _, _, _]) (w1 := _) (ws' := [_, _, _, _]) c_X4_joins m_X4_30 dX4_holds_59 rfl rfl rfl rfl rfl (by decide) (by decide) (by decide) (by decide) (Nat.le_of_ble_eq_true rfl) (by omega) (by omega) (by omega) rfl ?_
                refine q_if_eq 107 65 dX4_holds_62 (by decide) rfl (fun h62 => absurd h62 hjb) (fun h62 => ?_)
                refine q_iload 5 67 dX4_holds_65 rfl rfl ?_
                refine q_iconst 2 68 dX4_holds_67 ic_2 rfl ?_
                refine q_icmp_lt 107 71 dX4_holds_68 (by decide) rfl (fun h68 => ?_) (fun h68 => absurd hlt2 h68)
                exact K107
              · have hjb : jnB y = 0 := if_neg hjy
                refine q_iload 7 59 dX4_holds_57 rfl rfl ?_
                refine q_cSi [] [0, 1, 2, 3] [0, 1, 2, 3] 62 (wr := [_, _, _, _]) (w1 := _) (ws' := [_, _, _, _]) c_X4_joins m_X4_30 dX4_holds_59 rfl rfl rfl rfl rfl (by decide) (by decide) (by decide) (by decide) (Nat.le_of_ble_eq_true rfl) (by omega) (by omega) (by omega) rfl ?_
                refine q_if_eq 107 65 dX4_holds_62 (by decide) rfl (fun h62 => ?_) (fun h62 => absurd hjb h62)
                exact K107
        clear K135
        by_cases hy13 : y = 13
        · have hlt1 : nI st.length < 1 := nI_lt (b := 1) (Nat.lt_of_not_le (fun z => h13 ⟨hy13, z⟩)) (by decide)
          refine q_iload 6 8 dX4_holds_6 rfl rfl ?_
          refine q_iload_n 2 9 dX4_holds_8 rfl rfl rfl ?_
          refine q_icmp_ge 141 12 dX4_holds_9 (by decide) rfl (fun h9 => absurd h9 hlt) (fun h9 => ?_)
          refine q_aload_n 0 13 dX4_holds_12 rfl rfl rfl ?_
          refine q_getR 0 16 f_X4_15 dX4_holds_13 rfl rfl rfl rfl ?_
          refine q_iload 6 18 dX4_holds_16 rfl rfl ?_
          refine q_iald 1 (b0+k) 19 dX4_holds_18 rfl ⟨rfl, by omega, by omega⟩ rfl ?_
          rw [hy]
          refine q_istore 7 21 (L' := [_, _, _, _, _, _, _, _]) dX4_holds_19 (by decide) rfl rfl ?_
          refine q_iload 7 23 dX4_holds_21 rfl rfl ?_
          refine q_bipush 13 25 dX4_holds_23 bc_13 rfl ?_
          refine q_icmp_ne 57 28 dX4_holds_25 (by decide) rfl (fun h25 => absurd hy13 h25) (fun h25 => ?_)
          refine q_iload 5 30 dX4_holds_28 rfl rfl ?_
          refine q_iconst 1 31 dX4_holds_30 ic_1 rfl ?_
          refine q_icmp_lt 57 34 dX4_holds_31 (by decide) rfl (fun h31 => ?_) (fun h31 => absurd hlt1 h31)
          exact K57 none
        · skip
          refine q_iload 6 8 dX4_holds_6 rfl rfl ?_
          refine q_iload_n 2 9 dX4_holds_8 rfl rfl rfl ?_
          refine q_icmp_ge 141 12 dX4_holds_9 (by decide) rfl (fun h9 => absurd h9 hlt) (fun h9 => ?_)
          refine q_aload_n 0 13 dX4_holds_12 rfl rfl rfl ?_
          refine q_getR 0 16 f_X4_15 dX4_holds_13 rfl rfl rfl rfl ?_
          refine q_iload 6 18 dX4_holds_16 rfl rfl ?_
          refine q_iald 1 (b0+k) 19 dX4_holds_18 rfl ⟨rfl, by omega, by omega⟩ rfl ?_
          rw [hy]
          refine q_istore 7 21 (L' := [_, _, _, _, _, _, _, _]) dX4_holds_19 (by decide) rfl rfl ?_
          refine q_iload 7 23 dX4_holds_21 rfl rfl ?_
          refine q_bipush 13 25 dX4_holds_23 bc_13 rfl ?_
          refine q_icmp_ne 57 28 dX4_holds_25 (by decide) rfl (fun h25 => ?_) (fun h25 => absurd h25 hy13)
          exact K57 none
  have K1 := fun z7 => K6 xs 0 rfl (by omega) [] pf z7 ⟨Nat.zero_le _, fun z hz => absurd hz (Nat.not_lt_zero _)⟩ rfl
  clear K6
  rw [Nat.add_zero] at K1
  generalize hoB (faV s p) xs = v9 at *
  generalize hbe : b0 + xs.length = be at *
  refine q_iconst 0 1 dX4_holds_0 ic_0 rfl ?_
  refine q_istore 5 3 (L' := [_, _, _, _, _, _, _, _]) dX4_holds_1 (by decide) rfl rfl ?_
  refine q_iload_n 1 4 dX4_holds_3 rfl rfl rfl ?_
  refine q_istore 6 6 (L' := [_, _, _, _, _, _, _, _]) dX4_holds_4 (by decide) rfl rfl ?_
  exact K1 _
theorem hoB_or (fa : Int32 → Int32) (xs : List Int32) : hoB fa xs = 0 ∨ hoB fa xs = 1 := by unfold hoB; split <;> simp

