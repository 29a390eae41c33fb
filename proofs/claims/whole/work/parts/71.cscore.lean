/-! ===== Score: tell, code, become ===== -/
def sTell (s : Sc) (w : Nat) : Int32 := if w = 4 then (if s 3 ≤ 0 then -1 else s 4) else if w = 5 then (if s 3 ≤ 1 then -1 else s 5) else if w = 6 then (if s 6 = 0 then 0 else 1) else if w = 9 then (if sPog s = 0 then 0 else 1) else s w
theorem c_X8_tell_0 {l : Launch} {g : Gh} {q : Nat} {s : Sc} : Cp l g yX8_tell (Cond.code yX8_tell cX8_tell 2 (some .int)) 2 [.ref q, .int 0] [(q, ob 8 s [])] (some (.int (sTell s 0))) [(q, ob 8 s [])] := by
  refine ct_of (M := mtX8_tell) [some (.ref q), some (.int 0)] rfl (by decide) (Nat.le_of_ble_eq_true rfl) (fun _ h => h) (fun a => ?_)
  refine q_iload_n 1 1 dX8_tell_0 rfl rfl rfl ?_
  refine q_tableIn 52 dX8_tell_1 (by decide) (by decide) rfl (by decide) ?_
  refine q_aload_n 0 53 dX8_tell_52 rfl rfl rfl ?_
  refine q_getI 0 56 f_X8_9 dX8_tell_53 rfl rfl rfl ?_
  refine q_ireturn dX8_tell_56 rfl ?_
  exact pR.mk rfl rfl
theorem c_X8_tell_1 {l : Launch} {g : Gh} {q : Nat} {s : Sc} : Cp l g yX8_tell (Cond.code yX8_tell cX8_tell 2 (some .int)) 2 [.ref q, .int 1] [(q, ob 8 s [])] (some (.int (sTell s 1))) [(q, ob 8 s [])] := by
  refine ct_of (M := mtX8_tell) [some (.ref q), some (.int 1)] rfl (by decide) (Nat.le_of_ble_eq_true rfl) (fun _ h => h) (fun a => ?_)
  refine q_iload_n 1 1 dX8_tell_0 rfl rfl rfl ?_
  refine q_tableIn 57 dX8_tell_1 (by decide) (by decide) rfl (by decide) ?_
  refine q_aload_n 0 58 dX8_tell_57 rfl rfl rfl ?_
  refine q_getI 0 61 f_X8_15 dX8_tell_58 rfl rfl rfl ?_
  refine q_ireturn dX8_tell_61 rfl ?_
  exact pR.mk rfl rfl
theorem c_X8_tell_2 {l : Launch} {g : Gh} {q : Nat} {s : Sc} : Cp l g yX8_tell (Cond.code yX8_tell cX8_tell 2 (some .int)) 2 [.ref q, .int 2] [(q, ob 8 s [])] (some (.int (sTell s 2))) [(q, ob 8 s [])] := by
  refine ct_of (M := mtX8_tell) [some (.ref q), some (.int 2)] rfl (by decide) (Nat.le_of_ble_eq_true rfl) (fun _ h => h) (fun a => ?_)
  refine q_iload_n 1 1 dX8_tell_0 rfl rfl rfl ?_
  refine q_tableIn 62 dX8_tell_1 (by decide) (by decide) rfl (by decide) ?_
  refine q_aload_n 0 63 dX8_tell_62 rfl rfl rfl ?_
  refine q_getI 0 66 f_X8_18 dX8_tell_63 rfl rfl rfl ?_
  refine q_ireturn dX8_tell_66 rfl ?_
  exact pR.mk rfl rfl
theorem c_X8_tell_3 {l : Launch} {g : Gh} {q : Nat} {s : Sc} : Cp l g yX8_tell (Cond.code yX8_tell cX8_tell 2 (some .int)) 2 [.ref q, .int 3] [(q, ob 8 s [])] (some (.int (sTell s 3))) [(q, ob 8 s [])] := by
  refine ct_of (M := mtX8_tell) [some (.ref q), some (.int 3)] rfl (by decide) (Nat.le_of_ble_eq_true rfl) (fun _ h => h) (fun a => ?_)
  refine q_iload_n 1 1 dX8_tell_0 rfl rfl rfl ?_
  refine q_tableIn 67 dX8_tell_1 (by decide) (by decide) rfl (by decide) ?_
  refine q_aload_n 0 68 dX8_tell_67 rfl rfl rfl ?_
  refine q_getI 0 71 f_X8_21 dX8_tell_68 rfl rfl rfl ?_
  refine q_ireturn dX8_tell_71 rfl ?_
  exact pR.mk rfl rfl
theorem c_X8_tell_4 {l : Launch} {g : Gh} {q : Nat} {s : Sc} : Cp l g yX8_tell (Cond.code yX8_tell cX8_tell 2 (some .int)) 2 [.ref q, .int 4] [(q, ob 8 s [])] (some (.int (sTell s 4))) [(q, ob 8 s [])] := by
  refine ct_of (M := mtX8_tell) [some (.ref q), some (.int 4)] rfl (by decide) (Nat.le_of_ble_eq_true rfl) (fun _ h => h) (fun a => ?_)
  refine q_iload_n 1 1 dX8_tell_0 rfl rfl rfl ?_
  refine q_tableIn 72 dX8_tell_1 (by decide) (by decide) rfl (by decide) ?_
  refine q_aload_n 0 73 dX8_tell_72 rfl rfl rfl ?_
  refine q_getI 0 76 f_X8_21 dX8_tell_73 rfl rfl rfl ?_
  refine q_if_le 86 79 dX8_tell_76 (by decide) rfl (fun h76 => ?_) (fun h76 => ?_)
  · refine q_iconst (-1) 87 dX8_tell_86 ic_m1 rfl ?_
    refine q_ireturn dX8_tell_87 rfl ?_
    exact pR.mk (by show _ = some (Value.int (if s 3 ≤ 0 then -1 else s 4)); split <;> first | rfl | (exfalso; (try simp only [i_lt, i_le, i_eq, Int32.reduceToInt] at *); omega)) rfl
  · refine q_aload_n 0 80 dX8_tell_79 rfl rfl rfl ?_
    refine q_getI 0 83 f_X8_24 dX8_tell_80 rfl rfl rfl ?_
    refine q_goto 87 dX8_tell_83 (by decide) ?_
    refine q_ireturn dX8_tell_87 rfl ?_
    exact pR.mk (by show _ = some (Value.int (if s 3 ≤ 0 then -1 else s 4)); split <;> first | rfl | (exfalso; (try simp only [i_lt, i_le, i_eq, Int32.reduceToInt] at *); omega)) rfl
theorem c_X8_tell_5 {l : Launch} {g : Gh} {q : Nat} {s : Sc} : Cp l g yX8_tell (Cond.code yX8_tell cX8_tell 2 (some .int)) 2 [.ref q, .int 5] [(q, ob 8 s [])] (some (.int (sTell s 5))) [(q, ob 8 s [])] := by
  refine ct_of (M := mtX8_tell) [some (.ref q), some (.int 5)] rfl (by decide) (Nat.le_of_ble_eq_true rfl) (fun _ h => h) (fun a => ?_)
  refine q_iload_n 1 1 dX8_tell_0 rfl rfl rfl ?_
  refine q_tableIn 88 dX8_tell_1 (by decide) (by decide) rfl (by decide) ?_
  refine q_aload_n 0 89 dX8_tell_88 rfl rfl rfl ?_
  refine q_getI 0 92 f_X8_21 dX8_tell_89 rfl rfl rfl ?_
  refine q_iconst 1 93 dX8_tell_92 ic_1 rfl ?_
  refine q_icmp_le 103 96 dX8_tell_93 (by decide) rfl (fun h93 => ?_) (fun h93 => ?_)
  · refine q_iconst (-1) 104 dX8_tell_103 ic_m1 rfl ?_
    refine q_ireturn dX8_tell_104 rfl ?_
    exact pR.mk (by show _ = some (Value.int (if s 3 ≤ 1 then -1 else s 5)); split <;> first | rfl | (exfalso; (try simp only [i_lt, i_le, i_eq, Int32.reduceToInt] at *); omega)) rfl
  · refine q_aload_n 0 97 dX8_tell_96 rfl rfl rfl ?_
    refine q_getI 0 100 f_X8_27 dX8_tell_97 rfl rfl rfl ?_
    refine q_goto 104 dX8_tell_100 (by decide) ?_
    refine q_ireturn dX8_tell_104 rfl ?_
    exact pR.mk (by show _ = some (Value.int (if s 3 ≤ 1 then -1 else s 5)); split <;> first | rfl | (exfalso; (try simp only [i_lt, i_le, i_eq, Int32.reduceToInt] at *); omega)) rfl
theorem c_X8_tell_6 {l : Launch} {g : Gh} {q : Nat} {s : Sc} : Cp l g yX8_tell (Cond.code yX8_tell cX8_tell 2 (some .int)) 2 [.ref q, .int 6] [(q, ob 8 s [])] (some (.int (sTell s 6))) [(q, ob 8 s [])] := by
  refine ct_of (M := mtX8_tell) [some (.ref q), some (.int 6)] rfl (by decide) (Nat.le_of_ble_eq_true rfl) (fun _ h => h) (fun a => ?_)
  refine q_iload_n 1 1 dX8_tell_0 rfl rfl rfl ?_
  refine q_tableIn 105 dX8_tell_1 (by decide) (by decide) rfl (by decide) ?_
  refine q_aload_n 0 106 dX8_tell_105 rfl rfl rfl ?_
  refine q_getI 0 109 f_X8_30 dX8_tell_106 rfl rfl rfl ?_
  refine q_if_eq 116 112 dX8_tell_109 (by decide) rfl (fun h109 => ?_) (fun h109 => ?_)
  · refine q_iconst 0 117 dX8_tell_116 ic_0 rfl ?_
    refine q_ireturn dX8_tell_117 rfl ?_
    exact pR.mk (by show _ = some (Value.int (if s 6 = 0 then 0 else 1)); split <;> first | rfl | (exfalso; (try simp only [i_lt, i_le, i_eq, Int32.reduceToInt] at *); omega)) rfl
  · refine q_iconst 1 113 dX8_tell_112 ic_1 rfl ?_
    refine q_goto 117 dX8_tell_113 (by decide) ?_
    refine q_ireturn dX8_tell_117 rfl ?_
    exact pR.mk (by show _ = some (Value.int (if s 6 = 0 then 0 else 1)); split <;> first | rfl | (exfalso; (try simp only [i_lt, i_le, i_eq, Int32.reduceToInt] at *); omega)) rfl
theorem c_X8_tell_7 {l : Launch} {g : Gh} {q : Nat} {s : Sc} : Cp l g yX8_tell (Cond.code yX8_tell cX8_tell 2 (some .int)) 2 [.ref q, .int 7] [(q, ob 8 s [])] (some (.int (sTell s 7))) [(q, ob 8 s [])] := by
  refine ct_of (M := mtX8_tell) [some (.ref q), some (.int 7)] rfl (by decide) (Nat.le_of_ble_eq_true rfl) (fun _ h => h) (fun a => ?_)
  refine q_iload_n 1 1 dX8_tell_0 rfl rfl rfl ?_
  refine q_tableIn 118 dX8_tell_1 (by decide) (by decide) rfl (by decide) ?_
  refine q_aload_n 0 119 dX8_tell_118 rfl rfl rfl ?_
  refine q_getI 0 122 f_X8_34 dX8_tell_119 rfl rfl rfl ?_
  refine q_ireturn dX8_tell_122 rfl ?_
  exact pR.mk rfl rfl
theorem c_X8_tell_8 {l : Launch} {g : Gh} {q : Nat} {s : Sc} : Cp l g yX8_tell (Cond.code yX8_tell cX8_tell 2 (some .int)) 2 [.ref q, .int 8] [(q, ob 8 s [])] (some (.int (sTell s 8))) [(q, ob 8 s [])] := by
  refine ct_of (M := mtX8_tell) [some (.ref q), some (.int 8)] rfl (by decide) (Nat.le_of_ble_eq_true rfl) (fun _ h => h) (fun a => ?_)
  refine q_iload_n 1 1 dX8_tell_0 rfl rfl rfl ?_
  refine q_tableIn 123 dX8_tell_1 (by decide) (by decide) rfl (by decide) ?_
  refine q_aload_n 0 124 dX8_tell_123 rfl rfl rfl ?_
  refine q_getI 0 127 f_X8_37 dX8_tell_124 rfl rfl rfl ?_
  refine q_ireturn dX8_tell_127 rfl ?_
  exact pR.mk rfl rfl
theorem c_X8_tell_9 {l : Launch} {g : Gh} {q : Nat} {s : Sc} : Cp l g yX8_tell (Cond.code yX8_tell cX8_tell 2 (some .int)) 2 [.ref q, .int 9] [(q, ob 8 s [])] (some (.int (sTell s 9))) [(q, ob 8 s [])] := by
  refine ct_of (M := mtX8_tell) [some (.ref q), some (.int 9)] rfl (by decide) (Nat.le_of_ble_eq_true rfl) (fun _ h => h) (fun a => ?_)
  refine q_iload_n 1 1 dX8_tell_0 rfl rfl rfl ?_
  refine q_tableOut 128 dX8_tell_1 (by decide) (by decide) ?_
  refine q_aload_n 0 129 dX8_tell_128 rfl rfl rfl ?_
  refine q_cVi 0 [0] [] [0] 132 (wr := []) (w1 := _) (ws' := [_]) c_X8_isPog m_X8_51 dX8_tell_129 rfl rfl rfl rfl rfl rfl rfl rfl (by decide) (by decide) (by decide) (by decide) (Nat.le_of_ble_eq_true rfl) (by omega) (by omega) (by omega) rfl ?_
  refine q_if_eq 139 135 dX8_tell_132 (by decide) rfl (fun h132 => ?_) (fun h132 => ?_)
  · refine q_iconst 0 140 dX8_tell_139 ic_0 rfl ?_
    refine q_ireturn dX8_tell_140 rfl ?_
    exact pR.mk (by show _ = some (Value.int (if sPog s = 0 then 0 else 1)); split <;> first | rfl | (exfalso; (try simp only [i_lt, i_le, i_eq, Int32.reduceToInt] at *); omega)) rfl
  · refine q_iconst 1 136 dX8_tell_135 ic_1 rfl ?_
    refine q_goto 140 dX8_tell_136 (by decide) ?_
    refine q_ireturn dX8_tell_140 rfl ?_
    exact pR.mk (by show _ = some (Value.int (if sPog s = 0 then 0 else 1)); split <;> first | rfl | (exfalso; (try simp only [i_lt, i_le, i_eq, Int32.reduceToInt] at *); omega)) rfl
theorem c_X8_tell {l : Launch} {g : Gh} {q : Nat} {s : Sc} {v : Int32} {w : Nat} (hv : v = nI w) (hw : w < 10) : Cp l g yX8_tell (Cond.code yX8_tell cX8_tell 2 (some .int)) 2 [.ref q, .int v] [(q, ob 8 s [])] (some (.int (sTell s w))) [(q, ob 8 s [])] := by
  subst hv
  match w, hw with
  | 0, _ => exact c_X8_tell_0
  | 1, _ => exact c_X8_tell_1
  | 2, _ => exact c_X8_tell_2
  | 3, _ => exact c_X8_tell_3
  | 4, _ => exact c_X8_tell_4
  | 5, _ => exact c_X8_tell_5
  | 6, _ => exact c_X8_tell_6
  | 7, _ => exact c_X8_tell_7
  | 8, _ => exact c_X8_tell_8
  | 9, _ => exact c_X8_tell_9
  | (w + 10), hw => exact absurd hw (by omega)
def sKind (s : Sc) : Int32 := if s 3 = 1 then (if s 6 = 0 then 1 else 11) + s 4 else if s 3 = 2 then 21 + s 4 * 10 + s 5 else 0
def sCode (s : Sc) : Int32 := (((s 0 + 3) * 8 + s 1 + 3) * 2 + s 2) * 121 + sKind s
theorem c_X8_code {l : Launch} {g : Gh} {q : Nat} {s : Sc} : Cp l g yX8_code (Cond.code yX8_code cX8_code 2 (some .int)) 1 [.ref q] [(q, ob 8 s [])] (some (.int (sCode s))) [(q, ob 8 s [])] := by
  refine ct_of (M := mtX8_code) [some (.ref q), none] rfl (by decide) (Nat.le_of_ble_eq_true rfl) (fun _ h => h) (fun a => ?_)
  have K56 : ∀ z : Int32, z = sKind s → WPs l g mtX8_code 1 0 0 (pR (some (.int (sCode s))) [(q, ob 8 s [])]) noX a 56 [some (.ref q), some (.int z)] [] [(q, ob 8 s [])] 0 0 := by
    intro z hz
    unfold sCode
    rw [← hz]
    refine q_aload_n 0 57 dX8_code_56 rfl rfl rfl ?_
    refine q_getI 0 60 f_X8_9 dX8_code_57 rfl rfl rfl ?_
    refine q_iconst 3 61 dX8_code_60 ic_3 rfl ?_
    refine q_iadd 62 dX8_code_61 rfl ?_
    refine q_bipush 8 64 dX8_code_62 bc_8 rfl ?_
    refine q_imul 65 dX8_code_64 rfl ?_
    refine q_aload_n 0 66 dX8_code_65 rfl rfl rfl ?_
    refine q_getI 0 69 f_X8_15 dX8_code_66 rfl rfl rfl ?_
    refine q_iadd 70 dX8_code_69 rfl ?_
    refine q_iconst 3 71 dX8_code_70 ic_3 rfl ?_
    refine q_iadd 72 dX8_code_71 rfl ?_
    refine q_iconst 2 73 dX8_code_72 ic_2 rfl ?_
    refine q_imul 74 dX8_code_73 rfl ?_
    refine q_aload_n 0 75 dX8_code_74 rfl rfl rfl ?_
    refine q_getI 0 78 f_X8_18 dX8_code_75 rfl rfl rfl ?_
    refine q_iadd 79 dX8_code_78 rfl ?_
    refine q_bipush 121 81 dX8_code_79 bc_121 rfl ?_
    refine q_imul 82 dX8_code_81 rfl ?_
    refine q_iload_n 1 83 dX8_code_82 rfl rfl rfl ?_
    refine q_iadd 84 dX8_code_83 rfl ?_
    refine q_ireturn dX8_code_84 rfl ?_
    exact pR.rf
  refine q_iconst 0 1 dX8_code_0 ic_0 rfl ?_
  refine q_istore_n 1 2 (L' := [_, _]) dX8_code_1 rfl (by decide) rfl rfl ?_
  refine q_aload_n 0 3 dX8_code_2 rfl rfl rfl ?_
  refine q_getI 0 6 f_X8_21 dX8_code_3 rfl rfl rfl ?_
  refine q_iconst 1 7 dX8_code_6 ic_1 rfl ?_
  refine q_icmp_ne 32 10 dX8_code_7 (by decide) rfl (fun h1 => ?_) (fun h1 => ?_)
  · refine q_aload_n 0 33 dX8_code_32 rfl rfl rfl ?_
    refine q_getI 0 36 f_X8_21 dX8_code_33 rfl rfl rfl ?_
    refine q_iconst 2 37 dX8_code_36 ic_2 rfl ?_
    refine q_icmp_ne 56 40 dX8_code_37 (by decide) rfl (fun h3 => ?_) (fun h3 => ?_)
    · first
        | (exact K56 _ (by unfold sKind; rw [if_pos h1, if_pos h2]))
        | (exact K56 _ (by unfold sKind; rw [if_pos h1, if_neg h2]))
        | (exact K56 _ (by unfold sKind; rw [if_neg h1, if_pos h3]))
        | (exact K56 _ (by unfold sKind; rw [if_neg h1, if_neg h3]))
    · refine q_bipush 21 42 dX8_code_40 bc_21 rfl ?_
      refine q_aload_n 0 43 dX8_code_42 rfl rfl rfl ?_
      refine q_getI 0 46 f_X8_24 dX8_code_43 rfl rfl rfl ?_
      refine q_bipush 10 48 dX8_code_46 bc_10 rfl ?_
      refine q_imul 49 dX8_code_48 rfl ?_
      refine q_iadd 50 dX8_code_49 rfl ?_
      refine q_aload_n 0 51 dX8_code_50 rfl rfl rfl ?_
      refine q_getI 0 54 f_X8_27 dX8_code_51 rfl rfl rfl ?_
      refine q_iadd 55 dX8_code_54 rfl ?_
      refine q_istore_n 1 56 (L' := [_, _]) dX8_code_55 rfl (by decide) rfl rfl ?_
      first
        | (exact K56 _ (by unfold sKind; rw [if_pos h1, if_pos h2]))
        | (exact K56 _ (by unfold sKind; rw [if_pos h1, if_neg h2]))
        | (exact K56 _ (by unfold sKind; rw [if_neg h1, if_pos h3]))
        | (exact K56 _ (by unfold sKind; rw [if_neg h1, if_neg h3]))
  · refine q_aload_n 0 11 dX8_code_10 rfl rfl rfl ?_
    refine q_getI 0 14 f_X8_30 dX8_code_11 rfl rfl rfl ?_
    refine q_if_eq 22 17 dX8_code_14 (by decide) rfl (fun h2 => ?_) (fun h2 => ?_)
    · refine q_iconst 1 23 dX8_code_22 ic_1 rfl ?_
      refine q_aload_n 0 24 dX8_code_23 rfl rfl rfl ?_
      refine q_getI 0 27 f_X8_24 dX8_code_24 rfl rfl rfl ?_
      refine q_iadd 28 dX8_code_27 rfl ?_
      refine q_istore_n 1 29 (L' := [_, _]) dX8_code_28 rfl (by decide) rfl rfl ?_
      refine q_goto 56 dX8_code_29 (by decide) ?_
      first
        | (exact K56 _ (by unfold sKind; rw [if_pos h1, if_pos h2]))
        | (exact K56 _ (by unfold sKind; rw [if_pos h1, if_neg h2]))
        | (exact K56 _ (by unfold sKind; rw [if_neg h1, if_pos h3]))
        | (exact K56 _ (by unfold sKind; rw [if_neg h1, if_neg h3]))
    · refine q_bipush 11 19 dX8_code_17 bc_11 rfl ?_
      refine q_goto 23 dX8_code_19 (by decide) ?_
      refine q_aload_n 0 24 dX8_code_23 rfl rfl rfl ?_
      refine q_getI 0 27 f_X8_24 dX8_code_24 rfl rfl rfl ?_
      refine q_iadd 28 dX8_code_27 rfl ?_
      refine q_istore_n 1 29 (L' := [_, _]) dX8_code_28 rfl (by decide) rfl rfl ?_
      refine q_goto 56 dX8_code_29 (by decide) ?_
      first
        | (exact K56 _ (by unfold sKind; rw [if_pos h1, if_pos h2]))
        | (exact K56 _ (by unfold sKind; rw [if_pos h1, if_neg h2]))
        | (exact K56 _ (by unfold sKind; rw [if_neg h1, if_pos h3]))
        | (exact K56 _ (by unfold sKind; rw [if_neg h1, if_neg h3]))
def sBr (k r : Int32) (s : Sc) : Sc := sRestart s (r / 16 - 3) (r / 2 - r / 2 / 8 * 8 - 3) (r - r / 2 * 2)
def sBk (k : Int32) (s : Sc) : Sc := if k = 0 then s else if k ≤ 20 then upd (upd (upd s 6 (if k ≤ 10 then 0 else 1)) 3 1) 4 (k - 1 - (k - 1) / 10 * 10) else upd (upd (upd (upd s 6 (if k ≤ 10 then 0 else 1)) 3 2) 4 ((k - 1 - 10 - 10) / 10)) 5 (k - 1 - (k - 1) / 10 * 10)
def sBec (s : Sc) (c : Int32) : Sc := sBk (c - c / 121 * 121) (sBr (c - c / 121 * 121) (c / 121) s)
theorem c_X8_become {l : Launch} {g : Gh} {q : Nat} {s : Sc} {c : Int32} : Cp l g yX8_become (Cond.code yX8_become cX8_become 4 none) 2 [.ref q, .int c] [(q, ob 8 s [])] none [(q, ob 8 (sBec s c) [])] := by
  refine ct_of (M := mtX8_become) [some (.ref q), some (.int c), none, none] rfl (by decide) (Nat.le_of_ble_eq_true rfl) (fun _ h => h) (fun a => ?_)
  unfold sBec
  have K31 : ∀ (k r : Int32) (t : Sc), WPs l g mtX8_become 2 0 0 (pR none [(q, ob 8 (sBk k t) [])]) noX a 31 [some (.ref q), some (.int c), some (.int k), some (.int r)] [] [(q, ob 8 t [])] 0 0 := by
    intro k r t
    unfold sBk
    by_cases h0 : k = 0
    · rw [if_pos h0]
      refine q_iload_n 2 32 dX8_become_31 rfl rfl rfl ?_
      refine q_if_ne 36 35 dX8_become_32 (by decide) rfl (fun h32 => absurd h0 h32) (fun h32 => ?_)
      refine q_return dX8_become_35 rfl ?_
      exact pR.rf
    · rw [if_neg h0]
      by_cases h2 : k ≤ 20
      · rw [if_pos h2]
        by_cases h1 : k ≤ 10
        · rw [if_pos h1]
          refine q_iload_n 2 32 dX8_become_31 rfl rfl rfl ?_
          refine q_if_ne 36 35 dX8_become_32 (by decide) rfl (fun h32 => ?_) (fun h32 => absurd h32 h0)
          refine q_aload_n 0 37 dX8_become_36 rfl rfl rfl ?_
          refine q_iload_n 2 38 dX8_become_37 rfl rfl rfl ?_
          refine q_bipush 10 40 dX8_become_38 bc_10 rfl ?_
          refine q_icmp_le 47 43 dX8_become_40 (by decide) rfl (fun h40 => ?_) (fun h40 => absurd h1 h40)
          refine q_iconst 0 48 dX8_become_47 ic_0 rfl ?_
          refine q_putZ 0 51 (w' := [_]) f_X8_30 ft_X8_6 dX8_become_48 rfl rfl (Or.inl rfl) rfl rfl ?_
          refine q_iload_n 2 52 dX8_become_51 rfl rfl rfl ?_
          refine q_bipush 20 54 dX8_become_52 bc_20 rfl ?_
          refine q_icmp_gt 73 57 dX8_become_54 (by decide) rfl (fun h54 => absurd h54 (Int32.not_lt.mpr h2)) (fun h54 => ?_)
          refine q_aload_n 0 58 dX8_become_57 rfl rfl rfl ?_
          refine q_iconst 1 59 dX8_become_58 ic_1 rfl ?_
          refine q_putI 0 62 (w' := [_]) f_X8_21 ft_X8_3 dX8_become_59 rfl rfl rfl rfl ?_
          refine q_aload_n 0 63 dX8_become_62 rfl rfl rfl ?_
          refine q_iload_n 2 64 dX8_become_63 rfl rfl rfl ?_
          refine q_iconst 1 65 dX8_become_64 ic_1 rfl ?_
          refine q_isub 66 dX8_become_65 rfl ?_
          refine q_bipush 10 68 dX8_become_66 bc_10 rfl ?_
          refine q_irem 69 dX8_become_68 (by decide) rfl ?_
          refine q_putI 0 72 (w' := [_]) f_X8_24 ft_X8_4 dX8_become_69 rfl rfl rfl rfl ?_
          refine q_return dX8_become_72 rfl ?_
          exact pR.rf
        · rw [if_neg h1]
          refine q_iload_n 2 32 dX8_become_31 rfl rfl rfl ?_
          refine q_if_ne 36 35 dX8_become_32 (by decide) rfl (fun h32 => ?_) (fun h32 => absurd h32 h0)
          refine q_aload_n 0 37 dX8_become_36 rfl rfl rfl ?_
          refine q_iload_n 2 38 dX8_become_37 rfl rfl rfl ?_
          refine q_bipush 10 40 dX8_become_38 bc_10 rfl ?_
          refine q_icmp_le 47 43 dX8_become_40 (by decide) rfl (fun h40 => absurd h40 h1) (fun h40 => ?_)
          refine q_iconst 1 44 dX8_become_43 ic_1 rfl ?_
          refine q_goto 48 dX8_become_44 (by decide) ?_
          refine q_putZ 0 51 (w' := [_]) f_X8_30 ft_X8_6 dX8_become_48 rfl rfl (Or.inr rfl) rfl rfl ?_
          refine q_iload_n 2 52 dX8_become_51 rfl rfl rfl ?_
          refine q_bipush 20 54 dX8_become_52 bc_20 rfl ?_
          refine q_icmp_gt 73 57 dX8_become_54 (by decide) rfl (fun h54 => absurd h54 (Int32.not_lt.mpr h2)) (fun h54 => ?_)
          refine q_aload_n 0 58 dX8_become_57 rfl rfl rfl ?_
          refine q_iconst 1 59 dX8_become_58 ic_1 rfl ?_
          refine q_putI 0 62 (w' := [_]) f_X8_21 ft_X8_3 dX8_become_59 rfl rfl rfl rfl ?_
          refine q_aload_n 0 63 dX8_become_62 rfl rfl rfl ?_
          refine q_iload_n 2 64 dX8_become_63 rfl rfl rfl ?_
          refine q_iconst 1 65 dX8_become_64 ic_1 rfl ?_
          refine q_isub 66 dX8_become_65 rfl ?_
          refine q_bipush 10 68 dX8_become_66 bc_10 rfl ?_
          refine q_irem 69 dX8_become_68 (by decide) rfl ?_
          refine q_putI 0 72 (w' := [_]) f_X8_24 ft_X8_4 dX8_become_69 rfl rfl rfl rfl ?_
          refine q_return dX8_become_72 rfl ?_
          exact pR.rf
      · rw [if_neg h2]
        have h1 : ¬ k ≤ 10 := fun h => h2 (Int32.le_trans h (by decide))
        rw [if_neg h1]
        refine q_iload_n 2 32 dX8_become_31 rfl rfl rfl ?_
        refine q_if_ne 36 35 dX8_become_32 (by decide) rfl (fun h32 => ?_) (fun h32 => absurd h32 h0)
        refine q_aload_n 0 37 dX8_become_36 rfl rfl rfl ?_
        refine q_iload_n 2 38 dX8_become_37 rfl rfl rfl ?_
        refine q_bipush 10 40 dX8_become_38 bc_10 rfl ?_
        refine q_icmp_le 47 43 dX8_become_40 (by decide) rfl (fun h40 => absurd h40 h1) (fun h40 => ?_)
        refine q_iconst 1 44 dX8_become_43 ic_1 rfl ?_
        refine q_goto 48 dX8_become_44 (by decide) ?_
        refine q_putZ 0 51 (w' := [_]) f_X8_30 ft_X8_6 dX8_become_48 rfl rfl (Or.inr rfl) rfl rfl ?_
        refine q_iload_n 2 52 dX8_become_51 rfl rfl rfl ?_
        refine q_bipush 20 54 dX8_become_52 bc_20 rfl ?_
        refine q_icmp_gt 73 57 dX8_become_54 (by decide) rfl (fun h54 => ?_) (fun h54 => absurd (Int32.not_le.mp h2) h54)
        refine q_aload_n 0 74 dX8_become_73 rfl rfl rfl ?_
        refine q_iconst 2 75 dX8_become_74 ic_2 rfl ?_
        refine q_putI 0 78 (w' := [_]) f_X8_21 ft_X8_3 dX8_become_75 rfl rfl rfl rfl ?_
        refine q_aload_n 0 79 dX8_become_78 rfl rfl rfl ?_
        refine q_iload_n 2 80 dX8_become_79 rfl rfl rfl ?_
        refine q_iconst 1 81 dX8_become_80 ic_1 rfl ?_
        refine q_isub 82 dX8_become_81 rfl ?_
        refine q_bipush 10 84 dX8_become_82 bc_10 rfl ?_
        refine q_isub 85 dX8_become_84 rfl ?_
        refine q_bipush 10 87 dX8_become_85 bc_10 rfl ?_
        refine q_isub 88 dX8_become_87 rfl ?_
        refine q_bipush 10 90 dX8_become_88 bc_10 rfl ?_
        refine q_idiv 91 dX8_become_90 (by decide) rfl ?_
        refine q_putI 0 94 (w' := [_]) f_X8_24 ft_X8_4 dX8_become_91 rfl rfl rfl rfl ?_
        refine q_aload_n 0 95 dX8_become_94 rfl rfl rfl ?_
        refine q_iload_n 2 96 dX8_become_95 rfl rfl rfl ?_
        refine q_iconst 1 97 dX8_become_96 ic_1 rfl ?_
        refine q_isub 98 dX8_become_97 rfl ?_
        refine q_bipush 10 100 dX8_become_98 bc_10 rfl ?_
        refine q_irem 101 dX8_become_100 (by decide) rfl ?_
        refine q_putI 0 104 (w' := [_]) f_X8_27 ft_X8_5 dX8_become_101 rfl rfl rfl rfl ?_
        refine q_return dX8_become_104 rfl ?_
        exact pR.rf
  refine q_iload_n 1 1 dX8_become_0 rfl rfl rfl ?_
  refine q_bipush 121 3 dX8_become_1 bc_121 rfl ?_
  refine q_irem 4 dX8_become_3 (by decide) rfl ?_
  refine q_istore_n 2 5 (L' := [_, _, _, _]) dX8_become_4 rfl (by decide) rfl rfl ?_
  refine q_iload_n 1 6 dX8_become_5 rfl rfl rfl ?_
  refine q_bipush 121 8 dX8_become_6 bc_121 rfl ?_
  refine q_idiv 9 dX8_become_8 (by decide) rfl ?_
  refine q_istore_n 3 10 (L' := [_, _, _, _]) dX8_become_9 rfl (by decide) rfl rfl ?_
  refine q_aload_n 0 11 dX8_become_10 rfl rfl rfl ?_
  refine q_iload_n 3 12 dX8_become_11 rfl rfl rfl ?_
  refine q_bipush 16 14 dX8_become_12 bc_16 rfl ?_
  refine q_idiv 15 dX8_become_14 (by decide) rfl ?_
  refine q_iconst 3 16 dX8_become_15 ic_3 rfl ?_
  refine q_isub 17 dX8_become_16 rfl ?_
  refine q_iload_n 3 18 dX8_become_17 rfl rfl rfl ?_
  refine q_iconst 2 19 dX8_become_18 ic_2 rfl ?_
  refine q_idiv 20 dX8_become_19 (by decide) rfl ?_
  refine q_bipush 8 22 dX8_become_20 bc_8 rfl ?_
  refine q_irem 23 dX8_become_22 (by decide) rfl ?_
  refine q_iconst 3 24 dX8_become_23 ic_3 rfl ?_
  refine q_isub 25 dX8_become_24 rfl ?_
  refine q_iload_n 3 26 dX8_become_25 rfl rfl rfl ?_
  refine q_iconst 2 27 dX8_become_26 ic_2 rfl ?_
  refine q_irem 28 dX8_become_27 (by decide) rfl ?_
  refine q_cVv 0 [0] [] [0] 31 (wr := []) (w1 := _) (ws' := [_]) c_X8_restart m_X8_85 dX8_become_28 rfl rfl rfl rfl rfl rfl rfl rfl (by decide) (by decide) (by decide) (by decide) (Nat.le_of_ble_eq_true rfl) (by omega) (by omega) (by omega) rfl ?_
  exact K31 _ _ _
/-! ===== Laws: init, takeFrom, addUp, drawOutcome ===== -/
abbrev rL (c : Nat) : List (Option Nat) := [some c, none, none, none, none]
theorem ix12r (j : Nat) : nI j * 12 = nI (12 * j) := by rw [show (12 : Int32) = nI 12 from by decide, pk_mul, Nat.mul_comm]
theorem c_X0_init {l : Launch} {g : Gh} {q : Nat} : Cn l g yX0_init (Cond.code yX0_init cX0_init 2 none) 1 1 192 [.ref q] [(q, ob 0 (fun _ => 0) (List.replicate 5 none))] (fun _ : Nat => none) (fun c : Nat => [(q, ob 0 (upd (fun _ => 0) 1 1) (rL c)), (c, aI g 192 (mI 16))]) (fun _ k n => k = 1 ∧ n = 192) := by
  refine ct_of (M := mtX0_init) [some (.ref q), none] rfl (by decide) (Nat.le_of_ble_eq_true rfl) (fun _ h => h) (fun a => ?_)
  have K : ∀ (cc c j : Nat), cc + j = 16 → WPs l g mtX0_init 1 1 192 (pX (fun _ : Nat => none) (fun c : Nat => [(q, ob 0 (upd (fun _ => 0) 1 1) (rL c)), (c, aI g 192 (mI 16))]) (fun _ k n => k = 1 ∧ n = 192)) noX a 20 [some (.ref q), some (.int (nI j))] [] [(q, ob 0 (upd (fun _ => 0) 1 1) (rL c)), (c, aI g 192 (mI j))] 1 192 := by
    intro cc c
    induction cc with
    | zero =>
      intro j hj
      obtain rfl : j = 16 := by omega
      have hge : (16 : Int32) ≤ nI 16 := by decide
      generalize mI 16 = M9
      refine q_iload_n 1 21 dX0_init_20 rfl rfl rfl ?_
      refine q_bipush 16 23 dX0_init_21 bc_16 rfl ?_
      refine q_icmp_ge 58 26 dX0_init_23 (by decide) rfl (fun h23 => ?_) (fun h23 => absurd hge h23)
      refine q_return dX0_init_58 rfl ?_
      exact pX.mk c ⟨rfl, rfl⟩ rfl rfl
    | succ cc ih =>
      intro j hj
      have hlt : ¬ (16 : Int32) ≤ nI j := nI_ge (b := 16) (by omega) (by decide)
      have K1 := ih (j + 1) (by omega)
      generalize mI 16 = M8 at *
      rw [mI] at K1
      clear ih
      generalize mI j = M9 at *
      generalize hj12 : 12 * j = j12 at *
      refine q_iload_n 1 21 dX0_init_20 rfl rfl rfl ?_
      refine q_bipush 16 23 dX0_init_21 bc_16 rfl ?_
      refine q_icmp_ge 58 26 dX0_init_23 (by decide) rfl (fun h23 => absurd h23 hlt) (fun h23 => ?_)
      refine q_aload_n 0 27 dX0_init_26 rfl rfl rfl ?_
      refine q_getR 0 30 f_X0_9 dX0_init_27 rfl rfl rfl rfl ?_
      refine q_iload_n 1 31 dX0_init_30 rfl rfl rfl ?_
      refine q_bipush 12 33 dX0_init_31 bc_12 rfl ?_
      refine q_imul 34 dX0_init_33 rfl ?_
      rw [ix12r, hj12]
      refine q_iconst 0 35 dX0_init_34 ic_0 rfl ?_
      refine q_iadd 36 dX0_init_35 rfl ?_
      rw [Int32.add_zero]
      refine q_bipush 50 38 dX0_init_36 bc_50 rfl ?_
      refine q_iast 1 j12 39 (w' := [_, _]) dX0_init_38 rfl ⟨rfl, by omega, by decide⟩ rfl rfl ?_
      refine q_aload_n 0 40 dX0_init_39 rfl rfl rfl ?_
      refine q_getR 0 43 f_X0_9 dX0_init_40 rfl rfl rfl rfl ?_
      refine q_iload_n 1 44 dX0_init_43 rfl rfl rfl ?_
      refine q_bipush 12 46 dX0_init_44 bc_12 rfl ?_
      refine q_imul 47 dX0_init_46 rfl ?_
      rw [ix12r, hj12]
      refine q_iconst 1 48 dX0_init_47 ic_1 rfl ?_
      refine q_iadd 49 dX0_init_48 rfl ?_
      rw [nI_1]
      refine q_bipush 50 51 dX0_init_49 bc_50 rfl ?_
      refine q_iast 1 (j12+1) 52 (w' := [_, _]) dX0_init_51 rfl ⟨rfl, by omega, by decide⟩ rfl rfl ?_
      refine q_iinc 1 (nI (j + 1)) 55 (L' := [_, _]) dX0_init_52 rfl (inc1 (j)) (by decide) rfl rfl ?_
      refine q_goto 20 dX0_init_55 (by decide) ?_
      exact K1
  have K0 := fun c => K 16 c 0 rfl
  generalize mI 16 = M8 at *
  rw [show mI 0 = fun _ => 0 from rfl] at K0
  refine q_aload_n 0 1 dX0_init_0 rfl rfl rfl ?_
  refine q_objInit 4 m_X0_3 dX0_init_1 (Nat.le_of_ble_eq_true rfl) (by decide) rfl ?_
  refine q_aload_n 0 5 dX0_init_4 rfl rfl rfl ?_
  refine q_sipush 192 8 dX0_init_5 sc_192 rfl ?_
  refine q_newI (N := 192) 10 dX0_init_8 rfl (by decide) (by omega) (by omega) rfl (fun q8 => ?_)
  refine q_putRF 0 13 (w' := [_, _]) (r' := [_, _, _, _, _]) f_X0_9 ft_X0_0 rfl rfl dX0_init_10 rfl rfl (Nat.le_of_ble_eq_true rfl) rfl rfl rfl rfl rfl ?_
  refine q_aload_n 0 14 dX0_init_13 rfl rfl rfl ?_
  refine q_iconst 1 15 dX0_init_14 ic_1 rfl ?_
  refine q_putI 0 18 (w' := [_, _]) f_X0_15 ft_X0_1 dX0_init_15 rfl rfl rfl rfl ?_
  refine q_iconst 0 19 dX0_init_18 ic_0 rfl ?_
  refine q_istore_n 1 20 (L' := [_, _]) dX0_init_19 rfl (by decide) rfl rfl ?_
  exact K0 _
def lTk (i j : Sc) : Sc := upd (upd (upd (upd i 1 (j 1)) 2 (j 2)) 3 (j 3)) 4 (j 4)
theorem c_X0_takeFrom {l : Launch} {g : Gh} {q c q1 c1 : Nat} {i j f h : Sc} : Cp l g yX0_takeFrom (Cond.code yX0_takeFrom cX0_takeFrom 2 none) 1 [.ref q, .ref q1] [(q, ob 0 i (rL c)), (c, aI g 192 f), (q1, ob 0 j (rL c1)), (c1, aI g 192 h)] none [(q, ob 0 (lTk i j) (rL c)), (c, aI g 192 h), (q1, ob 0 j (rL c1)), (c1, aI g 192 h)] := by
  refine ct_of (M := mtX0_takeFrom) [some (.ref q), some (.ref q1)] rfl (by decide) (Nat.le_of_ble_eq_true rfl) (fun _ h => h) (fun a => ?_)
  refine q_aload_n 1 1 dX0_takeFrom_0 rfl rfl rfl ?_
  refine q_getR 2 4 f_X0_9 dX0_takeFrom_1 rfl rfl rfl rfl ?_
  refine q_iconst 0 5 dX0_takeFrom_4 ic_0 rfl ?_
  refine q_aload_n 0 6 dX0_takeFrom_5 rfl rfl rfl ?_
  refine q_getR 0 9 f_X0_9 dX0_takeFrom_6 rfl rfl rfl rfl ?_
  refine q_iconst 0 10 dX0_takeFrom_9 ic_0 rfl ?_
  refine q_aload_n 0 11 dX0_takeFrom_10 rfl rfl rfl ?_
  refine q_getR 0 14 f_X0_9 dX0_takeFrom_11 rfl rfl rfl rfl ?_
  refine q_alenI 1 _ 15 dX0_takeFrom_14 rfl rfl rfl ?_
  refine q_copyI 3 1 18 (ws' := [_, _, _, _]) ac_X0_19 dX0_takeFrom_15 rfl rfl ⟨⟨(by decide : (0 : Int32) = nI 0), (by decide : (0 : Int32) = nI 0), (by decide : (192 : Int32) = nI 192)⟩, by omega, by omega, by omega, by omega⟩ (Nat.le_of_ble_eq_true rfl) (by omega) rfl rfl ?_
  refine q_ax 1 h rfl (fun k hk => (pk_cpy_in (by omega) (by omega)).trans (by rw [Nat.zero_add, Nat.sub_zero])) rfl ?_
  refine q_aload_n 0 19 dX0_takeFrom_18 rfl rfl rfl ?_
  refine q_aload_n 1 20 dX0_takeFrom_19 rfl rfl rfl ?_
  refine q_getI 2 23 f_X0_15 dX0_takeFrom_20 rfl rfl rfl ?_
  refine q_putI 0 26 (w' := [_, _, _, _]) f_X0_15 ft_X0_1 dX0_takeFrom_23 rfl rfl rfl rfl ?_
  refine q_aload_n 0 27 dX0_takeFrom_26 rfl rfl rfl ?_
  refine q_aload_n 1 28 dX0_takeFrom_27 rfl rfl rfl ?_
  refine q_getI 2 31 f_X0_25 dX0_takeFrom_28 rfl rfl rfl ?_
  refine q_putI 0 34 (w' := [_, _, _, _]) f_X0_25 ft_X0_2 dX0_takeFrom_31 rfl rfl rfl rfl ?_
  refine q_aload_n 0 35 dX0_takeFrom_34 rfl rfl rfl ?_
  refine q_aload_n 1 36 dX0_takeFrom_35 rfl rfl rfl ?_
  refine q_getI 2 39 f_X0_28 dX0_takeFrom_36 rfl rfl rfl ?_
  refine q_putI 0 42 (w' := [_, _, _, _]) f_X0_28 ft_X0_3 dX0_takeFrom_39 rfl rfl rfl rfl ?_
  refine q_aload_n 0 43 dX0_takeFrom_42 rfl rfl rfl ?_
  refine q_aload_n 1 44 dX0_takeFrom_43 rfl rfl rfl ?_
  refine q_getI 2 47 f_X0_31 dX0_takeFrom_44 rfl rfl rfl ?_
  refine q_putI 0 50 (w' := [_, _, _, _]) f_X0_31 ft_X0_4 dX0_takeFrom_47 rfl rfl rfl rfl ?_
  refine q_return dX0_takeFrom_50 rfl ?_
  exact pR.rf
def su (f : Sc) (b : Nat) : Nat → Int32
  | 0 => 0
  | k + 1 => su f b k + f (b + k)
def auV (f : Sc) : Nat → Nat → Int32
  | 0, _ => 1
  | c + 1, p => if su f (12 * p) 12 = 100 then auV f c (p + 1) else 0
theorem auV_or (f : Sc) : ∀ c p, auV f c p = 0 ∨ auV f c p = 1
  | 0, _ => Or.inr rfl
  | c + 1, p => by
    rw [auV]
    split
    · exact auV_or f c _
    · exact Or.inl rfl
theorem ix12a (p k : Nat) : nI p * 12 + nI k = nI (12 * p + k) := by rw [ix12r, nI_add]
theorem c_X0_addUp {l : Launch} {g : Gh} {q c : Nat} {i f : Sc} : Cp l g yX0_addUp (Cond.code yX0_addUp cX0_addUp 4 (some .boolean)) 1 [.ref q] [(q, ob 0 i (rL c)), (c, aI g 192 f)] (some (.int (auV f 16 0))) [(q, ob 0 i (rL c)), (c, aI g 192 f)] := by
  refine ct_of (M := mtX0_addUp) [some (.ref q), none, none, none] rfl (by decide) (Nat.le_of_ble_eq_true rfl) (fun _ h => h) (fun a => ?_)
  have K2 : ∀ (cc p : Nat), cc + p = 16 → ∀ (r : Int32) (z2 z3 : Option Value), auV f cc p = r → WPs l g mtX0_addUp 1 0 0 (pR (some (.int r)) [(q, ob 0 i (rL c)), (c, aI g 192 f)]) noX a 2 [some (.ref q), some (.int (nI p)), z2, z3] [] [(q, ob 0 i (rL c)), (c, aI g 192 f)] 0 0 := by
    intro cc
    induction cc with
    | zero =>
      intro p hp r z2 z3 hr
      obtain rfl : p = 16 := by omega
      have hr : 1 = r := hr
      subst hr
      have hge : (16 : Int32) ≤ nI 16 := by decide
      refine q_iload_n 1 3 dX0_addUp_2 rfl rfl rfl ?_
      refine q_bipush 16 5 dX0_addUp_3 bc_16 rfl ?_
      refine q_icmp_ge 52 8 dX0_addUp_5 (by decide) rfl (fun h5 => ?_) (fun h5 => absurd hge h5)
      refine q_iconst 1 53 dX0_addUp_52 ic_1 rfl ?_
      refine q_zreturn dX0_addUp_53 rfl (Or.inr rfl) ?_
      exact pR.rf
    | succ cc ih =>
      intro p hp r z2 z3 hr
      rw [auV] at hr
      have hlt : ¬ (16 : Int32) ≤ nI p := nI_ge (b := 16) (by omega) (by decide)
      have K12 : ∀ (c9 k : Nat), c9 + k = 12 → WPs l g mtX0_addUp 1 0 0 (pR (some (.int r)) [(q, ob 0 i (rL c)), (c, aI g 192 f)]) noX a 12 [some (.ref q), some (.int (nI p)), some (.int (su f (12 * p) k)), some (.int (nI k))] [] [(q, ob 0 i (rL c)), (c, aI g 192 f)] 0 0 := by
        intro c9
        induction c9 with
        | zero =>
          intro k hk
          obtain rfl : k = 12 := by omega
          have hge : (12 : Int32) ≤ nI 12 := by decide
          by_cases h : su f (12 * p) 12 = 100
          · rw [if_pos h] at hr
            have K1 := ih (p + 1) (by omega) r
            clear ih
            generalize su f (12 * p) 12 = v at *
            refine q_iload_n 3 13 dX0_addUp_12 rfl rfl rfl ?_
            refine q_bipush 12 15 dX0_addUp_13 bc_12 rfl ?_
            refine q_icmp_ge 38 18 dX0_addUp_15 (by decide) rfl (fun h15 => ?_) (fun h15 => absurd hge h15)
            refine q_iload_n 2 39 dX0_addUp_38 rfl rfl rfl ?_
            refine q_bipush 100 41 dX0_addUp_39 bc_100 rfl ?_
            refine q_icmp_eq 46 44 dX0_addUp_41 (by decide) rfl (fun h41 => ?_) (fun h41 => absurd h h41)
            refine q_iinc 1 (nI (p + 1)) 49 (L' := [_, _, _, _]) dX0_addUp_46 rfl (inc1 (p)) (by decide) rfl rfl ?_
            refine q_goto 2 dX0_addUp_49 (by decide) ?_
            exact K1 _ _ hr
          · rw [if_neg h] at hr
            subst hr
            clear ih
            generalize su f (12 * p) 12 = v at *
            refine q_iload_n 3 13 dX0_addUp_12 rfl rfl rfl ?_
            refine q_bipush 12 15 dX0_addUp_13 bc_12 rfl ?_
            refine q_icmp_ge 38 18 dX0_addUp_15 (by decide) rfl (fun h15 => ?_) (fun h15 => absurd hge h15)
            refine q_iload_n 2 39 dX0_addUp_38 rfl rfl rfl ?_
            refine q_bipush 100 41 dX0_addUp_39 bc_100 rfl ?_
            refine q_icmp_eq 46 44 dX0_addUp_41 (by decide) rfl (fun h41 => absurd h41 h) (fun h41 => ?_)
            refine q_iconst 0 45 dX0_addUp_44 ic_0 rfl ?_
            refine q_zreturn dX0_addUp_45 rfl (Or.inl rfl) ?_
            exact pR.rf
        | succ c9 ih9 =>
          intro k hk
          have hlt2 : ¬ (12 : Int32) ≤ nI k := nI_ge (b := 12) (by omega) (by decide)
          have K1 := ih9 (k + 1) (by omega)
          rw [show su f (12 * p) (k + 1) = su f (12 * p) k + f (12 * p + k) from rfl] at K1
          clear ih ih9 hr
          have b1 : 12 * p + k < 192 := by omega
          generalize su f (12 * p) k = v at *
          generalize hk1 : 12 * p + k = k1 at *
          refine q_iload_n 3 13 dX0_addUp_12 rfl rfl rfl ?_
          refine q_bipush 12 15 dX0_addUp_13 bc_12 rfl ?_
          refine q_icmp_ge 38 18 dX0_addUp_15 (by decide) rfl (fun h15 => absurd h15 hlt2) (fun h15 => ?_)
          refine q_iload_n 2 19 dX0_addUp_18 rfl rfl rfl ?_
          refine q_aload_n 0 20 dX0_addUp_19 rfl rfl rfl ?_
          refine q_getR 0 23 f_X0_9 dX0_addUp_20 rfl rfl rfl rfl ?_
          refine q_iload_n 1 24 dX0_addUp_23 rfl rfl rfl ?_
          refine q_bipush 12 26 dX0_addUp_24 bc_12 rfl ?_
          refine q_imul 27 dX0_addUp_26 rfl ?_
          refine q_iload_n 3 28 dX0_addUp_27 rfl rfl rfl ?_
          refine q_iadd 29 dX0_addUp_28 rfl ?_
          rw [ix12a, hk1]
          refine q_iald 1 k1 30 dX0_addUp_29 rfl ⟨rfl, by omega, by decide⟩ rfl ?_
          refine q_iadd 31 dX0_addUp_30 rfl ?_
          refine q_istore_n 2 32 (L' := [_, _, _, _]) dX0_addUp_31 rfl (by decide) rfl rfl ?_
          refine q_iinc 3 (nI (k + 1)) 35 (L' := [_, _, _, _]) dX0_addUp_32 rfl (inc1 (k)) (by decide) rfl rfl ?_
          refine q_goto 12 dX0_addUp_35 (by decide) ?_
          exact K1
      have K1 := K12 12 0 rfl
      rw [show su f (12 * p) 0 = 0 from rfl] at K1
      clear ih hr K12
      refine q_iload_n 1 3 dX0_addUp_2 rfl rfl rfl ?_
      refine q_bipush 16 5 dX0_addUp_3 bc_16 rfl ?_
      refine q_icmp_ge 52 8 dX0_addUp_5 (by decide) rfl (fun h5 => absurd h5 hlt) (fun h5 => ?_)
      refine q_iconst 0 9 dX0_addUp_8 ic_0 rfl ?_
      refine q_istore_n 2 10 (L' := [_, _, _, _]) dX0_addUp_9 rfl (by decide) rfl rfl ?_
      refine q_iconst 0 11 dX0_addUp_10 ic_0 rfl ?_
      refine q_istore_n 3 12 (L' := [_, _, _, _]) dX0_addUp_11 rfl (by decide) rfl rfl ?_
      exact K1
  have K1 := fun z2 z3 => K2 16 0 rfl _ z2 z3 rfl
  generalize auV f 16 0 = r at *
  refine q_iconst 0 1 dX0_addUp_0 ic_0 rfl ?_
  refine q_istore_n 1 2 (L' := [_, _, _, _]) dX0_addUp_1 rfl (by decide) rfl rfl ?_
  exact K1 _ _
def dwO (f : Sc) (b : Nat) (dr : Int32) : Nat → Nat → Nat
  | 0, o => o
  | c + 1, o => if dr < su f b (o + 1) then o else dwO f b dr c (o + 1)
theorem c_X0_drawOutcome {l : Launch} {g : Gh} {q c p : Nat} {i f : Sc} {dr : Int32} (hp : p < 16) : Cp l g yX0_drawOutcome (Cond.code yX0_drawOutcome cX0_drawOutcome 5 (some .int)) 1 [.ref q, .int (nI p), .int dr] [(q, ob 0 i (rL c)), (c, aI g 192 f)] (some (.int (nI (dwO f (12 * p) dr 11 0)))) [(q, ob 0 i (rL c)), (c, aI g 192 f)] := by
  refine ct_of (M := mtX0_drawOutcome) [some (.ref q), some (.int (nI p)), some (.int dr), none, none] rfl (by decide) (Nat.le_of_ble_eq_true rfl) (fun _ h => h) (fun a => ?_)
  have K : ∀ (cc o : Nat), cc + o = 11 → ∀ r : Nat, dwO f (12 * p) dr cc o = r → WPs l g mtX0_drawOutcome 1 0 0 (pR (some (.int (nI r))) [(q, ob 0 i (rL c)), (c, aI g 192 f)]) noX a 5 [some (.ref q), some (.int (nI p)), some (.int dr), some (.int (su f (12 * p) o)), some (.int (nI o))] [] [(q, ob 0 i (rL c)), (c, aI g 192 f)] 0 0 := by
    intro cc
    induction cc with
    | zero =>
      intro o ho r hr
      obtain rfl : o = 11 := by omega
      have hr : 11 = r := hr
      subst hr
      have hge : (11 : Int32) ≤ nI 11 := by decide
      generalize su f (12 * p) 11 = v at *
      refine q_iload 4 7 dX0_drawOutcome_5 rfl rfl ?_
      refine q_bipush 11 9 dX0_drawOutcome_7 bc_11 rfl ?_
      refine q_icmp_ge 41 12 dX0_drawOutcome_9 (by decide) rfl (fun h9 => ?_) (fun h9 => absurd hge h9)
      refine q_bipush 11 43 dX0_drawOutcome_41 bc_11 rfl ?_
      refine q_ireturn dX0_drawOutcome_43 rfl ?_
      exact pR.mk rfl rfl
    | succ cc ih =>
      intro o ho r hr
      rw [dwO] at hr
      have hlt : ¬ (11 : Int32) ≤ nI o := nI_ge (b := 11) (by omega) (by decide)
      have b1 : 12 * p + o < 192 := by omega
      have es : su f (12 * p) (o + 1) = su f (12 * p) o + f (12 * p + o) := rfl
      by_cases h : dr < su f (12 * p) (o + 1)
      · rw [if_pos h] at hr
        subst hr
        clear ih
        rw [es] at h
        generalize su f (12 * p) (o + 1) = v1 at *
        generalize su f (12 * p) o = v at *
        generalize hk1 : 12 * p + o = k1 at *
        refine q_iload 4 7 dX0_drawOutcome_5 rfl rfl ?_
        refine q_bipush 11 9 dX0_drawOutcome_7 bc_11 rfl ?_
        refine q_icmp_ge 41 12 dX0_drawOutcome_9 (by decide) rfl (fun h9 => absurd h9 hlt) (fun h9 => ?_)
        refine q_iload_n 3 13 dX0_drawOutcome_12 rfl rfl rfl ?_
        refine q_aload_n 0 14 dX0_drawOutcome_13 rfl rfl rfl ?_
        refine q_getR 0 17 f_X0_9 dX0_drawOutcome_14 rfl rfl rfl rfl ?_
        refine q_iload_n 1 18 dX0_drawOutcome_17 rfl rfl rfl ?_
        refine q_bipush 12 20 dX0_drawOutcome_18 bc_12 rfl ?_
        refine q_imul 21 dX0_drawOutcome_20 rfl ?_
        refine q_iload 4 23 dX0_drawOutcome_21 rfl rfl ?_
        refine q_iadd 24 dX0_drawOutcome_23 rfl ?_
        rw [ix12a, hk1]
        refine q_iald 1 k1 25 dX0_drawOutcome_24 rfl ⟨rfl, by omega, by decide⟩ rfl ?_
        refine q_iadd 26 dX0_drawOutcome_25 rfl ?_
        refine q_istore_n 3 27 (L' := [_, _, _, _, _]) dX0_drawOutcome_26 rfl (by decide) rfl rfl ?_
        refine q_iload_n 2 28 dX0_drawOutcome_27 rfl rfl rfl ?_
        refine q_iload_n 3 29 dX0_drawOutcome_28 rfl rfl rfl ?_
        refine q_icmp_ge 35 32 dX0_drawOutcome_29 (by decide) rfl (fun h29 => absurd h29 (Int32.not_le.mpr h)) (fun h29 => ?_)
        refine q_iload 4 34 dX0_drawOutcome_32 rfl rfl ?_
        refine q_ireturn dX0_drawOutcome_34 rfl ?_
        exact pR.rf
      · rw [if_neg h] at hr
        have K1 := ih (o + 1) (by omega) r hr
        clear ih
        rw [es] at h K1
        generalize su f (12 * p) (o + 1) = v1 at *
        generalize su f (12 * p) o = v at *
        generalize hk1 : 12 * p + o = k1 at *
        refine q_iload 4 7 dX0_drawOutcome_5 rfl rfl ?_
        refine q_bipush 11 9 dX0_drawOutcome_7 bc_11 rfl ?_
        refine q_icmp_ge 41 12 dX0_drawOutcome_9 (by decide) rfl (fun h9 => absurd h9 hlt) (fun h9 => ?_)
        refine q_iload_n 3 13 dX0_drawOutcome_12 rfl rfl rfl ?_
        refine q_aload_n 0 14 dX0_drawOutcome_13 rfl rfl rfl ?_
        refine q_getR 0 17 f_X0_9 dX0_drawOutcome_14 rfl rfl rfl rfl ?_
        refine q_iload_n 1 18 dX0_drawOutcome_17 rfl rfl rfl ?_
        refine q_bipush 12 20 dX0_drawOutcome_18 bc_12 rfl ?_
        refine q_imul 21 dX0_drawOutcome_20 rfl ?_
        refine q_iload 4 23 dX0_drawOutcome_21 rfl rfl ?_
        refine q_iadd 24 dX0_drawOutcome_23 rfl ?_
        rw [ix12a, hk1]
        refine q_iald 1 k1 25 dX0_drawOutcome_24 rfl ⟨rfl, by omega, by decide⟩ rfl ?_
        refine q_iadd 26 dX0_drawOutcome_25 rfl ?_
        refine q_istore_n 3 27 (L' := [_, _, _, _, _]) dX0_drawOutcome_26 rfl (by decide) rfl rfl ?_
        refine q_iload_n 2 28 dX0_drawOutcome_27 rfl rfl rfl ?_
        refine q_iload_n 3 29 dX0_drawOutcome_28 rfl rfl rfl ?_
        refine q_icmp_ge 35 32 dX0_drawOutcome_29 (by decide) rfl (fun h29 => ?_) (fun h29 => absurd (Int32.not_lt.mp h) h29)
        refine q_iinc 4 (nI (o + 1)) 38 (L' := [_, _, _, _, _]) dX0_drawOutcome_35 rfl (inc1 (o)) (by decide) rfl rfl ?_
        refine q_goto 5 dX0_drawOutcome_38 (by decide) ?_
        exact K1
  have K1 := K 11 0 rfl _ rfl
  rw [show su f (12 * p) 0 = 0 from rfl] at K1
  generalize dwO f (12 * p) dr 11 0 = r at *
  refine q_iconst 0 1 dX0_drawOutcome_0 ic_0 rfl ?_
  refine q_istore_n 3 2 (L' := [_, _, _, _, _]) dX0_drawOutcome_1 rfl (by decide) rfl rfl ?_
  refine q_iconst 0 3 dX0_drawOutcome_2 ic_0 rfl ?_
  refine q_istore 4 5 (L' := [_, _, _, _, _]) dX0_drawOutcome_3 (by decide) rfl rfl ?_
  exact K1

