/-! ===== the reference, on: bisque, told, numbers, copies ===== -/
def iBis (i x : Sc) (p : Int32) : Sc := iPt (upd i 17 (-1)) x p
def rBis (m x : Sc) (p : Int32) : Sc := if x 6 = 1 then rPt m x p else rEnds m (rPt m x p)
theorem c_M_takesBisque {l : Launch} {g : Gh} {q : Nat} {A : Nat → Nat} {i : Nat → Int32} {m x : Sc} {p : Int32} (hp : p = 0 ∨ p = 1) : Cp l g yX12_takesBisque (Cond.code yX12_takesBisque cX12_takesBisque 3 none) 3 [.ref q, .int p] [(q, ob 12 i (rM A)), (A 1, aI g 2616 m), (A 16, aI g 9 x)] none [(q, ob 12 (iBis i x p) (rM A)), (A 1, aI g 2616 m), (A 16, aI g 9 (rBis m x p))] := by
  refine ct_of (M := mtX12_takesBisque) [some (.ref q), some (.int p), none] rfl (by decide) (Nat.le_of_ble_eq_true rfl) (fun _ h => h) (fun a => ?_)
  by_cases hoff : x 6 = 1
  · rw [show rBis m x p = rPt m x p from if_pos hoff]
    refine q_aload_n 0 1 dX12_takesBisque_0 rfl rfl rfl ?_
    refine q_iconst (-1) 2 dX12_takesBisque_1 ic_m1 rfl ?_
    refine q_putI 0 5 (w' := [_, _, _]) f_X12_215 ft_X12_17 dX12_takesBisque_2 rfl rfl rfl rfl ?_
    refine q_aload_n 0 6 dX12_takesBisque_5 rfl rfl rfl ?_
    refine q_getR 0 9 f_X12_29 dX12_takesBisque_6 rfl rfl rfl rfl ?_
    refine q_bipush 6 11 dX12_takesBisque_9 bc_6 rfl ?_
    refine q_iald 2 6 12 dX12_takesBisque_11 rfl ⟨by decide, by decide, by decide⟩ rfl ?_
    refine q_iconst 1 13 dX12_takesBisque_12 ic_1 rfl ?_
    refine q_icmp_ne 20 16 dX12_takesBisque_13 (by decide) rfl (fun h13 => absurd hoff h13) (fun h13 => ?_)
    refine q_iconst 1 17 dX12_takesBisque_16 ic_1 rfl ?_
    refine q_goto 21 dX12_takesBisque_17 (by decide) ?_
    refine q_istore_n 2 22 (L' := [_, _, _]) dX12_takesBisque_21 rfl (by decide) rfl rfl ?_
    refine q_aload_n 0 23 dX12_takesBisque_22 rfl rfl rfl ?_
    refine q_iload_n 1 24 dX12_takesBisque_23 rfl rfl rfl ?_
    refine q_cVv 0 [0, 1, 2] [] [0, 1, 2] 27 (wr := []) (w1 := _) (ws' := [_, _, _]) (c_M_point hp) m_X12_218 dX12_takesBisque_24 rfl rfl rfl rfl rfl rfl rfl rfl (by decide) (by decide) (by decide) (by decide) (Nat.le_of_ble_eq_true rfl) (by omega) (by omega) (by omega) rfl ?_
    refine q_iload_n 2 28 dX12_takesBisque_27 rfl rfl rfl ?_
    refine q_if_ne 35 31 dX12_takesBisque_28 (by decide) rfl (fun h28 => ?_) (fun h28 => absurd h28 (by decide))
    refine q_return dX12_takesBisque_35 rfl ?_
    exact pR.rf
  · rw [show rBis m x p = rEnds m (rPt m x p) from if_neg hoff]
    refine q_aload_n 0 1 dX12_takesBisque_0 rfl rfl rfl ?_
    refine q_iconst (-1) 2 dX12_takesBisque_1 ic_m1 rfl ?_
    refine q_putI 0 5 (w' := [_, _, _]) f_X12_215 ft_X12_17 dX12_takesBisque_2 rfl rfl rfl rfl ?_
    refine q_aload_n 0 6 dX12_takesBisque_5 rfl rfl rfl ?_
    refine q_getR 0 9 f_X12_29 dX12_takesBisque_6 rfl rfl rfl rfl ?_
    refine q_bipush 6 11 dX12_takesBisque_9 bc_6 rfl ?_
    refine q_iald 2 6 12 dX12_takesBisque_11 rfl ⟨by decide, by decide, by decide⟩ rfl ?_
    refine q_iconst 1 13 dX12_takesBisque_12 ic_1 rfl ?_
    refine q_icmp_ne 20 16 dX12_takesBisque_13 (by decide) rfl (fun h13 => ?_) (fun h13 => absurd h13 hoff)
    refine q_iconst 0 21 dX12_takesBisque_20 ic_0 rfl ?_
    refine q_istore_n 2 22 (L' := [_, _, _]) dX12_takesBisque_21 rfl (by decide) rfl rfl ?_
    refine q_aload_n 0 23 dX12_takesBisque_22 rfl rfl rfl ?_
    refine q_iload_n 1 24 dX12_takesBisque_23 rfl rfl rfl ?_
    refine q_cVv 0 [0, 1, 2] [] [0, 1, 2] 27 (wr := []) (w1 := _) (ws' := [_, _, _]) (c_M_point hp) m_X12_218 dX12_takesBisque_24 rfl rfl rfl rfl rfl rfl rfl rfl (by decide) (by decide) (by decide) (by decide) (Nat.le_of_ble_eq_true rfl) (by omega) (by omega) (by omega) rfl ?_
    refine q_iload_n 2 28 dX12_takesBisque_27 rfl rfl rfl ?_
    refine q_if_ne 35 31 dX12_takesBisque_28 (by decide) rfl (fun h28 => absurd (by decide) h28) (fun h28 => ?_)
    refine q_aload_n 0 32 dX12_takesBisque_31 rfl rfl rfl ?_
    refine q_cVv 0 [0, 1, 2] [] [0, 1, 2] 35 (wr := []) (w1 := _) (ws' := [_, _, _]) c_M_changes m_X12_221 dX12_takesBisque_32 rfl rfl rfl rfl rfl rfl rfl rfl (by decide) (by decide) (by decide) (by decide) (Nat.le_of_ble_eq_true rfl) (by omega) (by omega) (by omega) rfl ?_
    refine q_return dX12_takesBisque_35 rfl ?_
    exact pR.rf
def rTold (x : Sc) (w : Nat) : Int32 := if w = 4 then (if x 3 ≤ 0 then -1 else x 4) else if w = 5 then (if x 3 ≤ 1 then -1 else x 5) else if w = 9 then (if rWin (x 0) (x 1) = 0 ∧ rWin (x 1) (x 0) = 0 then 0 else 1) else x w
theorem c_M_told_0 {l : Launch} {g : Gh} {q : Nat} {A : Nat → Nat} {i : Nat → Int32} {x : Sc} : Cp l g yX12_told (Cond.code yX12_told cX12_told 2 (some .int)) 2 [.ref q, .int 0] [(q, ob 12 i (rM A)), (A 16, aI g 9 x)] (some (.int (rTold x 0))) [(q, ob 12 i (rM A)), (A 16, aI g 9 x)] := by
  refine ct_of (M := mtX12_told) [some (.ref q), some (.int 0)] rfl (by decide) (Nat.le_of_ble_eq_true rfl) (fun _ h => h) (fun a => ?_)
  refine q_iload_n 1 1 dX12_told_0 rfl rfl rfl ?_
  refine q_iconst 3 2 dX12_told_1 ic_3 rfl ?_
  refine q_icmp_ne 12 5 dX12_told_2 (by decide) rfl (fun h2 => ?_) (fun h2 => absurd h2 (by decide))
  refine q_iload_n 1 13 dX12_told_12 rfl rfl rfl ?_
  refine q_iconst 4 14 dX12_told_13 ic_4 rfl ?_
  refine q_icmp_ne 37 17 dX12_told_14 (by decide) rfl (fun h14 => ?_) (fun h14 => absurd h14 (by decide))
  refine q_iload_n 1 38 dX12_told_37 rfl rfl rfl ?_
  refine q_iconst 5 39 dX12_told_38 ic_5 rfl ?_
  refine q_icmp_ne 63 42 dX12_told_39 (by decide) rfl (fun h39 => ?_) (fun h39 => absurd h39 (by decide))
  refine q_iload_n 1 64 dX12_told_63 rfl rfl rfl ?_
  refine q_bipush 9 66 dX12_told_64 bc_9 rfl ?_
  refine q_icmp_ne 93 69 dX12_told_66 (by decide) rfl (fun h66 => ?_) (fun h66 => absurd h66 (by decide))
  refine q_aload_n 0 94 dX12_told_93 rfl rfl rfl ?_
  refine q_getR 0 97 f_X12_29 dX12_told_94 rfl rfl rfl rfl ?_
  refine q_iload_n 1 98 dX12_told_97 rfl rfl rfl ?_
  refine q_iald 1 0 99 dX12_told_98 rfl ⟨by decide, by decide, by decide⟩ rfl ?_
  refine q_ireturn dX12_told_99 rfl ?_
  exact pR.mk (by simp_all [rTold, sMine_0, sHis_0, sMine_1, sHis_1]) rfl
theorem c_M_told_1 {l : Launch} {g : Gh} {q : Nat} {A : Nat → Nat} {i : Nat → Int32} {x : Sc} : Cp l g yX12_told (Cond.code yX12_told cX12_told 2 (some .int)) 2 [.ref q, .int 1] [(q, ob 12 i (rM A)), (A 16, aI g 9 x)] (some (.int (rTold x 1))) [(q, ob 12 i (rM A)), (A 16, aI g 9 x)] := by
  refine ct_of (M := mtX12_told) [some (.ref q), some (.int 1)] rfl (by decide) (Nat.le_of_ble_eq_true rfl) (fun _ h => h) (fun a => ?_)
  refine q_iload_n 1 1 dX12_told_0 rfl rfl rfl ?_
  refine q_iconst 3 2 dX12_told_1 ic_3 rfl ?_
  refine q_icmp_ne 12 5 dX12_told_2 (by decide) rfl (fun h2 => ?_) (fun h2 => absurd h2 (by decide))
  refine q_iload_n 1 13 dX12_told_12 rfl rfl rfl ?_
  refine q_iconst 4 14 dX12_told_13 ic_4 rfl ?_
  refine q_icmp_ne 37 17 dX12_told_14 (by decide) rfl (fun h14 => ?_) (fun h14 => absurd h14 (by decide))
  refine q_iload_n 1 38 dX12_told_37 rfl rfl rfl ?_
  refine q_iconst 5 39 dX12_told_38 ic_5 rfl ?_
  refine q_icmp_ne 63 42 dX12_told_39 (by decide) rfl (fun h39 => ?_) (fun h39 => absurd h39 (by decide))
  refine q_iload_n 1 64 dX12_told_63 rfl rfl rfl ?_
  refine q_bipush 9 66 dX12_told_64 bc_9 rfl ?_
  refine q_icmp_ne 93 69 dX12_told_66 (by decide) rfl (fun h66 => ?_) (fun h66 => absurd h66 (by decide))
  refine q_aload_n 0 94 dX12_told_93 rfl rfl rfl ?_
  refine q_getR 0 97 f_X12_29 dX12_told_94 rfl rfl rfl rfl ?_
  refine q_iload_n 1 98 dX12_told_97 rfl rfl rfl ?_
  refine q_iald 1 1 99 dX12_told_98 rfl ⟨by decide, by decide, by decide⟩ rfl ?_
  refine q_ireturn dX12_told_99 rfl ?_
  exact pR.mk (by simp_all [rTold, sMine_0, sHis_0, sMine_1, sHis_1]) rfl
theorem c_M_told_2 {l : Launch} {g : Gh} {q : Nat} {A : Nat → Nat} {i : Nat → Int32} {x : Sc} : Cp l g yX12_told (Cond.code yX12_told cX12_told 2 (some .int)) 2 [.ref q, .int 2] [(q, ob 12 i (rM A)), (A 16, aI g 9 x)] (some (.int (rTold x 2))) [(q, ob 12 i (rM A)), (A 16, aI g 9 x)] := by
  refine ct_of (M := mtX12_told) [some (.ref q), some (.int 2)] rfl (by decide) (Nat.le_of_ble_eq_true rfl) (fun _ h => h) (fun a => ?_)
  refine q_iload_n 1 1 dX12_told_0 rfl rfl rfl ?_
  refine q_iconst 3 2 dX12_told_1 ic_3 rfl ?_
  refine q_icmp_ne 12 5 dX12_told_2 (by decide) rfl (fun h2 => ?_) (fun h2 => absurd h2 (by decide))
  refine q_iload_n 1 13 dX12_told_12 rfl rfl rfl ?_
  refine q_iconst 4 14 dX12_told_13 ic_4 rfl ?_
  refine q_icmp_ne 37 17 dX12_told_14 (by decide) rfl (fun h14 => ?_) (fun h14 => absurd h14 (by decide))
  refine q_iload_n 1 38 dX12_told_37 rfl rfl rfl ?_
  refine q_iconst 5 39 dX12_told_38 ic_5 rfl ?_
  refine q_icmp_ne 63 42 dX12_told_39 (by decide) rfl (fun h39 => ?_) (fun h39 => absurd h39 (by decide))
  refine q_iload_n 1 64 dX12_told_63 rfl rfl rfl ?_
  refine q_bipush 9 66 dX12_told_64 bc_9 rfl ?_
  refine q_icmp_ne 93 69 dX12_told_66 (by decide) rfl (fun h66 => ?_) (fun h66 => absurd h66 (by decide))
  refine q_aload_n 0 94 dX12_told_93 rfl rfl rfl ?_
  refine q_getR 0 97 f_X12_29 dX12_told_94 rfl rfl rfl rfl ?_
  refine q_iload_n 1 98 dX12_told_97 rfl rfl rfl ?_
  refine q_iald 1 2 99 dX12_told_98 rfl ⟨by decide, by decide, by decide⟩ rfl ?_
  refine q_ireturn dX12_told_99 rfl ?_
  exact pR.mk (by simp_all [rTold, sMine_0, sHis_0, sMine_1, sHis_1]) rfl
theorem c_M_told_3 {l : Launch} {g : Gh} {q : Nat} {A : Nat → Nat} {i : Nat → Int32} {x : Sc} : Cp l g yX12_told (Cond.code yX12_told cX12_told 2 (some .int)) 2 [.ref q, .int 3] [(q, ob 12 i (rM A)), (A 16, aI g 9 x)] (some (.int (rTold x 3))) [(q, ob 12 i (rM A)), (A 16, aI g 9 x)] := by
  refine ct_of (M := mtX12_told) [some (.ref q), some (.int 3)] rfl (by decide) (Nat.le_of_ble_eq_true rfl) (fun _ h => h) (fun a => ?_)
  refine q_iload_n 1 1 dX12_told_0 rfl rfl rfl ?_
  refine q_iconst 3 2 dX12_told_1 ic_3 rfl ?_
  refine q_icmp_ne 12 5 dX12_told_2 (by decide) rfl (fun h2 => absurd (by decide) h2) (fun h2 => ?_)
  refine q_aload_n 0 6 dX12_told_5 rfl rfl rfl ?_
  refine q_getR 0 9 f_X12_29 dX12_told_6 rfl rfl rfl rfl ?_
  refine q_iconst 3 10 dX12_told_9 ic_3 rfl ?_
  refine q_iald 1 3 11 dX12_told_10 rfl ⟨by decide, by decide, by decide⟩ rfl ?_
  refine q_ireturn dX12_told_11 rfl ?_
  exact pR.mk (by simp_all [rTold, sMine_0, sHis_0, sMine_1, sHis_1]) rfl
theorem c_M_told_4 {l : Launch} {g : Gh} {q : Nat} {A : Nat → Nat} {i : Nat → Int32} {x : Sc} : Cp l g yX12_told (Cond.code yX12_told cX12_told 2 (some .int)) 2 [.ref q, .int 4] [(q, ob 12 i (rM A)), (A 16, aI g 9 x)] (some (.int (rTold x 4))) [(q, ob 12 i (rM A)), (A 16, aI g 9 x)] := by
  refine ct_of (M := mtX12_told) [some (.ref q), some (.int 4)] rfl (by decide) (Nat.le_of_ble_eq_true rfl) (fun _ h => h) (fun a => ?_)
  refine q_iload_n 1 1 dX12_told_0 rfl rfl rfl ?_
  refine q_iconst 3 2 dX12_told_1 ic_3 rfl ?_
  refine q_icmp_ne 12 5 dX12_told_2 (by decide) rfl (fun h2 => ?_) (fun h2 => absurd h2 (by decide))
  refine q_iload_n 1 13 dX12_told_12 rfl rfl rfl ?_
  refine q_iconst 4 14 dX12_told_13 ic_4 rfl ?_
  refine q_icmp_ne 37 17 dX12_told_14 (by decide) rfl (fun h14 => absurd (by decide) h14) (fun h14 => ?_)
  refine q_aload_n 0 18 dX12_told_17 rfl rfl rfl ?_
  refine q_getR 0 21 f_X12_29 dX12_told_18 rfl rfl rfl rfl ?_
  refine q_iconst 3 22 dX12_told_21 ic_3 rfl ?_
  refine q_iald 1 3 23 dX12_told_22 rfl ⟨by decide, by decide, by decide⟩ rfl ?_
  refine q_if_le 35 26 dX12_told_23 (by decide) rfl (fun h23 => ?_) (fun h23 => ?_)
  · refine q_iconst (-1) 36 dX12_told_35 ic_m1 rfl ?_
    refine q_ireturn dX12_told_36 rfl ?_
    exact pR.mk (by show _ = some (Value.int (if x 3 ≤ 0 then -1 else x 4)); split <;> first | rfl | (exfalso; (try simp only [i_lt, i_le, i_eq, Int32.reduceToInt] at *); omega)) rfl
  · refine q_aload_n 0 27 dX12_told_26 rfl rfl rfl ?_
    refine q_getR 0 30 f_X12_29 dX12_told_27 rfl rfl rfl rfl ?_
    refine q_iconst 4 31 dX12_told_30 ic_4 rfl ?_
    refine q_iald 1 4 32 dX12_told_31 rfl ⟨by decide, by decide, by decide⟩ rfl ?_
    refine q_goto 36 dX12_told_32 (by decide) ?_
    refine q_ireturn dX12_told_36 rfl ?_
    exact pR.mk (by show _ = some (Value.int (if x 3 ≤ 0 then -1 else x 4)); split <;> first | rfl | (exfalso; (try simp only [i_lt, i_le, i_eq, Int32.reduceToInt] at *); omega)) rfl
theorem c_M_told_5 {l : Launch} {g : Gh} {q : Nat} {A : Nat → Nat} {i : Nat → Int32} {x : Sc} : Cp l g yX12_told (Cond.code yX12_told cX12_told 2 (some .int)) 2 [.ref q, .int 5] [(q, ob 12 i (rM A)), (A 16, aI g 9 x)] (some (.int (rTold x 5))) [(q, ob 12 i (rM A)), (A 16, aI g 9 x)] := by
  refine ct_of (M := mtX12_told) [some (.ref q), some (.int 5)] rfl (by decide) (Nat.le_of_ble_eq_true rfl) (fun _ h => h) (fun a => ?_)
  refine q_iload_n 1 1 dX12_told_0 rfl rfl rfl ?_
  refine q_iconst 3 2 dX12_told_1 ic_3 rfl ?_
  refine q_icmp_ne 12 5 dX12_told_2 (by decide) rfl (fun h2 => ?_) (fun h2 => absurd h2 (by decide))
  refine q_iload_n 1 13 dX12_told_12 rfl rfl rfl ?_
  refine q_iconst 4 14 dX12_told_13 ic_4 rfl ?_
  refine q_icmp_ne 37 17 dX12_told_14 (by decide) rfl (fun h14 => ?_) (fun h14 => absurd h14 (by decide))
  refine q_iload_n 1 38 dX12_told_37 rfl rfl rfl ?_
  refine q_iconst 5 39 dX12_told_38 ic_5 rfl ?_
  refine q_icmp_ne 63 42 dX12_told_39 (by decide) rfl (fun h39 => absurd (by decide) h39) (fun h39 => ?_)
  refine q_aload_n 0 43 dX12_told_42 rfl rfl rfl ?_
  refine q_getR 0 46 f_X12_29 dX12_told_43 rfl rfl rfl rfl ?_
  refine q_iconst 3 47 dX12_told_46 ic_3 rfl ?_
  refine q_iald 1 3 48 dX12_told_47 rfl ⟨by decide, by decide, by decide⟩ rfl ?_
  refine q_iconst 1 49 dX12_told_48 ic_1 rfl ?_
  refine q_icmp_le 61 52 dX12_told_49 (by decide) rfl (fun h49 => ?_) (fun h49 => ?_)
  · refine q_iconst (-1) 62 dX12_told_61 ic_m1 rfl ?_
    refine q_ireturn dX12_told_62 rfl ?_
    exact pR.mk (by show _ = some (Value.int (if x 3 ≤ 1 then -1 else x 5)); split <;> first | rfl | (exfalso; (try simp only [i_lt, i_le, i_eq, Int32.reduceToInt] at *); omega)) rfl
  · refine q_aload_n 0 53 dX12_told_52 rfl rfl rfl ?_
    refine q_getR 0 56 f_X12_29 dX12_told_53 rfl rfl rfl rfl ?_
    refine q_iconst 5 57 dX12_told_56 ic_5 rfl ?_
    refine q_iald 1 5 58 dX12_told_57 rfl ⟨by decide, by decide, by decide⟩ rfl ?_
    refine q_goto 62 dX12_told_58 (by decide) ?_
    refine q_ireturn dX12_told_62 rfl ?_
    exact pR.mk (by show _ = some (Value.int (if x 3 ≤ 1 then -1 else x 5)); split <;> first | rfl | (exfalso; (try simp only [i_lt, i_le, i_eq, Int32.reduceToInt] at *); omega)) rfl
theorem c_M_told_6 {l : Launch} {g : Gh} {q : Nat} {A : Nat → Nat} {i : Nat → Int32} {x : Sc} : Cp l g yX12_told (Cond.code yX12_told cX12_told 2 (some .int)) 2 [.ref q, .int 6] [(q, ob 12 i (rM A)), (A 16, aI g 9 x)] (some (.int (rTold x 6))) [(q, ob 12 i (rM A)), (A 16, aI g 9 x)] := by
  refine ct_of (M := mtX12_told) [some (.ref q), some (.int 6)] rfl (by decide) (Nat.le_of_ble_eq_true rfl) (fun _ h => h) (fun a => ?_)
  refine q_iload_n 1 1 dX12_told_0 rfl rfl rfl ?_
  refine q_iconst 3 2 dX12_told_1 ic_3 rfl ?_
  refine q_icmp_ne 12 5 dX12_told_2 (by decide) rfl (fun h2 => ?_) (fun h2 => absurd h2 (by decide))
  refine q_iload_n 1 13 dX12_told_12 rfl rfl rfl ?_
  refine q_iconst 4 14 dX12_told_13 ic_4 rfl ?_
  refine q_icmp_ne 37 17 dX12_told_14 (by decide) rfl (fun h14 => ?_) (fun h14 => absurd h14 (by decide))
  refine q_iload_n 1 38 dX12_told_37 rfl rfl rfl ?_
  refine q_iconst 5 39 dX12_told_38 ic_5 rfl ?_
  refine q_icmp_ne 63 42 dX12_told_39 (by decide) rfl (fun h39 => ?_) (fun h39 => absurd h39 (by decide))
  refine q_iload_n 1 64 dX12_told_63 rfl rfl rfl ?_
  refine q_bipush 9 66 dX12_told_64 bc_9 rfl ?_
  refine q_icmp_ne 93 69 dX12_told_66 (by decide) rfl (fun h66 => ?_) (fun h66 => absurd h66 (by decide))
  refine q_aload_n 0 94 dX12_told_93 rfl rfl rfl ?_
  refine q_getR 0 97 f_X12_29 dX12_told_94 rfl rfl rfl rfl ?_
  refine q_iload_n 1 98 dX12_told_97 rfl rfl rfl ?_
  refine q_iald 1 6 99 dX12_told_98 rfl ⟨by decide, by decide, by decide⟩ rfl ?_
  refine q_ireturn dX12_told_99 rfl ?_
  exact pR.mk (by simp_all [rTold, sMine_0, sHis_0, sMine_1, sHis_1]) rfl
theorem c_M_told_7 {l : Launch} {g : Gh} {q : Nat} {A : Nat → Nat} {i : Nat → Int32} {x : Sc} : Cp l g yX12_told (Cond.code yX12_told cX12_told 2 (some .int)) 2 [.ref q, .int 7] [(q, ob 12 i (rM A)), (A 16, aI g 9 x)] (some (.int (rTold x 7))) [(q, ob 12 i (rM A)), (A 16, aI g 9 x)] := by
  refine ct_of (M := mtX12_told) [some (.ref q), some (.int 7)] rfl (by decide) (Nat.le_of_ble_eq_true rfl) (fun _ h => h) (fun a => ?_)
  refine q_iload_n 1 1 dX12_told_0 rfl rfl rfl ?_
  refine q_iconst 3 2 dX12_told_1 ic_3 rfl ?_
  refine q_icmp_ne 12 5 dX12_told_2 (by decide) rfl (fun h2 => ?_) (fun h2 => absurd h2 (by decide))
  refine q_iload_n 1 13 dX12_told_12 rfl rfl rfl ?_
  refine q_iconst 4 14 dX12_told_13 ic_4 rfl ?_
  refine q_icmp_ne 37 17 dX12_told_14 (by decide) rfl (fun h14 => ?_) (fun h14 => absurd h14 (by decide))
  refine q_iload_n 1 38 dX12_told_37 rfl rfl rfl ?_
  refine q_iconst 5 39 dX12_told_38 ic_5 rfl ?_
  refine q_icmp_ne 63 42 dX12_told_39 (by decide) rfl (fun h39 => ?_) (fun h39 => absurd h39 (by decide))
  refine q_iload_n 1 64 dX12_told_63 rfl rfl rfl ?_
  refine q_bipush 9 66 dX12_told_64 bc_9 rfl ?_
  refine q_icmp_ne 93 69 dX12_told_66 (by decide) rfl (fun h66 => ?_) (fun h66 => absurd h66 (by decide))
  refine q_aload_n 0 94 dX12_told_93 rfl rfl rfl ?_
  refine q_getR 0 97 f_X12_29 dX12_told_94 rfl rfl rfl rfl ?_
  refine q_iload_n 1 98 dX12_told_97 rfl rfl rfl ?_
  refine q_iald 1 7 99 dX12_told_98 rfl ⟨by decide, by decide, by decide⟩ rfl ?_
  refine q_ireturn dX12_told_99 rfl ?_
  exact pR.mk (by simp_all [rTold, sMine_0, sHis_0, sMine_1, sHis_1]) rfl
theorem c_M_told_8 {l : Launch} {g : Gh} {q : Nat} {A : Nat → Nat} {i : Nat → Int32} {x : Sc} : Cp l g yX12_told (Cond.code yX12_told cX12_told 2 (some .int)) 2 [.ref q, .int 8] [(q, ob 12 i (rM A)), (A 16, aI g 9 x)] (some (.int (rTold x 8))) [(q, ob 12 i (rM A)), (A 16, aI g 9 x)] := by
  refine ct_of (M := mtX12_told) [some (.ref q), some (.int 8)] rfl (by decide) (Nat.le_of_ble_eq_true rfl) (fun _ h => h) (fun a => ?_)
  refine q_iload_n 1 1 dX12_told_0 rfl rfl rfl ?_
  refine q_iconst 3 2 dX12_told_1 ic_3 rfl ?_
  refine q_icmp_ne 12 5 dX12_told_2 (by decide) rfl (fun h2 => ?_) (fun h2 => absurd h2 (by decide))
  refine q_iload_n 1 13 dX12_told_12 rfl rfl rfl ?_
  refine q_iconst 4 14 dX12_told_13 ic_4 rfl ?_
  refine q_icmp_ne 37 17 dX12_told_14 (by decide) rfl (fun h14 => ?_) (fun h14 => absurd h14 (by decide))
  refine q_iload_n 1 38 dX12_told_37 rfl rfl rfl ?_
  refine q_iconst 5 39 dX12_told_38 ic_5 rfl ?_
  refine q_icmp_ne 63 42 dX12_told_39 (by decide) rfl (fun h39 => ?_) (fun h39 => absurd h39 (by decide))
  refine q_iload_n 1 64 dX12_told_63 rfl rfl rfl ?_
  refine q_bipush 9 66 dX12_told_64 bc_9 rfl ?_
  refine q_icmp_ne 93 69 dX12_told_66 (by decide) rfl (fun h66 => ?_) (fun h66 => absurd h66 (by decide))
  refine q_aload_n 0 94 dX12_told_93 rfl rfl rfl ?_
  refine q_getR 0 97 f_X12_29 dX12_told_94 rfl rfl rfl rfl ?_
  refine q_iload_n 1 98 dX12_told_97 rfl rfl rfl ?_
  refine q_iald 1 8 99 dX12_told_98 rfl ⟨by decide, by decide, by decide⟩ rfl ?_
  refine q_ireturn dX12_told_99 rfl ?_
  exact pR.mk (by simp_all [rTold, sMine_0, sHis_0, sMine_1, sHis_1]) rfl
theorem c_M_told_9 {l : Launch} {g : Gh} {q : Nat} {A : Nat → Nat} {i : Nat → Int32} {x : Sc} : Cp l g yX12_told (Cond.code yX12_told cX12_told 2 (some .int)) 2 [.ref q, .int 9] [(q, ob 12 i (rM A)), (A 16, aI g 9 x)] (some (.int (rTold x 9))) [(q, ob 12 i (rM A)), (A 16, aI g 9 x)] := by
  refine ct_of (M := mtX12_told) [some (.ref q), some (.int 9)] rfl (by decide) (Nat.le_of_ble_eq_true rfl) (fun _ h => h) (fun a => ?_)
  refine q_iload_n 1 1 dX12_told_0 rfl rfl rfl ?_
  refine q_iconst 3 2 dX12_told_1 ic_3 rfl ?_
  refine q_icmp_ne 12 5 dX12_told_2 (by decide) rfl (fun h2 => ?_) (fun h2 => absurd h2 (by decide))
  refine q_iload_n 1 13 dX12_told_12 rfl rfl rfl ?_
  refine q_iconst 4 14 dX12_told_13 ic_4 rfl ?_
  refine q_icmp_ne 37 17 dX12_told_14 (by decide) rfl (fun h14 => ?_) (fun h14 => absurd h14 (by decide))
  refine q_iload_n 1 38 dX12_told_37 rfl rfl rfl ?_
  refine q_iconst 5 39 dX12_told_38 ic_5 rfl ?_
  refine q_icmp_ne 63 42 dX12_told_39 (by decide) rfl (fun h39 => ?_) (fun h39 => absurd h39 (by decide))
  refine q_iload_n 1 64 dX12_told_63 rfl rfl rfl ?_
  refine q_bipush 9 66 dX12_told_64 bc_9 rfl ?_
  refine q_icmp_ne 93 69 dX12_told_66 (by decide) rfl (fun h66 => absurd (by decide) h66) (fun h66 => ?_)
  refine q_aload_n 0 70 dX12_told_69 rfl rfl rfl ?_
  refine q_iconst 0 71 dX12_told_70 ic_0 rfl ?_
  refine q_cVi 0 [0, 1] [] [0, 1] 74 (wr := []) (w1 := _) (ws' := [_, _]) (c_wouldWin (Or.inl rfl)) m_X12_206 dX12_told_71 rfl rfl rfl rfl rfl rfl rfl rfl (by decide) (by decide) (by decide) (by decide) (Nat.le_of_ble_eq_true rfl) (by omega) (by omega) (by omega) rfl ?_
  refine q_if_ne 85 77 dX12_told_74 (by decide) rfl (fun h74 => ?_) (fun h74 => ?_)
  · refine q_iconst 1 86 dX12_told_85 ic_1 rfl ?_
    refine q_goto 99 dX12_told_86 (by decide) ?_
    refine q_ireturn dX12_told_99 rfl ?_
    exact pR.mk (by simp_all [rTold, sMine_0, sHis_0, sMine_1, sHis_1]) rfl
  · refine q_aload_n 0 78 dX12_told_77 rfl rfl rfl ?_
    refine q_iconst 1 79 dX12_told_78 ic_1 rfl ?_
    refine q_cVi 0 [0, 1] [] [0, 1] 82 (wr := []) (w1 := _) (ws' := [_, _]) (c_wouldWin (Or.inr rfl)) m_X12_206 dX12_told_79 rfl rfl rfl rfl rfl rfl rfl rfl (by decide) (by decide) (by decide) (by decide) (Nat.le_of_ble_eq_true rfl) (by omega) (by omega) (by omega) rfl ?_
    refine q_if_eq 89 85 dX12_told_82 (by decide) rfl (fun h82 => ?_) (fun h82 => ?_)
    · refine q_iconst 0 90 dX12_told_89 ic_0 rfl ?_
      refine q_goto 99 dX12_told_90 (by decide) ?_
      refine q_ireturn dX12_told_99 rfl ?_
      exact pR.mk (by simp_all [rTold, sMine_0, sHis_0, sMine_1, sHis_1]) rfl
    · refine q_iconst 1 86 dX12_told_85 ic_1 rfl ?_
      refine q_goto 99 dX12_told_86 (by decide) ?_
      refine q_ireturn dX12_told_99 rfl ?_
      exact pR.mk (by simp_all [rTold, sMine_0, sHis_0, sMine_1, sHis_1]) rfl
theorem c_M_told {l : Launch} {g : Gh} {q : Nat} {A : Nat → Nat} {i : Nat → Int32} {x : Sc} {v : Int32} {w : Nat} (hv : v = nI w) (hw : w < 10) : Cp l g yX12_told (Cond.code yX12_told cX12_told 2 (some .int)) 2 [.ref q, .int v] [(q, ob 12 i (rM A)), (A 16, aI g 9 x)] (some (.int (rTold x w))) [(q, ob 12 i (rM A)), (A 16, aI g 9 x)] := by
  subst hv
  match w, hw with
  | 0, _ => exact c_M_told_0
  | 1, _ => exact c_M_told_1
  | 2, _ => exact c_M_told_2
  | 3, _ => exact c_M_told_3
  | 4, _ => exact c_M_told_4
  | 5, _ => exact c_M_told_5
  | 6, _ => exact c_M_told_6
  | 7, _ => exact c_M_told_7
  | 8, _ => exact c_M_told_8
  | 9, _ => exact c_M_told_9
  | (w + 10), hw => exact absurd hw (by omega)
def rCk (x : Sc) : Int32 := if x 3 = 0 then 0 else if x 3 = 2 then 21 + 10 * x 4 + x 5 else if x 6 = 1 then 11 + x 4 else 1 + x 4
def rNum (x : Sc) : Int32 := ((x 0 + 3) * 8 + x 1 + 3) * 242 + 121 * x 2 + rCk x
theorem c_M_number {l : Launch} {g : Gh} {q : Nat} {A : Nat → Nat} {i : Nat → Int32} {x : Sc} : Cp l g yX12_number (Cond.code yX12_number cX12_number 2 (some .int)) 1 [.ref q] [(q, ob 12 i (rM A)), (A 16, aI g 9 x)] (some (.int (rNum x))) [(q, ob 12 i (rM A)), (A 16, aI g 9 x)] := by
  refine ct_of (M := mtX12_number) [some (.ref q), none] rfl (by decide) (Nat.le_of_ble_eq_true rfl) (fun _ h => h) (fun a => ?_)
  refine q_aload_n 0 1 dX12_number_0 rfl rfl rfl ?_
  refine q_getR 0 4 f_X12_29 dX12_number_1 rfl rfl rfl rfl ?_
  refine q_iconst 3 5 dX12_number_4 ic_3 rfl ?_
  refine q_iald 1 3 6 dX12_number_5 rfl ⟨by decide, by decide, by decide⟩ rfl ?_
  refine q_if_ne 13 9 dX12_number_6 (by decide) rfl (fun h6 => ?_) (fun h6 => ?_)
  · refine q_aload_n 0 14 dX12_number_13 rfl rfl rfl ?_
    refine q_getR 0 17 f_X12_29 dX12_number_14 rfl rfl rfl rfl ?_
    refine q_iconst 3 18 dX12_number_17 ic_3 rfl ?_
    refine q_iald 1 3 19 dX12_number_18 rfl ⟨by decide, by decide, by decide⟩ rfl ?_
    refine q_iconst 2 20 dX12_number_19 ic_2 rfl ?_
    refine q_icmp_ne 45 23 dX12_number_20 (by decide) rfl (fun h20 => ?_) (fun h20 => ?_)
    · refine q_aload_n 0 46 dX12_number_45 rfl rfl rfl ?_
      refine q_getR 0 49 f_X12_29 dX12_number_46 rfl rfl rfl rfl ?_
      refine q_bipush 6 51 dX12_number_49 bc_6 rfl ?_
      refine q_iald 1 6 52 dX12_number_51 rfl ⟨by decide, by decide, by decide⟩ rfl ?_
      refine q_iconst 1 53 dX12_number_52 ic_1 rfl ?_
      refine q_icmp_ne 68 56 dX12_number_53 (by decide) rfl (fun h53 => ?_) (fun h53 => ?_)
      · refine q_iconst 1 69 dX12_number_68 ic_1 rfl ?_
        refine q_aload_n 0 70 dX12_number_69 rfl rfl rfl ?_
        refine q_getR 0 73 f_X12_29 dX12_number_70 rfl rfl rfl rfl ?_
        refine q_iconst 4 74 dX12_number_73 ic_4 rfl ?_
        refine q_iald 1 4 75 dX12_number_74 rfl ⟨by decide, by decide, by decide⟩ rfl ?_
        refine q_iadd 76 dX12_number_75 rfl ?_
        refine q_istore_n 1 77 (L' := [_, _]) dX12_number_76 rfl (by decide) rfl rfl ?_
        refine q_aload_n 0 78 dX12_number_77 rfl rfl rfl ?_
        refine q_getR 0 81 f_X12_29 dX12_number_78 rfl rfl rfl rfl ?_
        refine q_iconst 0 82 dX12_number_81 ic_0 rfl ?_
        refine q_iald 1 0 83 dX12_number_82 rfl ⟨by decide, by decide, by decide⟩ rfl ?_
        refine q_iconst 3 84 dX12_number_83 ic_3 rfl ?_
        refine q_iadd 85 dX12_number_84 rfl ?_
        refine q_bipush 8 87 dX12_number_85 bc_8 rfl ?_
        refine q_imul 88 dX12_number_87 rfl ?_
        refine q_aload_n 0 89 dX12_number_88 rfl rfl rfl ?_
        refine q_getR 0 92 f_X12_29 dX12_number_89 rfl rfl rfl rfl ?_
        refine q_iconst 1 93 dX12_number_92 ic_1 rfl ?_
        refine q_iald 1 1 94 dX12_number_93 rfl ⟨by decide, by decide, by decide⟩ rfl ?_
        refine q_iadd 95 dX12_number_94 rfl ?_
        refine q_iconst 3 96 dX12_number_95 ic_3 rfl ?_
        refine q_iadd 97 dX12_number_96 rfl ?_
        refine q_sipush 242 100 dX12_number_97 sc_242 rfl ?_
        refine q_imul 101 dX12_number_100 rfl ?_
        refine q_bipush 121 103 dX12_number_101 bc_121 rfl ?_
        refine q_aload_n 0 104 dX12_number_103 rfl rfl rfl ?_
        refine q_getR 0 107 f_X12_29 dX12_number_104 rfl rfl rfl rfl ?_
        refine q_iconst 2 108 dX12_number_107 ic_2 rfl ?_
        refine q_iald 1 2 109 dX12_number_108 rfl ⟨by decide, by decide, by decide⟩ rfl ?_
        refine q_imul 110 dX12_number_109 rfl ?_
        refine q_iadd 111 dX12_number_110 rfl ?_
        refine q_iload_n 1 112 dX12_number_111 rfl rfl rfl ?_
        refine q_iadd 113 dX12_number_112 rfl ?_
        refine q_ireturn dX12_number_113 rfl ?_
        exact pR.mk (by simp_all [rNum, rCk]) rfl
      · refine q_bipush 11 58 dX12_number_56 bc_11 rfl ?_
        refine q_aload_n 0 59 dX12_number_58 rfl rfl rfl ?_
        refine q_getR 0 62 f_X12_29 dX12_number_59 rfl rfl rfl rfl ?_
        refine q_iconst 4 63 dX12_number_62 ic_4 rfl ?_
        refine q_iald 1 4 64 dX12_number_63 rfl ⟨by decide, by decide, by decide⟩ rfl ?_
        refine q_iadd 65 dX12_number_64 rfl ?_
        refine q_goto 76 dX12_number_65 (by decide) ?_
        refine q_istore_n 1 77 (L' := [_, _]) dX12_number_76 rfl (by decide) rfl rfl ?_
        refine q_aload_n 0 78 dX12_number_77 rfl rfl rfl ?_
        refine q_getR 0 81 f_X12_29 dX12_number_78 rfl rfl rfl rfl ?_
        refine q_iconst 0 82 dX12_number_81 ic_0 rfl ?_
        refine q_iald 1 0 83 dX12_number_82 rfl ⟨by decide, by decide, by decide⟩ rfl ?_
        refine q_iconst 3 84 dX12_number_83 ic_3 rfl ?_
        refine q_iadd 85 dX12_number_84 rfl ?_
        refine q_bipush 8 87 dX12_number_85 bc_8 rfl ?_
        refine q_imul 88 dX12_number_87 rfl ?_
        refine q_aload_n 0 89 dX12_number_88 rfl rfl rfl ?_
        refine q_getR 0 92 f_X12_29 dX12_number_89 rfl rfl rfl rfl ?_
        refine q_iconst 1 93 dX12_number_92 ic_1 rfl ?_
        refine q_iald 1 1 94 dX12_number_93 rfl ⟨by decide, by decide, by decide⟩ rfl ?_
        refine q_iadd 95 dX12_number_94 rfl ?_
        refine q_iconst 3 96 dX12_number_95 ic_3 rfl ?_
        refine q_iadd 97 dX12_number_96 rfl ?_
        refine q_sipush 242 100 dX12_number_97 sc_242 rfl ?_
        refine q_imul 101 dX12_number_100 rfl ?_
        refine q_bipush 121 103 dX12_number_101 bc_121 rfl ?_
        refine q_aload_n 0 104 dX12_number_103 rfl rfl rfl ?_
        refine q_getR 0 107 f_X12_29 dX12_number_104 rfl rfl rfl rfl ?_
        refine q_iconst 2 108 dX12_number_107 ic_2 rfl ?_
        refine q_iald 1 2 109 dX12_number_108 rfl ⟨by decide, by decide, by decide⟩ rfl ?_
        refine q_imul 110 dX12_number_109 rfl ?_
        refine q_iadd 111 dX12_number_110 rfl ?_
        refine q_iload_n 1 112 dX12_number_111 rfl rfl rfl ?_
        refine q_iadd 113 dX12_number_112 rfl ?_
        refine q_ireturn dX12_number_113 rfl ?_
        exact pR.mk (by simp_all [rNum, rCk]) rfl
    · refine q_bipush 21 25 dX12_number_23 bc_21 rfl ?_
      refine q_bipush 10 27 dX12_number_25 bc_10 rfl ?_
      refine q_aload_n 0 28 dX12_number_27 rfl rfl rfl ?_
      refine q_getR 0 31 f_X12_29 dX12_number_28 rfl rfl rfl rfl ?_
      refine q_iconst 4 32 dX12_number_31 ic_4 rfl ?_
      refine q_iald 1 4 33 dX12_number_32 rfl ⟨by decide, by decide, by decide⟩ rfl ?_
      refine q_imul 34 dX12_number_33 rfl ?_
      refine q_iadd 35 dX12_number_34 rfl ?_
      refine q_aload_n 0 36 dX12_number_35 rfl rfl rfl ?_
      refine q_getR 0 39 f_X12_29 dX12_number_36 rfl rfl rfl rfl ?_
      refine q_iconst 5 40 dX12_number_39 ic_5 rfl ?_
      refine q_iald 1 5 41 dX12_number_40 rfl ⟨by decide, by decide, by decide⟩ rfl ?_
      refine q_iadd 42 dX12_number_41 rfl ?_
      refine q_goto 76 dX12_number_42 (by decide) ?_
      refine q_istore_n 1 77 (L' := [_, _]) dX12_number_76 rfl (by decide) rfl rfl ?_
      refine q_aload_n 0 78 dX12_number_77 rfl rfl rfl ?_
      refine q_getR 0 81 f_X12_29 dX12_number_78 rfl rfl rfl rfl ?_
      refine q_iconst 0 82 dX12_number_81 ic_0 rfl ?_
      refine q_iald 1 0 83 dX12_number_82 rfl ⟨by decide, by decide, by decide⟩ rfl ?_
      refine q_iconst 3 84 dX12_number_83 ic_3 rfl ?_
      refine q_iadd 85 dX12_number_84 rfl ?_
      refine q_bipush 8 87 dX12_number_85 bc_8 rfl ?_
      refine q_imul 88 dX12_number_87 rfl ?_
      refine q_aload_n 0 89 dX12_number_88 rfl rfl rfl ?_
      refine q_getR 0 92 f_X12_29 dX12_number_89 rfl rfl rfl rfl ?_
      refine q_iconst 1 93 dX12_number_92 ic_1 rfl ?_
      refine q_iald 1 1 94 dX12_number_93 rfl ⟨by decide, by decide, by decide⟩ rfl ?_
      refine q_iadd 95 dX12_number_94 rfl ?_
      refine q_iconst 3 96 dX12_number_95 ic_3 rfl ?_
      refine q_iadd 97 dX12_number_96 rfl ?_
      refine q_sipush 242 100 dX12_number_97 sc_242 rfl ?_
      refine q_imul 101 dX12_number_100 rfl ?_
      refine q_bipush 121 103 dX12_number_101 bc_121 rfl ?_
      refine q_aload_n 0 104 dX12_number_103 rfl rfl rfl ?_
      refine q_getR 0 107 f_X12_29 dX12_number_104 rfl rfl rfl rfl ?_
      refine q_iconst 2 108 dX12_number_107 ic_2 rfl ?_
      refine q_iald 1 2 109 dX12_number_108 rfl ⟨by decide, by decide, by decide⟩ rfl ?_
      refine q_imul 110 dX12_number_109 rfl ?_
      refine q_iadd 111 dX12_number_110 rfl ?_
      refine q_iload_n 1 112 dX12_number_111 rfl rfl rfl ?_
      refine q_iadd 113 dX12_number_112 rfl ?_
      refine q_ireturn dX12_number_113 rfl ?_
      exact pR.mk (by simp_all [rNum, rCk]) rfl
  · refine q_iconst 0 10 dX12_number_9 ic_0 rfl ?_
    refine q_goto 76 dX12_number_10 (by decide) ?_
    refine q_istore_n 1 77 (L' := [_, _]) dX12_number_76 rfl (by decide) rfl rfl ?_
    refine q_aload_n 0 78 dX12_number_77 rfl rfl rfl ?_
    refine q_getR 0 81 f_X12_29 dX12_number_78 rfl rfl rfl rfl ?_
    refine q_iconst 0 82 dX12_number_81 ic_0 rfl ?_
    refine q_iald 1 0 83 dX12_number_82 rfl ⟨by decide, by decide, by decide⟩ rfl ?_
    refine q_iconst 3 84 dX12_number_83 ic_3 rfl ?_
    refine q_iadd 85 dX12_number_84 rfl ?_
    refine q_bipush 8 87 dX12_number_85 bc_8 rfl ?_
    refine q_imul 88 dX12_number_87 rfl ?_
    refine q_aload_n 0 89 dX12_number_88 rfl rfl rfl ?_
    refine q_getR 0 92 f_X12_29 dX12_number_89 rfl rfl rfl rfl ?_
    refine q_iconst 1 93 dX12_number_92 ic_1 rfl ?_
    refine q_iald 1 1 94 dX12_number_93 rfl ⟨by decide, by decide, by decide⟩ rfl ?_
    refine q_iadd 95 dX12_number_94 rfl ?_
    refine q_iconst 3 96 dX12_number_95 ic_3 rfl ?_
    refine q_iadd 97 dX12_number_96 rfl ?_
    refine q_sipush 242 100 dX12_number_97 sc_242 rfl ?_
    refine q_imul 101 dX12_number_100 rfl ?_
    refine q_bipush 121 103 dX12_number_101 bc_121 rfl ?_
    refine q_aload_n 0 104 dX12_number_103 rfl rfl rfl ?_
    refine q_getR 0 107 f_X12_29 dX12_number_104 rfl rfl rfl rfl ?_
    refine q_iconst 2 108 dX12_number_107 ic_2 rfl ?_
    refine q_iald 1 2 109 dX12_number_108 rfl ⟨by decide, by decide, by decide⟩ rfl ?_
    refine q_imul 110 dX12_number_109 rfl ?_
    refine q_iadd 111 dX12_number_110 rfl ?_
    refine q_iload_n 1 112 dX12_number_111 rfl rfl rfl ?_
    refine q_iadd 113 dX12_number_112 rfl ?_
    refine q_ireturn dX12_number_113 rfl ?_
    exact pR.mk (by simp_all [rNum, rCk]) rfl
def uC (k : Int32) : Int32 := k - k / 121 * 121
def uCh (c : Int32) : Int32 := if c = 0 then 0 else if c < 21 then 1 else 2
def uOff (c : Int32) : Int32 := if c ≤ 10 then 0 else 1
def uF (c : Int32) : Int32 := if c = 0 then 0 else if c < 11 then c - 1 else if c < 21 then c - 11 else (c - 21) / 10
def uS (c : Int32) : Int32 := if c < 21 then 0 else (c - 21) - (c - 21) / 10 * 10
def rUn (m x : Sc) (k : Int32) : Sc := upd (upd (upd (upd (upd (upd (upd (upd (upd x 2 (k / 121 - k / 121 / 2 * 2)) 1 (k / 242 - k / 242 / 8 * 8 - 3)) 0 (k / 1936 - 3)) 3 (uCh (uC k))) 6 (uOff (uC k))) 4 (uF (uC k))) 5 (uS (uC k))) 7 (m 208)) 8 (m 209)
theorem c_M_unnumber {l : Launch} {g : Gh} {q : Nat} {A : Nat → Nat} {i : Nat → Int32} {m x : Sc} {k : Int32} : Cp l g yX12_unnumber (Cond.code yX12_unnumber cX12_unnumber 3 none) 1 [.ref q, .int k] [(q, ob 12 i (rM A)), (A 1, aI g 2616 m), (A 16, aI g 9 x)] none [(q, ob 12 i (rM A)), (A 1, aI g 2616 m), (A 16, aI g 9 (rUn m x k))] := by
  refine ct_of (M := mtX12_unnumber) [some (.ref q), some (.int k), none] rfl (by decide) (Nat.le_of_ble_eq_true rfl) (fun _ h => h) (fun a => ?_)
  generalize hc : uC k = c
  by_cases h0 : c = 0
  · have e1 : uCh c = 0 := by simp [uCh, h0]
    have e2 : uOff c = 0 := by simp [uOff, h0]
    have e3 : uF c = 0 := by simp [uF, h0]
    have e4 : uS c = 0 := by simp [uS, h0]
    have h0 : k - k / 121 * 121 = 0 := hc.trans h0
    unfold rUn
    rw [hc, e1, e2, e3, e4]
    clear hc
    refine q_iload_n 1 1 dX12_unnumber_0 rfl rfl rfl ?_
    refine q_bipush 121 3 dX12_unnumber_1 bc_121 rfl ?_
    refine q_irem 4 dX12_unnumber_3 (by decide) rfl ?_
    refine q_istore_n 2 5 (L' := [_, _, _]) dX12_unnumber_4 rfl (by decide) rfl rfl ?_
    refine q_aload_n 0 6 dX12_unnumber_5 rfl rfl rfl ?_
    refine q_getR 0 9 f_X12_29 dX12_unnumber_6 rfl rfl rfl rfl ?_
    refine q_iconst 2 10 dX12_unnumber_9 ic_2 rfl ?_
    refine q_iload_n 1 11 dX12_unnumber_10 rfl rfl rfl ?_
    refine q_bipush 121 13 dX12_unnumber_11 bc_121 rfl ?_
    refine q_idiv 14 dX12_unnumber_13 (by decide) rfl ?_
    refine q_iconst 2 15 dX12_unnumber_14 ic_2 rfl ?_
    refine q_irem 16 dX12_unnumber_15 (by decide) rfl ?_
    refine q_iast 2 2 17 (w' := [_, _, _]) dX12_unnumber_16 rfl ⟨by decide, by decide, by decide⟩ rfl rfl ?_
    refine q_aload_n 0 18 dX12_unnumber_17 rfl rfl rfl ?_
    refine q_getR 0 21 f_X12_29 dX12_unnumber_18 rfl rfl rfl rfl ?_
    refine q_iconst 1 22 dX12_unnumber_21 ic_1 rfl ?_
    refine q_iload_n 1 23 dX12_unnumber_22 rfl rfl rfl ?_
    refine q_sipush 242 26 dX12_unnumber_23 sc_242 rfl ?_
    refine q_idiv 27 dX12_unnumber_26 (by decide) rfl ?_
    refine q_bipush 8 29 dX12_unnumber_27 bc_8 rfl ?_
    refine q_irem 30 dX12_unnumber_29 (by decide) rfl ?_
    refine q_iconst 3 31 dX12_unnumber_30 ic_3 rfl ?_
    refine q_isub 32 dX12_unnumber_31 rfl ?_
    refine q_iast 2 1 33 (w' := [_, _, _]) dX12_unnumber_32 rfl ⟨by decide, by decide, by decide⟩ rfl rfl ?_
    refine q_aload_n 0 34 dX12_unnumber_33 rfl rfl rfl ?_
    refine q_getR 0 37 f_X12_29 dX12_unnumber_34 rfl rfl rfl rfl ?_
    refine q_iconst 0 38 dX12_unnumber_37 ic_0 rfl ?_
    refine q_iload_n 1 39 dX12_unnumber_38 rfl rfl rfl ?_
    refine q_sipush 1936 42 dX12_unnumber_39 sc_1936 rfl ?_
    refine q_idiv 43 dX12_unnumber_42 (by decide) rfl ?_
    refine q_iconst 3 44 dX12_unnumber_43 ic_3 rfl ?_
    refine q_isub 45 dX12_unnumber_44 rfl ?_
    refine q_iast 2 0 46 (w' := [_, _, _]) dX12_unnumber_45 rfl ⟨by decide, by decide, by decide⟩ rfl rfl ?_
    refine q_aload_n 0 47 dX12_unnumber_46 rfl rfl rfl ?_
    refine q_getR 0 50 f_X12_29 dX12_unnumber_47 rfl rfl rfl rfl ?_
    refine q_iconst 3 51 dX12_unnumber_50 ic_3 rfl ?_
    refine q_iload_n 2 52 dX12_unnumber_51 rfl rfl rfl ?_
    refine q_if_ne 59 55 dX12_unnumber_52 (by decide) rfl (fun h52 => absurd h0 h52) (fun h52 => ?_)
    refine q_iconst 0 56 dX12_unnumber_55 ic_0 rfl ?_
    refine q_goto 70 dX12_unnumber_56 (by decide) ?_
    refine q_iast 2 3 71 (w' := [_, _, _]) dX12_unnumber_70 rfl ⟨by decide, by decide, by decide⟩ rfl rfl ?_
    refine q_aload_n 0 72 dX12_unnumber_71 rfl rfl rfl ?_
    refine q_getR 0 75 f_X12_29 dX12_unnumber_72 rfl rfl rfl rfl ?_
    refine q_bipush 6 77 dX12_unnumber_75 bc_6 rfl ?_
    refine q_iload_n 2 78 dX12_unnumber_77 rfl rfl rfl ?_
    refine q_bipush 10 80 dX12_unnumber_78 bc_10 rfl ?_
    refine q_icmp_le 87 83 dX12_unnumber_80 (by decide) rfl (fun h80 => ?_) (fun h80 => absurd (by rw [h0]; decide) h80)
    refine q_iconst 0 88 dX12_unnumber_87 ic_0 rfl ?_
    refine q_iast 2 6 89 (w' := [_, _, _]) dX12_unnumber_88 rfl ⟨by decide, by decide, by decide⟩ rfl rfl ?_
    refine q_aload_n 0 90 dX12_unnumber_89 rfl rfl rfl ?_
    refine q_getR 0 93 f_X12_29 dX12_unnumber_90 rfl rfl rfl rfl ?_
    refine q_iconst 4 94 dX12_unnumber_93 ic_4 rfl ?_
    refine q_iload_n 2 95 dX12_unnumber_94 rfl rfl rfl ?_
    refine q_if_ne 102 98 dX12_unnumber_95 (by decide) rfl (fun h95 => absurd h0 h95) (fun h95 => ?_)
    refine q_iconst 0 99 dX12_unnumber_98 ic_0 rfl ?_
    refine q_goto 134 dX12_unnumber_99 (by decide) ?_
    refine q_iast 2 4 135 (w' := [_, _, _]) dX12_unnumber_134 rfl ⟨by decide, by decide, by decide⟩ rfl rfl ?_
    refine q_aload_n 0 136 dX12_unnumber_135 rfl rfl rfl ?_
    refine q_getR 0 139 f_X12_29 dX12_unnumber_136 rfl rfl rfl rfl ?_
    refine q_iconst 5 140 dX12_unnumber_139 ic_5 rfl ?_
    refine q_iload_n 2 141 dX12_unnumber_140 rfl rfl rfl ?_
    refine q_bipush 21 143 dX12_unnumber_141 bc_21 rfl ?_
    refine q_icmp_ge 150 146 dX12_unnumber_143 (by decide) rfl (fun h143 => absurd h143 (by rw [h0]; decide)) (fun h143 => ?_)
    refine q_iconst 0 147 dX12_unnumber_146 ic_0 rfl ?_
    refine q_goto 157 dX12_unnumber_147 (by decide) ?_
    refine q_iast 2 5 158 (w' := [_, _, _]) dX12_unnumber_157 rfl ⟨by decide, by decide, by decide⟩ rfl rfl ?_
    refine q_aload_n 0 159 dX12_unnumber_158 rfl rfl rfl ?_
    refine q_getR 0 162 f_X12_29 dX12_unnumber_159 rfl rfl rfl rfl ?_
    refine q_bipush 7 164 dX12_unnumber_162 bc_7 rfl ?_
    refine q_aload_n 0 165 dX12_unnumber_164 rfl rfl rfl ?_
    refine q_getR 0 168 f_X12_7 dX12_unnumber_165 rfl rfl rfl rfl ?_
    refine q_sipush 208 171 dX12_unnumber_168 sc_208 rfl ?_
    refine q_iald 1 208 172 dX12_unnumber_171 rfl ⟨by decide, by decide, by decide⟩ rfl ?_
    refine q_iast 2 7 173 (w' := [_, _, _]) dX12_unnumber_172 rfl ⟨by decide, by decide, by decide⟩ rfl rfl ?_
    refine q_aload_n 0 174 dX12_unnumber_173 rfl rfl rfl ?_
    refine q_getR 0 177 f_X12_29 dX12_unnumber_174 rfl rfl rfl rfl ?_
    refine q_bipush 8 179 dX12_unnumber_177 bc_8 rfl ?_
    refine q_aload_n 0 180 dX12_unnumber_179 rfl rfl rfl ?_
    refine q_getR 0 183 f_X12_7 dX12_unnumber_180 rfl rfl rfl rfl ?_
    refine q_sipush 209 186 dX12_unnumber_183 sc_209 rfl ?_
    refine q_iald 1 209 187 dX12_unnumber_186 rfl ⟨by decide, by decide, by decide⟩ rfl ?_
    refine q_iast 2 8 188 (w' := [_, _, _]) dX12_unnumber_187 rfl ⟨by decide, by decide, by decide⟩ rfl rfl ?_
    refine q_return dX12_unnumber_188 rfl ?_
    exact pR.rf
  · by_cases h1 : c < 11
    · have e1 : uCh c = 1 := by simp only [uCh]; (repeat' split) <;> first | rfl | (exfalso; (try simp only [i_lt, i_le, i_eq, Int32.reduceToInt] at *); omega)
      have e2 : uOff c = 0 := by simp only [uOff]; (repeat' split) <;> first | rfl | (exfalso; (try simp only [i_lt, i_le, i_eq, Int32.reduceToInt] at *); omega)
      have e3 : uF c = (c - 1) := by simp only [uF]; (repeat' split) <;> first | rfl | (exfalso; (try simp only [i_lt, i_le, i_eq, Int32.reduceToInt] at *); omega)
      have e4 : uS c = 0 := by simp only [uS]; (repeat' split) <;> first | rfl | (exfalso; (try simp only [i_lt, i_le, i_eq, Int32.reduceToInt] at *); omega)
      unfold rUn
      rw [hc, e1, e2, e3, e4]
      clear e1 e2 e3 e4
      have hc : k - k / 121 * 121 = c := hc
      subst hc
      refine q_iload_n 1 1 dX12_unnumber_0 rfl rfl rfl ?_
      refine q_bipush 121 3 dX12_unnumber_1 bc_121 rfl ?_
      refine q_irem 4 dX12_unnumber_3 (by decide) rfl ?_
      refine q_istore_n 2 5 (L' := [_, _, _]) dX12_unnumber_4 rfl (by decide) rfl rfl ?_
      refine q_aload_n 0 6 dX12_unnumber_5 rfl rfl rfl ?_
      refine q_getR 0 9 f_X12_29 dX12_unnumber_6 rfl rfl rfl rfl ?_
      refine q_iconst 2 10 dX12_unnumber_9 ic_2 rfl ?_
      refine q_iload_n 1 11 dX12_unnumber_10 rfl rfl rfl ?_
      refine q_bipush 121 13 dX12_unnumber_11 bc_121 rfl ?_
      refine q_idiv 14 dX12_unnumber_13 (by decide) rfl ?_
      refine q_iconst 2 15 dX12_unnumber_14 ic_2 rfl ?_
      refine q_irem 16 dX12_unnumber_15 (by decide) rfl ?_
      refine q_iast 2 2 17 (w' := [_, _, _]) dX12_unnumber_16 rfl ⟨by decide, by decide, by decide⟩ rfl rfl ?_
      refine q_aload_n 0 18 dX12_unnumber_17 rfl rfl rfl ?_
      refine q_getR 0 21 f_X12_29 dX12_unnumber_18 rfl rfl rfl rfl ?_
      refine q_iconst 1 22 dX12_unnumber_21 ic_1 rfl ?_
      refine q_iload_n 1 23 dX12_unnumber_22 rfl rfl rfl ?_
      refine q_sipush 242 26 dX12_unnumber_23 sc_242 rfl ?_
      refine q_idiv 27 dX12_unnumber_26 (by decide) rfl ?_
      refine q_bipush 8 29 dX12_unnumber_27 bc_8 rfl ?_
      refine q_irem 30 dX12_unnumber_29 (by decide) rfl ?_
      refine q_iconst 3 31 dX12_unnumber_30 ic_3 rfl ?_
      refine q_isub 32 dX12_unnumber_31 rfl ?_
      refine q_iast 2 1 33 (w' := [_, _, _]) dX12_unnumber_32 rfl ⟨by decide, by decide, by decide⟩ rfl rfl ?_
      refine q_aload_n 0 34 dX12_unnumber_33 rfl rfl rfl ?_
      refine q_getR 0 37 f_X12_29 dX12_unnumber_34 rfl rfl rfl rfl ?_
      refine q_iconst 0 38 dX12_unnumber_37 ic_0 rfl ?_
      refine q_iload_n 1 39 dX12_unnumber_38 rfl rfl rfl ?_
      refine q_sipush 1936 42 dX12_unnumber_39 sc_1936 rfl ?_
      refine q_idiv 43 dX12_unnumber_42 (by decide) rfl ?_
      refine q_iconst 3 44 dX12_unnumber_43 ic_3 rfl ?_
      refine q_isub 45 dX12_unnumber_44 rfl ?_
      refine q_iast 2 0 46 (w' := [_, _, _]) dX12_unnumber_45 rfl ⟨by decide, by decide, by decide⟩ rfl rfl ?_
      refine q_aload_n 0 47 dX12_unnumber_46 rfl rfl rfl ?_
      refine q_getR 0 50 f_X12_29 dX12_unnumber_47 rfl rfl rfl rfl ?_
      refine q_iconst 3 51 dX12_unnumber_50 ic_3 rfl ?_
      refine q_iload_n 2 52 dX12_unnumber_51 rfl rfl rfl ?_
      refine q_if_ne 59 55 dX12_unnumber_52 (by decide) rfl (fun h52 => ?_) (fun h52 => absurd h52 h0)
      refine q_iload_n 2 60 dX12_unnumber_59 rfl rfl rfl ?_
      refine q_bipush 21 62 dX12_unnumber_60 bc_21 rfl ?_
      refine q_icmp_ge 69 65 dX12_unnumber_62 (by decide) rfl (fun h62 => absurd h62 (by (try simp only [i_lt, i_le, i_eq, Int32.reduceToInt] at *) <;> omega)) (fun h62 => ?_)
      refine q_iconst 1 66 dX12_unnumber_65 ic_1 rfl ?_
      refine q_goto 70 dX12_unnumber_66 (by decide) ?_
      refine q_iast 2 3 71 (w' := [_, _, _]) dX12_unnumber_70 rfl ⟨by decide, by decide, by decide⟩ rfl rfl ?_
      refine q_aload_n 0 72 dX12_unnumber_71 rfl rfl rfl ?_
      refine q_getR 0 75 f_X12_29 dX12_unnumber_72 rfl rfl rfl rfl ?_
      refine q_bipush 6 77 dX12_unnumber_75 bc_6 rfl ?_
      refine q_iload_n 2 78 dX12_unnumber_77 rfl rfl rfl ?_
      refine q_bipush 10 80 dX12_unnumber_78 bc_10 rfl ?_
      refine q_icmp_le 87 83 dX12_unnumber_80 (by decide) rfl (fun h80 => ?_) (fun h80 => absurd (by (try simp only [i_lt, i_le, i_eq, Int32.reduceToInt] at *) <;> omega) h80)
      refine q_iconst 0 88 dX12_unnumber_87 ic_0 rfl ?_
      refine q_iast 2 6 89 (w' := [_, _, _]) dX12_unnumber_88 rfl ⟨by decide, by decide, by decide⟩ rfl rfl ?_
      refine q_aload_n 0 90 dX12_unnumber_89 rfl rfl rfl ?_
      refine q_getR 0 93 f_X12_29 dX12_unnumber_90 rfl rfl rfl rfl ?_
      refine q_iconst 4 94 dX12_unnumber_93 ic_4 rfl ?_
      refine q_iload_n 2 95 dX12_unnumber_94 rfl rfl rfl ?_
      refine q_if_ne 102 98 dX12_unnumber_95 (by decide) rfl (fun h95 => ?_) (fun h95 => absurd h95 h0)
      refine q_iload_n 2 103 dX12_unnumber_102 rfl rfl rfl ?_
      refine q_bipush 11 105 dX12_unnumber_103 bc_11 rfl ?_
      refine q_icmp_ge 114 108 dX12_unnumber_105 (by decide) rfl (fun h105 => absurd h105 (by (try simp only [i_lt, i_le, i_eq, Int32.reduceToInt] at *) <;> omega)) (fun h105 => ?_)
      refine q_iload_n 2 109 dX12_unnumber_108 rfl rfl rfl ?_
      refine q_iconst 1 110 dX12_unnumber_109 ic_1 rfl ?_
      refine q_isub 111 dX12_unnumber_110 rfl ?_
      refine q_goto 134 dX12_unnumber_111 (by decide) ?_
      refine q_iast 2 4 135 (w' := [_, _, _]) dX12_unnumber_134 rfl ⟨by decide, by decide, by decide⟩ rfl rfl ?_
      refine q_aload_n 0 136 dX12_unnumber_135 rfl rfl rfl ?_
      refine q_getR 0 139 f_X12_29 dX12_unnumber_136 rfl rfl rfl rfl ?_
      refine q_iconst 5 140 dX12_unnumber_139 ic_5 rfl ?_
      refine q_iload_n 2 141 dX12_unnumber_140 rfl rfl rfl ?_
      refine q_bipush 21 143 dX12_unnumber_141 bc_21 rfl ?_
      refine q_icmp_ge 150 146 dX12_unnumber_143 (by decide) rfl (fun h143 => absurd h143 (by (try simp only [i_lt, i_le, i_eq, Int32.reduceToInt] at *) <;> omega)) (fun h143 => ?_)
      refine q_iconst 0 147 dX12_unnumber_146 ic_0 rfl ?_
      refine q_goto 157 dX12_unnumber_147 (by decide) ?_
      refine q_iast 2 5 158 (w' := [_, _, _]) dX12_unnumber_157 rfl ⟨by decide, by decide, by decide⟩ rfl rfl ?_
      refine q_aload_n 0 159 dX12_unnumber_158 rfl rfl rfl ?_
      refine q_getR 0 162 f_X12_29 dX12_unnumber_159 rfl rfl rfl rfl ?_
      refine q_bipush 7 164 dX12_unnumber_162 bc_7 rfl ?_
      refine q_aload_n 0 165 dX12_unnumber_164 rfl rfl rfl ?_
      refine q_getR 0 168 f_X12_7 dX12_unnumber_165 rfl rfl rfl rfl ?_
      refine q_sipush 208 171 dX12_unnumber_168 sc_208 rfl ?_
      refine q_iald 1 208 172 dX12_unnumber_171 rfl ⟨by decide, by decide, by decide⟩ rfl ?_
      refine q_iast 2 7 173 (w' := [_, _, _]) dX12_unnumber_172 rfl ⟨by decide, by decide, by decide⟩ rfl rfl ?_
      refine q_aload_n 0 174 dX12_unnumber_173 rfl rfl rfl ?_
      refine q_getR 0 177 f_X12_29 dX12_unnumber_174 rfl rfl rfl rfl ?_
      refine q_bipush 8 179 dX12_unnumber_177 bc_8 rfl ?_
      refine q_aload_n 0 180 dX12_unnumber_179 rfl rfl rfl ?_
      refine q_getR 0 183 f_X12_7 dX12_unnumber_180 rfl rfl rfl rfl ?_
      refine q_sipush 209 186 dX12_unnumber_183 sc_209 rfl ?_
      refine q_iald 1 209 187 dX12_unnumber_186 rfl ⟨by decide, by decide, by decide⟩ rfl ?_
      refine q_iast 2 8 188 (w' := [_, _, _]) dX12_unnumber_187 rfl ⟨by decide, by decide, by decide⟩ rfl rfl ?_
      refine q_return dX12_unnumber_188 rfl ?_
      exact pR.rf
    · by_cases h2 : c < 21
      · have e1 : uCh c = 1 := by simp only [uCh]; (repeat' split) <;> first | rfl | (exfalso; (try simp only [i_lt, i_le, i_eq, Int32.reduceToInt] at *); omega)
        have e2 : uOff c = 1 := by simp only [uOff]; (repeat' split) <;> first | rfl | (exfalso; (try simp only [i_lt, i_le, i_eq, Int32.reduceToInt] at *); omega)
        have e3 : uF c = (c - 11) := by simp only [uF]; (repeat' split) <;> first | rfl | (exfalso; (try simp only [i_lt, i_le, i_eq, Int32.reduceToInt] at *); omega)
        have e4 : uS c = 0 := by simp only [uS]; (repeat' split) <;> first | rfl | (exfalso; (try simp only [i_lt, i_le, i_eq, Int32.reduceToInt] at *); omega)
        unfold rUn
        rw [hc, e1, e2, e3, e4]
        clear e1 e2 e3 e4
        have hc : k - k / 121 * 121 = c := hc
        subst hc
        refine q_iload_n 1 1 dX12_unnumber_0 rfl rfl rfl ?_
        refine q_bipush 121 3 dX12_unnumber_1 bc_121 rfl ?_
        refine q_irem 4 dX12_unnumber_3 (by decide) rfl ?_
        refine q_istore_n 2 5 (L' := [_, _, _]) dX12_unnumber_4 rfl (by decide) rfl rfl ?_
        refine q_aload_n 0 6 dX12_unnumber_5 rfl rfl rfl ?_
        refine q_getR 0 9 f_X12_29 dX12_unnumber_6 rfl rfl rfl rfl ?_
        refine q_iconst 2 10 dX12_unnumber_9 ic_2 rfl ?_
        refine q_iload_n 1 11 dX12_unnumber_10 rfl rfl rfl ?_
        refine q_bipush 121 13 dX12_unnumber_11 bc_121 rfl ?_
        refine q_idiv 14 dX12_unnumber_13 (by decide) rfl ?_
        refine q_iconst 2 15 dX12_unnumber_14 ic_2 rfl ?_
        refine q_irem 16 dX12_unnumber_15 (by decide) rfl ?_
        refine q_iast 2 2 17 (w' := [_, _, _]) dX12_unnumber_16 rfl ⟨by decide, by decide, by decide⟩ rfl rfl ?_
        refine q_aload_n 0 18 dX12_unnumber_17 rfl rfl rfl ?_
        refine q_getR 0 21 f_X12_29 dX12_unnumber_18 rfl rfl rfl rfl ?_
        refine q_iconst 1 22 dX12_unnumber_21 ic_1 rfl ?_
        refine q_iload_n 1 23 dX12_unnumber_22 rfl rfl rfl ?_
        refine q_sipush 242 26 dX12_unnumber_23 sc_242 rfl ?_
        refine q_idiv 27 dX12_unnumber_26 (by decide) rfl ?_
        refine q_bipush 8 29 dX12_unnumber_27 bc_8 rfl ?_
        refine q_irem 30 dX12_unnumber_29 (by decide) rfl ?_
        refine q_iconst 3 31 dX12_unnumber_30 ic_3 rfl ?_
        refine q_isub 32 dX12_unnumber_31 rfl ?_
        refine q_iast 2 1 33 (w' := [_, _, _]) dX12_unnumber_32 rfl ⟨by decide, by decide, by decide⟩ rfl rfl ?_
        refine q_aload_n 0 34 dX12_unnumber_33 rfl rfl rfl ?_
        refine q_getR 0 37 f_X12_29 dX12_unnumber_34 rfl rfl rfl rfl ?_
        refine q_iconst 0 38 dX12_unnumber_37 ic_0 rfl ?_
        refine q_iload_n 1 39 dX12_unnumber_38 rfl rfl rfl ?_
        refine q_sipush 1936 42 dX12_unnumber_39 sc_1936 rfl ?_
        refine q_idiv 43 dX12_unnumber_42 (by decide) rfl ?_
        refine q_iconst 3 44 dX12_unnumber_43 ic_3 rfl ?_
        refine q_isub 45 dX12_unnumber_44 rfl ?_
        refine q_iast 2 0 46 (w' := [_, _, _]) dX12_unnumber_45 rfl ⟨by decide, by decide, by decide⟩ rfl rfl ?_
        refine q_aload_n 0 47 dX12_unnumber_46 rfl rfl rfl ?_
        refine q_getR 0 50 f_X12_29 dX12_unnumber_47 rfl rfl rfl rfl ?_
        refine q_iconst 3 51 dX12_unnumber_50 ic_3 rfl ?_
        refine q_iload_n 2 52 dX12_unnumber_51 rfl rfl rfl ?_
        refine q_if_ne 59 55 dX12_unnumber_52 (by decide) rfl (fun h52 => ?_) (fun h52 => absurd h52 h0)
        refine q_iload_n 2 60 dX12_unnumber_59 rfl rfl rfl ?_
        refine q_bipush 21 62 dX12_unnumber_60 bc_21 rfl ?_
        refine q_icmp_ge 69 65 dX12_unnumber_62 (by decide) rfl (fun h62 => absurd h62 (by (try simp only [i_lt, i_le, i_eq, Int32.reduceToInt] at *) <;> omega)) (fun h62 => ?_)
        refine q_iconst 1 66 dX12_unnumber_65 ic_1 rfl ?_
        refine q_goto 70 dX12_unnumber_66 (by decide) ?_
        refine q_iast 2 3 71 (w' := [_, _, _]) dX12_unnumber_70 rfl ⟨by decide, by decide, by decide⟩ rfl rfl ?_
        refine q_aload_n 0 72 dX12_unnumber_71 rfl rfl rfl ?_
        refine q_getR 0 75 f_X12_29 dX12_unnumber_72 rfl rfl rfl rfl ?_
        refine q_bipush 6 77 dX12_unnumber_75 bc_6 rfl ?_
        refine q_iload_n 2 78 dX12_unnumber_77 rfl rfl rfl ?_
        refine q_bipush 10 80 dX12_unnumber_78 bc_10 rfl ?_
        refine q_icmp_le 87 83 dX12_unnumber_80 (by decide) rfl (fun h80 => absurd h80 (by (try simp only [i_lt, i_le, i_eq, Int32.reduceToInt] at *) <;> omega)) (fun h80 => ?_)
        refine q_iconst 1 84 dX12_unnumber_83 ic_1 rfl ?_
        refine q_goto 88 dX12_unnumber_84 (by decide) ?_
        refine q_iast 2 6 89 (w' := [_, _, _]) dX12_unnumber_88 rfl ⟨by decide, by decide, by decide⟩ rfl rfl ?_
        refine q_aload_n 0 90 dX12_unnumber_89 rfl rfl rfl ?_
        refine q_getR 0 93 f_X12_29 dX12_unnumber_90 rfl rfl rfl rfl ?_
        refine q_iconst 4 94 dX12_unnumber_93 ic_4 rfl ?_
        refine q_iload_n 2 95 dX12_unnumber_94 rfl rfl rfl ?_
        refine q_if_ne 102 98 dX12_unnumber_95 (by decide) rfl (fun h95 => ?_) (fun h95 => absurd h95 h0)
        refine q_iload_n 2 103 dX12_unnumber_102 rfl rfl rfl ?_
        refine q_bipush 11 105 dX12_unnumber_103 bc_11 rfl ?_
        refine q_icmp_ge 114 108 dX12_unnumber_105 (by decide) rfl (fun h105 => ?_) (fun h105 => absurd (by (try simp only [i_lt, i_le, i_eq, Int32.reduceToInt] at *) <;> omega) h105)
        refine q_iload_n 2 115 dX12_unnumber_114 rfl rfl rfl ?_
        refine q_bipush 21 117 dX12_unnumber_115 bc_21 rfl ?_
        refine q_icmp_ge 127 120 dX12_unnumber_117 (by decide) rfl (fun h117 => absurd h117 (by (try simp only [i_lt, i_le, i_eq, Int32.reduceToInt] at *) <;> omega)) (fun h117 => ?_)
        refine q_iload_n 2 121 dX12_unnumber_120 rfl rfl rfl ?_
        refine q_bipush 11 123 dX12_unnumber_121 bc_11 rfl ?_
        refine q_isub 124 dX12_unnumber_123 rfl ?_
        refine q_goto 134 dX12_unnumber_124 (by decide) ?_
        refine q_iast 2 4 135 (w' := [_, _, _]) dX12_unnumber_134 rfl ⟨by decide, by decide, by decide⟩ rfl rfl ?_
        refine q_aload_n 0 136 dX12_unnumber_135 rfl rfl rfl ?_
        refine q_getR 0 139 f_X12_29 dX12_unnumber_136 rfl rfl rfl rfl ?_
        refine q_iconst 5 140 dX12_unnumber_139 ic_5 rfl ?_
        refine q_iload_n 2 141 dX12_unnumber_140 rfl rfl rfl ?_
        refine q_bipush 21 143 dX12_unnumber_141 bc_21 rfl ?_
        refine q_icmp_ge 150 146 dX12_unnumber_143 (by decide) rfl (fun h143 => absurd h143 (by (try simp only [i_lt, i_le, i_eq, Int32.reduceToInt] at *) <;> omega)) (fun h143 => ?_)
        refine q_iconst 0 147 dX12_unnumber_146 ic_0 rfl ?_
        refine q_goto 157 dX12_unnumber_147 (by decide) ?_
        refine q_iast 2 5 158 (w' := [_, _, _]) dX12_unnumber_157 rfl ⟨by decide, by decide, by decide⟩ rfl rfl ?_
        refine q_aload_n 0 159 dX12_unnumber_158 rfl rfl rfl ?_
        refine q_getR 0 162 f_X12_29 dX12_unnumber_159 rfl rfl rfl rfl ?_
        refine q_bipush 7 164 dX12_unnumber_162 bc_7 rfl ?_
        refine q_aload_n 0 165 dX12_unnumber_164 rfl rfl rfl ?_
        refine q_getR 0 168 f_X12_7 dX12_unnumber_165 rfl rfl rfl rfl ?_
        refine q_sipush 208 171 dX12_unnumber_168 sc_208 rfl ?_
        refine q_iald 1 208 172 dX12_unnumber_171 rfl ⟨by decide, by decide, by decide⟩ rfl ?_
        refine q_iast 2 7 173 (w' := [_, _, _]) dX12_unnumber_172 rfl ⟨by decide, by decide, by decide⟩ rfl rfl ?_
        refine q_aload_n 0 174 dX12_unnumber_173 rfl rfl rfl ?_
        refine q_getR 0 177 f_X12_29 dX12_unnumber_174 rfl rfl rfl rfl ?_
        refine q_bipush 8 179 dX12_unnumber_177 bc_8 rfl ?_
        refine q_aload_n 0 180 dX12_unnumber_179 rfl rfl rfl ?_
        refine q_getR 0 183 f_X12_7 dX12_unnumber_180 rfl rfl rfl rfl ?_
        refine q_sipush 209 186 dX12_unnumber_183 sc_209 rfl ?_
        refine q_iald 1 209 187 dX12_unnumber_186 rfl ⟨by decide, by decide, by decide⟩ rfl ?_
        refine q_iast 2 8 188 (w' := [_, _, _]) dX12_unnumber_187 rfl ⟨by decide, by decide, by decide⟩ rfl rfl ?_
        refine q_return dX12_unnumber_188 rfl ?_
        exact pR.rf
      · have e1 : uCh c = 2 := by simp only [uCh]; (repeat' split) <;> first | rfl | (exfalso; (try simp only [i_lt, i_le, i_eq, Int32.reduceToInt] at *); omega)
        have e2 : uOff c = 1 := by simp only [uOff]; (repeat' split) <;> first | rfl | (exfalso; (try simp only [i_lt, i_le, i_eq, Int32.reduceToInt] at *); omega)
        have e3 : uF c = ((c - 21) / 10) := by simp only [uF]; (repeat' split) <;> first | rfl | (exfalso; (try simp only [i_lt, i_le, i_eq, Int32.reduceToInt] at *); omega)
        have e4 : uS c = ((c - 21) - (c - 21) / 10 * 10) := by simp only [uS]; (repeat' split) <;> first | rfl | (exfalso; (try simp only [i_lt, i_le, i_eq, Int32.reduceToInt] at *); omega)
        unfold rUn
        rw [hc, e1, e2, e3, e4]
        clear e1 e2 e3 e4
        have hc : k - k / 121 * 121 = c := hc
        subst hc
        refine q_iload_n 1 1 dX12_unnumber_0 rfl rfl rfl ?_
        refine q_bipush 121 3 dX12_unnumber_1 bc_121 rfl ?_
        refine q_irem 4 dX12_unnumber_3 (by decide) rfl ?_
        refine q_istore_n 2 5 (L' := [_, _, _]) dX12_unnumber_4 rfl (by decide) rfl rfl ?_
        refine q_aload_n 0 6 dX12_unnumber_5 rfl rfl rfl ?_
        refine q_getR 0 9 f_X12_29 dX12_unnumber_6 rfl rfl rfl rfl ?_
        refine q_iconst 2 10 dX12_unnumber_9 ic_2 rfl ?_
        refine q_iload_n 1 11 dX12_unnumber_10 rfl rfl rfl ?_
        refine q_bipush 121 13 dX12_unnumber_11 bc_121 rfl ?_
        refine q_idiv 14 dX12_unnumber_13 (by decide) rfl ?_
        refine q_iconst 2 15 dX12_unnumber_14 ic_2 rfl ?_
        refine q_irem 16 dX12_unnumber_15 (by decide) rfl ?_
        refine q_iast 2 2 17 (w' := [_, _, _]) dX12_unnumber_16 rfl ⟨by decide, by decide, by decide⟩ rfl rfl ?_
        refine q_aload_n 0 18 dX12_unnumber_17 rfl rfl rfl ?_
        refine q_getR 0 21 f_X12_29 dX12_unnumber_18 rfl rfl rfl rfl ?_
        refine q_iconst 1 22 dX12_unnumber_21 ic_1 rfl ?_
        refine q_iload_n 1 23 dX12_unnumber_22 rfl rfl rfl ?_
        refine q_sipush 242 26 dX12_unnumber_23 sc_242 rfl ?_
        refine q_idiv 27 dX12_unnumber_26 (by decide) rfl ?_
        refine q_bipush 8 29 dX12_unnumber_27 bc_8 rfl ?_
        refine q_irem 30 dX12_unnumber_29 (by decide) rfl ?_
        refine q_iconst 3 31 dX12_unnumber_30 ic_3 rfl ?_
        refine q_isub 32 dX12_unnumber_31 rfl ?_
        refine q_iast 2 1 33 (w' := [_, _, _]) dX12_unnumber_32 rfl ⟨by decide, by decide, by decide⟩ rfl rfl ?_
        refine q_aload_n 0 34 dX12_unnumber_33 rfl rfl rfl ?_
        refine q_getR 0 37 f_X12_29 dX12_unnumber_34 rfl rfl rfl rfl ?_
        refine q_iconst 0 38 dX12_unnumber_37 ic_0 rfl ?_
        refine q_iload_n 1 39 dX12_unnumber_38 rfl rfl rfl ?_
        refine q_sipush 1936 42 dX12_unnumber_39 sc_1936 rfl ?_
        refine q_idiv 43 dX12_unnumber_42 (by decide) rfl ?_
        refine q_iconst 3 44 dX12_unnumber_43 ic_3 rfl ?_
        refine q_isub 45 dX12_unnumber_44 rfl ?_
        refine q_iast 2 0 46 (w' := [_, _, _]) dX12_unnumber_45 rfl ⟨by decide, by decide, by decide⟩ rfl rfl ?_
        refine q_aload_n 0 47 dX12_unnumber_46 rfl rfl rfl ?_
        refine q_getR 0 50 f_X12_29 dX12_unnumber_47 rfl rfl rfl rfl ?_
        refine q_iconst 3 51 dX12_unnumber_50 ic_3 rfl ?_
        refine q_iload_n 2 52 dX12_unnumber_51 rfl rfl rfl ?_
        refine q_if_ne 59 55 dX12_unnumber_52 (by decide) rfl (fun h52 => ?_) (fun h52 => absurd h52 h0)
        refine q_iload_n 2 60 dX12_unnumber_59 rfl rfl rfl ?_
        refine q_bipush 21 62 dX12_unnumber_60 bc_21 rfl ?_
        refine q_icmp_ge 69 65 dX12_unnumber_62 (by decide) rfl (fun h62 => ?_) (fun h62 => absurd (by (try simp only [i_lt, i_le, i_eq, Int32.reduceToInt] at *) <;> omega) h62)
        refine q_iconst 2 70 dX12_unnumber_69 ic_2 rfl ?_
        refine q_iast 2 3 71 (w' := [_, _, _]) dX12_unnumber_70 rfl ⟨by decide, by decide, by decide⟩ rfl rfl ?_
        refine q_aload_n 0 72 dX12_unnumber_71 rfl rfl rfl ?_
        refine q_getR 0 75 f_X12_29 dX12_unnumber_72 rfl rfl rfl rfl ?_
        refine q_bipush 6 77 dX12_unnumber_75 bc_6 rfl ?_
        refine q_iload_n 2 78 dX12_unnumber_77 rfl rfl rfl ?_
        refine q_bipush 10 80 dX12_unnumber_78 bc_10 rfl ?_
        refine q_icmp_le 87 83 dX12_unnumber_80 (by decide) rfl (fun h80 => absurd h80 (by (try simp only [i_lt, i_le, i_eq, Int32.reduceToInt] at *) <;> omega)) (fun h80 => ?_)
        refine q_iconst 1 84 dX12_unnumber_83 ic_1 rfl ?_
        refine q_goto 88 dX12_unnumber_84 (by decide) ?_
        refine q_iast 2 6 89 (w' := [_, _, _]) dX12_unnumber_88 rfl ⟨by decide, by decide, by decide⟩ rfl rfl ?_
        refine q_aload_n 0 90 dX12_unnumber_89 rfl rfl rfl ?_
        refine q_getR 0 93 f_X12_29 dX12_unnumber_90 rfl rfl rfl rfl ?_
        refine q_iconst 4 94 dX12_unnumber_93 ic_4 rfl ?_
        refine q_iload_n 2 95 dX12_unnumber_94 rfl rfl rfl ?_
        refine q_if_ne 102 98 dX12_unnumber_95 (by decide) rfl (fun h95 => ?_) (fun h95 => absurd h95 h0)
        refine q_iload_n 2 103 dX12_unnumber_102 rfl rfl rfl ?_
        refine q_bipush 11 105 dX12_unnumber_103 bc_11 rfl ?_
        refine q_icmp_ge 114 108 dX12_unnumber_105 (by decide) rfl (fun h105 => ?_) (fun h105 => absurd (by (try simp only [i_lt, i_le, i_eq, Int32.reduceToInt] at *) <;> omega) h105)
        refine q_iload_n 2 115 dX12_unnumber_114 rfl rfl rfl ?_
        refine q_bipush 21 117 dX12_unnumber_115 bc_21 rfl ?_
        refine q_icmp_ge 127 120 dX12_unnumber_117 (by decide) rfl (fun h117 => ?_) (fun h117 => absurd (by (try simp only [i_lt, i_le, i_eq, Int32.reduceToInt] at *) <;> omega) h117)
        refine q_iload_n 2 128 dX12_unnumber_127 rfl rfl rfl ?_
        refine q_bipush 21 130 dX12_unnumber_128 bc_21 rfl ?_
        refine q_isub 131 dX12_unnumber_130 rfl ?_
        refine q_bipush 10 133 dX12_unnumber_131 bc_10 rfl ?_
        refine q_idiv 134 dX12_unnumber_133 (by decide) rfl ?_
        refine q_iast 2 4 135 (w' := [_, _, _]) dX12_unnumber_134 rfl ⟨by decide, by decide, by decide⟩ rfl rfl ?_
        refine q_aload_n 0 136 dX12_unnumber_135 rfl rfl rfl ?_
        refine q_getR 0 139 f_X12_29 dX12_unnumber_136 rfl rfl rfl rfl ?_
        refine q_iconst 5 140 dX12_unnumber_139 ic_5 rfl ?_
        refine q_iload_n 2 141 dX12_unnumber_140 rfl rfl rfl ?_
        refine q_bipush 21 143 dX12_unnumber_141 bc_21 rfl ?_
        refine q_icmp_ge 150 146 dX12_unnumber_143 (by decide) rfl (fun h143 => ?_) (fun h143 => absurd (by (try simp only [i_lt, i_le, i_eq, Int32.reduceToInt] at *) <;> omega) h143)
        refine q_iload_n 2 151 dX12_unnumber_150 rfl rfl rfl ?_
        refine q_bipush 21 153 dX12_unnumber_151 bc_21 rfl ?_
        refine q_isub 154 dX12_unnumber_153 rfl ?_
        refine q_bipush 10 156 dX12_unnumber_154 bc_10 rfl ?_
        refine q_irem 157 dX12_unnumber_156 (by decide) rfl ?_
        refine q_iast 2 5 158 (w' := [_, _, _]) dX12_unnumber_157 rfl ⟨by decide, by decide, by decide⟩ rfl rfl ?_
        refine q_aload_n 0 159 dX12_unnumber_158 rfl rfl rfl ?_
        refine q_getR 0 162 f_X12_29 dX12_unnumber_159 rfl rfl rfl rfl ?_
        refine q_bipush 7 164 dX12_unnumber_162 bc_7 rfl ?_
        refine q_aload_n 0 165 dX12_unnumber_164 rfl rfl rfl ?_
        refine q_getR 0 168 f_X12_7 dX12_unnumber_165 rfl rfl rfl rfl ?_
        refine q_sipush 208 171 dX12_unnumber_168 sc_208 rfl ?_
        refine q_iald 1 208 172 dX12_unnumber_171 rfl ⟨by decide, by decide, by decide⟩ rfl ?_
        refine q_iast 2 7 173 (w' := [_, _, _]) dX12_unnumber_172 rfl ⟨by decide, by decide, by decide⟩ rfl rfl ?_
        refine q_aload_n 0 174 dX12_unnumber_173 rfl rfl rfl ?_
        refine q_getR 0 177 f_X12_29 dX12_unnumber_174 rfl rfl rfl rfl ?_
        refine q_bipush 8 179 dX12_unnumber_177 bc_8 rfl ?_
        refine q_aload_n 0 180 dX12_unnumber_179 rfl rfl rfl ?_
        refine q_getR 0 183 f_X12_7 dX12_unnumber_180 rfl rfl rfl rfl ?_
        refine q_sipush 209 186 dX12_unnumber_183 sc_209 rfl ?_
        refine q_iald 1 209 187 dX12_unnumber_186 rfl ⟨by decide, by decide, by decide⟩ rfl ?_
        refine q_iast 2 8 188 (w' := [_, _, _]) dX12_unnumber_187 rfl ⟨by decide, by decide, by decide⟩ rfl rfl ?_
        refine q_return dX12_unnumber_188 rfl ?_
        exact pR.rf
/-- the first j places are h's, the rest f's -/
def cp (f h : Nat → Int32) (j : Nat) : Nat → Int32 := fun k => if k < j then h k else f k
theorem cp_0 (f h : Nat → Int32) : cp f h 0 = f := by funext k; simp [cp]
theorem cp_s (f h : Nat → Int32) (j : Nat) : upd (cp f h j) j (h j) = cp f h (j + 1) := by
  funext k
  by_cases hk : k = j
  · subst hk; simp [cp, upd]
  · by_cases h2 : k < j
    · simp [cp, upd, hk, h2, Nat.lt_succ_of_lt h2]
    · have : ¬ k < j + 1 := by omega
      simp [cp, upd, hk, h2, this]
def rTake (m x : Sc) : Sc := cp x (fun k => m (201 + k)) 9
theorem nI_add' (a b : Nat) : nI a + nI b = nI (a + b) := nI_add a b
theorem c_M_takes {l : Launch} {g : Gh} {q : Nat} {A : Nat → Nat} {i : Nat → Int32} {m x : Sc} : Cp l g yX12_takes (Cond.code yX12_takes cX12_takes 2 none) 1 [.ref q] [(q, ob 12 i (rM A)), (A 1, aI g 2616 m), (A 16, aI g 9 x)] none [(q, ob 12 i (rM A)), (A 1, aI g 2616 m), (A 16, aI g 9 (rTake m x))] := by
  refine ct_of (M := mtX12_takes) [some (.ref q), none] rfl (by decide) (Nat.le_of_ble_eq_true rfl) (fun _ h => h) (fun a => ?_)
  have K : ∀ (n j : Nat), n + j = 9 → WPs l g mtX12_takes 1 0 0 (pR none [(q, ob 12 i (rM A)), (A 1, aI g 2616 m), (A 16, aI g 9 (rTake m x))]) noX a 2 [some (.ref q), some (.int (nI j))] [] [(q, ob 12 i (rM A)), (A 1, aI g 2616 m), (A 16, aI g 9 (cp x (fun k => m (201 + k)) j))] 0 0 := by
    intro n
    induction n with
    | zero =>
      intro j hj
      obtain rfl : j = 9 := by omega
      refine q_iload_n 1 3 dX12_takes_2 rfl rfl rfl ?_
      refine q_bipush 9 5 dX12_takes_3 bc_9 rfl ?_
      refine q_icmp_ge 30 8 dX12_takes_5 (by decide) rfl (fun h5 => ?_) (fun h5 => absurd (by decide) h5)
      refine q_return dX12_takes_30 rfl ?_
      exact pR.rf
    | succ n ih =>
      intro j hj
      refine q_iload_n 1 3 dX12_takes_2 rfl rfl rfl ?_
      refine q_bipush 9 5 dX12_takes_3 bc_9 rfl ?_
      refine q_icmp_ge 30 8 dX12_takes_5 (by decide) rfl (fun h5 => absurd h5 (nI_ge (a := j) (b := 9) (by omega) (by omega))) (fun h5 => ?_)
      refine q_aload_n 0 9 dX12_takes_8 rfl rfl rfl ?_
      refine q_getR 0 12 f_X12_29 dX12_takes_9 rfl rfl rfl rfl ?_
      refine q_iload_n 1 13 dX12_takes_12 rfl rfl rfl ?_
      refine q_aload_n 0 14 dX12_takes_13 rfl rfl rfl ?_
      refine q_getR 0 17 f_X12_7 dX12_takes_14 rfl rfl rfl rfl ?_
      refine q_sipush 201 20 dX12_takes_17 sc_201 rfl ?_
      refine q_iload_n 1 21 dX12_takes_20 rfl rfl rfl ?_
      refine q_iadd 22 dX12_takes_21 rfl ?_
      refine q_iald 1 (201+j) 23 dX12_takes_22 rfl ⟨nI_add 201 j, by omega, by decide⟩ rfl ?_
      refine q_iast 2 j 24 (w' := [_, _, _]) dX12_takes_23 rfl ⟨rfl, by omega, by decide⟩ rfl rfl ?_
      refine q_iinc 1 (nI (j + 1)) 27 (L' := [_, _]) dX12_takes_24 rfl (inc1 (j)) (by decide) rfl rfl ?_
      refine q_goto 2 dX12_takes_27 (by decide) ?_
      rw [cp_s x (fun k => m (201 + k)) j]
      exact ih (j + 1) (by omega)
  have K0 := K 9 0 rfl
  rw [cp_0] at K0
  refine q_iconst 0 1 dX12_takes_0 ic_0 rfl ?_
  refine q_istore_n 1 2 (L' := [_, _]) dX12_takes_1 rfl (by decide) rfl rfl ?_
  exact K0
def rPut (m x : Sc) (j : Nat) : Sc := fun k => if 201 ≤ k ∧ k < 201 + j then x (k - 201) else m k
theorem rPut_0 (m x : Sc) : rPut m x 0 = m := by
  funext k
  simp only [rPut]
  rw [if_neg (by omega)]
theorem rPut_s (m x : Sc) (j : Nat) : upd (rPut m x j) (201 + j) (x j) = rPut m x (j + 1) := by
  funext k
  by_cases hk : k = 201 + j
  · subst hk
    simp only [rPut, upd, if_true]
    rw [if_pos (by omega), show 201 + j - 201 = j by omega]
  · simp only [rPut, upd, if_neg hk]
    by_cases h : 201 ≤ k ∧ k < 201 + j
    · rw [if_pos h, if_pos (by omega)]
    · rw [if_neg h, if_neg (by omega)]
theorem c_M_puts {l : Launch} {g : Gh} {q : Nat} {A : Nat → Nat} {i : Nat → Int32} {m x : Sc} : Cp l g yX12_puts (Cond.code yX12_puts cX12_puts 2 none) 1 [.ref q] [(q, ob 12 i (rM A)), (A 1, aI g 2616 m), (A 16, aI g 9 x)] none [(q, ob 12 i (rM A)), (A 1, aI g 2616 (rPut m x 9)), (A 16, aI g 9 x)] := by
  refine ct_of (M := mtX12_puts) [some (.ref q), none] rfl (by decide) (Nat.le_of_ble_eq_true rfl) (fun _ h => h) (fun a => ?_)
  have K : ∀ (n j : Nat), n + j = 9 → WPs l g mtX12_puts 1 0 0 (pR none [(q, ob 12 i (rM A)), (A 1, aI g 2616 (rPut m x 9)), (A 16, aI g 9 x)]) noX a 2 [some (.ref q), some (.int (nI j))] [] [(q, ob 12 i (rM A)), (A 1, aI g 2616 (rPut m x j)), (A 16, aI g 9 x)] 0 0 := by
    intro n
    induction n with
    | zero =>
      intro j hj
      obtain rfl : j = 9 := by omega
      refine q_iload_n 1 3 dX12_puts_2 rfl rfl rfl ?_
      refine q_bipush 9 5 dX12_puts_3 bc_9 rfl ?_
      refine q_icmp_ge 30 8 dX12_puts_5 (by decide) rfl (fun h5 => ?_) (fun h5 => absurd (by decide) h5)
      refine q_return dX12_puts_30 rfl ?_
      exact pR.rf
    | succ n ih =>
      intro j hj
      refine q_iload_n 1 3 dX12_puts_2 rfl rfl rfl ?_
      refine q_bipush 9 5 dX12_puts_3 bc_9 rfl ?_
      refine q_icmp_ge 30 8 dX12_puts_5 (by decide) rfl (fun h5 => absurd h5 (nI_ge (a := j) (b := 9) (by omega) (by omega))) (fun h5 => ?_)
      refine q_aload_n 0 9 dX12_puts_8 rfl rfl rfl ?_
      refine q_getR 0 12 f_X12_7 dX12_puts_9 rfl rfl rfl rfl ?_
      refine q_sipush 201 15 dX12_puts_12 sc_201 rfl ?_
      refine q_iload_n 1 16 dX12_puts_15 rfl rfl rfl ?_
      refine q_iadd 17 dX12_puts_16 rfl ?_
      refine q_aload_n 0 18 dX12_puts_17 rfl rfl rfl ?_
      refine q_getR 0 21 f_X12_29 dX12_puts_18 rfl rfl rfl rfl ?_
      refine q_iload_n 1 22 dX12_puts_21 rfl rfl rfl ?_
      refine q_iald 2 j 23 dX12_puts_22 rfl ⟨rfl, by omega, by decide⟩ rfl ?_
      refine q_iast 1 (201+j) 24 (w' := [_, _, _]) dX12_puts_23 rfl ⟨nI_add 201 j, by omega, by decide⟩ rfl rfl ?_
      refine q_iinc 1 (nI (j + 1)) 27 (L' := [_, _]) dX12_puts_24 rfl (inc1 (j)) (by decide) rfl rfl ?_
      refine q_goto 2 dX12_puts_27 (by decide) ?_
      rw [rPut_s m x j]
      exact ih (j + 1) (by omega)
  have K0 := K 9 0 rfl
  rw [rPut_0] at K0
  refine q_iconst 0 1 dX12_puts_0 ic_0 rfl ?_
  refine q_istore_n 1 2 (L' := [_, _]) dX12_puts_1 rfl (by decide) rfl rfl ?_
  exact K0

