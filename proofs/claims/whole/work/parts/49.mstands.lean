/-! ===== stands ===== -/
theorem p_stands0 {l : Launch} {g : Gh} {q : Nat} {A : Nat → Nat} {i m x : Nat → Int32} {w : Int32} (hw : rIn w 0 9 = 0) : Cp l g yX12_stands (Cond.code yX12_stands cX12_stands 2 (some .int)) 3 [.ref q, .int w] [(q, ob 12 (i) (rM A)), (A 1, aI g 2616 m), (A 16, aI g 9 (x))] (some (.int 0)) [(q, ob 12 (upd i 0 1) (rM A)), (A 1, aI g 2616 m), (A 16, aI g 9 (x))] := by
  refine ct_of (M := mtX12_stands) [some (.ref q), some (.int w)] rfl (by decide) (Nat.le_of_ble_eq_true rfl) (fun _ h => h) (fun a => ?_)
  refine q_aload_n 0 1 dX12_stands_0 rfl rfl rfl ?_
  refine q_iload_n 1 2 dX12_stands_1 rfl rfl rfl ?_
  refine q_iconst 0 3 dX12_stands_2 ic_0 rfl ?_
  refine q_bipush 9 5 dX12_stands_3 bc_9 rfl ?_
  refine q_cSi [] [0, 1, 2] [0, 1, 2] 8 (wr := [_, _, _]) (w1 := _) (ws' := [_, _, _]) c_isIn m_X12_70 dX12_stands_5 rfl rfl rfl rfl rfl (by decide) (by decide) (by decide) (by decide) (Nat.le_of_ble_eq_true rfl) (by omega) (by omega) (by omega) rfl ?_
  refine q_if_ne 15 11 dX12_stands_8 (by decide) rfl (fun h8 => absurd hw h8) (fun h8 => ?_)
  refine q_iconst 1 12 dX12_stands_11 ic_1 rfl ?_
  refine q_goto 16 dX12_stands_12 (by decide) ?_
  refine q_putI 0 19 (w' := [_, _, _]) f_X12_67 ft_X12_0 dX12_stands_16 rfl rfl rfl rfl ?_
  refine q_aload_n 0 20 dX12_stands_19 rfl rfl rfl ?_
  refine q_getI 0 23 f_X12_67 dX12_stands_20 rfl rfl rfl ?_
  refine q_if_le 28 26 dX12_stands_23 (by decide) rfl (fun h23 => absurd h23 (by show ¬ (1 : Int32) ≤ 0; decide)) (fun h23 => ?_)
  refine q_iconst 0 27 dX12_stands_26 ic_0 rfl ?_
  refine q_ireturn dX12_stands_27 rfl ?_
  exact pR.rf
theorem p_stands_0 {l : Launch} {g : Gh} {q : Nat} {A : Nat → Nat} {i m x : Nat → Int32} : Cp l g yX12_stands (Cond.code yX12_stands cX12_stands 2 (some .int)) 3 [.ref q, .int 0] [(q, ob 12 (i) (rM A)), (A 1, aI g 2616 m), (A 16, aI g 9 (x))] (some (.int (rTold (rTake m x) 0))) [(q, ob 12 (upd i 0 0) (rM A)), (A 1, aI g 2616 m), (A 16, aI g 9 (rTake m x))] := by
  refine ct_of (M := mtX12_stands) [some (.ref q), some (.int 0)] rfl (by decide) (Nat.le_of_ble_eq_true rfl) (fun _ h => h) (fun a => ?_)
  refine q_aload_n 0 1 dX12_stands_0 rfl rfl rfl ?_
  refine q_iload_n 1 2 dX12_stands_1 rfl rfl rfl ?_
  refine q_iconst 0 3 dX12_stands_2 ic_0 rfl ?_
  refine q_bipush 9 5 dX12_stands_3 bc_9 rfl ?_
  refine q_cSi [] [0, 1, 2] [0, 1, 2] 8 (wr := [_, _, _]) (w1 := _) (ws' := [_, _, _]) c_isIn m_X12_70 dX12_stands_5 rfl rfl rfl rfl rfl (by decide) (by decide) (by decide) (by decide) (Nat.le_of_ble_eq_true rfl) (by omega) (by omega) (by omega) rfl ?_
  refine q_if_ne 15 11 dX12_stands_8 (by decide) rfl (fun h8 => ?_) (fun h8 => absurd h8 (by decide))
  refine q_iconst 0 16 dX12_stands_15 ic_0 rfl ?_
  refine q_putI 0 19 (w' := [_, _, _]) f_X12_67 ft_X12_0 dX12_stands_16 rfl rfl rfl rfl ?_
  refine q_aload_n 0 20 dX12_stands_19 rfl rfl rfl ?_
  refine q_getI 0 23 f_X12_67 dX12_stands_20 rfl rfl rfl ?_
  refine q_if_le 28 26 dX12_stands_23 (by decide) rfl (fun h23 => ?_) (fun h23 => absurd (by show (0 : Int32) ≤ 0; decide) h23)
  refine q_aload_n 0 29 dX12_stands_28 rfl rfl rfl ?_
  refine q_cVv 0 [0, 1, 2] [] [0, 1, 2] 32 (wr := []) (w1 := _) (ws' := [_, _, _]) c_M_takes m_X12_200 dX12_stands_29 rfl rfl rfl rfl rfl rfl rfl rfl (by decide) (by decide) (by decide) (by decide) (Nat.le_of_ble_eq_true rfl) (by omega) (by omega) (by omega) rfl ?_
  refine q_aload_n 0 33 dX12_stands_32 rfl rfl rfl ?_
  refine q_iload_n 1 34 dX12_stands_33 rfl rfl rfl ?_
  refine q_cVi 0 [0, 2] [1] [1, 0, 2] 37 (wr := [_]) (w1 := _) (ws' := [_, _, _]) c_M_told_0 m_X12_209 dX12_stands_34 rfl rfl rfl rfl rfl rfl rfl rfl (by decide) (by decide) (by decide) (by decide) (Nat.le_of_ble_eq_true rfl) (by omega) (by omega) (by omega) rfl ?_
  refine q_ireturn dX12_stands_37 rfl ?_
  exact pR.rf
theorem p_stands_1 {l : Launch} {g : Gh} {q : Nat} {A : Nat → Nat} {i m x : Nat → Int32} : Cp l g yX12_stands (Cond.code yX12_stands cX12_stands 2 (some .int)) 3 [.ref q, .int 1] [(q, ob 12 (i) (rM A)), (A 1, aI g 2616 m), (A 16, aI g 9 (x))] (some (.int (rTold (rTake m x) 1))) [(q, ob 12 (upd i 0 0) (rM A)), (A 1, aI g 2616 m), (A 16, aI g 9 (rTake m x))] := by
  refine ct_of (M := mtX12_stands) [some (.ref q), some (.int 1)] rfl (by decide) (Nat.le_of_ble_eq_true rfl) (fun _ h => h) (fun a => ?_)
  refine q_aload_n 0 1 dX12_stands_0 rfl rfl rfl ?_
  refine q_iload_n 1 2 dX12_stands_1 rfl rfl rfl ?_
  refine q_iconst 0 3 dX12_stands_2 ic_0 rfl ?_
  refine q_bipush 9 5 dX12_stands_3 bc_9 rfl ?_
  refine q_cSi [] [0, 1, 2] [0, 1, 2] 8 (wr := [_, _, _]) (w1 := _) (ws' := [_, _, _]) c_isIn m_X12_70 dX12_stands_5 rfl rfl rfl rfl rfl (by decide) (by decide) (by decide) (by decide) (Nat.le_of_ble_eq_true rfl) (by omega) (by omega) (by omega) rfl ?_
  refine q_if_ne 15 11 dX12_stands_8 (by decide) rfl (fun h8 => ?_) (fun h8 => absurd h8 (by decide))
  refine q_iconst 0 16 dX12_stands_15 ic_0 rfl ?_
  refine q_putI 0 19 (w' := [_, _, _]) f_X12_67 ft_X12_0 dX12_stands_16 rfl rfl rfl rfl ?_
  refine q_aload_n 0 20 dX12_stands_19 rfl rfl rfl ?_
  refine q_getI 0 23 f_X12_67 dX12_stands_20 rfl rfl rfl ?_
  refine q_if_le 28 26 dX12_stands_23 (by decide) rfl (fun h23 => ?_) (fun h23 => absurd (by show (0 : Int32) ≤ 0; decide) h23)
  refine q_aload_n 0 29 dX12_stands_28 rfl rfl rfl ?_
  refine q_cVv 0 [0, 1, 2] [] [0, 1, 2] 32 (wr := []) (w1 := _) (ws' := [_, _, _]) c_M_takes m_X12_200 dX12_stands_29 rfl rfl rfl rfl rfl rfl rfl rfl (by decide) (by decide) (by decide) (by decide) (Nat.le_of_ble_eq_true rfl) (by omega) (by omega) (by omega) rfl ?_
  refine q_aload_n 0 33 dX12_stands_32 rfl rfl rfl ?_
  refine q_iload_n 1 34 dX12_stands_33 rfl rfl rfl ?_
  refine q_cVi 0 [0, 2] [1] [1, 0, 2] 37 (wr := [_]) (w1 := _) (ws' := [_, _, _]) c_M_told_1 m_X12_209 dX12_stands_34 rfl rfl rfl rfl rfl rfl rfl rfl (by decide) (by decide) (by decide) (by decide) (Nat.le_of_ble_eq_true rfl) (by omega) (by omega) (by omega) rfl ?_
  refine q_ireturn dX12_stands_37 rfl ?_
  exact pR.rf
theorem p_stands_2 {l : Launch} {g : Gh} {q : Nat} {A : Nat → Nat} {i m x : Nat → Int32} : Cp l g yX12_stands (Cond.code yX12_stands cX12_stands 2 (some .int)) 3 [.ref q, .int 2] [(q, ob 12 (i) (rM A)), (A 1, aI g 2616 m), (A 16, aI g 9 (x))] (some (.int (rTold (rTake m x) 2))) [(q, ob 12 (upd i 0 0) (rM A)), (A 1, aI g 2616 m), (A 16, aI g 9 (rTake m x))] := by
  refine ct_of (M := mtX12_stands) [some (.ref q), some (.int 2)] rfl (by decide) (Nat.le_of_ble_eq_true rfl) (fun _ h => h) (fun a => ?_)
  refine q_aload_n 0 1 dX12_stands_0 rfl rfl rfl ?_
  refine q_iload_n 1 2 dX12_stands_1 rfl rfl rfl ?_
  refine q_iconst 0 3 dX12_stands_2 ic_0 rfl ?_
  refine q_bipush 9 5 dX12_stands_3 bc_9 rfl ?_
  refine q_cSi [] [0, 1, 2] [0, 1, 2] 8 (wr := [_, _, _]) (w1 := _) (ws' := [_, _, _]) c_isIn m_X12_70 dX12_stands_5 rfl rfl rfl rfl rfl (by decide) (by decide) (by decide) (by decide) (Nat.le_of_ble_eq_true rfl) (by omega) (by omega) (by omega) rfl ?_
  refine q_if_ne 15 11 dX12_stands_8 (by decide) rfl (fun h8 => ?_) (fun h8 => absurd h8 (by decide))
  refine q_iconst 0 16 dX12_stands_15 ic_0 rfl ?_
  refine q_putI 0 19 (w' := [_, _, _]) f_X12_67 ft_X12_0 dX12_stands_16 rfl rfl rfl rfl ?_
  refine q_aload_n 0 20 dX12_stands_19 rfl rfl rfl ?_
  refine q_getI 0 23 f_X12_67 dX12_stands_20 rfl rfl rfl ?_
  refine q_if_le 28 26 dX12_stands_23 (by decide) rfl (fun h23 => ?_) (fun h23 => absurd (by show (0 : Int32) ≤ 0; decide) h23)
  refine q_aload_n 0 29 dX12_stands_28 rfl rfl rfl ?_
  refine q_cVv 0 [0, 1, 2] [] [0, 1, 2] 32 (wr := []) (w1 := _) (ws' := [_, _, _]) c_M_takes m_X12_200 dX12_stands_29 rfl rfl rfl rfl rfl rfl rfl rfl (by decide) (by decide) (by decide) (by decide) (Nat.le_of_ble_eq_true rfl) (by omega) (by omega) (by omega) rfl ?_
  refine q_aload_n 0 33 dX12_stands_32 rfl rfl rfl ?_
  refine q_iload_n 1 34 dX12_stands_33 rfl rfl rfl ?_
  refine q_cVi 0 [0, 2] [1] [1, 0, 2] 37 (wr := [_]) (w1 := _) (ws' := [_, _, _]) c_M_told_2 m_X12_209 dX12_stands_34 rfl rfl rfl rfl rfl rfl rfl rfl (by decide) (by decide) (by decide) (by decide) (Nat.le_of_ble_eq_true rfl) (by omega) (by omega) (by omega) rfl ?_
  refine q_ireturn dX12_stands_37 rfl ?_
  exact pR.rf
theorem p_stands_3 {l : Launch} {g : Gh} {q : Nat} {A : Nat → Nat} {i m x : Nat → Int32} : Cp l g yX12_stands (Cond.code yX12_stands cX12_stands 2 (some .int)) 3 [.ref q, .int 3] [(q, ob 12 (i) (rM A)), (A 1, aI g 2616 m), (A 16, aI g 9 (x))] (some (.int (rTold (rTake m x) 3))) [(q, ob 12 (upd i 0 0) (rM A)), (A 1, aI g 2616 m), (A 16, aI g 9 (rTake m x))] := by
  refine ct_of (M := mtX12_stands) [some (.ref q), some (.int 3)] rfl (by decide) (Nat.le_of_ble_eq_true rfl) (fun _ h => h) (fun a => ?_)
  refine q_aload_n 0 1 dX12_stands_0 rfl rfl rfl ?_
  refine q_iload_n 1 2 dX12_stands_1 rfl rfl rfl ?_
  refine q_iconst 0 3 dX12_stands_2 ic_0 rfl ?_
  refine q_bipush 9 5 dX12_stands_3 bc_9 rfl ?_
  refine q_cSi [] [0, 1, 2] [0, 1, 2] 8 (wr := [_, _, _]) (w1 := _) (ws' := [_, _, _]) c_isIn m_X12_70 dX12_stands_5 rfl rfl rfl rfl rfl (by decide) (by decide) (by decide) (by decide) (Nat.le_of_ble_eq_true rfl) (by omega) (by omega) (by omega) rfl ?_
  refine q_if_ne 15 11 dX12_stands_8 (by decide) rfl (fun h8 => ?_) (fun h8 => absurd h8 (by decide))
  refine q_iconst 0 16 dX12_stands_15 ic_0 rfl ?_
  refine q_putI 0 19 (w' := [_, _, _]) f_X12_67 ft_X12_0 dX12_stands_16 rfl rfl rfl rfl ?_
  refine q_aload_n 0 20 dX12_stands_19 rfl rfl rfl ?_
  refine q_getI 0 23 f_X12_67 dX12_stands_20 rfl rfl rfl ?_
  refine q_if_le 28 26 dX12_stands_23 (by decide) rfl (fun h23 => ?_) (fun h23 => absurd (by show (0 : Int32) ≤ 0; decide) h23)
  refine q_aload_n 0 29 dX12_stands_28 rfl rfl rfl ?_
  refine q_cVv 0 [0, 1, 2] [] [0, 1, 2] 32 (wr := []) (w1 := _) (ws' := [_, _, _]) c_M_takes m_X12_200 dX12_stands_29 rfl rfl rfl rfl rfl rfl rfl rfl (by decide) (by decide) (by decide) (by decide) (Nat.le_of_ble_eq_true rfl) (by omega) (by omega) (by omega) rfl ?_
  refine q_aload_n 0 33 dX12_stands_32 rfl rfl rfl ?_
  refine q_iload_n 1 34 dX12_stands_33 rfl rfl rfl ?_
  refine q_cVi 0 [0, 2] [1] [1, 0, 2] 37 (wr := [_]) (w1 := _) (ws' := [_, _, _]) c_M_told_3 m_X12_209 dX12_stands_34 rfl rfl rfl rfl rfl rfl rfl rfl (by decide) (by decide) (by decide) (by decide) (Nat.le_of_ble_eq_true rfl) (by omega) (by omega) (by omega) rfl ?_
  refine q_ireturn dX12_stands_37 rfl ?_
  exact pR.rf
theorem p_stands_4 {l : Launch} {g : Gh} {q : Nat} {A : Nat → Nat} {i m x : Nat → Int32} : Cp l g yX12_stands (Cond.code yX12_stands cX12_stands 2 (some .int)) 3 [.ref q, .int 4] [(q, ob 12 (i) (rM A)), (A 1, aI g 2616 m), (A 16, aI g 9 (x))] (some (.int (rTold (rTake m x) 4))) [(q, ob 12 (upd i 0 0) (rM A)), (A 1, aI g 2616 m), (A 16, aI g 9 (rTake m x))] := by
  refine ct_of (M := mtX12_stands) [some (.ref q), some (.int 4)] rfl (by decide) (Nat.le_of_ble_eq_true rfl) (fun _ h => h) (fun a => ?_)
  refine q_aload_n 0 1 dX12_stands_0 rfl rfl rfl ?_
  refine q_iload_n 1 2 dX12_stands_1 rfl rfl rfl ?_
  refine q_iconst 0 3 dX12_stands_2 ic_0 rfl ?_
  refine q_bipush 9 5 dX12_stands_3 bc_9 rfl ?_
  refine q_cSi [] [0, 1, 2] [0, 1, 2] 8 (wr := [_, _, _]) (w1 := _) (ws' := [_, _, _]) c_isIn m_X12_70 dX12_stands_5 rfl rfl rfl rfl rfl (by decide) (by decide) (by decide) (by decide) (Nat.le_of_ble_eq_true rfl) (by omega) (by omega) (by omega) rfl ?_
  refine q_if_ne 15 11 dX12_stands_8 (by decide) rfl (fun h8 => ?_) (fun h8 => absurd h8 (by decide))
  refine q_iconst 0 16 dX12_stands_15 ic_0 rfl ?_
  refine q_putI 0 19 (w' := [_, _, _]) f_X12_67 ft_X12_0 dX12_stands_16 rfl rfl rfl rfl ?_
  refine q_aload_n 0 20 dX12_stands_19 rfl rfl rfl ?_
  refine q_getI 0 23 f_X12_67 dX12_stands_20 rfl rfl rfl ?_
  refine q_if_le 28 26 dX12_stands_23 (by decide) rfl (fun h23 => ?_) (fun h23 => absurd (by show (0 : Int32) ≤ 0; decide) h23)
  refine q_aload_n 0 29 dX12_stands_28 rfl rfl rfl ?_
  refine q_cVv 0 [0, 1, 2] [] [0, 1, 2] 32 (wr := []) (w1 := _) (ws' := [_, _, _]) c_M_takes m_X12_200 dX12_stands_29 rfl rfl rfl rfl rfl rfl rfl rfl (by decide) (by decide) (by decide) (by decide) (Nat.le_of_ble_eq_true rfl) (by omega) (by omega) (by omega) rfl ?_
  refine q_aload_n 0 33 dX12_stands_32 rfl rfl rfl ?_
  refine q_iload_n 1 34 dX12_stands_33 rfl rfl rfl ?_
  refine q_cVi 0 [0, 2] [1] [1, 0, 2] 37 (wr := [_]) (w1 := _) (ws' := [_, _, _]) c_M_told_4 m_X12_209 dX12_stands_34 rfl rfl rfl rfl rfl rfl rfl rfl (by decide) (by decide) (by decide) (by decide) (Nat.le_of_ble_eq_true rfl) (by omega) (by omega) (by omega) rfl ?_
  refine q_ireturn dX12_stands_37 rfl ?_
  exact pR.rf
theorem p_stands_5 {l : Launch} {g : Gh} {q : Nat} {A : Nat → Nat} {i m x : Nat → Int32} : Cp l g yX12_stands (Cond.code yX12_stands cX12_stands 2 (some .int)) 3 [.ref q, .int 5] [(q, ob 12 (i) (rM A)), (A 1, aI g 2616 m), (A 16, aI g 9 (x))] (some (.int (rTold (rTake m x) 5))) [(q, ob 12 (upd i 0 0) (rM A)), (A 1, aI g 2616 m), (A 16, aI g 9 (rTake m x))] := by
  refine ct_of (M := mtX12_stands) [some (.ref q), some (.int 5)] rfl (by decide) (Nat.le_of_ble_eq_true rfl) (fun _ h => h) (fun a => ?_)
  refine q_aload_n 0 1 dX12_stands_0 rfl rfl rfl ?_
  refine q_iload_n 1 2 dX12_stands_1 rfl rfl rfl ?_
  refine q_iconst 0 3 dX12_stands_2 ic_0 rfl ?_
  refine q_bipush 9 5 dX12_stands_3 bc_9 rfl ?_
  refine q_cSi [] [0, 1, 2] [0, 1, 2] 8 (wr := [_, _, _]) (w1 := _) (ws' := [_, _, _]) c_isIn m_X12_70 dX12_stands_5 rfl rfl rfl rfl rfl (by decide) (by decide) (by decide) (by decide) (Nat.le_of_ble_eq_true rfl) (by omega) (by omega) (by omega) rfl ?_
  refine q_if_ne 15 11 dX12_stands_8 (by decide) rfl (fun h8 => ?_) (fun h8 => absurd h8 (by decide))
  refine q_iconst 0 16 dX12_stands_15 ic_0 rfl ?_
  refine q_putI 0 19 (w' := [_, _, _]) f_X12_67 ft_X12_0 dX12_stands_16 rfl rfl rfl rfl ?_
  refine q_aload_n 0 20 dX12_stands_19 rfl rfl rfl ?_
  refine q_getI 0 23 f_X12_67 dX12_stands_20 rfl rfl rfl ?_
  refine q_if_le 28 26 dX12_stands_23 (by decide) rfl (fun h23 => ?_) (fun h23 => absurd (by show (0 : Int32) ≤ 0; decide) h23)
  refine q_aload_n 0 29 dX12_stands_28 rfl rfl rfl ?_
  refine q_cVv 0 [0, 1, 2] [] [0, 1, 2] 32 (wr := []) (w1 := _) (ws' := [_, _, _]) c_M_takes m_X12_200 dX12_stands_29 rfl rfl rfl rfl rfl rfl rfl rfl (by decide) (by decide) (by decide) (by decide) (Nat.le_of_ble_eq_true rfl) (by omega) (by omega) (by omega) rfl ?_
  refine q_aload_n 0 33 dX12_stands_32 rfl rfl rfl ?_
  refine q_iload_n 1 34 dX12_stands_33 rfl rfl rfl ?_
  refine q_cVi 0 [0, 2] [1] [1, 0, 2] 37 (wr := [_]) (w1 := _) (ws' := [_, _, _]) c_M_told_5 m_X12_209 dX12_stands_34 rfl rfl rfl rfl rfl rfl rfl rfl (by decide) (by decide) (by decide) (by decide) (Nat.le_of_ble_eq_true rfl) (by omega) (by omega) (by omega) rfl ?_
  refine q_ireturn dX12_stands_37 rfl ?_
  exact pR.rf
theorem p_stands_6 {l : Launch} {g : Gh} {q : Nat} {A : Nat → Nat} {i m x : Nat → Int32} : Cp l g yX12_stands (Cond.code yX12_stands cX12_stands 2 (some .int)) 3 [.ref q, .int 6] [(q, ob 12 (i) (rM A)), (A 1, aI g 2616 m), (A 16, aI g 9 (x))] (some (.int (rTold (rTake m x) 6))) [(q, ob 12 (upd i 0 0) (rM A)), (A 1, aI g 2616 m), (A 16, aI g 9 (rTake m x))] := by
  refine ct_of (M := mtX12_stands) [some (.ref q), some (.int 6)] rfl (by decide) (Nat.le_of_ble_eq_true rfl) (fun _ h => h) (fun a => ?_)
  refine q_aload_n 0 1 dX12_stands_0 rfl rfl rfl ?_
  refine q_iload_n 1 2 dX12_stands_1 rfl rfl rfl ?_
  refine q_iconst 0 3 dX12_stands_2 ic_0 rfl ?_
  refine q_bipush 9 5 dX12_stands_3 bc_9 rfl ?_
  refine q_cSi [] [0, 1, 2] [0, 1, 2] 8 (wr := [_, _, _]) (w1 := _) (ws' := [_, _, _]) c_isIn m_X12_70 dX12_stands_5 rfl rfl rfl rfl rfl (by decide) (by decide) (by decide) (by decide) (Nat.le_of_ble_eq_true rfl) (by omega) (by omega) (by omega) rfl ?_
  refine q_if_ne 15 11 dX12_stands_8 (by decide) rfl (fun h8 => ?_) (fun h8 => absurd h8 (by decide))
  refine q_iconst 0 16 dX12_stands_15 ic_0 rfl ?_
  refine q_putI 0 19 (w' := [_, _, _]) f_X12_67 ft_X12_0 dX12_stands_16 rfl rfl rfl rfl ?_
  refine q_aload_n 0 20 dX12_stands_19 rfl rfl rfl ?_
  refine q_getI 0 23 f_X12_67 dX12_stands_20 rfl rfl rfl ?_
  refine q_if_le 28 26 dX12_stands_23 (by decide) rfl (fun h23 => ?_) (fun h23 => absurd (by show (0 : Int32) ≤ 0; decide) h23)
  refine q_aload_n 0 29 dX12_stands_28 rfl rfl rfl ?_
  refine q_cVv 0 [0, 1, 2] [] [0, 1, 2] 32 (wr := []) (w1 := _) (ws' := [_, _, _]) c_M_takes m_X12_200 dX12_stands_29 rfl rfl rfl rfl rfl rfl rfl rfl (by decide) (by decide) (by decide) (by decide) (Nat.le_of_ble_eq_true rfl) (by omega) (by omega) (by omega) rfl ?_
  refine q_aload_n 0 33 dX12_stands_32 rfl rfl rfl ?_
  refine q_iload_n 1 34 dX12_stands_33 rfl rfl rfl ?_
  refine q_cVi 0 [0, 2] [1] [1, 0, 2] 37 (wr := [_]) (w1 := _) (ws' := [_, _, _]) c_M_told_6 m_X12_209 dX12_stands_34 rfl rfl rfl rfl rfl rfl rfl rfl (by decide) (by decide) (by decide) (by decide) (Nat.le_of_ble_eq_true rfl) (by omega) (by omega) (by omega) rfl ?_
  refine q_ireturn dX12_stands_37 rfl ?_
  exact pR.rf
theorem p_stands_7 {l : Launch} {g : Gh} {q : Nat} {A : Nat → Nat} {i m x : Nat → Int32} : Cp l g yX12_stands (Cond.code yX12_stands cX12_stands 2 (some .int)) 3 [.ref q, .int 7] [(q, ob 12 (i) (rM A)), (A 1, aI g 2616 m), (A 16, aI g 9 (x))] (some (.int (rTold (rTake m x) 7))) [(q, ob 12 (upd i 0 0) (rM A)), (A 1, aI g 2616 m), (A 16, aI g 9 (rTake m x))] := by
  refine ct_of (M := mtX12_stands) [some (.ref q), some (.int 7)] rfl (by decide) (Nat.le_of_ble_eq_true rfl) (fun _ h => h) (fun a => ?_)
  refine q_aload_n 0 1 dX12_stands_0 rfl rfl rfl ?_
  refine q_iload_n 1 2 dX12_stands_1 rfl rfl rfl ?_
  refine q_iconst 0 3 dX12_stands_2 ic_0 rfl ?_
  refine q_bipush 9 5 dX12_stands_3 bc_9 rfl ?_
  refine q_cSi [] [0, 1, 2] [0, 1, 2] 8 (wr := [_, _, _]) (w1 := _) (ws' := [_, _, _]) c_isIn m_X12_70 dX12_stands_5 rfl rfl rfl rfl rfl (by decide) (by decide) (by decide) (by decide) (Nat.le_of_ble_eq_true rfl) (by omega) (by omega) (by omega) rfl ?_
  refine q_if_ne 15 11 dX12_stands_8 (by decide) rfl (fun h8 => ?_) (fun h8 => absurd h8 (by decide))
  refine q_iconst 0 16 dX12_stands_15 ic_0 rfl ?_
  refine q_putI 0 19 (w' := [_, _, _]) f_X12_67 ft_X12_0 dX12_stands_16 rfl rfl rfl rfl ?_
  refine q_aload_n 0 20 dX12_stands_19 rfl rfl rfl ?_
  refine q_getI 0 23 f_X12_67 dX12_stands_20 rfl rfl rfl ?_
  refine q_if_le 28 26 dX12_stands_23 (by decide) rfl (fun h23 => ?_) (fun h23 => absurd (by show (0 : Int32) ≤ 0; decide) h23)
  refine q_aload_n 0 29 dX12_stands_28 rfl rfl rfl ?_
  refine q_cVv 0 [0, 1, 2] [] [0, 1, 2] 32 (wr := []) (w1 := _) (ws' := [_, _, _]) c_M_takes m_X12_200 dX12_stands_29 rfl rfl rfl rfl rfl rfl rfl rfl (by decide) (by decide) (by decide) (by decide) (Nat.le_of_ble_eq_true rfl) (by omega) (by omega) (by omega) rfl ?_
  refine q_aload_n 0 33 dX12_stands_32 rfl rfl rfl ?_
  refine q_iload_n 1 34 dX12_stands_33 rfl rfl rfl ?_
  refine q_cVi 0 [0, 2] [1] [1, 0, 2] 37 (wr := [_]) (w1 := _) (ws' := [_, _, _]) c_M_told_7 m_X12_209 dX12_stands_34 rfl rfl rfl rfl rfl rfl rfl rfl (by decide) (by decide) (by decide) (by decide) (Nat.le_of_ble_eq_true rfl) (by omega) (by omega) (by omega) rfl ?_
  refine q_ireturn dX12_stands_37 rfl ?_
  exact pR.rf
theorem p_stands_8 {l : Launch} {g : Gh} {q : Nat} {A : Nat → Nat} {i m x : Nat → Int32} : Cp l g yX12_stands (Cond.code yX12_stands cX12_stands 2 (some .int)) 3 [.ref q, .int 8] [(q, ob 12 (i) (rM A)), (A 1, aI g 2616 m), (A 16, aI g 9 (x))] (some (.int (rTold (rTake m x) 8))) [(q, ob 12 (upd i 0 0) (rM A)), (A 1, aI g 2616 m), (A 16, aI g 9 (rTake m x))] := by
  refine ct_of (M := mtX12_stands) [some (.ref q), some (.int 8)] rfl (by decide) (Nat.le_of_ble_eq_true rfl) (fun _ h => h) (fun a => ?_)
  refine q_aload_n 0 1 dX12_stands_0 rfl rfl rfl ?_
  refine q_iload_n 1 2 dX12_stands_1 rfl rfl rfl ?_
  refine q_iconst 0 3 dX12_stands_2 ic_0 rfl ?_
  refine q_bipush 9 5 dX12_stands_3 bc_9 rfl ?_
  refine q_cSi [] [0, 1, 2] [0, 1, 2] 8 (wr := [_, _, _]) (w1 := _) (ws' := [_, _, _]) c_isIn m_X12_70 dX12_stands_5 rfl rfl rfl rfl rfl (by decide) (by decide) (by decide) (by decide) (Nat.le_of_ble_eq_true rfl) (by omega) (by omega) (by omega) rfl ?_
  refine q_if_ne 15 11 dX12_stands_8 (by decide) rfl (fun h8 => ?_) (fun h8 => absurd h8 (by decide))
  refine q_iconst 0 16 dX12_stands_15 ic_0 rfl ?_
  refine q_putI 0 19 (w' := [_, _, _]) f_X12_67 ft_X12_0 dX12_stands_16 rfl rfl rfl rfl ?_
  refine q_aload_n 0 20 dX12_stands_19 rfl rfl rfl ?_
  refine q_getI 0 23 f_X12_67 dX12_stands_20 rfl rfl rfl ?_
  refine q_if_le 28 26 dX12_stands_23 (by decide) rfl (fun h23 => ?_) (fun h23 => absurd (by show (0 : Int32) ≤ 0; decide) h23)
  refine q_aload_n 0 29 dX12_stands_28 rfl rfl rfl ?_
  refine q_cVv 0 [0, 1, 2] [] [0, 1, 2] 32 (wr := []) (w1 := _) (ws' := [_, _, _]) c_M_takes m_X12_200 dX12_stands_29 rfl rfl rfl rfl rfl rfl rfl rfl (by decide) (by decide) (by decide) (by decide) (Nat.le_of_ble_eq_true rfl) (by omega) (by omega) (by omega) rfl ?_
  refine q_aload_n 0 33 dX12_stands_32 rfl rfl rfl ?_
  refine q_iload_n 1 34 dX12_stands_33 rfl rfl rfl ?_
  refine q_cVi 0 [0, 2] [1] [1, 0, 2] 37 (wr := [_]) (w1 := _) (ws' := [_, _, _]) c_M_told_8 m_X12_209 dX12_stands_34 rfl rfl rfl rfl rfl rfl rfl rfl (by decide) (by decide) (by decide) (by decide) (Nat.le_of_ble_eq_true rfl) (by omega) (by omega) (by omega) rfl ?_
  refine q_ireturn dX12_stands_37 rfl ?_
  exact pR.rf
theorem p_stands_9 {l : Launch} {g : Gh} {q : Nat} {A : Nat → Nat} {i m x : Nat → Int32} : Cp l g yX12_stands (Cond.code yX12_stands cX12_stands 2 (some .int)) 3 [.ref q, .int 9] [(q, ob 12 (i) (rM A)), (A 1, aI g 2616 m), (A 16, aI g 9 (x))] (some (.int (rTold (rTake m x) 9))) [(q, ob 12 (upd i 0 0) (rM A)), (A 1, aI g 2616 m), (A 16, aI g 9 (rTake m x))] := by
  refine ct_of (M := mtX12_stands) [some (.ref q), some (.int 9)] rfl (by decide) (Nat.le_of_ble_eq_true rfl) (fun _ h => h) (fun a => ?_)
  refine q_aload_n 0 1 dX12_stands_0 rfl rfl rfl ?_
  refine q_iload_n 1 2 dX12_stands_1 rfl rfl rfl ?_
  refine q_iconst 0 3 dX12_stands_2 ic_0 rfl ?_
  refine q_bipush 9 5 dX12_stands_3 bc_9 rfl ?_
  refine q_cSi [] [0, 1, 2] [0, 1, 2] 8 (wr := [_, _, _]) (w1 := _) (ws' := [_, _, _]) c_isIn m_X12_70 dX12_stands_5 rfl rfl rfl rfl rfl (by decide) (by decide) (by decide) (by decide) (Nat.le_of_ble_eq_true rfl) (by omega) (by omega) (by omega) rfl ?_
  refine q_if_ne 15 11 dX12_stands_8 (by decide) rfl (fun h8 => ?_) (fun h8 => absurd h8 (by decide))
  refine q_iconst 0 16 dX12_stands_15 ic_0 rfl ?_
  refine q_putI 0 19 (w' := [_, _, _]) f_X12_67 ft_X12_0 dX12_stands_16 rfl rfl rfl rfl ?_
  refine q_aload_n 0 20 dX12_stands_19 rfl rfl rfl ?_
  refine q_getI 0 23 f_X12_67 dX12_stands_20 rfl rfl rfl ?_
  refine q_if_le 28 26 dX12_stands_23 (by decide) rfl (fun h23 => ?_) (fun h23 => absurd (by show (0 : Int32) ≤ 0; decide) h23)
  refine q_aload_n 0 29 dX12_stands_28 rfl rfl rfl ?_
  refine q_cVv 0 [0, 1, 2] [] [0, 1, 2] 32 (wr := []) (w1 := _) (ws' := [_, _, _]) c_M_takes m_X12_200 dX12_stands_29 rfl rfl rfl rfl rfl rfl rfl rfl (by decide) (by decide) (by decide) (by decide) (Nat.le_of_ble_eq_true rfl) (by omega) (by omega) (by omega) rfl ?_
  refine q_aload_n 0 33 dX12_stands_32 rfl rfl rfl ?_
  refine q_iload_n 1 34 dX12_stands_33 rfl rfl rfl ?_
  refine q_cVi 0 [0, 2] [1] [1, 0, 2] 37 (wr := [_]) (w1 := _) (ws' := [_, _, _]) c_M_told_9 m_X12_209 dX12_stands_34 rfl rfl rfl rfl rfl rfl rfl rfl (by decide) (by decide) (by decide) (by decide) (Nat.le_of_ble_eq_true rfl) (by omega) (by omega) (by omega) rfl ?_
  refine q_ireturn dX12_stands_37 rfl ?_
  exact pR.rf
theorem p_stands1 {l : Launch} {g : Gh} {q : Nat} {A : Nat → Nat} {i m x : Nat → Int32} {k : Nat} (hk : k ≤ 9) : Cp l g yX12_stands (Cond.code yX12_stands cX12_stands 2 (some .int)) 3 [.ref q, .int (nI k)] [(q, ob 12 (i) (rM A)), (A 1, aI g 2616 m), (A 16, aI g 9 (x))] (some (.int (rTold (rTake m x) k))) [(q, ob 12 (upd i 0 0) (rM A)), (A 1, aI g 2616 m), (A 16, aI g 9 (rTake m x))] := by
  have h : k = 0 ∨ k = 1 ∨ k = 2 ∨ k = 3 ∨ k = 4 ∨ k = 5 ∨ k = 6 ∨ k = 7 ∨ k = 8 ∨ k = 9 := by omega
  rcases h with h | h | h | h | h | h | h | h | h | h <;> subst h
  · exact p_stands_0
  · exact p_stands_1
  · exact p_stands_2
  · exact p_stands_3
  · exact p_stands_4
  · exact p_stands_5
  · exact p_stands_6
  · exact p_stands_7
  · exact p_stands_8
  · exact p_stands_9

