/-! ===== Odds: open, init ===== -/
abbrev rO12 (r : Nat → Nat) (o : Option Nat) : List (Option Nat) := [some (r 0), some (r 1), some (r 2), some (r 3), some (r 4), some (r 5), some (r 6), some (r 7), none, none, none, none, o, some (r 13), some (r 14), some (r 15), some (r 16)]
def rs12 (r : Nat → Nat) (a : Nat) : Nat → Nat := fun k => if k = 12 then a else r k
theorem c_X2_open {l : Launch} {g : Gh} {q sd la ru so : Nat} {r : Nat → Nat} {o : Option Nat} {i s s0 : Sc} {P : PlS} {wc wt : Int32} (hP : PlO P) (h6 : s0 6 = 0 ∨ s0 6 = 1) : Cp l g yX2_open (Cond.code yX2_open cX2_open 4 none) 3 [.ref q, .ref sd, .int wc, .int wt] [(q, ob 2 i (rO12 r o)), ((r 0), ob 3 (plI P) (rPl (plKe P) (plTa P))), (plKe P, aI g (plN P) (plKf P)), (plTa P, aI g (4 * plN P) (plTb P)), (r 1, ob 8 s []), (sd, ob 10 (fun _ => 0) (rD la ru so)), (so, ob 8 s0 [])] none [(q, ob 2 (upd (upd (upd (upd i 10 wc) 11 wt) 9 (if wc = -1 then 1 else 4)) 8 0) (rO (rs12 r sd))), ((r 0), ob 3 (plI (plC P)) (rPl (plKe (plC P)) (plTa (plC P)))), (plKe (plC P), aI g (plN (plC P)) (plKf (plC P))), (plTa (plC P), aI g (4 * plN (plC P)) (plTb (plC P))), (r 1, ob 8 s0 []), (sd, ob 10 (fun _ => 0) (rD la ru so)), (so, ob 8 s0 [])] := by
  refine ct_of (M := mtX2_open) [some (.ref q), some (.ref sd), some (.int wc), some (.int wt)] rfl (by decide) (Nat.le_of_ble_eq_true rfl) (fun _ h => h) (fun a => ?_)
  by_cases hw : wc = -1
  · rw [if_pos hw]
    refine q_aload_n 0 1 dX2_open_0 rfl rfl rfl ?_
    refine q_aload_n 1 2 dX2_open_1 rfl rfl rfl ?_
    refine q_putR 0 5 (w' := [_, _, _, _, _, _, _]) (r' := [_, _, _, _, _, _, _, _, _, _, _, _, _, _, _, _, _]) f_X2_56 ft_X2_12 dX2_open_2 rfl rfl (Nat.le_of_ble_eq_true rfl) rfl rfl rfl rfl rfl ?_
    refine q_aload_n 0 6 dX2_open_5 rfl rfl rfl ?_
    refine q_iload_n 2 7 dX2_open_6 rfl rfl rfl ?_
    refine q_putI 0 10 (w' := [_, _, _, _, _, _, _]) f_X2_60 ft_X2_10 dX2_open_7 rfl rfl rfl rfl ?_
    refine q_aload_n 0 11 dX2_open_10 rfl rfl rfl ?_
    refine q_iload_n 3 12 dX2_open_11 rfl rfl rfl ?_
    refine q_putI 0 15 (w' := [_, _, _, _, _, _, _]) f_X2_64 ft_X2_11 dX2_open_12 rfl rfl rfl rfl ?_
    refine q_aload_n 0 16 dX2_open_15 rfl rfl rfl ?_
    refine q_iload_n 2 17 dX2_open_16 rfl rfl rfl ?_
    refine q_iconst (-1) 18 dX2_open_17 ic_m1 rfl ?_
    refine q_icmp_ne 25 21 dX2_open_18 (by decide) rfl (fun h18 => absurd hw h18) (fun h18 => ?_)
    refine q_iconst 1 22 dX2_open_21 ic_1 rfl ?_
    refine q_goto 26 dX2_open_22 (by decide) ?_
    refine q_putI 0 29 (w' := [_, _, _, _, _, _, _]) f_X2_67 ft_X2_9 dX2_open_26 rfl rfl rfl rfl ?_
    refine q_aload_n 0 30 dX2_open_29 rfl rfl rfl ?_
    refine q_iconst 0 31 dX2_open_30 ic_0 rfl ?_
    refine q_putI 0 34 (w' := [_, _, _, _, _, _, _]) f_X2_70 ft_X2_8 dX2_open_31 rfl rfl rfl rfl ?_
    refine q_aload_n 0 35 dX2_open_34 rfl rfl rfl ?_
    refine q_getR 0 38 f_X2_12 dX2_open_35 rfl rfl rfl rfl ?_
    refine q_cVv 1 [1, 2, 3] [0, 4, 5, 6] [0, 4, 5, 6, 1, 2, 3] 41 (wr := [_, _, _, _]) (w1 := _) (ws' := [_, _, _, _, _, _, _]) (c_X3_clear hP) m_X2_73 dX2_open_38 rfl rfl rfl rfl rfl rfl rfl rfl (by decide) (by decide) (by decide) (by decide) (Nat.le_of_ble_eq_true rfl) (by omega) (by omega) (by omega) rfl ?_
    refine q_aload_n 0 42 dX2_open_41 rfl rfl rfl ?_
    refine q_getR 0 45 f_X2_21 dX2_open_42 rfl rfl rfl rfl ?_
    refine q_aload_n 1 46 dX2_open_45 rfl rfl rfl ?_
    refine q_getR 5 49 f_X2_76 dX2_open_46 rfl rfl rfl rfl ?_
    refine q_cVv 4 [4, 6] [0, 1, 2, 3, 5] [0, 1, 2, 3, 5, 4, 6] 52 (wr := [_, _, _, _, _]) (w1 := _) (ws' := [_, _, _, _, _, _, _]) (c_X8_takeFrom h6) m_X2_81 dX2_open_49 rfl rfl rfl rfl rfl rfl rfl rfl (by decide) (by decide) (by decide) (by decide) (Nat.le_of_ble_eq_true rfl) (by omega) (by omega) (by omega) rfl ?_
    refine q_return dX2_open_52 rfl ?_
    exact pR.rf
  · rw [if_neg hw]
    refine q_aload_n 0 1 dX2_open_0 rfl rfl rfl ?_
    refine q_aload_n 1 2 dX2_open_1 rfl rfl rfl ?_
    refine q_putR 0 5 (w' := [_, _, _, _, _, _, _]) (r' := [_, _, _, _, _, _, _, _, _, _, _, _, _, _, _, _, _]) f_X2_56 ft_X2_12 dX2_open_2 rfl rfl (Nat.le_of_ble_eq_true rfl) rfl rfl rfl rfl rfl ?_
    refine q_aload_n 0 6 dX2_open_5 rfl rfl rfl ?_
    refine q_iload_n 2 7 dX2_open_6 rfl rfl rfl ?_
    refine q_putI 0 10 (w' := [_, _, _, _, _, _, _]) f_X2_60 ft_X2_10 dX2_open_7 rfl rfl rfl rfl ?_
    refine q_aload_n 0 11 dX2_open_10 rfl rfl rfl ?_
    refine q_iload_n 3 12 dX2_open_11 rfl rfl rfl ?_
    refine q_putI 0 15 (w' := [_, _, _, _, _, _, _]) f_X2_64 ft_X2_11 dX2_open_12 rfl rfl rfl rfl ?_
    refine q_aload_n 0 16 dX2_open_15 rfl rfl rfl ?_
    refine q_iload_n 2 17 dX2_open_16 rfl rfl rfl ?_
    refine q_iconst (-1) 18 dX2_open_17 ic_m1 rfl ?_
    refine q_icmp_ne 25 21 dX2_open_18 (by decide) rfl (fun h18 => ?_) (fun h18 => absurd h18 hw)
    refine q_iconst 4 26 dX2_open_25 ic_4 rfl ?_
    refine q_putI 0 29 (w' := [_, _, _, _, _, _, _]) f_X2_67 ft_X2_9 dX2_open_26 rfl rfl rfl rfl ?_
    refine q_aload_n 0 30 dX2_open_29 rfl rfl rfl ?_
    refine q_iconst 0 31 dX2_open_30 ic_0 rfl ?_
    refine q_putI 0 34 (w' := [_, _, _, _, _, _, _]) f_X2_70 ft_X2_8 dX2_open_31 rfl rfl rfl rfl ?_
    refine q_aload_n 0 35 dX2_open_34 rfl rfl rfl ?_
    refine q_getR 0 38 f_X2_12 dX2_open_35 rfl rfl rfl rfl ?_
    refine q_cVv 1 [1, 2, 3] [0, 4, 5, 6] [0, 4, 5, 6, 1, 2, 3] 41 (wr := [_, _, _, _]) (w1 := _) (ws' := [_, _, _, _, _, _, _]) (c_X3_clear hP) m_X2_73 dX2_open_38 rfl rfl rfl rfl rfl rfl rfl rfl (by decide) (by decide) (by decide) (by decide) (Nat.le_of_ble_eq_true rfl) (by omega) (by omega) (by omega) rfl ?_
    refine q_aload_n 0 42 dX2_open_41 rfl rfl rfl ?_
    refine q_getR 0 45 f_X2_21 dX2_open_42 rfl rfl rfl rfl ?_
    refine q_aload_n 1 46 dX2_open_45 rfl rfl rfl ?_
    refine q_getR 5 49 f_X2_76 dX2_open_46 rfl rfl rfl rfl ?_
    refine q_cVv 4 [4, 6] [0, 1, 2, 3, 5] [0, 1, 2, 3, 5, 4, 6] 52 (wr := [_, _, _, _, _]) (w1 := _) (ws' := [_, _, _, _, _, _, _]) (c_X8_takeFrom h6) m_X2_81 dX2_open_49 rfl rfl rfl rfl rfl rfl rfl rfl (by decide) (by decide) (by decide) (by decide) (Nat.le_of_ble_eq_true rfl) (by omega) (by omega) (by omega) rfl ?_
    refine q_return dX2_open_52 rfl ?_
    exact pR.rf
theorem c_X2_init {l : Launch} {g : Gh} {q : Nat} : Cn l g yX2_init (Cond.code yX2_init cX2_init 1 none) 2 14 504 [.ref q] [(q, ob 2 (fun _ => 0) (List.replicate 17 none))] (fun _ : (Nat → Nat) × Nat × Nat => none) (fun z : (Nat → Nat) × Nat × Nat => [(q, ob 2 (fun _ => 0) (rO12 z.1 none)), (z.1 0, ob 3 (fun _ => 0) (rPl z.2.1 z.2.2)), (z.2.1, aI g 16 (fun _ => 0)), (z.2.2, aI g 64 (fun _ => 0)), (z.1 1, ob 8 (fun _ => 0) []), (z.1 2, ob 8 (fun _ => 0) []), (z.1 3, aI g 48 (fun _ => 0)), (z.1 4, aI g 31 (fun _ => 0)), (z.1 5, aI g 32 (fun _ => 0)), (z.1 6, aI g 32 (fun _ => 0)), (z.1 7, aI g 128 (fun _ => 0)), (z.1 13, aI g 32 (fun _ => 0)), (z.1 14, aI g 32 (fun _ => 0)), (z.1 15, aI g 32 (fun _ => 0)), (z.1 16, aI g 32 (fun _ => 0))]) (fun _ k m => k = 14 ∧ m = 504) := by
  refine ct_of (M := mtX2_init) [some (.ref q)] rfl (by decide) (Nat.le_of_ble_eq_true rfl) (fun _ h => h) (fun a => ?_)
  refine q_aload_n 0 1 dX2_init_0 rfl rfl rfl ?_
  refine q_objInit 4 m_X2_3 dX2_init_1 (Nat.le_of_ble_eq_true rfl) (by decide) rfl ?_
  refine q_aload_n 0 5 dX2_init_4 rfl rfl rfl ?_
  refine q_new (N := 3) 8 n_X2_9 rfl dX2_init_5 (by omega) (by omega) rfl (fun q5 => ?_)
  refine q_dup 9 dX2_init_8 rfl rfl ?_
  refine q_yIv [1] [0] [0, 1, 2, 3] 12 (wr := [_]) (w1 := _) (ws' := fun _ => [_, _, _, _]) c_X3_init m_X2_11 dX2_init_9 rfl rfl rfl rfl (fun _ => rfl) (by decide) (by decide) (by decide) (by decide) (Nat.le_of_ble_eq_true rfl) (by omega) (by omega) (by omega) rfl (fun z9 k9 n9 hx9 => ?_)
  obtain ⟨ke9, ta9⟩ := z9
  dsimp only at hx9 ⊢
  refine q_putRF 0 15 (w' := [_, _, _, _]) (r' := [_, _, _, _, _, _, _, _, _, _, _, _, _, _, _, _, _]) f_X2_12 ft_X2_0 rfl rfl dX2_init_12 rfl rfl (Nat.le_of_ble_eq_true rfl) rfl rfl rfl rfl rfl ?_
  refine q_aload_n 0 16 dX2_init_15 rfl rfl rfl ?_
  refine q_new (N := 11) 19 n_X2_18 rfl dX2_init_16 (by omega) (by omega) rfl (fun q16 => ?_)
  refine q_dup 20 dX2_init_19 rfl rfl ?_
  refine q_axG 4 (ob 8 (fun _ => 0) []) rfl (fun _ h => h) rfl ?_
  refine q_cIv [4] [0, 1, 2, 3] [0, 1, 2, 3, 4] 23 (wr := [_, _, _, _]) (w1 := _) (ws' := [_, _, _, _, _]) c_X8_init m_X2_20 dX2_init_20 rfl rfl rfl rfl rfl (by decide) (by decide) (by decide) (by decide) (Nat.le_of_ble_eq_true rfl) (by omega) (by omega) (by omega) rfl ?_
  refine q_putRF 0 26 (w' := [_, _, _, _, _]) (r' := [_, _, _, _, _, _, _, _, _, _, _, _, _, _, _, _, _]) f_X2_21 ft_X2_1 rfl rfl dX2_init_23 rfl rfl (Nat.le_of_ble_eq_true rfl) rfl rfl rfl rfl rfl ?_
  refine q_aload_n 0 27 dX2_init_26 rfl rfl rfl ?_
  refine q_new (N := 11) 30 n_X2_18 rfl dX2_init_27 (by omega) (by omega) rfl (fun q27 => ?_)
  refine q_dup 31 dX2_init_30 rfl rfl ?_
  refine q_axG 5 (ob 8 (fun _ => 0) []) rfl (fun _ h => h) rfl ?_
  refine q_cIv [5] [0, 1, 2, 3, 4] [0, 1, 2, 3, 4, 5] 34 (wr := [_, _, _, _, _]) (w1 := _) (ws' := [_, _, _, _, _, _]) c_X8_init m_X2_20 dX2_init_31 rfl rfl rfl rfl rfl (by decide) (by decide) (by decide) (by decide) (Nat.le_of_ble_eq_true rfl) (by omega) (by omega) (by omega) rfl ?_
  refine q_putRF 0 37 (w' := [_, _, _, _, _, _]) (r' := [_, _, _, _, _, _, _, _, _, _, _, _, _, _, _, _, _]) f_X2_25 ft_X2_2 rfl rfl dX2_init_34 rfl rfl (Nat.le_of_ble_eq_true rfl) rfl rfl rfl rfl rfl ?_
  refine q_aload_n 0 38 dX2_init_37 rfl rfl rfl ?_
  refine q_bipush 48 40 dX2_init_38 bc_48 rfl ?_
  refine q_newI (N := 48) 42 dX2_init_40 rfl (by decide) (by omega) (by omega) rfl (fun q40 => ?_)
  refine q_putRF 0 45 (w' := [_, _, _, _, _, _, _]) (r' := [_, _, _, _, _, _, _, _, _, _, _, _, _, _, _, _, _]) f_X2_28 ft_X2_3 rfl rfl dX2_init_42 rfl rfl (Nat.le_of_ble_eq_true rfl) rfl rfl rfl rfl rfl ?_
  refine q_aload_n 0 46 dX2_init_45 rfl rfl rfl ?_
  refine q_bipush 31 48 dX2_init_46 bc_31 rfl ?_
  refine q_newI (N := 31) 50 dX2_init_48 rfl (by decide) (by omega) (by omega) rfl (fun q48 => ?_)
  refine q_putRF 0 53 (w' := [_, _, _, _, _, _, _, _]) (r' := [_, _, _, _, _, _, _, _, _, _, _, _, _, _, _, _, _]) f_X2_32 ft_X2_4 rfl rfl dX2_init_50 rfl rfl (Nat.le_of_ble_eq_true rfl) rfl rfl rfl rfl rfl ?_
  refine q_aload_n 0 54 dX2_init_53 rfl rfl rfl ?_
  refine q_bipush 32 56 dX2_init_54 bc_32 rfl ?_
  refine q_newI (N := 32) 58 dX2_init_56 rfl (by decide) (by omega) (by omega) rfl (fun q56 => ?_)
  refine q_putR 0 61 (w' := [_, _, _, _, _, _, _, _, _]) (r' := [_, _, _, _, _, _, _, _, _, _, _, _, _, _, _, _, _]) f_X2_35 ft_X2_5 dX2_init_58 rfl rfl (Nat.le_of_ble_eq_true rfl) rfl rfl rfl rfl rfl ?_
  refine q_aload_n 0 62 dX2_init_61 rfl rfl rfl ?_
  refine q_bipush 32 64 dX2_init_62 bc_32 rfl ?_
  refine q_newI (N := 32) 66 dX2_init_64 rfl (by decide) (by omega) (by omega) rfl (fun q64 => ?_)
  refine q_putR 0 69 (w' := [_, _, _, _, _, _, _, _, _, _]) (r' := [_, _, _, _, _, _, _, _, _, _, _, _, _, _, _, _, _]) f_X2_38 ft_X2_6 dX2_init_66 rfl rfl (Nat.le_of_ble_eq_true rfl) rfl rfl rfl rfl rfl ?_
  refine q_aload_n 0 70 dX2_init_69 rfl rfl rfl ?_
  refine q_sipush 128 73 dX2_init_70 sc_128 rfl ?_
  refine q_newI (N := 128) 75 dX2_init_73 rfl (by decide) (by omega) (by omega) rfl (fun q73 => ?_)
  refine q_putR 0 78 (w' := [_, _, _, _, _, _, _, _, _, _, _]) (r' := [_, _, _, _, _, _, _, _, _, _, _, _, _, _, _, _, _]) f_X2_41 ft_X2_7 dX2_init_75 rfl rfl (Nat.le_of_ble_eq_true rfl) rfl rfl rfl rfl rfl ?_
  refine q_aload_n 0 79 dX2_init_78 rfl rfl rfl ?_
  refine q_bipush 32 81 dX2_init_79 bc_32 rfl ?_
  refine q_newI (N := 32) 83 dX2_init_81 rfl (by decide) (by omega) (by omega) rfl (fun q81 => ?_)
  refine q_putR 0 86 (w' := [_, _, _, _, _, _, _, _, _, _, _, _]) (r' := [_, _, _, _, _, _, _, _, _, _, _, _, _, _, _, _, _]) f_X2_44 ft_X2_13 dX2_init_83 rfl rfl (Nat.le_of_ble_eq_true rfl) rfl rfl rfl rfl rfl ?_
  refine q_aload_n 0 87 dX2_init_86 rfl rfl rfl ?_
  refine q_bipush 32 89 dX2_init_87 bc_32 rfl ?_
  refine q_newI (N := 32) 91 dX2_init_89 rfl (by decide) (by omega) (by omega) rfl (fun q89 => ?_)
  refine q_putR 0 94 (w' := [_, _, _, _, _, _, _, _, _, _, _, _, _]) (r' := [_, _, _, _, _, _, _, _, _, _, _, _, _, _, _, _, _]) f_X2_47 ft_X2_14 dX2_init_91 rfl rfl (Nat.le_of_ble_eq_true rfl) rfl rfl rfl rfl rfl ?_
  refine q_aload_n 0 95 dX2_init_94 rfl rfl rfl ?_
  refine q_bipush 32 97 dX2_init_95 bc_32 rfl ?_
  refine q_newI (N := 32) 99 dX2_init_97 rfl (by decide) (by omega) (by omega) rfl (fun q97 => ?_)
  refine q_putR 0 102 (w' := [_, _, _, _, _, _, _, _, _, _, _, _, _, _]) (r' := [_, _, _, _, _, _, _, _, _, _, _, _, _, _, _, _, _]) f_X2_50 ft_X2_15 dX2_init_99 rfl rfl (Nat.le_of_ble_eq_true rfl) rfl rfl rfl rfl rfl ?_
  refine q_aload_n 0 103 dX2_init_102 rfl rfl rfl ?_
  refine q_bipush 32 105 dX2_init_103 bc_32 rfl ?_
  refine q_newI (N := 32) 107 dX2_init_105 rfl (by decide) (by omega) (by omega) rfl (fun q105 => ?_)
  refine q_putR 0 110 (w' := [_, _, _, _, _, _, _, _, _, _, _, _, _, _, _]) (r' := [_, _, _, _, _, _, _, _, _, _, _, _, _, _, _, _, _]) f_X2_53 ft_X2_16 dX2_init_107 rfl rfl (Nat.le_of_ble_eq_true rfl) rfl rfl rfl rfl rfl ?_
  refine q_return dX2_init_110 rfl ?_
  exact pX.mk ((fun k => if k = 0 then q5 else if k = 1 then q16 else if k = 2 then q27 else if k = 3 then q40 else if k = 4 then q48 else if k = 5 then q56 else if k = 6 then q64 else if k = 7 then q73 else if k = 13 then q81 else if k = 14 then q89 else if k = 15 then q97 else q105), _, _) (by obtain ⟨h1, h2⟩ := hx9; exact ⟨by omega, by omega⟩) rfl rfl

