/-! ===== Mender: fetch turn follow ===== -/
abbrev GrM (Y Z : MrS) (k n : Nat) : Prop := mrA Z = mrA Y ∧ plN (mrP Y) ≤ plN (mrP Z) ∧ k + plN (mrP Y) ≤ plN (mrP Z) ∧ n + 14 * plN (mrP Y) ≤ 14 * plN (mrP Z)
def feM (s : Sc) (key : Int32) : Sc := upd (upd (sBec s (key / 49)) 7 (key / 7 - key / 7 / 7 * 7)) 8 (key - key / 7 * 7)
theorem c_X1_fetch {l : Launch} {g : Gh} {q fr be z : Nat} {X Y : MrS} {sd : Option Nat} {i sf : Sc} {j : Nat → Int64} {E : ME} (hX : MrO X E) (hz : z < E.length) : Cp l g yX1_fetch (Cond.code yX1_fetch cX1_fetch 3 none) 3 [.ref q, .int (nI z)] [(q, obj 1 i (rMd fr be X Y sd) j), (fr, ob 8 sf []), (mrA X, ob 3 (plI (mrP X)) (rPl (plKe (mrP X)) (plTa (mrP X)))), (plKe (mrP X), aI g (plN (mrP X)) (plKf (mrP X)))] none [(q, obj 1 i (rMd fr be X Y sd) j), (fr, ob 8 (feM sf (E.getD z e0M).1) []), (mrA X, ob 3 (plI (mrP X)) (rPl (plKe (mrP X)) (plTa (mrP X)))), (plKe (mrP X), aI g (plN (mrP X)) (plKf (mrP X)))] := by
  refine ct_of (M := mtX1_fetch) [some (.ref q), some (.int (nI z)), none] rfl (by decide) (Nat.le_of_ble_eq_true rfl) (fun _ h => h) (fun a => ?_)
  obtain ⟨hP, hN, hK, hV⟩ := hX
  have hKl : (plK (mrP X)).length = E.length := by rw [hK]; simp
  have hkN := hP.2.1.1
  have ek : plKf (mrP X) z = (E.getD z e0M).1 := by rw [hP.2.1.2.2 z (by omega), hK, kyE_at hz]
  generalize hkey : (E.getD z e0M).1 = key at *
  have ef : upd (upd (sBec sf (key / 49)) 7 (key / 7 - key / 7 / 7 * 7)) 8 (key - key / 7 * 7) = feM sf key := rfl
  generalize feM sf key = v at *
  refine q_aload_n 0 1 dX1_fetch_0 rfl rfl rfl ?_
  refine q_getR 0 4 f_X1_24 dX1_fetch_1 rfl rfl rfl rfl ?_
  refine q_iload_n 1 5 dX1_fetch_4 rfl rfl rfl ?_
  refine q_cVi 2 [2, 3] [0, 1] [0, 1, 2, 3] 8 (wr := [_, _]) (w1 := _) (ws' := [_, _, _, _]) (c_X3_keyAt (z := z) (by omega) (by omega)) m_X1_114 dX1_fetch_5 rfl rfl rfl rfl rfl rfl rfl rfl (by decide) (by decide) (by decide) (by decide) (Nat.le_of_ble_eq_true rfl) (by omega) (by omega) (by omega) rfl ?_
  rw [ek]
  refine q_istore_n 2 9 (L' := [_, _, _]) dX1_fetch_8 rfl (by decide) rfl rfl ?_
  refine q_aload_n 0 10 dX1_fetch_9 rfl rfl rfl ?_
  refine q_getR 0 13 f_X1_12 dX1_fetch_10 rfl rfl rfl rfl ?_
  refine q_iload_n 2 14 dX1_fetch_13 rfl rfl rfl ?_
  refine q_bipush 49 16 dX1_fetch_14 bc_49 rfl ?_
  refine q_idiv 17 dX1_fetch_16 (by decide) rfl ?_
  refine q_cVv 1 [1] [0, 2, 3] [0, 3, 1, 2] 20 (wr := [_, _, _]) (w1 := _) (ws' := [_, _, _, _]) c_X8_become m_X1_117 dX1_fetch_17 rfl rfl rfl rfl rfl rfl rfl rfl (by decide) (by decide) (by decide) (by decide) (Nat.le_of_ble_eq_true rfl) (by omega) (by omega) (by omega) rfl ?_
  refine q_aload_n 0 21 dX1_fetch_20 rfl rfl rfl ?_
  refine q_getR 0 24 f_X1_12 dX1_fetch_21 rfl rfl rfl rfl ?_
  refine q_iload_n 2 25 dX1_fetch_24 rfl rfl rfl ?_
  refine q_bipush 7 27 dX1_fetch_25 bc_7 rfl ?_
  refine q_idiv 28 dX1_fetch_27 (by decide) rfl ?_
  refine q_bipush 7 30 dX1_fetch_28 bc_7 rfl ?_
  refine q_irem 31 dX1_fetch_30 (by decide) rfl ?_
  refine q_putI 1 34 (w' := [_, _, _, _]) f_X1_120 ft_X8_7 dX1_fetch_31 rfl rfl rfl rfl ?_
  refine q_aload_n 0 35 dX1_fetch_34 rfl rfl rfl ?_
  refine q_getR 0 38 f_X1_12 dX1_fetch_35 rfl rfl rfl rfl ?_
  refine q_iload_n 2 39 dX1_fetch_38 rfl rfl rfl ?_
  refine q_bipush 7 41 dX1_fetch_39 bc_7 rfl ?_
  refine q_irem 42 dX1_fetch_41 (by decide) rfl ?_
  refine q_putI 1 45 (w' := [_, _, _, _]) f_X1_123 ft_X8_8 dX1_fetch_42 rfl rfl rfl rfl ?_
  rw [ef]
  refine q_return dX1_fetch_45 rfl ?_
  exact pR.rf
theorem c_X1_turn {l : Launch} {g : Gh} {q fr be : Nat} {X Y : MrS} {sd : Option Nat} {i : Sc} {j : Nat → Int64} : Cp l g yX1_turn (Cond.code yX1_turn cX1_turn 4 none) 1 [.ref q] [(q, obj 1 i (rMd fr be X Y sd) j)] none [(q, obj 1 i (rMd fr be Y X sd) j)] := by
  refine ct_of (M := mtX1_turn) [some (.ref q), none, none, none] rfl (by decide) (Nat.le_of_ble_eq_true rfl) (fun _ h => h) (fun a => ?_)
  refine q_aload_n 0 1 dX1_turn_0 rfl rfl rfl ?_
  refine q_getR 0 4 f_X1_24 dX1_turn_1 rfl rfl rfl rfl ?_
  refine q_astore_n 1 5 (L' := [_, _, _, _]) dX1_turn_4 rfl (by decide) rfl rfl ?_
  refine q_aload_n 0 6 dX1_turn_5 rfl rfl rfl ?_
  refine q_aload_n 0 7 dX1_turn_6 rfl rfl rfl ?_
  refine q_getR 0 10 f_X1_28 dX1_turn_7 rfl rfl rfl rfl ?_
  refine q_putR 0 13 (w' := [_]) (r' := [_, _, _, _, _, _, _, _, _, _, _]) f_X1_24 ft_X1_2 dX1_turn_10 rfl rfl (Nat.le_of_ble_eq_true rfl) rfl rfl rfl rfl rfl ?_
  refine q_aload_n 0 14 dX1_turn_13 rfl rfl rfl ?_
  refine q_aload_n 1 15 dX1_turn_14 rfl rfl rfl ?_
  refine q_putR 0 18 (w' := [_]) (r' := [_, _, _, _, _, _, _, _, _, _, _]) f_X1_28 ft_X1_3 dX1_turn_15 rfl rfl (Nat.le_of_ble_eq_true rfl) rfl rfl rfl rfl rfl ?_
  refine q_aload_n 0 19 dX1_turn_18 rfl rfl rfl ?_
  refine q_getR 0 22 f_X1_31 dX1_turn_19 rfl rfl rfl rfl ?_
  refine q_astore_n 2 23 (L' := [_, _, _, _]) dX1_turn_22 rfl (by decide) rfl rfl ?_
  refine q_aload_n 0 24 dX1_turn_23 rfl rfl rfl ?_
  refine q_aload_n 0 25 dX1_turn_24 rfl rfl rfl ?_
  refine q_getR 0 28 f_X1_35 dX1_turn_25 rfl rfl rfl rfl ?_
  refine q_putR 0 31 (w' := [_]) (r' := [_, _, _, _, _, _, _, _, _, _, _]) f_X1_31 ft_X1_4 dX1_turn_28 rfl rfl (Nat.le_of_ble_eq_true rfl) rfl rfl rfl rfl rfl ?_
  refine q_aload_n 0 32 dX1_turn_31 rfl rfl rfl ?_
  refine q_aload_n 2 33 dX1_turn_32 rfl rfl rfl ?_
  refine q_putR 0 36 (w' := [_]) (r' := [_, _, _, _, _, _, _, _, _, _, _]) f_X1_35 ft_X1_5 dX1_turn_33 rfl rfl (Nat.le_of_ble_eq_true rfl) rfl rfl rfl rfl rfl ?_
  refine q_aload_n 0 37 dX1_turn_36 rfl rfl rfl ?_
  refine q_getR 0 40 f_X1_38 dX1_turn_37 rfl rfl rfl rfl ?_
  refine q_astore_n 3 41 (L' := [_, _, _, _]) dX1_turn_40 rfl (by decide) rfl rfl ?_
  refine q_aload_n 0 42 dX1_turn_41 rfl rfl rfl ?_
  refine q_aload_n 0 43 dX1_turn_42 rfl rfl rfl ?_
  refine q_getR 0 46 f_X1_42 dX1_turn_43 rfl rfl rfl rfl ?_
  refine q_putR 0 49 (w' := [_]) (r' := [_, _, _, _, _, _, _, _, _, _, _]) f_X1_38 ft_X1_6 dX1_turn_46 rfl rfl (Nat.le_of_ble_eq_true rfl) rfl rfl rfl rfl rfl ?_
  refine q_aload_n 0 50 dX1_turn_49 rfl rfl rfl ?_
  refine q_aload_n 3 51 dX1_turn_50 rfl rfl rfl ?_
  refine q_putR 0 54 (w' := [_]) (r' := [_, _, _, _, _, _, _, _, _, _, _]) f_X1_42 ft_X1_7 dX1_turn_51 rfl rfl (Nat.le_of_ble_eq_true rfl) rfl rfl rfl rfl rfl ?_
  refine q_return dX1_turn_54 rfl ?_
  exact pR.rf
theorem meR_ge (E : ME) (key co : Int32) (wy : Int64) : E.length ≤ (meR E key co wy).length := by
  unfold meR
  split
  · rw [List.length_set]; exact Nat.le_refl _
  · simp
def meO (li sf : Sc) (cal : Int32) (E : ME) (co : Int32) (wy : Int64) : Nat → ME
  | 0 => E
  | o + 1 => meR (meO li sf cal E co wy o) (kyM (sPlayOff sf (lBy li (nI o - 1)))) (if nI o - 1 = cal then co else co + 1) wy
def meF (li : Sc) (how ln : Int32) (sf : Sc) (E : ME) (co : Int32) (wy : Int64) : ME := if how = 2 ∧ ¬ sf 6 = 0 then meO li sf (iCmp ln (sf 4)) E co wy 3 else meR E (kyM (sStrike sf li how ln)) co wy
theorem meO_ge (li sf : Sc) (cal : Int32) (E : ME) (co : Int32) (wy : Int64) : ∀ d o, (meO li sf cal E co wy o).length ≤ (meO li sf cal E co wy (o + d)).length
  | 0, _ => Nat.le_refl _
  | d + 1, o => Nat.le_trans (meO_ge li sf cal E co wy d o) (meR_ge _ _ _ _)
theorem o3_gt : ∀ o, o < 3 → ¬ (1 : Int32) < nI o - 1 := by decide +kernel
theorem o3_up : ∀ o, o < 3 → nI o - 1 + Int32.ofInt 1 = nI (o + 1) - 1 := by decide +kernel
theorem c_X1_follow {l : Launch} {g : Gh} {q fr be sd la ru so cc : Nat} {X Y : MrS} {i sf sb li : Sc} {j : Nat → Int64} {E : ME} {how ln co : Int32} {wy : Int64} (hY : MrO Y E) (h6 : sf 6 = 0 ∨ sf 6 = 1) (hE : (meF li how ln sf E co wy).length ≤ 4000) : Cn l g yX1_follow (Cond.code yX1_follow cX1_follow 8 none) 6 (4096 - plN (mrP Y)) (14 * (4096 - plN (mrP Y))) [.ref q, .int how, .int ln, .int co, .long wy] [(q, obj 1 i (rMd fr be X Y (some sd)) j), (fr, ob 8 sf []), (be, ob 8 sb []), (mrA Y, ob 3 (plI (mrP Y)) (rPl (plKe (mrP Y)) (plTa (mrP Y)))), (plKe (mrP Y), aI g (plN (mrP Y)) (plKf (mrP Y))), (plTa (mrP Y), aI g (4 * plN (mrP Y)) (plTb (mrP Y))), (mrC Y, aI g (plN (mrP Y)) (mrF Y)), (mrN Y, aJ g (plN (mrP Y)) (mrG Y)), (sd, ob 10 (fun _ => 0) (rD la ru so)), (la, ob 0 li (rL cc))] (fun _ : MrS × Sc => none) (fun z : MrS × Sc => [(q, obj 1 i (rMd fr be X z.1 (some sd)) j), (fr, ob 8 sf []), (be, ob 8 z.2 []), (mrA z.1, ob 3 (plI (mrP z.1)) (rPl (plKe (mrP z.1)) (plTa (mrP z.1)))), (plKe (mrP z.1), aI g (plN (mrP z.1)) (plKf (mrP z.1))), (plTa (mrP z.1), aI g (4 * plN (mrP z.1)) (plTb (mrP z.1))), (mrC z.1, aI g (plN (mrP z.1)) (mrF z.1)), (mrN z.1, aJ g (plN (mrP z.1)) (mrG z.1)), (sd, ob 10 (fun _ => 0) (rD la ru so)), (la, ob 0 li (rL cc))]) (fun z k n => MrO z.1 (meF li how ln sf E co wy) ∧ GrM Y z.1 k n) := by
  refine ct_of (M := mtX1_follow) [some (.ref q), some (.int how), some (.int ln), some (.int co), some (.long wy), none, none, none] rfl (by decide) (Nat.le_of_ble_eq_true rfl) (fun _ h => h) (fun a => ?_)
  have hN := hY.2.1
  by_cases hc : how = 2 ∧ ¬ sf 6 = 0
  · rw [meF, if_pos hc] at hE ⊢
    obtain ⟨rfl, hn6⟩ := hc
    have K67 : ∀ (c o : Nat) (Z : MrS) (sb : Sc) (kk nn : Nat), c + o = 3 → MrO Z (meO li sf (iCmp ln (sf 4)) E co wy o) → GrM Y Z kk nn → WPs l g mtX1_follow 6 (4096 - plN (mrP Y)) (14 * (4096 - plN (mrP Y))) (pX (fun _ : MrS × Sc => none) (fun z : MrS × Sc => [(q, obj 1 i (rMd fr be X z.1 (some sd)) j), (fr, ob 8 sf []), (be, ob 8 z.2 []), (mrA z.1, ob 3 (plI (mrP z.1)) (rPl (plKe (mrP z.1)) (plTa (mrP z.1)))), (plKe (mrP z.1), aI g (plN (mrP z.1)) (plKf (mrP z.1))), (plTa (mrP z.1), aI g (4 * plN (mrP z.1)) (plTb (mrP z.1))), (mrC z.1, aI g (plN (mrP z.1)) (mrF z.1)), (mrN z.1, aJ g (plN (mrP z.1)) (mrG z.1)), (sd, ob 10 (fun _ => 0) (rD la ru so)), (la, ob 0 li (rL cc))]) (fun z k n => MrO z.1 (meO li sf (iCmp ln (sf 4)) E co wy 3) ∧ GrM Y z.1 k n)) noX a 67 [some (.ref q), some (.int 2), some (.int ln), some (.int co), some (.long wy), none, (some (.int (iCmp ln (sf 4)))), (some (.int (nI o - 1)))] [] [(q, obj 1 i (rMd fr be X Z (some sd)) j), (fr, ob 8 sf []), (be, ob 8 sb []), (mrA Z, ob 3 (plI (mrP Z)) (rPl (plKe (mrP Z)) (plTa (mrP Z)))), (plKe (mrP Z), aI g (plN (mrP Z)) (plKf (mrP Z))), (plTa (mrP Z), aI g (4 * plN (mrP Z)) (plTb (mrP Z))), (mrC Z, aI g (plN (mrP Z)) (mrF Z)), (mrN Z, aJ g (plN (mrP Z)) (mrG Z)), (sd, ob 10 (fun _ => 0) (rD la ru so)), (la, ob 0 li (rL cc))] kk nn := by
      intro c
      induction c with
      | zero =>
        intro o Z sb kk nn ho hZ hG
        obtain rfl : o = 3 := by omega
        generalize meO li sf (iCmp ln (sf 4)) E co wy 3 = E3 at *
        refine q_iload 7 69 dX1_follow_67 rfl rfl ?_
        refine q_iconst 1 70 dX1_follow_69 ic_1 rfl ?_
        refine q_icmp_gt 129 73 dX1_follow_70 (by decide) rfl (fun h70 => ?_) (fun h70 => absurd (by decide) h70)
        refine q_return dX1_follow_129 rfl ?_
        exact pX.mk (Z, sb) ⟨hZ, hG⟩ rfl rfl
      | succ c ih =>
        intro o Z sb kk nn ho hZ hG
        have hgt := o3_gt o (by omega)
        have hup := o3_up o (by omega)
        have K1 := ih (o + 1)
        clear ih
        have hl : (meO li sf (iCmp ln (sf 4)) E co wy o).length ≤ 4000 := by
          have := meO_ge li sf (iCmp ln (sf 4)) E co wy (3 - o) o
          rw [show o + (3 - o) = 3 by omega] at this
          omega
        have hstep : meO li sf (iCmp ln (sf 4)) E co wy (o + 1) = meR (meO li sf (iCmp ln (sf 4)) E co wy o) (kyM (sPlayOff sf (lBy li (nI o - 1)))) (if nI o - 1 = iCmp ln (sf 4) then co else co + 1) wy := rfl
        rw [hstep] at K1
        clear hstep
        obtain ⟨g1, g2, g3, g4⟩ := hG
        have hZN := hZ.2.1
        rw [← hup] at K1
        clear hup hY hE
        generalize meO li sf (iCmp ln (sf 4)) E co wy 3 = E3 at *
        generalize meO li sf (iCmp ln (sf 4)) E co wy o = Eo at *
        generalize iCmp ln (sf 4) = cal at *
        generalize nI o - 1 = ot at *
        by_cases heq : ot = cal
        · rw [if_pos heq] at K1
          refine q_iload 7 69 dX1_follow_67 rfl rfl ?_
          refine q_iconst 1 70 dX1_follow_69 ic_1 rfl ?_
          refine q_icmp_gt 129 73 dX1_follow_70 (by decide) rfl (fun h70 => absurd h70 hgt) (fun h70 => ?_)
          refine q_aload_n 0 74 dX1_follow_73 rfl rfl rfl ?_
          refine q_getR 0 77 f_X1_18 dX1_follow_74 rfl rfl rfl rfl ?_
          refine q_aload_n 0 78 dX1_follow_77 rfl rfl rfl ?_
          refine q_getR 0 81 f_X1_12 dX1_follow_78 rfl rfl rfl rfl ?_
          refine q_cVv 2 [2, 1] [0, 3, 4, 5, 6, 7, 8, 9] [0, 9, 8, 1, 2, 3, 4, 5, 6, 7] 84 (wr := [_, _, _, _, _, _, _, _]) (w1 := _) (ws' := [_, _, _, _, _, _, _, _, _, _]) (c_X8_takeFrom h6) m_X1_54 dX1_follow_81 rfl rfl rfl rfl rfl rfl rfl rfl (by decide) (by decide) (by decide) (by decide) (Nat.le_of_ble_eq_true rfl) (by omega) (by omega) (by omega) rfl ?_
          refine q_aload_n 0 85 dX1_follow_84 rfl rfl rfl ?_
          refine q_getR 0 88 f_X1_18 dX1_follow_85 rfl rfl rfl rfl ?_
          refine q_aload_n 0 89 dX1_follow_88 rfl rfl rfl ?_
          refine q_getR 0 92 f_X1_45 dX1_follow_89 rfl rfl rfl rfl ?_
          refine q_getR 8 95 f_X1_76 dX1_follow_92 rfl rfl rfl rfl ?_
          refine q_iload 7 97 dX1_follow_95 rfl rfl ?_
          refine q_cVi 9 [9] [0, 1, 2, 3, 4, 5, 6, 7, 8] [0, 1, 2, 3, 4, 5, 6, 7, 8, 9] 100 (wr := [_, _, _, _, _, _, _, _, _]) (w1 := _) (ws' := [_, _, _, _, _, _, _, _, _, _]) c_X0_pointBy m_X1_105 dX1_follow_97 rfl rfl rfl rfl rfl rfl rfl rfl (by decide) (by decide) (by decide) (by decide) (Nat.le_of_ble_eq_true rfl) (by omega) (by omega) (by omega) rfl ?_
          refine q_cVv 2 [2] [0, 1, 3, 4, 5, 6, 7, 8, 9] [0, 1, 9, 2, 3, 4, 5, 6, 7, 8] 103 (wr := [_, _, _, _, _, _, _, _, _]) (w1 := _) (ws' := [_, _, _, _, _, _, _, _, _, _]) c_X8_playOff m_X1_111 dX1_follow_100 rfl rfl rfl rfl rfl rfl rfl rfl (by decide) (by decide) (by decide) (by decide) (Nat.le_of_ble_eq_true rfl) (by omega) (by omega) (by omega) rfl ?_
          refine q_aload_n 0 104 dX1_follow_103 rfl rfl rfl ?_
          refine q_iload 7 106 dX1_follow_104 rfl rfl ?_
          refine q_iload 6 108 dX1_follow_106 rfl rfl ?_
          refine q_icmp_ne 115 111 dX1_follow_108 (by decide) rfl (fun h108 => absurd heq h108) (fun h108 => ?_)
          refine q_iload_n 3 112 dX1_follow_111 rfl rfl rfl ?_
          refine q_goto 118 dX1_follow_112 (by decide) ?_
          refine q_lload 4 120 dX1_follow_118 rfl rfl ?_
          refine q_yVv 0 [0, 2, 3, 4, 5, 6, 7] [1, 8, 9] [3, 0, 4, 5, 6, 7, 8, 9, 1, 2] 123 (wr := [_, _, _]) (w1 := _) (ws' := fun _ => [_, _, _, _, _, _, _, _, _, _]) (c_X1_reach hZ hl) m_X1_61 dX1_follow_120 rfl rfl rfl rfl rfl rfl rfl (fun _ => rfl) (by decide) (by decide) (by decide) (by decide) (Nat.le_of_ble_eq_true rfl) (by omega) (by omega) (by omega) rfl (fun Z120 k120 n120 hx120 => ?_)
          refine q_iinc 7 _ 126 (L' := [_, _, _, _, _, _, _, _]) dX1_follow_123 rfl rfl (by decide) rfl rfl ?_
          refine q_goto 67 dX1_follow_126 (by decide) ?_
          obtain ⟨w1, w2, w3, w4, w5⟩ := hx120
          exact K1 _ _ _ _ (by omega) w1 ⟨w2.trans g1, by omega, by omega, by omega⟩
        · rw [if_neg heq] at K1
          refine q_iload 7 69 dX1_follow_67 rfl rfl ?_
          refine q_iconst 1 70 dX1_follow_69 ic_1 rfl ?_
          refine q_icmp_gt 129 73 dX1_follow_70 (by decide) rfl (fun h70 => absurd h70 hgt) (fun h70 => ?_)
          refine q_aload_n 0 74 dX1_follow_73 rfl rfl rfl ?_
          refine q_getR 0 77 f_X1_18 dX1_follow_74 rfl rfl rfl rfl ?_
          refine q_aload_n 0 78 dX1_follow_77 rfl rfl rfl ?_
          refine q_getR 0 81 f_X1_12 dX1_follow_78 rfl rfl rfl rfl ?_
          refine q_cVv 2 [2, 1] [0, 3, 4, 5, 6, 7, 8, 9] [0, 9, 8, 1, 2, 3, 4, 5, 6, 7] 84 (wr := [_, _, _, _, _, _, _, _]) (w1 := _) (ws' := [_, _, _, _, _, _, _, _, _, _]) (c_X8_takeFrom h6) m_X1_54 dX1_follow_81 rfl rfl rfl rfl rfl rfl rfl rfl (by decide) (by decide) (by decide) (by decide) (Nat.le_of_ble_eq_true rfl) (by omega) (by omega) (by omega) rfl ?_
          refine q_aload_n 0 85 dX1_follow_84 rfl rfl rfl ?_
          refine q_getR 0 88 f_X1_18 dX1_follow_85 rfl rfl rfl rfl ?_
          refine q_aload_n 0 89 dX1_follow_88 rfl rfl rfl ?_
          refine q_getR 0 92 f_X1_45 dX1_follow_89 rfl rfl rfl rfl ?_
          refine q_getR 8 95 f_X1_76 dX1_follow_92 rfl rfl rfl rfl ?_
          refine q_iload 7 97 dX1_follow_95 rfl rfl ?_
          refine q_cVi 9 [9] [0, 1, 2, 3, 4, 5, 6, 7, 8] [0, 1, 2, 3, 4, 5, 6, 7, 8, 9] 100 (wr := [_, _, _, _, _, _, _, _, _]) (w1 := _) (ws' := [_, _, _, _, _, _, _, _, _, _]) c_X0_pointBy m_X1_105 dX1_follow_97 rfl rfl rfl rfl rfl rfl rfl rfl (by decide) (by decide) (by decide) (by decide) (Nat.le_of_ble_eq_true rfl) (by omega) (by omega) (by omega) rfl ?_
          refine q_cVv 2 [2] [0, 1, 3, 4, 5, 6, 7, 8, 9] [0, 1, 9, 2, 3, 4, 5, 6, 7, 8] 103 (wr := [_, _, _, _, _, _, _, _, _]) (w1 := _) (ws' := [_, _, _, _, _, _, _, _, _, _]) c_X8_playOff m_X1_111 dX1_follow_100 rfl rfl rfl rfl rfl rfl rfl rfl (by decide) (by decide) (by decide) (by decide) (Nat.le_of_ble_eq_true rfl) (by omega) (by omega) (by omega) rfl ?_
          refine q_aload_n 0 104 dX1_follow_103 rfl rfl rfl ?_
          refine q_iload 7 106 dX1_follow_104 rfl rfl ?_
          refine q_iload 6 108 dX1_follow_106 rfl rfl ?_
          refine q_icmp_ne 115 111 dX1_follow_108 (by decide) rfl (fun h108 => ?_) (fun h108 => absurd h108 heq)
          refine q_iload_n 3 116 dX1_follow_115 rfl rfl rfl ?_
          refine q_iconst 1 117 dX1_follow_116 ic_1 rfl ?_
          refine q_iadd 118 dX1_follow_117 rfl ?_
          refine q_lload 4 120 dX1_follow_118 rfl rfl ?_
          refine q_yVv 0 [0, 2, 3, 4, 5, 6, 7] [1, 8, 9] [3, 0, 4, 5, 6, 7, 8, 9, 1, 2] 123 (wr := [_, _, _]) (w1 := _) (ws' := fun _ => [_, _, _, _, _, _, _, _, _, _]) (c_X1_reach hZ hl) m_X1_61 dX1_follow_120 rfl rfl rfl rfl rfl rfl rfl (fun _ => rfl) (by decide) (by decide) (by decide) (by decide) (Nat.le_of_ble_eq_true rfl) (by omega) (by omega) (by omega) rfl (fun Z120 k120 n120 hx120 => ?_)
          refine q_iinc 7 _ 126 (L' := [_, _, _, _, _, _, _, _]) dX1_follow_123 rfl rfl (by decide) rfl rfl ?_
          refine q_goto 67 dX1_follow_126 (by decide) ?_
          obtain ⟨w1, w2, w3, w4, w5⟩ := hx120
          exact K1 _ _ _ _ (by omega) w1 ⟨w2.trans g1, by omega, by omega, by omega⟩
    have k2 := fun sb => K67 3 0 Y sb 0 0 rfl hY ⟨rfl, Nat.le_refl _, by omega, by omega⟩
    clear K67
    rw [show nI 0 - 1 = (-1 : Int32) by decide] at k2
    generalize meO li sf (iCmp ln (sf 4)) E co wy 3 = E3 at *
    refine q_iload_n 1 1 dX1_follow_0 rfl rfl rfl ?_
    refine q_iconst 2 2 dX1_follow_1 ic_2 rfl ?_
    refine q_icmp_ne 15 5 dX1_follow_2 (by decide) rfl (fun h2 => absurd rfl h2) (fun h2 => ?_)
    refine q_aload_n 0 6 dX1_follow_5 rfl rfl rfl ?_
    refine q_getR 0 9 f_X1_12 dX1_follow_6 rfl rfl rfl rfl ?_
    refine q_getI 1 12 f_X1_88 dX1_follow_9 rfl rfl rfl ?_
    refine q_if_ne 51 15 dX1_follow_12 (by decide) rfl (fun h12 => ?_) (fun h12 => absurd h12 hn6)
    refine q_iload_n 2 52 dX1_follow_51 rfl rfl rfl ?_
    refine q_aload_n 0 53 dX1_follow_52 rfl rfl rfl ?_
    refine q_getR 0 56 f_X1_12 dX1_follow_53 rfl rfl rfl rfl ?_
    refine q_getI 1 59 f_X1_96 dX1_follow_56 rfl rfl rfl ?_
    refine q_cSi [] [0, 1, 2, 3, 4, 5, 6, 7, 8, 9] [0, 1, 2, 3, 4, 5, 6, 7, 8, 9] 62 (wr := [_, _, _, _, _, _, _, _, _, _]) (w1 := _) (ws' := [_, _, _, _, _, _, _, _, _, _]) c_J6_compare m_X1_99 dX1_follow_59 rfl rfl rfl rfl rfl (by decide) (by decide) (by decide) (by decide) (Nat.le_of_ble_eq_true rfl) (by omega) (by omega) (by omega) rfl ?_
    refine q_istore 6 64 (L' := [_, _, _, _, _, _, _, _]) dX1_follow_62 (by decide) rfl rfl ?_
    refine q_iconst (-1) 65 dX1_follow_64 ic_m1 rfl ?_
    refine q_istore 7 67 (L' := [_, _, _, _, _, _, _, _]) dX1_follow_65 (by decide) rfl rfl ?_
    exact k2 _
  · rw [meF, if_neg hc] at hE ⊢
    have hE2 : E.length ≤ 4000 := Nat.le_trans (meR_ge _ _ _ _) hE
    have K15 : ∀ sb : Sc, WPs l g mtX1_follow 6 (4096 - plN (mrP Y)) (14 * (4096 - plN (mrP Y))) (pX (fun _ : MrS × Sc => none) (fun z : MrS × Sc => [(q, obj 1 i (rMd fr be X z.1 (some sd)) j), (fr, ob 8 sf []), (be, ob 8 z.2 []), (mrA z.1, ob 3 (plI (mrP z.1)) (rPl (plKe (mrP z.1)) (plTa (mrP z.1)))), (plKe (mrP z.1), aI g (plN (mrP z.1)) (plKf (mrP z.1))), (plTa (mrP z.1), aI g (4 * plN (mrP z.1)) (plTb (mrP z.1))), (mrC z.1, aI g (plN (mrP z.1)) (mrF z.1)), (mrN z.1, aJ g (plN (mrP z.1)) (mrG z.1)), (sd, ob 10 (fun _ => 0) (rD la ru so)), (la, ob 0 li (rL cc))]) (fun z k n => MrO z.1 (meR E (kyM (sStrike sf li how ln)) co wy) ∧ GrM Y z.1 k n)) noX a 15 [some (.ref q), some (.int how), some (.int ln), some (.int co), some (.long wy), none, none, none] [] [(q, obj 1 i (rMd fr be X Y (some sd)) j), (fr, ob 8 sf []), (be, ob 8 sb []), (mrA Y, ob 3 (plI (mrP Y)) (rPl (plKe (mrP Y)) (plTa (mrP Y)))), (plKe (mrP Y), aI g (plN (mrP Y)) (plKf (mrP Y))), (plTa (mrP Y), aI g (4 * plN (mrP Y)) (plTb (mrP Y))), (mrC Y, aI g (plN (mrP Y)) (mrF Y)), (mrN Y, aJ g (plN (mrP Y)) (mrG Y)), (sd, ob 10 (fun _ => 0) (rD la ru so)), (la, ob 0 li (rL cc))] 0 0 := by
      intro sb
      generalize hst : sStrike sf li how ln = ss at *
      refine q_aload_n 0 16 dX1_follow_15 rfl rfl rfl ?_
      refine q_getR 0 19 f_X1_18 dX1_follow_16 rfl rfl rfl rfl ?_
      refine q_aload_n 0 20 dX1_follow_19 rfl rfl rfl ?_
      refine q_getR 0 23 f_X1_12 dX1_follow_20 rfl rfl rfl rfl ?_
      refine q_cVv 2 [2, 1] [0, 3, 4, 5, 6, 7, 8, 9] [0, 9, 8, 1, 2, 3, 4, 5, 6, 7] 26 (wr := [_, _, _, _, _, _, _, _]) (w1 := _) (ws' := [_, _, _, _, _, _, _, _, _, _]) (c_X8_takeFrom h6) m_X1_54 dX1_follow_23 rfl rfl rfl rfl rfl rfl rfl rfl (by decide) (by decide) (by decide) (by decide) (Nat.le_of_ble_eq_true rfl) (by omega) (by omega) (by omega) rfl ?_
      refine q_aload_n 0 27 dX1_follow_26 rfl rfl rfl ?_
      refine q_getR 0 30 f_X1_18 dX1_follow_27 rfl rfl rfl rfl ?_
      refine q_iload_n 1 31 dX1_follow_30 rfl rfl rfl ?_
      refine q_iload_n 2 32 dX1_follow_31 rfl rfl rfl ?_
      refine q_aload_n 0 33 dX1_follow_32 rfl rfl rfl ?_
      refine q_getR 0 36 f_X1_45 dX1_follow_33 rfl rfl rfl rfl ?_
      refine q_getR 8 39 f_X1_76 dX1_follow_36 rfl rfl rfl rfl ?_
      refine q_cVi 2 [2, 9] [0, 1, 3, 4, 5, 6, 7, 8] [0, 1, 8, 2, 3, 4, 5, 6, 7, 9] 42 (wr := [_, _, _, _, _, _, _, _]) (w1 := _) (ws' := [_, _, _, _, _, _, _, _, _, _]) c_X8_strike m_X1_92 dX1_follow_39 rfl rfl rfl rfl rfl rfl rfl rfl (by decide) (by decide) (by decide) (by decide) (Nat.le_of_ble_eq_true rfl) (by omega) (by omega) (by omega) rfl ?_
      rw [hst]
      refine q_pop 43 dX1_follow_42 rfl rfl ?_
      refine q_aload_n 0 44 dX1_follow_43 rfl rfl rfl ?_
      refine q_iload_n 3 45 dX1_follow_44 rfl rfl rfl ?_
      refine q_lload 4 47 dX1_follow_45 rfl rfl ?_
      refine q_yVv 0 [0, 2, 3, 4, 5, 6, 7] [1, 8, 9] [3, 0, 4, 5, 6, 7, 8, 9, 1, 2] 50 (wr := [_, _, _]) (w1 := _) (ws' := fun _ => [_, _, _, _, _, _, _, _, _, _]) (c_X1_reach hY hE2) m_X1_61 dX1_follow_47 rfl rfl rfl rfl rfl rfl rfl (fun _ => rfl) (by decide) (by decide) (by decide) (by decide) (Nat.le_of_ble_eq_true rfl) (by omega) (by omega) (by omega) rfl (fun Z47 k47 n47 hx47 => ?_)
      refine q_return dX1_follow_50 rfl ?_
      exact pX.mk (Z47, ss) (by rw [Nat.zero_add, Nat.zero_add]; exact hx47) rfl rfl
    by_cases hh : how = 2
    · have h60 : sf 6 = 0 := Classical.byContradiction fun h => hc ⟨hh, h⟩
      refine q_iload_n 1 1 dX1_follow_0 rfl rfl rfl ?_
      refine q_iconst 2 2 dX1_follow_1 ic_2 rfl ?_
      refine q_icmp_ne 15 5 dX1_follow_2 (by decide) rfl (fun h2 => absurd hh h2) (fun h2 => ?_)
      refine q_aload_n 0 6 dX1_follow_5 rfl rfl rfl ?_
      refine q_getR 0 9 f_X1_12 dX1_follow_6 rfl rfl rfl rfl ?_
      refine q_getI 1 12 f_X1_88 dX1_follow_9 rfl rfl rfl ?_
      refine q_if_ne 51 15 dX1_follow_12 (by decide) rfl (fun h12 => absurd h60 h12) (fun h12 => ?_)
      exact K15 _
    · skip
      refine q_iload_n 1 1 dX1_follow_0 rfl rfl rfl ?_
      refine q_iconst 2 2 dX1_follow_1 ic_2 rfl ?_
      refine q_icmp_ne 15 5 dX1_follow_2 (by decide) rfl (fun h2 => ?_) (fun h2 => absurd h2 hh)
      exact K15 _

