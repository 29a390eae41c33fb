/-! ===== Mender: its steps ===== -/
theorem sBec_6 (s : Sc) (c : Int32) : sBec s c 6 = 0 ∨ sBec s c 6 = 1 := by
  unfold sBec sBk
  split
  · left; unfold sBr sRestart; rw [pk_us]
  · split
    · rw [pk_un (by decide), pk_un (by decide), pk_us]; split <;> simp
    · rw [pk_un (by decide), pk_un (by decide), pk_un (by decide), pk_us]; split <;> simp
theorem feM_6 (s : Sc) (c : Int32) : feM s c 6 = 0 ∨ feM s c 6 = 1 := by
  unfold feM
  rw [pk_un (by decide), pk_un (by decide)]
  exact sBec_6 _ _
/-- behind the first k rows of E: who was fetched, and the rows made -/
def meG (li : Sc) (how ln : Int32) (E : ME) (s0 : Sc) : Nat → Sc × ME
  | 0 => (s0, [])
  | k + 1 => (feM (meG li how ln E s0 k).1 (E.getD k e0M).1, if sOver (feM (meG li how ln E s0 k).1 (E.getD k e0M).1) li = 0 then meF li how ln (feM (meG li how ln E s0 k).1 (E.getD k e0M).1) (meG li how ln E s0 k).2 (E.getD k e0M).2.1 (E.getD k e0M).2.2 else (meG li how ln E s0 k).2)
theorem meF_ge (li : Sc) (how ln : Int32) (sf : Sc) (E : ME) (co : Int32) (wy : Int64) : E.length ≤ (meF li how ln sf E co wy).length := by
  unfold meF
  split
  · exact meO_ge li sf _ E co wy 3 0
  · exact meR_ge _ _ _ _
theorem meG_ge (li : Sc) (how ln : Int32) (E : ME) (s0 : Sc) : ∀ d k, (meG li how ln E s0 k).2.length ≤ (meG li how ln E s0 (k + d)).2.length
  | 0, _ => Nat.le_refl _
  | d + 1, k => by
    refine Nat.le_trans (meG_ge li how ln E s0 d k) ?_
    show _ ≤ (meG li how ln E s0 (k + d + 1)).2.length
    rw [meG]
    dsimp only
    split
    · exact meF_ge _ _ _ _ _ _ _
    · exact Nat.le_refl _
def mrCl (Y : MrS) : MrS := (mrA Y, plC (mrP Y), mrC Y, mrN Y, mrF Y, mrG Y)
theorem mrCl_O {Y : MrS} (h : PlO (mrP Y)) (hN : plN (mrP Y) ≤ 4096) : MrO (mrCl Y) [] := ⟨plC_O h, hN, rfl, fun k hk => absurd hk (Nat.not_lt_zero _)⟩
theorem c_X1_step {l : Launch} {g : Gh} {q fr be sd la ru so cc : Nat} {X Y : MrS} {i sf sb li : Sc} {j : Nat → Int64} {E : ME} {how ln : Int32} (hX : MrO X E) (hY : PlO (mrP Y)) (hYN : plN (mrP Y) ≤ 4096) (hE0 : E.length ≤ 4000) (hE : (meG li how ln E sf E.length).2.length ≤ 4000) : Cn l g yX1_step (Cond.code yX1_step cX1_step 4 none) 7 (4096 - plN (mrP Y)) (14 * (4096 - plN (mrP Y))) [.ref q, .int how, .int ln] [(q, obj 1 i (rMd fr be X Y (some sd)) j), (fr, ob 8 sf []), (be, ob 8 sb []), (mrA X, ob 3 (plI (mrP X)) (rPl (plKe (mrP X)) (plTa (mrP X)))), (plKe (mrP X), aI g (plN (mrP X)) (plKf (mrP X))), (plTa (mrP X), aI g (4 * plN (mrP X)) (plTb (mrP X))), (mrC X, aI g (plN (mrP X)) (mrF X)), (mrN X, aJ g (plN (mrP X)) (mrG X)), (mrA Y, ob 3 (plI (mrP Y)) (rPl (plKe (mrP Y)) (plTa (mrP Y)))), (plKe (mrP Y), aI g (plN (mrP Y)) (plKf (mrP Y))), (plTa (mrP Y), aI g (4 * plN (mrP Y)) (plTb (mrP Y))), (mrC Y, aI g (plN (mrP Y)) (mrF Y)), (mrN Y, aJ g (plN (mrP Y)) (mrG Y)), (sd, ob 10 (fun _ => 0) (rD la ru so)), (la, ob 0 li (rL cc))] (fun _ : MrS × Sc => none) (fun z : MrS × Sc => [(q, obj 1 i (rMd fr be z.1 X (some sd)) j), (fr, ob 8 (meG li how ln E sf E.length).1 []), (be, ob 8 z.2 []), (mrA z.1, ob 3 (plI (mrP z.1)) (rPl (plKe (mrP z.1)) (plTa (mrP z.1)))), (plKe (mrP z.1), aI g (plN (mrP z.1)) (plKf (mrP z.1))), (plTa (mrP z.1), aI g (4 * plN (mrP z.1)) (plTb (mrP z.1))), (mrC z.1, aI g (plN (mrP z.1)) (mrF z.1)), (mrN z.1, aJ g (plN (mrP z.1)) (mrG z.1)), (mrA X, ob 3 (plI (mrP X)) (rPl (plKe (mrP X)) (plTa (mrP X)))), (plKe (mrP X), aI g (plN (mrP X)) (plKf (mrP X))), (plTa (mrP X), aI g (4 * plN (mrP X)) (plTb (mrP X))), (mrC X, aI g (plN (mrP X)) (mrF X)), (mrN X, aJ g (plN (mrP X)) (mrG X)), (sd, ob 10 (fun _ => 0) (rD la ru so)), (la, ob 0 li (rL cc))]) (fun z k n => MrO z.1 (meG li how ln E sf E.length).2 ∧ GrM Y z.1 k n) := by
  refine ct_of (M := mtX1_step) [some (.ref q), some (.int how), some (.int ln), none] rfl (by decide) (Nat.le_of_ble_eq_true rfl) (fun _ h => h) (fun a => ?_)
  have hKl : (plK (mrP X)).length = E.length := by rw [hX.2.2.1]; simp
  have hsz : plI (mrP X) 2 = nI E.length := by rw [hX.1.1, hKl]
  have hXN := hX.2.1
  have hXk : E.length ≤ plN (mrP X) := by rw [← hKl]; exact hX.1.2.1.1
  have K9 : ∀ (c k : Nat) (Z : MrS) (sb : Sc) (kk nn : Nat), c + k = E.length → MrO Z (meG li how ln E sf k).2 → GrM Y Z kk nn → WPs l g mtX1_step 7 (4096 - plN (mrP Y)) (14 * (4096 - plN (mrP Y))) (pX (fun _ : MrS × Sc => none) (fun z : MrS × Sc => [(q, obj 1 i (rMd fr be z.1 X (some sd)) j), (fr, ob 8 (meG li how ln E sf E.length).1 []), (be, ob 8 z.2 []), (mrA z.1, ob 3 (plI (mrP z.1)) (rPl (plKe (mrP z.1)) (plTa (mrP z.1)))), (plKe (mrP z.1), aI g (plN (mrP z.1)) (plKf (mrP z.1))), (plTa (mrP z.1), aI g (4 * plN (mrP z.1)) (plTb (mrP z.1))), (mrC z.1, aI g (plN (mrP z.1)) (mrF z.1)), (mrN z.1, aJ g (plN (mrP z.1)) (mrG z.1)), (mrA X, ob 3 (plI (mrP X)) (rPl (plKe (mrP X)) (plTa (mrP X)))), (plKe (mrP X), aI g (plN (mrP X)) (plKf (mrP X))), (plTa (mrP X), aI g (4 * plN (mrP X)) (plTb (mrP X))), (mrC X, aI g (plN (mrP X)) (mrF X)), (mrN X, aJ g (plN (mrP X)) (mrG X)), (sd, ob 10 (fun _ => 0) (rD la ru so)), (la, ob 0 li (rL cc))]) (fun z k n => MrO z.1 (meG li how ln E sf E.length).2 ∧ GrM Y z.1 k n)) noX a 9 [some (.ref q), some (.int how), some (.int ln), some (.int (nI k))] [] [(q, obj 1 i (rMd fr be X Z (some sd)) j), (fr, ob 8 (meG li how ln E sf k).1 []), (be, ob 8 sb []), (mrA X, ob 3 (plI (mrP X)) (rPl (plKe (mrP X)) (plTa (mrP X)))), (plKe (mrP X), aI g (plN (mrP X)) (plKf (mrP X))), (plTa (mrP X), aI g (4 * plN (mrP X)) (plTb (mrP X))), (mrC X, aI g (plN (mrP X)) (mrF X)), (mrN X, aJ g (plN (mrP X)) (mrG X)), (mrA Z, ob 3 (plI (mrP Z)) (rPl (plKe (mrP Z)) (plTa (mrP Z)))), (plKe (mrP Z), aI g (plN (mrP Z)) (plKf (mrP Z))), (plTa (mrP Z), aI g (4 * plN (mrP Z)) (plTb (mrP Z))), (mrC Z, aI g (plN (mrP Z)) (mrF Z)), (mrN Z, aJ g (plN (mrP Z)) (mrG Z)), (sd, ob 10 (fun _ => 0) (rD la ru so)), (la, ob 0 li (rL cc))] kk nn := by
    intro c
    induction c with
    | zero =>
      intro k Z sb kk nn hk hZ hG
      obtain rfl : k = E.length := by omega
      have hge : nI E.length ≤ nI E.length := Int32.le_refl _
      have hZN := hZ.2.1
      generalize meG li how ln E sf E.length = ge at *
      refine q_iload_n 3 10 dX1_step_9 rfl rfl rfl ?_
      refine q_aload_n 0 11 dX1_step_10 rfl rfl rfl ?_
      refine q_getR 0 14 f_X1_24 dX1_step_11 rfl rfl rfl rfl ?_
      refine q_getI 3 17 f_X1_68 dX1_step_14 rfl rfl rfl ?_
      rw [hsz]
      refine q_icmp_ge 66 20 dX1_step_17 (by decide) rfl (fun h17 => ?_) (fun h17 => absurd hge h17)
      refine q_aload_n 0 67 dX1_step_66 rfl rfl rfl ?_
      refine q_cVv 0 [0] [1, 2, 3, 4, 5, 6, 7, 8, 9, 10, 11, 12, 13, 14] [14, 0, 1, 2, 3, 4, 5, 6, 7, 8, 9, 10, 11, 12, 13] 70 (wr := [_, _, _, _, _, _, _, _, _, _, _, _, _, _]) (w1 := _) (ws' := [_, _, _, _, _, _, _, _, _, _, _, _, _, _, _]) c_X1_turn m_X1_65 dX1_step_67 rfl rfl rfl rfl rfl rfl rfl rfl (by decide) (by decide) (by decide) (by decide) (Nat.le_of_ble_eq_true rfl) (by omega) (by omega) (by omega) rfl ?_
      refine q_sub (ws' := [_, _, _, _, _, _, _, _, _, _, _, _, _, _, _]) [0, 1, 2, 8, 9, 10, 11, 12, 3, 4, 5, 6, 7, 13, 14] rfl rfl ?_
      refine q_return dX1_step_70 rfl ?_
      exact pX.mk (Z, sb) ⟨hZ, hG⟩ rfl rfl
    | succ c ih =>
      intro k Z sb kk nn hk hZ hG
      have hlt : ¬ nI E.length ≤ nI k := nI_ge (by omega) (by omega)
      have K1 := ih (k + 1)
      clear ih
      have hl : (meG li how ln E sf (k + 1)).2.length ≤ 4000 := by
        have := meG_ge li how ln E sf (E.length - (k + 1)) (k + 1)
        rw [show k + 1 + (E.length - (k + 1)) = E.length by omega] at this
        omega
      rw [meG] at K1 hl
      generalize meG li how ln E sf E.length = ge at *
      generalize meG li how ln E sf k = gk at *
      obtain ⟨s1, E1⟩ := gk
      dsimp only at K1 hl hZ ⊢
      have h6 := feM_6 s1 (E.getD k e0M).1
      obtain ⟨v1, v2⟩ := hX.2.2.2 k (by omega)
      obtain ⟨g1, g2, g3, g4⟩ := hG
      have hZN := hZ.2.1
      have hcall := @c_X1_fetch l g q fr be k X Z (some sd) i s1 j E hX (by omega)
      generalize hw : feM s1 (E.getD k e0M).1 = s2 at *
      generalize (E.getD k e0M).2.1 = co at *
      generalize (E.getD k e0M).2.2 = wy at *
      by_cases ho : sOver s2 li = 0
      · rw [if_pos ho] at K1 hl
        refine q_iload_n 3 10 dX1_step_9 rfl rfl rfl ?_
        refine q_aload_n 0 11 dX1_step_10 rfl rfl rfl ?_
        refine q_getR 0 14 f_X1_24 dX1_step_11 rfl rfl rfl rfl ?_
        refine q_getI 3 17 f_X1_68 dX1_step_14 rfl rfl rfl ?_
        rw [hsz]
        refine q_icmp_ge 66 20 dX1_step_17 (by decide) rfl (fun h17 => absurd h17 hlt) (fun h17 => ?_)
        refine q_aload_n 0 21 dX1_step_20 rfl rfl rfl ?_
        refine q_iload_n 3 22 dX1_step_21 rfl rfl rfl ?_
        refine q_cVv 0 [0, 1, 3, 4] [2, 5, 6, 7, 8, 9, 10, 11, 12, 13, 14] [11, 12, 0, 13, 14, 1, 2, 3, 4, 5, 6, 7, 8, 9, 10] 25 (wr := [_, _, _, _, _, _, _, _, _, _, _]) (w1 := _) (ws' := [_, _, _, _, _, _, _, _, _, _, _, _, _, _, _]) (c_X1_fetch hX (by omega)) m_X1_72 dX1_step_22 rfl rfl rfl rfl rfl rfl rfl rfl (by decide) (by decide) (by decide) (by decide) (Nat.le_of_ble_eq_true rfl) (by omega) (by omega) (by omega) rfl ?_
        rw [hw]
        refine q_aload_n 0 26 dX1_step_25 rfl rfl rfl ?_
        refine q_getR 0 29 f_X1_12 dX1_step_26 rfl rfl rfl rfl ?_
        refine q_aload_n 0 30 dX1_step_29 rfl rfl rfl ?_
        refine q_getR 0 33 f_X1_45 dX1_step_30 rfl rfl rfl rfl ?_
        refine q_getR 13 36 f_X1_76 dX1_step_33 rfl rfl rfl rfl ?_
        refine q_cVi 1 [1, 14] [0, 2, 3, 4, 5, 6, 7, 8, 9, 10, 11, 12, 13] [0, 13, 1, 2, 3, 4, 5, 6, 7, 8, 9, 10, 11, 12, 14] 39 (wr := [_, _, _, _, _, _, _, _, _, _, _, _, _]) (w1 := _) (ws' := [_, _, _, _, _, _, _, _, _, _, _, _, _, _, _]) c_X8_isOver m_X1_80 dX1_step_36 rfl rfl rfl rfl rfl rfl rfl rfl (by decide) (by decide) (by decide) (by decide) (Nat.le_of_ble_eq_true rfl) (by omega) (by omega) (by omega) rfl ?_
        refine q_if_ne 60 42 dX1_step_39 (by decide) rfl (fun h39 => absurd ho h39) (fun h39 => ?_)
        refine q_aload_n 0 43 dX1_step_42 rfl rfl rfl ?_
        refine q_iload_n 1 44 dX1_step_43 rfl rfl rfl ?_
        refine q_iload_n 2 45 dX1_step_44 rfl rfl rfl ?_
        refine q_aload_n 0 46 dX1_step_45 rfl rfl rfl ?_
        refine q_getR 0 49 f_X1_31 dX1_step_46 rfl rfl rfl rfl ?_
        refine q_iload_n 3 50 dX1_step_49 rfl rfl rfl ?_
        refine q_iald 6 k 51 dX1_step_50 rfl ⟨rfl, by omega, by omega⟩ rfl ?_
        refine q_aload_n 0 52 dX1_step_51 rfl rfl rfl ?_
        refine q_getR 0 55 f_X1_38 dX1_step_52 rfl rfl rfl rfl ?_
        refine q_iload_n 3 56 dX1_step_55 rfl rfl rfl ?_
        refine q_lald 7 k 57 dX1_step_56 rfl ⟨rfl, by omega, by omega⟩ rfl ?_
        rw [v1, v2]
        refine q_yVv 0 [0, 1, 2, 8, 9, 10, 11, 12, 13, 14] [3, 4, 5, 6, 7] [5, 6, 7, 0, 1, 2, 3, 4, 8, 9, 10, 11, 12, 13, 14] 60 (wr := [_, _, _, _, _]) (w1 := _) (ws' := fun _ => [_, _, _, _, _, _, _, _, _, _, _, _, _, _, _]) (c_X1_follow hZ h6 hl) m_X1_84 dX1_step_57 rfl rfl rfl rfl rfl rfl rfl (fun _ => rfl) (by decide) (by decide) (by decide) (by decide) (Nat.le_of_ble_eq_true rfl) (by omega) (by omega) (by omega) rfl (fun z57 k57 n57 hx57 => ?_)
        obtain ⟨Z57, b57⟩ := z57
        dsimp only at hx57 ⊢
        refine q_iinc 3 (nI (k + 1)) 63 (L' := [_, _, _, _]) dX1_step_60 rfl (inc1 (k)) (by decide) rfl rfl ?_
        refine q_goto 9 dX1_step_63 (by decide) ?_
        obtain ⟨w1, w2, w3, w4, w5⟩ := hx57
        exact K1 Z57 b57 _ _ (by omega) w1 ⟨w2.trans g1, by omega, by omega, by omega⟩
      · rw [if_neg ho] at K1 hl
        refine q_iload_n 3 10 dX1_step_9 rfl rfl rfl ?_
        refine q_aload_n 0 11 dX1_step_10 rfl rfl rfl ?_
        refine q_getR 0 14 f_X1_24 dX1_step_11 rfl rfl rfl rfl ?_
        refine q_getI 3 17 f_X1_68 dX1_step_14 rfl rfl rfl ?_
        rw [hsz]
        refine q_icmp_ge 66 20 dX1_step_17 (by decide) rfl (fun h17 => absurd h17 hlt) (fun h17 => ?_)
        refine q_aload_n 0 21 dX1_step_20 rfl rfl rfl ?_
        refine q_iload_n 3 22 dX1_step_21 rfl rfl rfl ?_
        refine q_cVv 0 [0, 1, 3, 4] [2, 5, 6, 7, 8, 9, 10, 11, 12, 13, 14] [11, 12, 0, 13, 14, 1, 2, 3, 4, 5, 6, 7, 8, 9, 10] 25 (wr := [_, _, _, _, _, _, _, _, _, _, _]) (w1 := _) (ws' := [_, _, _, _, _, _, _, _, _, _, _, _, _, _, _]) (c_X1_fetch hX (by omega)) m_X1_72 dX1_step_22 rfl rfl rfl rfl rfl rfl rfl rfl (by decide) (by decide) (by decide) (by decide) (Nat.le_of_ble_eq_true rfl) (by omega) (by omega) (by omega) rfl ?_
        rw [hw]
        refine q_aload_n 0 26 dX1_step_25 rfl rfl rfl ?_
        refine q_getR 0 29 f_X1_12 dX1_step_26 rfl rfl rfl rfl ?_
        refine q_aload_n 0 30 dX1_step_29 rfl rfl rfl ?_
        refine q_getR 0 33 f_X1_45 dX1_step_30 rfl rfl rfl rfl ?_
        refine q_getR 13 36 f_X1_76 dX1_step_33 rfl rfl rfl rfl ?_
        refine q_cVi 1 [1, 14] [0, 2, 3, 4, 5, 6, 7, 8, 9, 10, 11, 12, 13] [0, 13, 1, 2, 3, 4, 5, 6, 7, 8, 9, 10, 11, 12, 14] 39 (wr := [_, _, _, _, _, _, _, _, _, _, _, _, _]) (w1 := _) (ws' := [_, _, _, _, _, _, _, _, _, _, _, _, _, _, _]) c_X8_isOver m_X1_80 dX1_step_36 rfl rfl rfl rfl rfl rfl rfl rfl (by decide) (by decide) (by decide) (by decide) (Nat.le_of_ble_eq_true rfl) (by omega) (by omega) (by omega) rfl ?_
        refine q_if_ne 60 42 dX1_step_39 (by decide) rfl (fun h39 => ?_) (fun h39 => absurd h39 ho)
        refine q_iinc 3 (nI (k + 1)) 63 (L' := [_, _, _, _]) dX1_step_60 rfl (inc1 (k)) (by decide) rfl rfl ?_
        refine q_goto 9 dX1_step_63 (by decide) ?_
        exact K1 Z _ _ _ (by omega) hZ ⟨g1, g2, g3, g4⟩
  have k2 := fun sb => K9 E.length 0 (mrCl Y) sb 0 0 (by omega) (mrCl_O hY hYN) ⟨rfl, Nat.le_refl _, by show 0 + plN (mrP Y) ≤ plN (mrP Y); omega, by show 0 + 14 * plN (mrP Y) ≤ 14 * plN (mrP Y); omega⟩
  clear K9
  rw [show (meG li how ln E sf 0).1 = sf from rfl] at k2
  generalize meG li how ln E sf E.length = ge at *
  refine q_aload_n 0 1 dX1_step_0 rfl rfl rfl ?_
  refine q_getR 0 4 f_X1_28 dX1_step_1 rfl rfl rfl rfl ?_
  refine q_cVv 8 [8, 9, 10] [0, 1, 2, 3, 4, 5, 6, 7, 11, 12, 13, 14] [0, 1, 2, 3, 4, 5, 6, 7, 12, 13, 14, 8, 9, 10, 11] 7 (wr := [_, _, _, _, _, _, _, _, _, _, _, _]) (w1 := _) (ws' := [_, _, _, _, _, _, _, _, _, _, _, _, _, _, _]) (c_X3_clear hY) m_X1_58 dX1_step_4 rfl rfl rfl rfl rfl rfl rfl rfl (by decide) (by decide) (by decide) (by decide) (Nat.le_of_ble_eq_true rfl) (by omega) (by omega) (by omega) rfl ?_
  refine q_iconst 0 8 dX1_step_7 ic_0 rfl ?_
  refine q_istore_n 3 9 (L' := [_, _, _, _]) dX1_step_8 rfl (by decide) rfl rfl ?_
  exact k2 _
theorem c_X1_open {l : Launch} {g : Gh} {q fr be sd la ru so : Nat} {X Y : MrS} {sdo : Option Nat} {i sf sb s0 : Sc} {j : Nat → Int64} (hY : PlO (mrP Y)) (hYN : plN (mrP Y) ≤ 4096) (h6 : s0 6 = 0 ∨ s0 6 = 1) : Cn l g yX1_open (Cond.code yX1_open cX1_open 2 none) 6 (4096 - plN (mrP Y)) (14 * (4096 - plN (mrP Y))) [.ref q, .ref sd] [(q, obj 1 i (rMd fr be X Y sdo) j), (fr, ob 8 sf []), (be, ob 8 sb []), (mrA Y, ob 3 (plI (mrP Y)) (rPl (plKe (mrP Y)) (plTa (mrP Y)))), (plKe (mrP Y), aI g (plN (mrP Y)) (plKf (mrP Y))), (plTa (mrP Y), aI g (4 * plN (mrP Y)) (plTb (mrP Y))), (mrC Y, aI g (plN (mrP Y)) (mrF Y)), (mrN Y, aJ g (plN (mrP Y)) (mrG Y)), (sd, ob 10 (fun _ => 0) (rD la ru so)), (so, ob 8 s0 [])] (fun _ : MrS => none) (fun Z : MrS => [(q, obj 1 i (rMd fr be Z X (some sd)) j), (fr, ob 8 s0 []), (be, ob 8 s0 []), (mrA Z, ob 3 (plI (mrP Z)) (rPl (plKe (mrP Z)) (plTa (mrP Z)))), (plKe (mrP Z), aI g (plN (mrP Z)) (plKf (mrP Z))), (plTa (mrP Z), aI g (4 * plN (mrP Z)) (plTb (mrP Z))), (mrC Z, aI g (plN (mrP Z)) (mrF Z)), (mrN Z, aJ g (plN (mrP Z)) (mrG Z)), (sd, ob 10 (fun _ => 0) (rD la ru so)), (so, ob 8 s0 [])]) (fun Z k n => MrO Z [(kyM s0, 0, 1)] ∧ GrM Y Z k n) := by
  refine ct_of (M := mtX1_open) [some (.ref q), some (.ref sd)] rfl (by decide) (Nat.le_of_ble_eq_true rfl) (fun _ h => h) (fun a => ?_)
  have hY1 := mrCl_O hY hYN
  have hm : meR [] (kyM s0) 0 1 = [(kyM s0, 0, 1)] := by rw [meR, if_neg (by simp)]; rfl
  refine q_aload_n 0 1 dX1_open_0 rfl rfl rfl ?_
  refine q_aload_n 1 2 dX1_open_1 rfl rfl rfl ?_
  refine q_putR 0 5 (w' := [_, _, _, _, _, _, _, _, _, _]) (r' := [_, _, _, _, _, _, _, _, _, _, _]) f_X1_45 ft_X1_8 dX1_open_2 rfl rfl (Nat.le_of_ble_eq_true rfl) rfl rfl rfl rfl rfl ?_
  refine q_aload_n 0 6 dX1_open_5 rfl rfl rfl ?_
  refine q_getR 0 9 f_X1_12 dX1_open_6 rfl rfl rfl rfl ?_
  refine q_aload_n 1 10 dX1_open_9 rfl rfl rfl ?_
  refine q_getR 8 13 f_X1_49 dX1_open_10 rfl rfl rfl rfl ?_
  refine q_cVv 1 [1, 9] [0, 2, 3, 4, 5, 6, 7, 8] [0, 8, 1, 2, 3, 4, 5, 6, 7, 9] 16 (wr := [_, _, _, _, _, _, _, _]) (w1 := _) (ws' := [_, _, _, _, _, _, _, _, _, _]) (c_X8_takeFrom h6) m_X1_54 dX1_open_13 rfl rfl rfl rfl rfl rfl rfl rfl (by decide) (by decide) (by decide) (by decide) (Nat.le_of_ble_eq_true rfl) (by omega) (by omega) (by omega) rfl ?_
  refine q_aload_n 0 17 dX1_open_16 rfl rfl rfl ?_
  refine q_getR 0 20 f_X1_18 dX1_open_17 rfl rfl rfl rfl ?_
  refine q_aload_n 1 21 dX1_open_20 rfl rfl rfl ?_
  refine q_getR 8 24 f_X1_49 dX1_open_21 rfl rfl rfl rfl ?_
  refine q_cVv 2 [2, 9] [0, 1, 3, 4, 5, 6, 7, 8] [0, 1, 8, 2, 3, 4, 5, 6, 7, 9] 27 (wr := [_, _, _, _, _, _, _, _]) (w1 := _) (ws' := [_, _, _, _, _, _, _, _, _, _]) (c_X8_takeFrom h6) m_X1_54 dX1_open_24 rfl rfl rfl rfl rfl rfl rfl rfl (by decide) (by decide) (by decide) (by decide) (Nat.le_of_ble_eq_true rfl) (by omega) (by omega) (by omega) rfl ?_
  refine q_aload_n 0 28 dX1_open_27 rfl rfl rfl ?_
  refine q_getR 0 31 f_X1_28 dX1_open_28 rfl rfl rfl rfl ?_
  refine q_cVv 3 [3, 4, 5] [0, 1, 2, 6, 7, 8, 9] [0, 1, 2, 7, 8, 9, 3, 4, 5, 6] 34 (wr := [_, _, _, _, _, _, _]) (w1 := _) (ws' := [_, _, _, _, _, _, _, _, _, _]) (c_X3_clear hY) m_X1_58 dX1_open_31 rfl rfl rfl rfl rfl rfl rfl rfl (by decide) (by decide) (by decide) (by decide) (Nat.le_of_ble_eq_true rfl) (by omega) (by omega) (by omega) rfl ?_
  refine q_aload_n 0 35 dX1_open_34 rfl rfl rfl ?_
  refine q_iconst 0 36 dX1_open_35 ic_0 rfl ?_
  refine q_lconst 1 37 dX1_open_36 (by decide) rfl ?_
  refine q_yVv 0 [0, 2, 3, 4, 5, 6, 7] [1, 8, 9] [3, 0, 4, 5, 6, 7, 8, 9, 1, 2] 40 (wr := [_, _, _]) (w1 := _) (ws' := fun _ => [_, _, _, _, _, _, _, _, _, _]) (c_X1_reach (Y := mrCl Y) hY1 (Nat.zero_le _)) m_X1_61 dX1_open_37 rfl rfl rfl rfl rfl rfl rfl (fun _ => rfl) (by decide) (by decide) (by decide) (by decide) (Nat.le_of_ble_eq_true rfl) (by omega) (by show _ ≤ _; have e : plN (mrP (mrCl Y)) = plN (mrP Y) := rfl; omega) (by have e : plN (mrP (mrCl Y)) = plN (mrP Y) := rfl; omega) rfl (fun Z37 k37 n37 hx37 => ?_)
  have h37 := hx37.1.2.1; have eC : plN (mrP (mrCl Y)) = plN (mrP Y) := rfl
  refine q_aload_n 0 41 dX1_open_40 rfl rfl rfl ?_
  refine q_cVv 0 [0] [1, 2, 3, 4, 5, 6, 7, 8, 9] [9, 0, 1, 2, 3, 4, 5, 6, 7, 8] 44 (wr := [_, _, _, _, _, _, _, _, _]) (w1 := _) (ws' := [_, _, _, _, _, _, _, _, _, _]) c_X1_turn m_X1_65 dX1_open_41 rfl rfl rfl rfl rfl rfl rfl rfl (by decide) (by decide) (by decide) (by decide) (Nat.le_of_ble_eq_true rfl) (by omega) (by omega) (by omega) rfl ?_
  refine q_return dX1_open_44 rfl ?_
  exact pX.mk Z37 (by rw [Nat.zero_add, Nat.zero_add]; rw [hm] at hx37; exact hx37) rfl rfl
def taM (f : Int32) (n : Int64) (co : Int32) (wy : Int64) : Int32 × Int64 := if f = -1 ∨ co < f then (co, wy) else if co = f then (f, n + wy) else (f, n)
theorem c_X1_tally {l : Launch} {g : Gh} {q : Nat} {i : Sc} {j : Nat → Int64} {r : List (Option Nat)} {co : Int32} {wy : Int64} : Ce l g yX1_tally (Cond.code yX1_tally cX1_tally 4 none) 1 [.ref q, .int co, .long wy] [(q, obj 1 i r j)] (fun _ : Sc × (Nat → Int64) => none) (fun z : Sc × (Nat → Int64) => [(q, obj 1 z.1 r z.2)]) (fun z => (z.1 9, z.2 10) = taM (i 9) (j 10) co wy) := by
  refine ct_of (M := mtX1_tally) [some (.ref q), some (.int co), some (.long wy), none] rfl (by decide) (Nat.le_of_ble_eq_true rfl) (fun _ h => h) (fun a => ?_)
  have K16 : (i 9 = -1 ∨ co < i 9) → WPs l g mtX1_tally 1 0 0 (pE (fun _ : Sc × (Nat → Int64) => none) (fun z : Sc × (Nat → Int64) => [(q, obj 1 z.1 r z.2)]) (fun z => (z.1 9, z.2 10) = taM (i 9) (j 10) co wy)) noX a 16 [some (.ref q), some (.int co), some (.long wy), none] [] [(q, obj 1 i r j)] 0 0 := by
    intro h
    have e : ((upd i 9 co) 9, (vp_updL j 10 wy) 10) = taM (i 9) (j 10) co wy := by rw [taM, if_pos h, pk_us, pk_uLs]
    refine q_aload_n 0 17 dX1_tally_16 rfl rfl rfl ?_
    refine q_iload_n 1 18 dX1_tally_17 rfl rfl rfl ?_
    refine q_putI 0 21 (w' := [_]) f_X1_145 ft_X1_9 dX1_tally_18 rfl rfl rfl rfl ?_
    refine q_aload_n 0 22 dX1_tally_21 rfl rfl rfl ?_
    refine q_lload_n 2 23 dX1_tally_22 rfl rfl rfl ?_
    refine q_putJ 0 26 (w' := [_]) f_X1_148 ft_X1_10 dX1_tally_23 rfl rfl rfl rfl ?_
    refine q_goto 47 dX1_tally_26 (by decide) ?_
    refine q_return dX1_tally_47 rfl ?_
    exact pE.mk (_, _) e rfl rfl
  by_cases h1 : i 9 = -1
  · have k2 := K16 (Or.inl h1)
    refine q_aload_n 0 1 dX1_tally_0 rfl rfl rfl ?_
    refine q_getI 0 4 f_X1_145 dX1_tally_1 rfl rfl rfl ?_
    refine q_iconst (-1) 5 dX1_tally_4 ic_m1 rfl ?_
    refine q_icmp_eq 16 8 dX1_tally_5 (by decide) rfl (fun h5 => ?_) (fun h5 => absurd h1 h5)
    exact k2
  · by_cases h2 : co < i 9
    · have k2 := K16 (Or.inr h2)
      have hge : ¬ i 9 ≤ co := fun h => absurd h2 (Int32.not_lt.mpr h)
      refine q_aload_n 0 1 dX1_tally_0 rfl rfl rfl ?_
      refine q_getI 0 4 f_X1_145 dX1_tally_1 rfl rfl rfl ?_
      refine q_iconst (-1) 5 dX1_tally_4 ic_m1 rfl ?_
      refine q_icmp_eq 16 8 dX1_tally_5 (by decide) rfl (fun h5 => absurd h5 h1) (fun h5 => ?_)
      refine q_iload_n 1 9 dX1_tally_8 rfl rfl rfl ?_
      refine q_aload_n 0 10 dX1_tally_9 rfl rfl rfl ?_
      refine q_getI 0 13 f_X1_145 dX1_tally_10 rfl rfl rfl ?_
      refine q_icmp_ge 29 16 dX1_tally_13 (by decide) rfl (fun h13 => absurd h13 hge) (fun h13 => ?_)
      exact k2
    · have hge : i 9 ≤ co := Int32.not_lt.mp h2
      by_cases h3 : co = i 9
      · have e : (i 9, (vp_updL j 10 (j 10 + wy)) 10) = taM (i 9) (j 10) co wy := by rw [taM, if_neg (by simp [h1, h2]), if_pos h3, pk_uLs]
        refine q_aload_n 0 1 dX1_tally_0 rfl rfl rfl ?_
        refine q_getI 0 4 f_X1_145 dX1_tally_1 rfl rfl rfl ?_
        refine q_iconst (-1) 5 dX1_tally_4 ic_m1 rfl ?_
        refine q_icmp_eq 16 8 dX1_tally_5 (by decide) rfl (fun h5 => absurd h5 h1) (fun h5 => ?_)
        refine q_iload_n 1 9 dX1_tally_8 rfl rfl rfl ?_
        refine q_aload_n 0 10 dX1_tally_9 rfl rfl rfl ?_
        refine q_getI 0 13 f_X1_145 dX1_tally_10 rfl rfl rfl ?_
        refine q_icmp_ge 29 16 dX1_tally_13 (by decide) rfl (fun h13 => ?_) (fun h13 => absurd hge h13)
        refine q_iload_n 1 30 dX1_tally_29 rfl rfl rfl ?_
        refine q_aload_n 0 31 dX1_tally_30 rfl rfl rfl ?_
        refine q_getI 0 34 f_X1_145 dX1_tally_31 rfl rfl rfl ?_
        refine q_icmp_ne 47 37 dX1_tally_34 (by decide) rfl (fun h34 => absurd h3 h34) (fun h34 => ?_)
        refine q_aload_n 0 38 dX1_tally_37 rfl rfl rfl ?_
        refine q_dup 39 dX1_tally_38 rfl rfl ?_
        refine q_getJ 0 42 f_X1_148 dX1_tally_39 rfl rfl rfl ?_
        refine q_lload_n 2 43 dX1_tally_42 rfl rfl rfl ?_
        refine q_ladd 44 dX1_tally_43 rfl ?_
        refine q_putJ 0 47 (w' := [_]) f_X1_148 ft_X1_10 dX1_tally_44 rfl rfl rfl rfl ?_
        refine q_return dX1_tally_47 rfl ?_
        exact pE.mk (_, _) e rfl rfl
      · have e : (i 9, j 10) = taM (i 9) (j 10) co wy := by rw [taM, if_neg (by simp [h1, h2]), if_neg h3]
        refine q_aload_n 0 1 dX1_tally_0 rfl rfl rfl ?_
        refine q_getI 0 4 f_X1_145 dX1_tally_1 rfl rfl rfl ?_
        refine q_iconst (-1) 5 dX1_tally_4 ic_m1 rfl ?_
        refine q_icmp_eq 16 8 dX1_tally_5 (by decide) rfl (fun h5 => absurd h5 h1) (fun h5 => ?_)
        refine q_iload_n 1 9 dX1_tally_8 rfl rfl rfl ?_
        refine q_aload_n 0 10 dX1_tally_9 rfl rfl rfl ?_
        refine q_getI 0 13 f_X1_145 dX1_tally_10 rfl rfl rfl ?_
        refine q_icmp_ge 29 16 dX1_tally_13 (by decide) rfl (fun h13 => ?_) (fun h13 => absurd hge h13)
        refine q_iload_n 1 30 dX1_tally_29 rfl rfl rfl ?_
        refine q_aload_n 0 31 dX1_tally_30 rfl rfl rfl ?_
        refine q_getI 0 34 f_X1_145 dX1_tally_31 rfl rfl rfl ?_
        refine q_icmp_ne 47 37 dX1_tally_34 (by decide) rfl (fun h34 => ?_) (fun h34 => absurd h34 h3)
        refine q_return dX1_tally_47 rfl ?_
        exact pE.mk (_, _) e rfl rfl
/-- behind the first k rows: who was fetched, the fewest, their number -/
def meT (pa pb pc pd : Int32) (E : ME) (s0 : Sc) : Nat → Sc × Int32 × Int64
  | 0 => (s0, -1, 0)
  | k + 1 => (feM (meT pa pb pc pd E s0 k).1 (E.getD k e0M).1, if feM (meT pa pb pc pd E s0 k).1 (E.getD k e0M).1 0 = pa ∧ feM (meT pa pb pc pd E s0 k).1 (E.getD k e0M).1 1 = pb ∧ feM (meT pa pb pc pd E s0 k).1 (E.getD k e0M).1 7 = pc ∧ feM (meT pa pb pc pd E s0 k).1 (E.getD k e0M).1 8 = pd then taM (meT pa pb pc pd E s0 k).2.1 (meT pa pb pc pd E s0 k).2.2 (E.getD k e0M).2.1 (E.getD k e0M).2.2 else (meT pa pb pc pd E s0 k).2)
theorem c_X1_close {l : Launch} {g : Gh} {q fr be : Nat} {X Y : MrS} {sd : Option Nat} {i sf : Sc} {j : Nat → Int64} {E : ME} {pa pb pc pd : Int32} (hX : MrO X E) (hE0 : E.length ≤ 4000) : Ce l g yX1_close (Cond.code yX1_close cX1_close 7 none) 4 [.ref q, .int pa, .int pb, .int pc, .int pd] [(q, obj 1 i (rMd fr be X Y sd) j), (fr, ob 8 sf []), (mrA X, ob 3 (plI (mrP X)) (rPl (plKe (mrP X)) (plTa (mrP X)))), (plKe (mrP X), aI g (plN (mrP X)) (plKf (mrP X))), (mrC X, aI g (plN (mrP X)) (mrF X)), (mrN X, aJ g (plN (mrP X)) (mrG X))] (fun _ : Sc × (Nat → Int64) × Sc => none) (fun z : Sc × (Nat → Int64) × Sc => [(q, obj 1 z.1 (rMd fr be X Y sd) z.2.1), (fr, ob 8 z.2.2 []), (mrA X, ob 3 (plI (mrP X)) (rPl (plKe (mrP X)) (plTa (mrP X)))), (plKe (mrP X), aI g (plN (mrP X)) (plKf (mrP X))), (mrC X, aI g (plN (mrP X)) (mrF X)), (mrN X, aJ g (plN (mrP X)) (mrG X))]) (fun z => z.1 9 = (meT pa pb pc pd E sf E.length).2.1 ∧ z.2.1 10 = (meT pa pb pc pd E sf E.length).2.2) := by
  refine ct_of (M := mtX1_close) [some (.ref q), some (.int pa), some (.int pb), some (.int pc), some (.int pd), none, none] rfl (by decide) (Nat.le_of_ble_eq_true rfl) (fun _ h => h) (fun a => ?_)
  have hKl : (plK (mrP X)).length = E.length := by rw [hX.2.2.1]; simp
  have hsz : plI (mrP X) 2 = nI E.length := by rw [hX.1.1, hKl]
  have hXN := hX.2.1
  have hXk : E.length ≤ plN (mrP X) := by rw [← hKl]; exact hX.1.2.1.1
  have K13 : ∀ (c k : Nat) (i : Sc) (j : Nat → Int64) (L6 : Option Value), c + k = E.length → i 9 = (meT pa pb pc pd E sf k).2.1 → j 10 = (meT pa pb pc pd E sf k).2.2 → WPs l g mtX1_close 4 0 0 (pE (fun _ : Sc × (Nat → Int64) × Sc => none) (fun z : Sc × (Nat → Int64) × Sc => [(q, obj 1 z.1 (rMd fr be X Y sd) z.2.1), (fr, ob 8 z.2.2 []), (mrA X, ob 3 (plI (mrP X)) (rPl (plKe (mrP X)) (plTa (mrP X)))), (plKe (mrP X), aI g (plN (mrP X)) (plKf (mrP X))), (mrC X, aI g (plN (mrP X)) (mrF X)), (mrN X, aJ g (plN (mrP X)) (mrG X))]) (fun z => z.1 9 = (meT pa pb pc pd E sf E.length).2.1 ∧ z.2.1 10 = (meT pa pb pc pd E sf E.length).2.2)) noX a 13 [some (.ref q), some (.int pa), some (.int pb), some (.int pc), some (.int pd), some (.int (nI k)), L6] [] [(q, obj 1 i (rMd fr be X Y sd) j), (fr, ob 8 (meT pa pb pc pd E sf k).1 []), (mrA X, ob 3 (plI (mrP X)) (rPl (plKe (mrP X)) (plTa (mrP X)))), (plKe (mrP X), aI g (plN (mrP X)) (plKf (mrP X))), (mrC X, aI g (plN (mrP X)) (mrF X)), (mrN X, aJ g (plN (mrP X)) (mrG X))] 0 0 := by
    intro c
    induction c with
    | zero =>
      intro k i j L6 hk hi hj
      obtain rfl : k = E.length := by omega
      have hge : nI E.length ≤ nI E.length := Int32.le_refl _
      generalize meT pa pb pc pd E sf E.length = te at *
      refine q_iload 5 15 dX1_close_13 rfl rfl ?_
      refine q_aload_n 0 16 dX1_close_15 rfl rfl rfl ?_
      refine q_getR 0 19 f_X1_24 dX1_close_16 rfl rfl rfl rfl ?_
      refine q_getI 2 22 f_X1_68 dX1_close_19 rfl rfl rfl ?_
      rw [hsz]
      refine q_icmp_ge 112 25 dX1_close_22 (by decide) rfl (fun h22 => ?_) (fun h22 => absurd hge h22)
      refine q_return dX1_close_112 rfl ?_
      exact pE.mk (i, j, te.1) ⟨hi, hj⟩ rfl rfl
    | succ c ih =>
      intro k i j L6 hk hi hj
      have hlt : ¬ nI E.length ≤ nI k := nI_ge (by omega) (by omega)
      have K1 := ih (k + 1)
      clear ih
      rw [meT] at K1
      generalize meT pa pb pc pd E sf E.length = te at *
      generalize meT pa pb pc pd E sf k = tk at *
      obtain ⟨s1, f1, n1⟩ := tk
      dsimp only at K1 hi hj ⊢
      obtain ⟨v1, v2⟩ := hX.2.2.2 k (by omega)
      have hcall := @c_X1_fetch l g q fr be k X Y sd i s1 j E hX (by omega)
      generalize hw : feM s1 (E.getD k e0M).1 = s2 at *
      generalize (E.getD k e0M).2.1 = co at *
      generalize (E.getD k e0M).2.2 = wy at *
      by_cases ho : s2 0 = pa ∧ s2 1 = pb ∧ s2 7 = pc ∧ s2 8 = pd
      · rw [if_pos ho] at K1
        obtain ⟨o1, o2, o3, o4⟩ := ho
        refine q_iload 5 15 dX1_close_13 rfl rfl ?_
        refine q_aload_n 0 16 dX1_close_15 rfl rfl rfl ?_
        refine q_getR 0 19 f_X1_24 dX1_close_16 rfl rfl rfl rfl ?_
        refine q_getI 2 22 f_X1_68 dX1_close_19 rfl rfl rfl ?_
        rw [hsz]
        refine q_icmp_ge 112 25 dX1_close_22 (by decide) rfl (fun h22 => absurd h22 hlt) (fun h22 => ?_)
        refine q_aload_n 0 26 dX1_close_25 rfl rfl rfl ?_
        refine q_iload 5 28 dX1_close_26 rfl rfl ?_
        refine q_cVv 0 [0, 1, 2, 3] [4, 5] [2, 3, 4, 5, 0, 1] 31 (wr := [_, _]) (w1 := _) (ws' := [_, _, _, _, _, _]) (c_X1_fetch hX (by omega)) m_X1_72 dX1_close_28 rfl rfl rfl rfl rfl rfl rfl rfl (by decide) (by decide) (by decide) (by decide) (Nat.le_of_ble_eq_true rfl) (by omega) (by omega) (by omega) rfl ?_
        rw [hw]
        refine q_aload_n 0 32 dX1_close_31 rfl rfl rfl ?_
        refine q_getR 0 35 f_X1_12 dX1_close_32 rfl rfl rfl rfl ?_
        refine q_getI 1 38 f_X1_152 dX1_close_35 rfl rfl rfl ?_
        refine q_iload_n 1 39 dX1_close_38 rfl rfl rfl ?_
        refine q_icmp_ne 80 42 dX1_close_39 (by decide) rfl (fun h39 => absurd o1 h39) (fun h39 => ?_)
        refine q_aload_n 0 43 dX1_close_42 rfl rfl rfl ?_
        refine q_getR 0 46 f_X1_12 dX1_close_43 rfl rfl rfl rfl ?_
        refine q_getI 1 49 f_X1_155 dX1_close_46 rfl rfl rfl ?_
        refine q_iload_n 2 50 dX1_close_49 rfl rfl rfl ?_
        refine q_icmp_ne 80 53 dX1_close_50 (by decide) rfl (fun h50 => absurd o2 h50) (fun h50 => ?_)
        refine q_aload_n 0 54 dX1_close_53 rfl rfl rfl ?_
        refine q_getR 0 57 f_X1_12 dX1_close_54 rfl rfl rfl rfl ?_
        refine q_getI 1 60 f_X1_120 dX1_close_57 rfl rfl rfl ?_
        refine q_iload_n 3 61 dX1_close_60 rfl rfl rfl ?_
        refine q_icmp_ne 80 64 dX1_close_61 (by decide) rfl (fun h61 => absurd o3 h61) (fun h61 => ?_)
        refine q_aload_n 0 65 dX1_close_64 rfl rfl rfl ?_
        refine q_getR 0 68 f_X1_12 dX1_close_65 rfl rfl rfl rfl ?_
        refine q_getI 1 71 f_X1_123 dX1_close_68 rfl rfl rfl ?_
        refine q_iload 4 73 dX1_close_71 rfl rfl ?_
        refine q_icmp_ne 80 76 dX1_close_73 (by decide) rfl (fun h73 => absurd o4 h73) (fun h73 => ?_)
        refine q_iconst 1 77 dX1_close_76 ic_1 rfl ?_
        refine q_goto 81 dX1_close_77 (by decide) ?_
        refine q_istore 6 83 (L' := [_, _, _, _, _, _, _]) dX1_close_81 (by decide) rfl rfl ?_
        refine q_iload 6 85 dX1_close_83 rfl rfl ?_
        refine q_if_eq 106 88 dX1_close_85 (by decide) rfl (fun h85 => absurd h85 (by decide)) (fun h85 => ?_)
        refine q_aload_n 0 89 dX1_close_88 rfl rfl rfl ?_
        refine q_aload_n 0 90 dX1_close_89 rfl rfl rfl ?_
        refine q_getR 0 93 f_X1_31 dX1_close_90 rfl rfl rfl rfl ?_
        refine q_iload 5 95 dX1_close_93 rfl rfl ?_
        refine q_iald 4 k 96 dX1_close_95 rfl ⟨rfl, by omega, by omega⟩ rfl ?_
        refine q_aload_n 0 97 dX1_close_96 rfl rfl rfl ?_
        refine q_getR 0 100 f_X1_38 dX1_close_97 rfl rfl rfl rfl ?_
        refine q_iload 5 102 dX1_close_100 rfl rfl ?_
        refine q_lald 5 k 103 dX1_close_102 rfl ⟨rfl, by omega, by omega⟩ rfl ?_
        rw [v1, v2]
        refine q_xVv 0 [0] [1, 2, 3, 4, 5] [5, 0, 1, 2, 3, 4] 106 (wr := [_, _, _, _, _]) (w1 := _) (ws' := fun _ => [_, _, _, _, _, _]) c_X1_tally m_X1_158 dX1_close_103 rfl rfl rfl rfl rfl rfl rfl (fun _ => rfl) (by decide) (by decide) (by decide) (by decide) (Nat.le_of_ble_eq_true rfl) (by omega) (by omega) (by omega) rfl (fun z103 hx103 => ?_)
        obtain ⟨i103, j103⟩ := z103
        dsimp only at hx103 ⊢
        refine q_iinc 5 (nI (k + 1)) 109 (L' := [_, _, _, _, _, _, _]) dX1_close_106 rfl (inc1 (k)) (by decide) rfl rfl ?_
        refine q_goto 13 dX1_close_109 (by decide) ?_
        rw [hi, hj] at hx103
        rw [← hx103] at K1
        exact K1 _ _ _ (by omega) rfl rfl
      · rw [if_neg ho] at K1
        have K80 : WPs l g mtX1_close 4 0 0 (pE (fun _ : Sc × (Nat → Int64) × Sc => none) (fun z : Sc × (Nat → Int64) × Sc => [(q, obj 1 z.1 (rMd fr be X Y sd) z.2.1), (fr, ob 8 z.2.2 []), (mrA X, ob 3 (plI (mrP X)) (rPl (plKe (mrP X)) (plTa (mrP X)))), (plKe (mrP X), aI g (plN (mrP X)) (plKf (mrP X))), (mrC X, aI g (plN (mrP X)) (mrF X)), (mrN X, aJ g (plN (mrP X)) (mrG X))]) (fun z => z.1 9 = te.2.1 ∧ z.2.1 10 = te.2.2)) noX a 80 [some (.ref q), some (.int pa), some (.int pb), some (.int pc), some (.int pd), some (.int (nI k)), L6] [] [(q, obj 1 i (rMd fr be X Y sd) j), (fr, ob 8 s2 []), (mrA X, ob 3 (plI (mrP X)) (rPl (plKe (mrP X)) (plTa (mrP X)))), (plKe (mrP X), aI g (plN (mrP X)) (plKf (mrP X))), (mrC X, aI g (plN (mrP X)) (mrF X)), (mrN X, aJ g (plN (mrP X)) (mrG X))] 0 0 := by
          refine q_iconst 0 81 dX1_close_80 ic_0 rfl ?_
          refine q_istore 6 83 (L' := [_, _, _, _, _, _, _]) dX1_close_81 (by decide) rfl rfl ?_
          refine q_iload 6 85 dX1_close_83 rfl rfl ?_
          refine q_if_eq 106 88 dX1_close_85 (by decide) rfl (fun h85 => ?_) (fun h85 => absurd rfl h85)
          refine q_iinc 5 (nI (k + 1)) 109 (L' := [_, _, _, _, _, _, _]) dX1_close_106 rfl (inc1 (k)) (by decide) rfl rfl ?_
          refine q_goto 13 dX1_close_109 (by decide) ?_
          exact K1 _ _ _ (by omega) hi hj
        clear K1
        by_cases o1 : s2 0 = pa
        · by_cases o2 : s2 1 = pb
          · by_cases o3 : s2 7 = pc
            · have o4 : ¬ s2 8 = pd := fun h => ho ⟨o1, o2, o3, h⟩
              refine q_iload 5 15 dX1_close_13 rfl rfl ?_
              refine q_aload_n 0 16 dX1_close_15 rfl rfl rfl ?_
              refine q_getR 0 19 f_X1_24 dX1_close_16 rfl rfl rfl rfl ?_
              refine q_getI 2 22 f_X1_68 dX1_close_19 rfl rfl rfl ?_
              rw [hsz]
              refine q_icmp_ge 112 25 dX1_close_22 (by decide) rfl (fun h22 => absurd h22 hlt) (fun h22 => ?_)
              refine q_aload_n 0 26 dX1_close_25 rfl rfl rfl ?_
              refine q_iload 5 28 dX1_close_26 rfl rfl ?_
              refine q_cVv 0 [0, 1, 2, 3] [4, 5] [2, 3, 4, 5, 0, 1] 31 (wr := [_, _]) (w1 := _) (ws' := [_, _, _, _, _, _]) (c_X1_fetch hX (by omega)) m_X1_72 dX1_close_28 rfl rfl rfl rfl rfl rfl rfl rfl (by decide) (by decide) (by decide) (by decide) (Nat.le_of_ble_eq_true rfl) (by omega) (by omega) (by omega) rfl ?_
              rw [hw]
              refine q_aload_n 0 32 dX1_close_31 rfl rfl rfl ?_
              refine q_getR 0 35 f_X1_12 dX1_close_32 rfl rfl rfl rfl ?_
              refine q_getI 1 38 f_X1_152 dX1_close_35 rfl rfl rfl ?_
              refine q_iload_n 1 39 dX1_close_38 rfl rfl rfl ?_
              refine q_icmp_ne 80 42 dX1_close_39 (by decide) rfl (fun h39 => absurd o1 h39) (fun h39 => ?_)
              refine q_aload_n 0 43 dX1_close_42 rfl rfl rfl ?_
              refine q_getR 0 46 f_X1_12 dX1_close_43 rfl rfl rfl rfl ?_
              refine q_getI 1 49 f_X1_155 dX1_close_46 rfl rfl rfl ?_
              refine q_iload_n 2 50 dX1_close_49 rfl rfl rfl ?_
              refine q_icmp_ne 80 53 dX1_close_50 (by decide) rfl (fun h50 => absurd o2 h50) (fun h50 => ?_)
              refine q_aload_n 0 54 dX1_close_53 rfl rfl rfl ?_
              refine q_getR 0 57 f_X1_12 dX1_close_54 rfl rfl rfl rfl ?_
              refine q_getI 1 60 f_X1_120 dX1_close_57 rfl rfl rfl ?_
              refine q_iload_n 3 61 dX1_close_60 rfl rfl rfl ?_
              refine q_icmp_ne 80 64 dX1_close_61 (by decide) rfl (fun h61 => absurd o3 h61) (fun h61 => ?_)
              refine q_aload_n 0 65 dX1_close_64 rfl rfl rfl ?_
              refine q_getR 0 68 f_X1_12 dX1_close_65 rfl rfl rfl rfl ?_
              refine q_getI 1 71 f_X1_123 dX1_close_68 rfl rfl rfl ?_
              refine q_iload 4 73 dX1_close_71 rfl rfl ?_
              refine q_icmp_ne 80 76 dX1_close_73 (by decide) rfl (fun h73 => ?_) (fun h73 => absurd h73 o4)
              exact K80
            · skip
              refine q_iload 5 15 dX1_close_13 rfl rfl ?_
              refine q_aload_n 0 16 dX1_close_15 rfl rfl rfl ?_
              refine q_getR 0 19 f_X1_24 dX1_close_16 rfl rfl rfl rfl ?_
              refine q_getI 2 22 f_X1_68 dX1_close_19 rfl rfl rfl ?_
              rw [hsz]
              refine q_icmp_ge 112 25 dX1_close_22 (by decide) rfl (fun h22 => absurd h22 hlt) (fun h22 => ?_)
              refine q_aload_n 0 26 dX1_close_25 rfl rfl rfl ?_
              refine q_iload 5 28 dX1_close_26 rfl rfl ?_
              refine q_cVv 0 [0, 1, 2, 3] [4, 5] [2, 3, 4, 5, 0, 1] 31 (wr := [_, _]) (w1 := _) (ws' := [_, _, _, _, _, _]) (c_X1_fetch hX (by omega)) m_X1_72 dX1_close_28 rfl rfl rfl rfl rfl rfl rfl rfl (by decide) (by decide) (by decide) (by decide) (Nat.le_of_ble_eq_true rfl) (by omega) (by omega) (by omega) rfl ?_
              rw [hw]
              refine q_aload_n 0 32 dX1_close_31 rfl rfl rfl ?_
              refine q_getR 0 35 f_X1_12 dX1_close_32 rfl rfl rfl rfl ?_
              refine q_getI 1 38 f_X1_152 dX1_close_35 rfl rfl rfl ?_
              refine q_iload_n 1 39 dX1_close_38 rfl rfl rfl ?_
              refine q_icmp_ne 80 42 dX1_close_39 (by decide) rfl (fun h39 => absurd o1 h39) (fun h39 => ?_)
              refine q_aload_n 0 43 dX1_close_42 rfl rfl rfl ?_
              refine q_getR 0 46 f_X1_12 dX1_close_43 rfl rfl rfl rfl ?_
              refine q_getI 1 49 f_X1_155 dX1_close_46 rfl rfl rfl ?_
              refine q_iload_n 2 50 dX1_close_49 rfl rfl rfl ?_
              refine q_icmp_ne 80 53 dX1_close_50 (by decide) rfl (fun h50 => absurd o2 h50) (fun h50 => ?_)
              refine q_aload_n 0 54 dX1_close_53 rfl rfl rfl ?_
              refine q_getR 0 57 f_X1_12 dX1_close_54 rfl rfl rfl rfl ?_
              refine q_getI 1 60 f_X1_120 dX1_close_57 rfl rfl rfl ?_
              refine q_iload_n 3 61 dX1_close_60 rfl rfl rfl ?_
              refine q_icmp_ne 80 64 dX1_close_61 (by decide) rfl (fun h61 => ?_) (fun h61 => absurd h61 o3)
              exact K80
          · skip
            refine q_iload 5 15 dX1_close_13 rfl rfl ?_
            refine q_aload_n 0 16 dX1_close_15 rfl rfl rfl ?_
            refine q_getR 0 19 f_X1_24 dX1_close_16 rfl rfl rfl rfl ?_
            refine q_getI 2 22 f_X1_68 dX1_close_19 rfl rfl rfl ?_
            rw [hsz]
            refine q_icmp_ge 112 25 dX1_close_22 (by decide) rfl (fun h22 => absurd h22 hlt) (fun h22 => ?_)
            refine q_aload_n 0 26 dX1_close_25 rfl rfl rfl ?_
            refine q_iload 5 28 dX1_close_26 rfl rfl ?_
            refine q_cVv 0 [0, 1, 2, 3] [4, 5] [2, 3, 4, 5, 0, 1] 31 (wr := [_, _]) (w1 := _) (ws' := [_, _, _, _, _, _]) (c_X1_fetch hX (by omega)) m_X1_72 dX1_close_28 rfl rfl rfl rfl rfl rfl rfl rfl (by decide) (by decide) (by decide) (by decide) (Nat.le_of_ble_eq_true rfl) (by omega) (by omega) (by omega) rfl ?_
            rw [hw]
            refine q_aload_n 0 32 dX1_close_31 rfl rfl rfl ?_
            refine q_getR 0 35 f_X1_12 dX1_close_32 rfl rfl rfl rfl ?_
            refine q_getI 1 38 f_X1_152 dX1_close_35 rfl rfl rfl ?_
            refine q_iload_n 1 39 dX1_close_38 rfl rfl rfl ?_
            refine q_icmp_ne 80 42 dX1_close_39 (by decide) rfl (fun h39 => absurd o1 h39) (fun h39 => ?_)
            refine q_aload_n 0 43 dX1_close_42 rfl rfl rfl ?_
            refine q_getR 0 46 f_X1_12 dX1_close_43 rfl rfl rfl rfl ?_
            refine q_getI 1 49 f_X1_155 dX1_close_46 rfl rfl rfl ?_
            refine q_iload_n 2 50 dX1_close_49 rfl rfl rfl ?_
            refine q_icmp_ne 80 53 dX1_close_50 (by decide) rfl (fun h50 => ?_) (fun h50 => absurd h50 o2)
            exact K80
        · skip
          refine q_iload 5 15 dX1_close_13 rfl rfl ?_
          refine q_aload_n 0 16 dX1_close_15 rfl rfl rfl ?_
          refine q_getR 0 19 f_X1_24 dX1_close_16 rfl rfl rfl rfl ?_
          refine q_getI 2 22 f_X1_68 dX1_close_19 rfl rfl rfl ?_
          rw [hsz]
          refine q_icmp_ge 112 25 dX1_close_22 (by decide) rfl (fun h22 => absurd h22 hlt) (fun h22 => ?_)
          refine q_aload_n 0 26 dX1_close_25 rfl rfl rfl ?_
          refine q_iload 5 28 dX1_close_26 rfl rfl ?_
          refine q_cVv 0 [0, 1, 2, 3] [4, 5] [2, 3, 4, 5, 0, 1] 31 (wr := [_, _]) (w1 := _) (ws' := [_, _, _, _, _, _]) (c_X1_fetch hX (by omega)) m_X1_72 dX1_close_28 rfl rfl rfl rfl rfl rfl rfl rfl (by decide) (by decide) (by decide) (by decide) (Nat.le_of_ble_eq_true rfl) (by omega) (by omega) (by omega) rfl ?_
          rw [hw]
          refine q_aload_n 0 32 dX1_close_31 rfl rfl rfl ?_
          refine q_getR 0 35 f_X1_12 dX1_close_32 rfl rfl rfl rfl ?_
          refine q_getI 1 38 f_X1_152 dX1_close_35 rfl rfl rfl ?_
          refine q_iload_n 1 39 dX1_close_38 rfl rfl rfl ?_
          refine q_icmp_ne 80 42 dX1_close_39 (by decide) rfl (fun h39 => ?_) (fun h39 => absurd h39 o1)
          exact K80
  have k2 := K13 E.length 0 (upd i 9 (-1)) (vp_updL j 10 0) none (by omega) (by rw [pk_us]; rfl) (by rw [pk_uLs]; rfl)
  clear K13
  rw [show (meT pa pb pc pd E sf 0).1 = sf from rfl] at k2
  generalize meT pa pb pc pd E sf E.length = te at *
  refine q_aload_n 0 1 dX1_close_0 rfl rfl rfl ?_
  refine q_iconst (-1) 2 dX1_close_1 ic_m1 rfl ?_
  refine q_putI 0 5 (w' := [_, _, _, _, _, _]) f_X1_145 ft_X1_9 dX1_close_2 rfl rfl rfl rfl ?_
  refine q_aload_n 0 6 dX1_close_5 rfl rfl rfl ?_
  refine q_lconst 0 7 dX1_close_6 (by decide) rfl ?_
  refine q_putJ 0 10 (w' := [_, _, _, _, _, _]) f_X1_148 ft_X1_10 dX1_close_7 rfl rfl rfl rfl ?_
  refine q_iconst 0 11 dX1_close_10 ic_0 rfl ?_
  refine q_istore 5 13 (L' := [_, _, _, _, _, _, _]) dX1_close_11 (by decide) rfl rfl ?_
  exact k2
def mr0 (a ke ta c n : Nat) : MrS := (a, pl0 ke ta, c, n, fun _ => 0, fun _ => 0)
theorem mr0_O (a ke ta c n : Nat) : MrO (mr0 a ke ta c n) [] := ⟨pl0_O ke ta, by show 16 ≤ 4096; decide, rfl, fun k hk => absurd hk (Nat.not_lt_zero _)⟩
theorem c_X1_init {l : Launch} {g : Gh} {q : Nat} : Cn l g yX1_init (Cond.code yX1_init cX1_init 1 none) 2 12 252 [.ref q] [(q, ob 1 (fun _ => 0) (List.replicate 11 none))] (fun _ : Nat × Nat × MrS × MrS => none) (fun z : Nat × Nat × MrS × MrS => [(q, ob 1 (fun _ => 0) (rMd z.1 z.2.1 z.2.2.1 z.2.2.2 none)), (z.1, ob 8 (fun _ => 0) []), (z.2.1, ob 8 (fun _ => 0) []), (mrA z.2.2.1, ob 3 (plI (mrP z.2.2.1)) (rPl (plKe (mrP z.2.2.1)) (plTa (mrP z.2.2.1)))), (plKe (mrP z.2.2.1), aI g (plN (mrP z.2.2.1)) (plKf (mrP z.2.2.1))), (plTa (mrP z.2.2.1), aI g (4 * plN (mrP z.2.2.1)) (plTb (mrP z.2.2.1))), (mrC z.2.2.1, aI g (plN (mrP z.2.2.1)) (mrF z.2.2.1)), (mrN z.2.2.1, aJ g (plN (mrP z.2.2.1)) (mrG z.2.2.1)), (mrA z.2.2.2, ob 3 (plI (mrP z.2.2.2)) (rPl (plKe (mrP z.2.2.2)) (plTa (mrP z.2.2.2)))), (plKe (mrP z.2.2.2), aI g (plN (mrP z.2.2.2)) (plKf (mrP z.2.2.2))), (plTa (mrP z.2.2.2), aI g (4 * plN (mrP z.2.2.2)) (plTb (mrP z.2.2.2))), (mrC z.2.2.2, aI g (plN (mrP z.2.2.2)) (mrF z.2.2.2)), (mrN z.2.2.2, aJ g (plN (mrP z.2.2.2)) (mrG z.2.2.2))]) (fun z k m => MrO z.2.2.1 [] ∧ MrO z.2.2.2 [] ∧ plN (mrP z.2.2.1) = 16 ∧ plN (mrP z.2.2.2) = 16 ∧ k = 12 ∧ m = 252) := by
  refine ct_of (M := mtX1_init) [some (.ref q)] rfl (by decide) (Nat.le_of_ble_eq_true rfl) (fun _ h => h) (fun a => ?_)
  refine q_aload_n 0 1 dX1_init_0 rfl rfl rfl ?_
  refine q_objInit 4 m_X1_3 dX1_init_1 (Nat.le_of_ble_eq_true rfl) (by decide) rfl ?_
  refine q_aload_n 0 5 dX1_init_4 rfl rfl rfl ?_
  refine q_new (N := 11) 8 n_X1_9 rfl dX1_init_5 (by omega) (by omega) rfl (fun q5 => ?_)
  refine q_dup 9 dX1_init_8 rfl rfl ?_
  refine q_axG 1 (ob 8 (fun _ => 0) []) rfl (fun _ h => h) rfl ?_
  refine q_cIv [1] [0] [0, 1] 12 (wr := [_]) (w1 := _) (ws' := [_, _]) c_X8_init m_X1_11 dX1_init_9 rfl rfl rfl rfl rfl (by decide) (by decide) (by decide) (by decide) (Nat.le_of_ble_eq_true rfl) (by omega) (by omega) (by omega) rfl ?_
  refine q_putRF 0 15 (w' := [_, _]) (r' := [_, _, _, _, _, _, _, _, _, _, _]) f_X1_12 ft_X1_0 rfl rfl dX1_init_12 rfl rfl (Nat.le_of_ble_eq_true rfl) rfl rfl rfl rfl rfl ?_
  refine q_aload_n 0 16 dX1_init_15 rfl rfl rfl ?_
  refine q_new (N := 11) 19 n_X1_9 rfl dX1_init_16 (by omega) (by omega) rfl (fun q16 => ?_)
  refine q_dup 20 dX1_init_19 rfl rfl ?_
  refine q_axG 2 (ob 8 (fun _ => 0) []) rfl (fun _ h => h) rfl ?_
  refine q_cIv [2] [0, 1] [0, 1, 2] 23 (wr := [_, _]) (w1 := _) (ws' := [_, _, _]) c_X8_init m_X1_11 dX1_init_20 rfl rfl rfl rfl rfl (by decide) (by decide) (by decide) (by decide) (Nat.le_of_ble_eq_true rfl) (by omega) (by omega) (by omega) rfl ?_
  refine q_putRF 0 26 (w' := [_, _, _]) (r' := [_, _, _, _, _, _, _, _, _, _, _]) f_X1_18 ft_X1_1 rfl rfl dX1_init_23 rfl rfl (Nat.le_of_ble_eq_true rfl) rfl rfl rfl rfl rfl ?_
  refine q_aload_n 0 27 dX1_init_26 rfl rfl rfl ?_
  refine q_new (N := 3) 30 n_X1_21 rfl dX1_init_27 (by omega) (by omega) rfl (fun q27 => ?_)
  refine q_dup 31 dX1_init_30 rfl rfl ?_
  refine q_yIv [3] [0, 1, 2] [0, 1, 2, 3, 4, 5] 34 (wr := [_, _, _]) (w1 := _) (ws' := fun _ => [_, _, _, _, _, _]) c_X3_init m_X1_23 dX1_init_31 rfl rfl rfl rfl (fun _ => rfl) (by decide) (by decide) (by decide) (by decide) (Nat.le_of_ble_eq_true rfl) (by omega) (by omega) (by omega) rfl (fun z31 k31 n31 hx31 => ?_)
  obtain ⟨ke31, ta31⟩ := z31
  dsimp only at hx31 ⊢
  refine q_putR 0 37 (w' := [_, _, _, _, _, _]) (r' := [_, _, _, _, _, _, _, _, _, _, _]) f_X1_24 ft_X1_2 dX1_init_34 rfl rfl (Nat.le_of_ble_eq_true rfl) rfl rfl rfl rfl rfl ?_
  refine q_aload_n 0 38 dX1_init_37 rfl rfl rfl ?_
  refine q_new (N := 3) 41 n_X1_21 rfl dX1_init_38 (by omega) (by omega) rfl (fun q38 => ?_)
  refine q_dup 42 dX1_init_41 rfl rfl ?_
  refine q_yIv [6] [0, 1, 2, 3, 4, 5] [0, 1, 2, 3, 4, 5, 6, 7, 8] 45 (wr := [_, _, _, _, _, _]) (w1 := _) (ws' := fun _ => [_, _, _, _, _, _, _, _, _]) c_X3_init m_X1_23 dX1_init_42 rfl rfl rfl rfl (fun _ => rfl) (by decide) (by decide) (by decide) (by decide) (Nat.le_of_ble_eq_true rfl) (by omega) (by omega) (by omega) rfl (fun z42 k42 n42 hx42 => ?_)
  obtain ⟨ke42, ta42⟩ := z42
  dsimp only at hx42 ⊢
  refine q_putR 0 48 (w' := [_, _, _, _, _, _, _, _, _]) (r' := [_, _, _, _, _, _, _, _, _, _, _]) f_X1_28 ft_X1_3 dX1_init_45 rfl rfl (Nat.le_of_ble_eq_true rfl) rfl rfl rfl rfl rfl ?_
  refine q_aload_n 0 49 dX1_init_48 rfl rfl rfl ?_
  refine q_bipush 16 51 dX1_init_49 bc_16 rfl ?_
  refine q_newI (N := 16) 53 dX1_init_51 rfl (by decide) (by omega) (by omega) rfl (fun q51 => ?_)
  refine q_putR 0 56 (w' := [_, _, _, _, _, _, _, _, _, _]) (r' := [_, _, _, _, _, _, _, _, _, _, _]) f_X1_31 ft_X1_4 dX1_init_53 rfl rfl (Nat.le_of_ble_eq_true rfl) rfl rfl rfl rfl rfl ?_
  refine q_aload_n 0 57 dX1_init_56 rfl rfl rfl ?_
  refine q_bipush 16 59 dX1_init_57 bc_16 rfl ?_
  refine q_newI (N := 16) 61 dX1_init_59 rfl (by decide) (by omega) (by omega) rfl (fun q59 => ?_)
  refine q_putR 0 64 (w' := [_, _, _, _, _, _, _, _, _, _, _]) (r' := [_, _, _, _, _, _, _, _, _, _, _]) f_X1_35 ft_X1_5 dX1_init_61 rfl rfl (Nat.le_of_ble_eq_true rfl) rfl rfl rfl rfl rfl ?_
  refine q_aload_n 0 65 dX1_init_64 rfl rfl rfl ?_
  refine q_bipush 16 67 dX1_init_65 bc_16 rfl ?_
  refine q_newJ (N := 16) 69 dX1_init_67 rfl (by decide) (by omega) (by omega) rfl (fun q67 => ?_)
  refine q_putR 0 72 (w' := [_, _, _, _, _, _, _, _, _, _, _, _]) (r' := [_, _, _, _, _, _, _, _, _, _, _]) f_X1_38 ft_X1_6 dX1_init_69 rfl rfl (Nat.le_of_ble_eq_true rfl) rfl rfl rfl rfl rfl ?_
  refine q_aload_n 0 73 dX1_init_72 rfl rfl rfl ?_
  refine q_bipush 16 75 dX1_init_73 bc_16 rfl ?_
  refine q_newJ (N := 16) 77 dX1_init_75 rfl (by decide) (by omega) (by omega) rfl (fun q75 => ?_)
  refine q_putR 0 80 (w' := [_, _, _, _, _, _, _, _, _, _, _, _, _]) (r' := [_, _, _, _, _, _, _, _, _, _, _]) f_X1_42 ft_X1_7 dX1_init_77 rfl rfl (Nat.le_of_ble_eq_true rfl) rfl rfl rfl rfl rfl ?_
  obtain ⟨a1, a2⟩ := hx31; obtain ⟨b1, b2⟩ := hx42; refine q_sub (ws' := [_, _, _, _, _, _, _, _, _, _, _, _, _]) [0, 1, 2, 3, 4, 5, 9, 11, 6, 7, 8, 10, 12] rfl rfl ?_
  refine q_return dX1_init_80 rfl ?_
  exact pX.mk (_, _, mr0 _ _ _ _ _, mr0 _ _ _ _ _) ⟨mr0_O _ _ _ _ _, mr0_O _ _ _ _ _, rfl, rfl, by omega, by omega⟩ rfl rfl

