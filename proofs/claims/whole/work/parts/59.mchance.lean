/-! ===== chance, worth, ways ===== -/
theorem reT_S (m x : Sc) (p n : Int32) : reT m (rTake m x) p n = reT m (S m) p n := by unfold reT; rw [rOver_c (take_S m x)]
theorem reT_le {m X : Sc} {p n : Int32} (h : ¬ reT m X p n = 0) : ¬ reT m X p n ≤ 0 := by
  unfold reT at *
  split
  · decide
  · rename_i h1
    rw [if_neg h1] at h
    split
    · decide
    · rename_i h2
      rw [if_neg h2] at h
      split
      · rename_i h3
        rw [if_pos h3] at h
        exact absurd rfl h
      · decide
theorem z_le : (0 : Int32) ≤ 0 := by decide
/-- the number of a new game's begin -/
def bnS (m : Sc) (s : Int32) : Sc := upd (upd (upd (fun _ => 0) 0 (-(m 197))) 1 (m 198)) 2 s
def bg0 (m : Sc) (s : Int32) : Nat := (rNum (bnS m s)).toNatClampNeg
theorem bnX_S (m x : Sc) (s : Int32) : ∀ j, j < 9 → bnX m x s j = bnS m s j := by
  intro j hj
  match j, hj with
  | 0, _ => rfl
  | 1, _ => rfl
  | 2, _ => rfl
  | 3, _ => rfl
  | 4, _ => rfl
  | 5, _ => rfl
  | 6, _ => rfl
  | 7, _ => rfl
  | 8, _ => rfl
  | (j + 9), hj => omega
theorem bnS_Val {m : Sc} {s : Int32} (h : HOK m) (hs : s = 0 ∨ s = 1) : Val (bnS m s) := ⟨h.pt, hs, Or.inl ⟨rfl, rfl⟩⟩
theorem bg0_of {m : Sc} {s : Int32} (h : HOK m) (hs : s = 0 ∨ s = 1) : bg0 m s < 15488 ∧ rNum (bnS m s) = nI (bg0 m s) ∧ ¬ rCan (nI (bg0 m s)) = 0 ∧ Alk (U m (nI (bg0 m s))) (bnS m s) := by
  obtain ⟨j, h1, h2, h3, h4⟩ := num_of (m := m) (bnS_Val h hs)
  have e : bg0 m s = j := by unfold bg0; rw [h2, nI_clamp (by omega)]
  rw [e]
  exact ⟨h1, h2, h3, h4⟩
theorem p_chance0 {l : Launch} {g : Gh} {q : Nat} {A : Nat → Nat} {i m x : Sc} {p n : Int32} (h0 : ¬ reT m (S m) p n = 0) : Cp l g yX12_chance (Cond.code yX12_chance cX12_chance 3 (some .int)) 4 [.ref q, .int p, .int n] [(q, ob 12 i (rM A)), (A 1, aI g 2616 m), (A 16, aI g 9 x)] (some (.int 0)) [(q, ob 12 (upd i 0 (reT m (S m) p n)) (rM A)), (A 1, aI g 2616 m), (A 16, aI g 9 (rTake m x))] := by
  refine ct_of (M := mtX12_chance) [some (.ref q), some (.int p), some (.int n)] rfl (by decide) (Nat.le_of_ble_eq_true rfl) (fun _ h => h) (fun a => ?_)
  have hle := reT_le h0
  generalize hr : reT m (S m) p n = r at *
  refine q_aload_n 0 1 dX12_chance_0 rfl rfl rfl ?_
  refine q_aload_n 0 2 dX12_chance_1 rfl rfl rfl ?_
  refine q_iload_n 1 3 dX12_chance_2 rfl rfl rfl ?_
  refine q_iload_n 2 4 dX12_chance_3 rfl rfl rfl ?_
  refine q_cVi 0 [0, 1, 2] [] [0, 1, 2] 7 (wr := []) (w1 := _) (ws' := [_, _, _]) p_refuses m_X12_260 dX12_chance_4 rfl rfl rfl rfl rfl rfl rfl rfl (by decide) (by decide) (by decide) (by decide) (Nat.le_of_ble_eq_true rfl) (by omega) (by omega) (by omega) rfl ?_
  rw [reT_S, hr]
  refine q_putI 0 10 (w' := [_, _, _]) f_X12_67 ft_X12_0 dX12_chance_7 rfl rfl rfl rfl ?_
  refine q_aload_n 0 11 dX12_chance_10 rfl rfl rfl ?_
  refine q_getI 0 14 f_X12_67 dX12_chance_11 rfl rfl rfl ?_
  refine q_if_le 19 17 dX12_chance_14 (by decide) rfl (fun h14 => absurd h14 hle) (fun h14 => ?_)
  refine q_iconst 0 18 dX12_chance_17 ic_0 rfl ?_
  refine q_ireturn dX12_chance_18 rfl ?_
  exact pR.rf
theorem p_chance1 {l : Launch} {g : Gh} {q : Nat} {A : Nat → Nat} {i m tp fc x st nw ls : Sc} {p : Int32} {n : Nat} (hM : MOK m) (hn : n ≤ 30) (h0 : reT m (S m) p (nI n) = 0) :
    Ce l g yX12_chance (Cond.code yX12_chance cX12_chance 3 (some .int)) 34 [.ref q, .int p, .int (nI n)] [(q, ob 12 i (rM A)), (A 1, aI g 2616 m), (A 5, aI g 400 tp), (A 12, aI g 5 fc), (A 16, aI g 9 x), (A 19, aI g 30976 st), (A 20, aI g 15488 nw), (A 21, aI g 15488 ls)]
      (fun z : Sc × Sc × Sc × Sc × Sc × Sc => some (.int (plR m (svA m) p (-1) n (at0 m)))) (fun z : Sc × Sc × Sc × Sc × Sc × Sc => [(q, ob 12 z.1 (rM A)), (A 1, aI g 2616 m), (A 5, aI g 400 tp), (A 12, aI g 5 z.2.1), (A 16, aI g 9 z.2.2.1), (A 19, aI g 30976 z.2.2.2.1), (A 20, aI g 15488 z.2.2.2.2.1), (A 21, aI g 15488 z.2.2.2.2.2)]) (fun z : Sc × Sc × Sc × Sc × Sc × Sc => smK (upd i 0 0) z.1) := by
  refine ct_of (M := mtX12_chance) [some (.ref q), some (.int p), some (.int (nI n))] rfl (by decide) (Nat.le_of_ble_eq_true rfl) (fun _ h => h) (fun a => ?_)
  obtain ⟨ha, eA, -, -⟩ := at0_of hM.1
  have hsv := svA_ok hM.2.2.1 hM.2.2.2
  generalize at0 m = j0 at *
  have hP := fun (i5 x5 : Sc) => p_plays0 (l := l) (g := g) (q := q) (A := A) (i := i5) (x := x5) (R := A 20) (B := A 21) (f := nw) (h := ls) (p := p) (th := -1) hn hsv hM.2.1
  generalize plR m (svA m) p (-1) n = R9 at *
  refine q_aload_n 0 1 dX12_chance_0 rfl rfl rfl ?_
  refine q_aload_n 0 2 dX12_chance_1 rfl rfl rfl ?_
  refine q_iload_n 1 3 dX12_chance_2 rfl rfl rfl ?_
  refine q_iload_n 2 4 dX12_chance_3 rfl rfl rfl ?_
  refine q_cVi 0 [0, 1, 4] [2, 3, 5, 6, 7] [5, 6, 0, 1, 7, 2, 3, 4] 7 (wr := [_, _, _, _, _]) (w1 := _) (ws' := [_, _, _, _, _, _, _, _]) p_refuses m_X12_260 dX12_chance_4 rfl rfl rfl rfl rfl rfl rfl rfl (by decide) (by decide) (by decide) (by decide) (Nat.le_of_ble_eq_true rfl) (by omega) (by omega) (by omega) rfl ?_
  rw [reT_S, h0]
  refine q_putI 0 10 (w' := [_, _, _, _, _, _, _, _]) f_X12_67 ft_X12_0 dX12_chance_7 rfl rfl rfl rfl ?_
  refine q_aload_n 0 11 dX12_chance_10 rfl rfl rfl ?_
  refine q_getI 0 14 f_X12_67 dX12_chance_11 rfl rfl rfl ?_
  refine q_if_le 19 17 dX12_chance_14 (by decide) rfl (fun h14 => ?_) (fun h14 => absurd z_le h14)
  refine q_aload_n 0 20 dX12_chance_19 rfl rfl rfl ?_
  refine q_ax 3 (fz fc) rfl (fz_eq fc) rfl ?_
  refine q_cVv 0 [0, 1, 2, 3, 4, 5] [6, 7] [2, 3, 4, 5, 6, 7, 0, 1] 23 (wr := [_, _]) (w1 := _) (ws' := [_, _, _, _, _, _, _, _]) (p_allStyles hM.2.2.1 hM.2.2.2) m_X12_263 dX12_chance_20 rfl rfl rfl rfl rfl rfl rfl rfl (by decide) (by decide) (by decide) (by decide) (Nat.le_of_ble_eq_true rfl) (by omega) (by omega) (by omega) rfl ?_
  have hi5 := alI_K (upd i 0 0) m (fz fc) (rTake m x) 15488
  refine q_ax 5 (svA m) rfl (fun k hk => alS_sv (fz_O fc) 15488 k (by omega)) rfl ?_
  generalize alI (upd i 0 0) m (fz fc) (rTake m x) 15488 = i5 at *
  generalize alF m (fz fc) (rTake m x) 15488 = fc5 at *
  generalize alX m (rTake m x) 15488 = x5 at *
  refine q_aload_n 0 24 dX12_chance_23 rfl rfl rfl ?_
  refine q_iload_n 1 25 dX12_chance_24 rfl rfl rfl ?_
  refine q_iconst (-1) 26 dX12_chance_25 ic_m1 rfl ?_
  refine q_iload_n 2 27 dX12_chance_26 rfl rfl rfl ?_
  refine q_aload_n 0 28 dX12_chance_27 rfl rfl rfl ?_
  refine q_getR 0 31 f_X12_35 dX12_chance_28 rfl rfl rfl rfl ?_
  refine q_aload_n 0 32 dX12_chance_31 rfl rfl rfl ?_
  refine q_getR 0 35 f_X12_38 dX12_chance_32 rfl rfl rfl rfl ?_
  refine q_xVv 0 [0, 1, 4, 5, 6, 7] [2, 3] [2, 3, 0, 1, 4, 5, 6, 7] 38 (wr := [_, _]) (w1 := _) (ws' := fun _ => [_, _, _, _, _, _, _, _]) (hP i5 x5) m_X12_266 dX12_chance_35 rfl rfl rfl rfl rfl rfl rfl (fun _ => rfl) (by decide) (by decide) (by decide) (by decide) (Nat.le_of_ble_eq_true rfl) (by omega) (by omega) (by omega) rfl (fun z35 hx35 => ?_)
  obtain ⟨i6, x6, b6⟩ := z35
  dsimp only at hx35 ⊢
  refine q_aload_n 0 39 dX12_chance_38 rfl rfl rfl ?_
  refine q_getR 0 42 f_X12_35 dX12_chance_39 rfl rfl rfl rfl ?_
  refine q_aload_n 0 43 dX12_chance_42 rfl rfl rfl ?_
  refine q_cVi 0 [0, 1, 4] [2, 3, 5, 6, 7] [5, 6, 0, 1, 7, 2, 3, 4] 46 (wr := [_, _, _, _, _]) (w1 := _) (ws' := [_, _, _, _, _, _, _, _]) p_atNow m_X12_270 dX12_chance_43 rfl rfl rfl rfl rfl rfl rfl rfl (by decide) (by decide) (by decide) (by decide) (Nat.le_of_ble_eq_true rfl) (by omega) (by omega) (by omega) rfl ?_
  rw [rNum_c (take_S m x6), eA]
  refine q_iald 6 j0 47 dX12_chance_46 rfl ⟨rfl, by omega, by decide⟩ rfl ?_
  refine q_ireturn dX12_chance_47 rfl ?_
  exact pE.mk (i6, fc5, rTake m x6, svA m, R9, b6) (hi5.tr hx35.K) rfl rfl
def woT (m : Sc) (p ln n : Int32) : Int32 := if rIn p 0 1 = 0 ∨ rIn ln 0 9 = 0 then 1 else reT m (S m) p n
theorem p_worth0 {l : Launch} {g : Gh} {q : Nat} {A : Nat → Nat} {i m x : Sc} {p ln n : Int32} (h0 : ¬ woT m p ln n = 0) : ∃ x1 : Sc, Cp l g yX12_worth (Cond.code yX12_worth cX12_worth 5 (some .int)) 4 [.ref q, .int p, .int ln, .int n] [(q, ob 12 i (rM A)), (A 1, aI g 2616 m), (A 16, aI g 9 x)] (some (.int 0)) [(q, ob 12 (upd i 0 (woT m p ln n)) (rM A)), (A 1, aI g 2616 m), (A 16, aI g 9 x1)] := by
  by_cases h1 : rIn p 0 1 = 0
  · refine ⟨x, ct_of (M := mtX12_worth) [some (.ref q), some (.int p), some (.int ln), some (.int n), none] rfl (by decide) (Nat.le_of_ble_eq_true rfl) (fun _ h => h) (fun a => ?_)⟩
    rw [show woT m p ln n = 1 from if_pos (Or.inl h1)]
    refine q_aload_n 0 1 dX12_worth_0 rfl rfl rfl ?_
    refine q_iload_n 1 2 dX12_worth_1 rfl rfl rfl ?_
    refine q_cSi [] [0, 1, 2] [0, 1, 2] 5 (wr := [_, _, _]) (w1 := _) (ws' := [_, _, _]) c_isPlayer m_X12_197 dX12_worth_2 rfl rfl rfl rfl rfl (by decide) (by decide) (by decide) (by decide) (Nat.le_of_ble_eq_true rfl) (by omega) (by omega) (by omega) rfl ?_
    refine q_if_eq 18 8 dX12_worth_5 (by decide) rfl (fun h5 => ?_) (fun h5 => absurd h1 h5)
    refine q_iconst 1 19 dX12_worth_18 ic_1 rfl ?_
    refine q_goto 28 dX12_worth_19 (by decide) ?_
    refine q_putI 0 31 (w' := [_, _, _]) f_X12_67 ft_X12_0 dX12_worth_28 rfl rfl rfl rfl ?_
    refine q_aload_n 0 32 dX12_worth_31 rfl rfl rfl ?_
    refine q_getI 0 35 f_X12_67 dX12_worth_32 rfl rfl rfl ?_
    refine q_if_le 40 38 dX12_worth_35 (by decide) rfl (fun h35 => absurd h35 (by show ¬ (1 : Int32) ≤ 0; decide)) (fun h35 => ?_)
    refine q_iconst 0 39 dX12_worth_38 ic_0 rfl ?_
    refine q_ireturn dX12_worth_39 rfl ?_
    exact pR.rf
  · by_cases h2 : rIn ln 0 9 = 0
    · refine ⟨x, ct_of (M := mtX12_worth) [some (.ref q), some (.int p), some (.int ln), some (.int n), none] rfl (by decide) (Nat.le_of_ble_eq_true rfl) (fun _ h => h) (fun a => ?_)⟩
      rw [show woT m p ln n = 1 from if_pos (Or.inr h2)]
      refine q_aload_n 0 1 dX12_worth_0 rfl rfl rfl ?_
      refine q_iload_n 1 2 dX12_worth_1 rfl rfl rfl ?_
      refine q_cSi [] [0, 1, 2] [0, 1, 2] 5 (wr := [_, _, _]) (w1 := _) (ws' := [_, _, _]) c_isPlayer m_X12_197 dX12_worth_2 rfl rfl rfl rfl rfl (by decide) (by decide) (by decide) (by decide) (Nat.le_of_ble_eq_true rfl) (by omega) (by omega) (by omega) rfl ?_
      refine q_if_eq 18 8 dX12_worth_5 (by decide) rfl (fun h5 => absurd h5 h1) (fun h5 => ?_)
      refine q_iload_n 2 9 dX12_worth_8 rfl rfl rfl ?_
      refine q_iconst 0 10 dX12_worth_9 ic_0 rfl ?_
      refine q_bipush 9 12 dX12_worth_10 bc_9 rfl ?_
      refine q_cSi [] [0, 1, 2] [0, 1, 2] 15 (wr := [_, _, _]) (w1 := _) (ws' := [_, _, _]) c_isIn m_X12_70 dX12_worth_12 rfl rfl rfl rfl rfl (by decide) (by decide) (by decide) (by decide) (Nat.le_of_ble_eq_true rfl) (by omega) (by omega) (by omega) rfl ?_
      refine q_if_ne 22 18 dX12_worth_15 (by decide) rfl (fun h15 => absurd h2 h15) (fun h15 => ?_)
      refine q_iconst 1 19 dX12_worth_18 ic_1 rfl ?_
      refine q_goto 28 dX12_worth_19 (by decide) ?_
      refine q_putI 0 31 (w' := [_, _, _]) f_X12_67 ft_X12_0 dX12_worth_28 rfl rfl rfl rfl ?_
      refine q_aload_n 0 32 dX12_worth_31 rfl rfl rfl ?_
      refine q_getI 0 35 f_X12_67 dX12_worth_32 rfl rfl rfl ?_
      refine q_if_le 40 38 dX12_worth_35 (by decide) rfl (fun h35 => absurd h35 (by show ¬ (1 : Int32) ≤ 0; decide)) (fun h35 => ?_)
      refine q_iconst 0 39 dX12_worth_38 ic_0 rfl ?_
      refine q_ireturn dX12_worth_39 rfl ?_
      exact pR.rf
    · have e : woT m p ln n = reT m (S m) p n := if_neg (fun z => z.elim h1 h2)
      have hle := reT_le (e ▸ h0)
      rw [e]
      refine ⟨rTake m x, ct_of (M := mtX12_worth) [some (.ref q), some (.int p), some (.int ln), some (.int n), none] rfl (by decide) (Nat.le_of_ble_eq_true rfl) (fun _ h => h) (fun a => ?_)⟩
      generalize hr : reT m (S m) p n = r at *
      refine q_aload_n 0 1 dX12_worth_0 rfl rfl rfl ?_
      refine q_iload_n 1 2 dX12_worth_1 rfl rfl rfl ?_
      refine q_cSi [] [0, 1, 2] [0, 1, 2] 5 (wr := [_, _, _]) (w1 := _) (ws' := [_, _, _]) c_isPlayer m_X12_197 dX12_worth_2 rfl rfl rfl rfl rfl (by decide) (by decide) (by decide) (by decide) (Nat.le_of_ble_eq_true rfl) (by omega) (by omega) (by omega) rfl ?_
      refine q_if_eq 18 8 dX12_worth_5 (by decide) rfl (fun h5 => absurd h5 h1) (fun h5 => ?_)
      refine q_iload_n 2 9 dX12_worth_8 rfl rfl rfl ?_
      refine q_iconst 0 10 dX12_worth_9 ic_0 rfl ?_
      refine q_bipush 9 12 dX12_worth_10 bc_9 rfl ?_
      refine q_cSi [] [0, 1, 2] [0, 1, 2] 15 (wr := [_, _, _]) (w1 := _) (ws' := [_, _, _]) c_isIn m_X12_70 dX12_worth_12 rfl rfl rfl rfl rfl (by decide) (by decide) (by decide) (by decide) (Nat.le_of_ble_eq_true rfl) (by omega) (by omega) (by omega) rfl ?_
      refine q_if_ne 22 18 dX12_worth_15 (by decide) rfl (fun h15 => ?_) (fun h15 => absurd h15 h2)
      refine q_aload_n 0 23 dX12_worth_22 rfl rfl rfl ?_
      refine q_iload_n 1 24 dX12_worth_23 rfl rfl rfl ?_
      refine q_iload_n 3 25 dX12_worth_24 rfl rfl rfl ?_
      refine q_cVi 0 [0, 1, 2] [] [0, 1, 2] 28 (wr := []) (w1 := _) (ws' := [_, _, _]) p_refuses m_X12_260 dX12_worth_25 rfl rfl rfl rfl rfl rfl rfl rfl (by decide) (by decide) (by decide) (by decide) (Nat.le_of_ble_eq_true rfl) (by omega) (by omega) (by omega) rfl ?_
      rw [reT_S, hr]
      refine q_putI 0 31 (w' := [_, _, _]) f_X12_67 ft_X12_0 dX12_worth_28 rfl rfl rfl rfl ?_
      refine q_aload_n 0 32 dX12_worth_31 rfl rfl rfl ?_
      refine q_getI 0 35 f_X12_67 dX12_worth_32 rfl rfl rfl ?_
      refine q_if_le 40 38 dX12_worth_35 (by decide) rfl (fun h35 => absurd h35 hle) (fun h35 => ?_)
      refine q_iconst 0 39 dX12_worth_38 ic_0 rfl ?_
      refine q_ireturn dX12_worth_39 rfl ?_
      exact pR.rf
theorem woT_0 {m : Sc} {p ln n : Int32} (h : woT m p ln n = 0) : ¬ rIn p 0 1 = 0 ∧ ¬ rIn ln 0 9 = 0 ∧ reT m (S m) p n = 0 := by
  unfold woT at h
  by_cases h1 : rIn p 0 1 = 0 ∨ rIn ln 0 9 = 0
  · rw [if_pos h1] at h; exact absurd h (by decide)
  · rw [if_neg h1] at h
    exact ⟨fun z => h1 (Or.inl z), fun z => h1 (Or.inr z), h⟩
theorem p_worth1 {l : Launch} {g : Gh} {q : Nat} {A : Nat → Nat} {i m x : Sc} {p ln n : Int32} (h0 : woT m p ln n = 0) (h6 : S m 6 = 1) : Cp l g yX12_worth (Cond.code yX12_worth cX12_worth 5 (some .int)) 4 [.ref q, .int p, .int ln, .int n] [(q, ob 12 i (rM A)), (A 1, aI g 2616 m), (A 16, aI g 9 x)] (some (.int (-2000000000))) [(q, ob 12 (upd i 0 0) (rM A)), (A 1, aI g 2616 m), (A 16, aI g 9 (S m))] := by
  refine ct_of (M := mtX12_worth) [some (.ref q), some (.int p), some (.int ln), some (.int n), none] rfl (by decide) (Nat.le_of_ble_eq_true rfl) (fun _ h => h) (fun a => ?_)
  obtain ⟨h1, h2, h3⟩ := woT_0 h0
  refine q_aload_n 0 1 dX12_worth_0 rfl rfl rfl ?_
  refine q_iload_n 1 2 dX12_worth_1 rfl rfl rfl ?_
  refine q_cSi [] [0, 1, 2] [0, 1, 2] 5 (wr := [_, _, _]) (w1 := _) (ws' := [_, _, _]) c_isPlayer m_X12_197 dX12_worth_2 rfl rfl rfl rfl rfl (by decide) (by decide) (by decide) (by decide) (Nat.le_of_ble_eq_true rfl) (by omega) (by omega) (by omega) rfl ?_
  refine q_if_eq 18 8 dX12_worth_5 (by decide) rfl (fun h5 => absurd h5 h1) (fun h5 => ?_)
  refine q_iload_n 2 9 dX12_worth_8 rfl rfl rfl ?_
  refine q_iconst 0 10 dX12_worth_9 ic_0 rfl ?_
  refine q_bipush 9 12 dX12_worth_10 bc_9 rfl ?_
  refine q_cSi [] [0, 1, 2] [0, 1, 2] 15 (wr := [_, _, _]) (w1 := _) (ws' := [_, _, _]) c_isIn m_X12_70 dX12_worth_12 rfl rfl rfl rfl rfl (by decide) (by decide) (by decide) (by decide) (Nat.le_of_ble_eq_true rfl) (by omega) (by omega) (by omega) rfl ?_
  refine q_if_ne 22 18 dX12_worth_15 (by decide) rfl (fun h15 => ?_) (fun h15 => absurd h15 h2)
  refine q_aload_n 0 23 dX12_worth_22 rfl rfl rfl ?_
  refine q_iload_n 1 24 dX12_worth_23 rfl rfl rfl ?_
  refine q_iload_n 3 25 dX12_worth_24 rfl rfl rfl ?_
  refine q_cVi 0 [0, 1, 2] [] [0, 1, 2] 28 (wr := []) (w1 := _) (ws' := [_, _, _]) p_refuses m_X12_260 dX12_worth_25 rfl rfl rfl rfl rfl rfl rfl rfl (by decide) (by decide) (by decide) (by decide) (Nat.le_of_ble_eq_true rfl) (by omega) (by omega) (by omega) rfl ?_
  rw [reT_S, h3]
  refine q_putI 0 31 (w' := [_, _, _]) f_X12_67 ft_X12_0 dX12_worth_28 rfl rfl rfl rfl ?_
  refine q_aload_n 0 32 dX12_worth_31 rfl rfl rfl ?_
  refine q_getI 0 35 f_X12_67 dX12_worth_32 rfl rfl rfl ?_
  refine q_if_le 40 38 dX12_worth_35 (by decide) rfl (fun h35 => ?_) (fun h35 => absurd z_le h35)
  refine q_aload_n 0 41 dX12_worth_40 rfl rfl rfl ?_
  refine q_cVv 0 [0, 1, 2] [] [0, 1, 2] 44 (wr := []) (w1 := _) (ws' := [_, _, _]) c_M_takes m_X12_200 dX12_worth_41 rfl rfl rfl rfl rfl rfl rfl rfl (by decide) (by decide) (by decide) (by decide) (Nat.le_of_ble_eq_true rfl) (by omega) (by omega) (by omega) rfl ?_
  refine q_ax 2 (S m) rfl (take_S m _) rfl ?_
  refine q_aload_n 0 45 dX12_worth_44 rfl rfl rfl ?_
  refine q_getR 0 48 f_X12_29 dX12_worth_45 rfl rfl rfl rfl ?_
  refine q_bipush 6 50 dX12_worth_48 bc_6 rfl ?_
  refine q_iald 2 6 51 dX12_worth_50 rfl ⟨by decide, by decide, by decide⟩ rfl ?_
  refine q_iconst 1 52 dX12_worth_51 ic_1 rfl ?_
  refine q_icmp_ne 59 55 dX12_worth_52 (by decide) rfl (fun h52 => absurd h6 h52) (fun h52 => ?_)
  refine q_ldcw (-2000000000) 58 k_X12_274 dX12_worth_55 rfl ?_
  refine q_ireturn dX12_worth_58 rfl ?_
  exact pR.rf
def lnA (m : Sc) (ln : Int32) : Nat := (rNum (rRal m (S m) (2 + ln))).toNatClampNeg
theorem ln_of {ln : Int32} (h : ¬ rIn ln 0 9 = 0) : lnOK ln := by
  unfold rIn at h
  by_cases h1 : 0 ≤ ln ∧ ln ≤ 9
  · exact h1
  · rw [if_neg h1] at h; exact absurd rfl h
theorem two_ln {ln : Int32} (h : lnOK ln) : 2 + ln - 2 = ln ∧ ¬ 2 + ln < 2 := by
  obtain ⟨k, hk, rfl⟩ := nat_to (n := 9) h.1 h.2 (by decide)
  rw [show (2 : Int32) = nI 2 from by decide, nI_add, pk_sub (by omega), show 2 + k - 2 = k by omega]
  exact ⟨rfl, nI_nlt (by omega) (by omega)⟩
theorem lnA_of {m : Sc} {ln : Int32} (hM : MOK m) (h : lnOK ln) : lnA m ln < 15488 ∧ rNum (rRal m (S m) (2 + ln)) = nI (lnA m ln) := by
  have hv : Val (rRal m (S m) (2 + ln)) := Val_rRal hM.2.1 hM.1 (fun _ _ => by rw [(two_ln h).1]; exact h)
  obtain ⟨j, h1, h2, h3, h4⟩ := num_of (m := m) hv
  have e : lnA m ln = j := by unfold lnA; rw [h2, nI_clamp (by omega)]
  rw [e]
  exact ⟨h1, h2⟩
theorem p_worth2 {l : Launch} {g : Gh} {q : Nat} {A : Nat → Nat} {i m tp fc x st nw ls : Sc} {p ln : Int32} {n : Nat} (hM : MOK m) (hn : n ≤ 30) (h0 : woT m p ln (nI n) = 0) (h6 : ¬ S m 6 = 1) :
    Ce l g yX12_worth (Cond.code yX12_worth cX12_worth 5 (some .int)) 34 [.ref q, .int p, .int ln, .int (nI n)] [(q, ob 12 i (rM A)), (A 1, aI g 2616 m), (A 5, aI g 400 tp), (A 12, aI g 5 fc), (A 16, aI g 9 x), (A 19, aI g 30976 st), (A 20, aI g 15488 nw), (A 21, aI g 15488 ls)]
      (fun z : Sc × Sc × Sc × Sc × Sc × Sc => some (.int (plR m (svA m) p (-1) n (lnA m ln) - plR m (svA m) p (-1) n (at0 m)))) (fun z : Sc × Sc × Sc × Sc × Sc × Sc => [(q, ob 12 z.1 (rM A)), (A 1, aI g 2616 m), (A 5, aI g 400 tp), (A 12, aI g 5 z.2.1), (A 16, aI g 9 z.2.2.1), (A 19, aI g 30976 z.2.2.2.1), (A 20, aI g 15488 z.2.2.2.2.1), (A 21, aI g 15488 z.2.2.2.2.2)]) (fun z : Sc × Sc × Sc × Sc × Sc × Sc => smK (upd i 0 0) z.1) := by
  refine ct_of (M := mtX12_worth) [some (.ref q), some (.int p), some (.int ln), some (.int (nI n)), none] rfl (by decide) (Nat.le_of_ble_eq_true rfl) (fun _ h => h) (fun a => ?_)
  obtain ⟨h1, h2, h3⟩ := woT_0 h0
  obtain ⟨ha, eA, -, -⟩ := at0_of hM.1
  obtain ⟨hb, eB⟩ := lnA_of hM (ln_of h2)
  have hsv := svA_ok hM.2.2.1 hM.2.2.2
  generalize at0 m = j0 at *
  generalize lnA m ln = j1 at *
  refine q_aload_n 0 1 dX12_worth_0 rfl rfl rfl ?_
  refine q_iload_n 1 2 dX12_worth_1 rfl rfl rfl ?_
  refine q_cSi [] [0, 1, 2, 3, 4, 5, 6, 7] [0, 1, 2, 3, 4, 5, 6, 7] 5 (wr := [_, _, _, _, _, _, _, _]) (w1 := _) (ws' := [_, _, _, _, _, _, _, _]) c_isPlayer m_X12_197 dX12_worth_2 rfl rfl rfl rfl rfl (by decide) (by decide) (by decide) (by decide) (Nat.le_of_ble_eq_true rfl) (by omega) (by omega) (by omega) rfl ?_
  refine q_if_eq 18 8 dX12_worth_5 (by decide) rfl (fun h5 => absurd h5 h1) (fun h5 => ?_)
  refine q_iload_n 2 9 dX12_worth_8 rfl rfl rfl ?_
  refine q_iconst 0 10 dX12_worth_9 ic_0 rfl ?_
  refine q_bipush 9 12 dX12_worth_10 bc_9 rfl ?_
  refine q_cSi [] [0, 1, 2, 3, 4, 5, 6, 7] [0, 1, 2, 3, 4, 5, 6, 7] 15 (wr := [_, _, _, _, _, _, _, _]) (w1 := _) (ws' := [_, _, _, _, _, _, _, _]) c_isIn m_X12_70 dX12_worth_12 rfl rfl rfl rfl rfl (by decide) (by decide) (by decide) (by decide) (Nat.le_of_ble_eq_true rfl) (by omega) (by omega) (by omega) rfl ?_
  refine q_if_ne 22 18 dX12_worth_15 (by decide) rfl (fun h15 => ?_) (fun h15 => absurd h15 h2)
  refine q_aload_n 0 23 dX12_worth_22 rfl rfl rfl ?_
  refine q_iload_n 1 24 dX12_worth_23 rfl rfl rfl ?_
  refine q_iload_n 3 25 dX12_worth_24 rfl rfl rfl ?_
  refine q_cVi 0 [0, 1, 4] [2, 3, 5, 6, 7] [5, 6, 0, 1, 7, 2, 3, 4] 28 (wr := [_, _, _, _, _]) (w1 := _) (ws' := [_, _, _, _, _, _, _, _]) p_refuses m_X12_260 dX12_worth_25 rfl rfl rfl rfl rfl rfl rfl rfl (by decide) (by decide) (by decide) (by decide) (Nat.le_of_ble_eq_true rfl) (by omega) (by omega) (by omega) rfl ?_
  rw [reT_S, h3]
  refine q_putI 0 31 (w' := [_, _, _, _, _, _, _, _]) f_X12_67 ft_X12_0 dX12_worth_28 rfl rfl rfl rfl ?_
  refine q_aload_n 0 32 dX12_worth_31 rfl rfl rfl ?_
  refine q_getI 0 35 f_X12_67 dX12_worth_32 rfl rfl rfl ?_
  refine q_if_le 40 38 dX12_worth_35 (by decide) rfl (fun h35 => ?_) (fun h35 => absurd z_le h35)
  refine q_aload_n 0 41 dX12_worth_40 rfl rfl rfl ?_
  refine q_cVv 0 [0, 1, 4] [2, 3, 5, 6, 7] [5, 6, 0, 1, 7, 2, 3, 4] 44 (wr := [_, _, _, _, _]) (w1 := _) (ws' := [_, _, _, _, _, _, _, _]) c_M_takes m_X12_200 dX12_worth_41 rfl rfl rfl rfl rfl rfl rfl rfl (by decide) (by decide) (by decide) (by decide) (Nat.le_of_ble_eq_true rfl) (by omega) (by omega) (by omega) rfl ?_
  refine q_ax 4 (S m) rfl (take_S m _) rfl ?_
  refine q_aload_n 0 45 dX12_worth_44 rfl rfl rfl ?_
  refine q_getR 0 48 f_X12_29 dX12_worth_45 rfl rfl rfl rfl ?_
  refine q_bipush 6 50 dX12_worth_48 bc_6 rfl ?_
  refine q_iald 4 6 51 dX12_worth_50 rfl ⟨by decide, by decide, by decide⟩ rfl ?_
  refine q_iconst 1 52 dX12_worth_51 ic_1 rfl ?_
  refine q_icmp_ne 59 55 dX12_worth_52 (by decide) rfl (fun h52 => ?_) (fun h52 => absurd h52 h6)
  refine q_aload_n 0 60 dX12_worth_59 rfl rfl rfl ?_
  refine q_ax 3 (fz fc) rfl (fz_eq fc) rfl ?_
  refine q_cVv 0 [0, 1, 2, 3, 4, 5] [6, 7] [2, 3, 4, 5, 6, 7, 0, 1] 63 (wr := [_, _]) (w1 := _) (ws' := [_, _, _, _, _, _, _, _]) (p_allStyles hM.2.2.1 hM.2.2.2) m_X12_263 dX12_worth_60 rfl rfl rfl rfl rfl rfl rfl rfl (by decide) (by decide) (by decide) (by decide) (Nat.le_of_ble_eq_true rfl) (by omega) (by omega) (by omega) rfl ?_
  have hi5 := alI_K (upd i 0 0) m (fz fc) (S m) 15488
  refine q_ax 5 (svA m) rfl (fun k hk => alS_sv (fz_O fc) 15488 k (by omega)) rfl ?_
  generalize alI (upd i 0 0) m (fz fc) (S m) 15488 = i5 at *
  generalize alF m (fz fc) (S m) 15488 = fc5 at *
  generalize alX m (S m) 15488 = x5 at *
  refine q_aload_n 0 64 dX12_worth_63 rfl rfl rfl ?_
  refine q_iload_n 1 65 dX12_worth_64 rfl rfl rfl ?_
  refine q_iconst (-1) 66 dX12_worth_65 ic_m1 rfl ?_
  refine q_iload_n 3 67 dX12_worth_66 rfl rfl rfl ?_
  refine q_aload_n 0 68 dX12_worth_67 rfl rfl rfl ?_
  refine q_getR 0 71 f_X12_35 dX12_worth_68 rfl rfl rfl rfl ?_
  refine q_aload_n 0 72 dX12_worth_71 rfl rfl rfl ?_
  refine q_getR 0 75 f_X12_38 dX12_worth_72 rfl rfl rfl rfl ?_
  refine q_xVv 0 [0, 1, 4, 5, 6, 7] [2, 3] [2, 3, 0, 1, 4, 5, 6, 7] 78 (wr := [_, _]) (w1 := _) (ws' := fun _ => [_, _, _, _, _, _, _, _]) (p_plays0 hn hsv hM.2.1) m_X12_266 dX12_worth_75 rfl rfl rfl rfl rfl rfl rfl (fun _ => rfl) (by decide) (by decide) (by decide) (by decide) (Nat.le_of_ble_eq_true rfl) (by omega) (by omega) (by omega) rfl (fun z75 hx75 => ?_)
  obtain ⟨i75, x75, b75⟩ := z75
  dsimp only at hx75 ⊢
  refine q_aload_n 0 79 dX12_worth_78 rfl rfl rfl ?_
  refine q_getR 0 82 f_X12_35 dX12_worth_79 rfl rfl rfl rfl ?_
  refine q_aload_n 0 83 dX12_worth_82 rfl rfl rfl ?_
  refine q_cVi 0 [0, 1, 4] [2, 3, 5, 6, 7] [5, 6, 0, 1, 7, 2, 3, 4] 86 (wr := [_, _, _, _, _]) (w1 := _) (ws' := [_, _, _, _, _, _, _, _]) p_atNow m_X12_270 dX12_worth_83 rfl rfl rfl rfl rfl rfl rfl rfl (by decide) (by decide) (by decide) (by decide) (Nat.le_of_ble_eq_true rfl) (by omega) (by omega) (by omega) rfl ?_
  rw [rNum_c (take_S m x75), eA]
  refine q_iald 6 j0 87 dX12_worth_86 rfl ⟨rfl, by omega, by decide⟩ rfl ?_
  refine q_istore 4 89 (L' := [_, _, _, _, _]) dX12_worth_87 (by decide) rfl rfl ?_
  refine q_aload_n 0 90 dX12_worth_89 rfl rfl rfl ?_
  refine q_cVv 0 [0, 1, 4] [2, 3, 5, 6, 7] [5, 6, 0, 1, 7, 2, 3, 4] 93 (wr := [_, _, _, _, _]) (w1 := _) (ws' := [_, _, _, _, _, _, _, _]) c_M_takes m_X12_200 dX12_worth_90 rfl rfl rfl rfl rfl rfl rfl rfl (by decide) (by decide) (by decide) (by decide) (Nat.le_of_ble_eq_true rfl) (by omega) (by omega) (by omega) rfl ?_
  refine q_ax 4 (S m) rfl (take_S m _) rfl ?_
  refine q_aload_n 0 94 dX12_worth_93 rfl rfl rfl ?_
  refine q_iconst 2 95 dX12_worth_94 ic_2 rfl ?_
  refine q_iload_n 2 96 dX12_worth_95 rfl rfl rfl ?_
  refine q_iadd 97 dX12_worth_96 rfl ?_
  refine q_cVv 0 [0, 1, 4] [2, 3, 5, 6, 7] [5, 6, 0, 1, 7, 2, 3, 4] 100 (wr := [_, _, _, _, _]) (w1 := _) (ws' := [_, _, _, _, _, _, _, _]) (c_M_rallies hM.1.2.1) m_X12_230 dX12_worth_97 rfl rfl rfl rfl rfl rfl rfl rfl (by decide) (by decide) (by decide) (by decide) (Nat.le_of_ble_eq_true rfl) (by omega) (by omega) (by omega) rfl ?_
  refine q_aload_n 0 101 dX12_worth_100 rfl rfl rfl ?_
  refine q_getR 0 104 f_X12_35 dX12_worth_101 rfl rfl rfl rfl ?_
  refine q_aload_n 0 105 dX12_worth_104 rfl rfl rfl ?_
  refine q_cVi 0 [0, 4] [1, 2, 3, 5, 6, 7] [6, 0, 1, 2, 7, 3, 4, 5] 108 (wr := [_, _, _, _, _, _]) (w1 := _) (ws' := [_, _, _, _, _, _, _, _]) c_M_number m_X12_242 dX12_worth_105 rfl rfl rfl rfl rfl rfl rfl rfl (by decide) (by decide) (by decide) (by decide) (Nat.le_of_ble_eq_true rfl) (by omega) (by omega) (by omega) rfl ?_
  rw [eB]
  refine q_iald 6 j1 109 dX12_worth_108 rfl ⟨rfl, by omega, by decide⟩ rfl ?_
  refine q_iload 4 111 dX12_worth_109 rfl rfl ?_
  refine q_isub 112 dX12_worth_111 rfl ?_
  refine q_ireturn dX12_worth_112 rfl ?_
  exact pE.mk (_, _, _, _, _, _) (hi5.tr (hx75.tr (sm2_iRal _ _ _ _)).K) rfl rfl
def wyT (s w th n : Int32) : Int32 := if rIn s 0 1 = 0 ∨ rIn w 0 1 = 0 ∨ rIn th 0 1 = 0 then 1 else if rIn n 0 30 = 0 then 2 else 0
theorem p_ways0 {l : Launch} {g : Gh} {q : Nat} {A : Nat → Nat} {i : Sc} {s w th n : Int32} (h0 : ¬ wyT s w th n = 0) : Cp l g yX12_ways (Cond.code yX12_ways cX12_ways 5 (some .int)) 3 [.ref q, .int s, .int w, .int th, .int n] [(q, ob 12 i (rM A))] (some (.int 0)) [(q, ob 12 (upd i 0 (wyT s w th n)) (rM A))] := by
  refine ct_of (M := mtX12_ways) [some (.ref q), some (.int s), some (.int w), some (.int th), some (.int n)] rfl (by decide) (Nat.le_of_ble_eq_true rfl) (fun _ h => h) (fun a => ?_)
  by_cases h1 : rIn s 0 1 = 0
  · rw [show wyT s w th n = 1 from if_pos (Or.inl h1)]
    refine q_aload_n 0 1 dX12_ways_0 rfl rfl rfl ?_
    refine q_iload_n 1 2 dX12_ways_1 rfl rfl rfl ?_
    refine q_cSi [] [0] [0] 5 (wr := [_]) (w1 := _) (ws' := [_]) c_isPlayer m_X12_197 dX12_ways_2 rfl rfl rfl rfl rfl (by decide) (by decide) (by decide) (by decide) (Nat.le_of_ble_eq_true rfl) (by omega) (by omega) (by omega) rfl ?_
    refine q_if_eq 22 8 dX12_ways_5 (by decide) rfl (fun h5 => ?_) (fun h5 => absurd h1 h5)
    refine q_iconst 1 23 dX12_ways_22 ic_1 rfl ?_
    refine q_goto 42 dX12_ways_23 (by decide) ?_
    refine q_putI 0 45 (w' := [_]) f_X12_67 ft_X12_0 dX12_ways_42 rfl rfl rfl rfl ?_
    refine q_aload_n 0 46 dX12_ways_45 rfl rfl rfl ?_
    refine q_getI 0 49 f_X12_67 dX12_ways_46 rfl rfl rfl ?_
    refine q_if_le 54 52 dX12_ways_49 (by decide) rfl (fun h49 => absurd h49 (by show ¬ (1 : Int32) ≤ 0; decide)) (fun h49 => ?_)
    refine q_iconst 0 53 dX12_ways_52 ic_0 rfl ?_
    refine q_ireturn dX12_ways_53 rfl ?_
    exact pR.rf
  · by_cases h2 : rIn w 0 1 = 0
    · rw [show wyT s w th n = 1 from if_pos (Or.inr (Or.inl h2))]
      refine q_aload_n 0 1 dX12_ways_0 rfl rfl rfl ?_
      refine q_iload_n 1 2 dX12_ways_1 rfl rfl rfl ?_
      refine q_cSi [] [0] [0] 5 (wr := [_]) (w1 := _) (ws' := [_]) c_isPlayer m_X12_197 dX12_ways_2 rfl rfl rfl rfl rfl (by decide) (by decide) (by decide) (by decide) (Nat.le_of_ble_eq_true rfl) (by omega) (by omega) (by omega) rfl ?_
      refine q_if_eq 22 8 dX12_ways_5 (by decide) rfl (fun h5 => absurd h5 h1) (fun h5 => ?_)
      refine q_iload_n 2 9 dX12_ways_8 rfl rfl rfl ?_
      refine q_cSi [] [0] [0] 12 (wr := [_]) (w1 := _) (ws' := [_]) c_isPlayer m_X12_197 dX12_ways_9 rfl rfl rfl rfl rfl (by decide) (by decide) (by decide) (by decide) (Nat.le_of_ble_eq_true rfl) (by omega) (by omega) (by omega) rfl ?_
      refine q_if_eq 22 15 dX12_ways_12 (by decide) rfl (fun h12 => ?_) (fun h12 => absurd h2 h12)
      refine q_iconst 1 23 dX12_ways_22 ic_1 rfl ?_
      refine q_goto 42 dX12_ways_23 (by decide) ?_
      refine q_putI 0 45 (w' := [_]) f_X12_67 ft_X12_0 dX12_ways_42 rfl rfl rfl rfl ?_
      refine q_aload_n 0 46 dX12_ways_45 rfl rfl rfl ?_
      refine q_getI 0 49 f_X12_67 dX12_ways_46 rfl rfl rfl ?_
      refine q_if_le 54 52 dX12_ways_49 (by decide) rfl (fun h49 => absurd h49 (by show ¬ (1 : Int32) ≤ 0; decide)) (fun h49 => ?_)
      refine q_iconst 0 53 dX12_ways_52 ic_0 rfl ?_
      refine q_ireturn dX12_ways_53 rfl ?_
      exact pR.rf
    · by_cases h3 : rIn th 0 1 = 0
      · rw [show wyT s w th n = 1 from if_pos (Or.inr (Or.inr h3))]
        refine q_aload_n 0 1 dX12_ways_0 rfl rfl rfl ?_
        refine q_iload_n 1 2 dX12_ways_1 rfl rfl rfl ?_
        refine q_cSi [] [0] [0] 5 (wr := [_]) (w1 := _) (ws' := [_]) c_isPlayer m_X12_197 dX12_ways_2 rfl rfl rfl rfl rfl (by decide) (by decide) (by decide) (by decide) (Nat.le_of_ble_eq_true rfl) (by omega) (by omega) (by omega) rfl ?_
        refine q_if_eq 22 8 dX12_ways_5 (by decide) rfl (fun h5 => absurd h5 h1) (fun h5 => ?_)
        refine q_iload_n 2 9 dX12_ways_8 rfl rfl rfl ?_
        refine q_cSi [] [0] [0] 12 (wr := [_]) (w1 := _) (ws' := [_]) c_isPlayer m_X12_197 dX12_ways_9 rfl rfl rfl rfl rfl (by decide) (by decide) (by decide) (by decide) (Nat.le_of_ble_eq_true rfl) (by omega) (by omega) (by omega) rfl ?_
        refine q_if_eq 22 15 dX12_ways_12 (by decide) rfl (fun h12 => absurd h12 h2) (fun h12 => ?_)
        refine q_iload_n 3 16 dX12_ways_15 rfl rfl rfl ?_
        refine q_cSi [] [0] [0] 19 (wr := [_]) (w1 := _) (ws' := [_]) c_isPlayer m_X12_197 dX12_ways_16 rfl rfl rfl rfl rfl (by decide) (by decide) (by decide) (by decide) (Nat.le_of_ble_eq_true rfl) (by omega) (by omega) (by omega) rfl ?_
        refine q_if_ne 26 22 dX12_ways_19 (by decide) rfl (fun h19 => absurd h3 h19) (fun h19 => ?_)
        refine q_iconst 1 23 dX12_ways_22 ic_1 rfl ?_
        refine q_goto 42 dX12_ways_23 (by decide) ?_
        refine q_putI 0 45 (w' := [_]) f_X12_67 ft_X12_0 dX12_ways_42 rfl rfl rfl rfl ?_
        refine q_aload_n 0 46 dX12_ways_45 rfl rfl rfl ?_
        refine q_getI 0 49 f_X12_67 dX12_ways_46 rfl rfl rfl ?_
        refine q_if_le 54 52 dX12_ways_49 (by decide) rfl (fun h49 => absurd h49 (by show ¬ (1 : Int32) ≤ 0; decide)) (fun h49 => ?_)
        refine q_iconst 0 53 dX12_ways_52 ic_0 rfl ?_
        refine q_ireturn dX12_ways_53 rfl ?_
        exact pR.rf
      · have e1 : wyT s w th n = if rIn n 0 30 = 0 then 2 else 0 := if_neg (fun z => z.elim h1 (fun z => z.elim h2 h3))
        by_cases h4 : rIn n 0 30 = 0
        · rw [e1, if_pos h4]
          refine q_aload_n 0 1 dX12_ways_0 rfl rfl rfl ?_
          refine q_iload_n 1 2 dX12_ways_1 rfl rfl rfl ?_
          refine q_cSi [] [0] [0] 5 (wr := [_]) (w1 := _) (ws' := [_]) c_isPlayer m_X12_197 dX12_ways_2 rfl rfl rfl rfl rfl (by decide) (by decide) (by decide) (by decide) (Nat.le_of_ble_eq_true rfl) (by omega) (by omega) (by omega) rfl ?_
          refine q_if_eq 22 8 dX12_ways_5 (by decide) rfl (fun h5 => absurd h5 h1) (fun h5 => ?_)
          refine q_iload_n 2 9 dX12_ways_8 rfl rfl rfl ?_
          refine q_cSi [] [0] [0] 12 (wr := [_]) (w1 := _) (ws' := [_]) c_isPlayer m_X12_197 dX12_ways_9 rfl rfl rfl rfl rfl (by decide) (by decide) (by decide) (by decide) (Nat.le_of_ble_eq_true rfl) (by omega) (by omega) (by omega) rfl ?_
          refine q_if_eq 22 15 dX12_ways_12 (by decide) rfl (fun h12 => absurd h12 h2) (fun h12 => ?_)
          refine q_iload_n 3 16 dX12_ways_15 rfl rfl rfl ?_
          refine q_cSi [] [0] [0] 19 (wr := [_]) (w1 := _) (ws' := [_]) c_isPlayer m_X12_197 dX12_ways_16 rfl rfl rfl rfl rfl (by decide) (by decide) (by decide) (by decide) (Nat.le_of_ble_eq_true rfl) (by omega) (by omega) (by omega) rfl ?_
          refine q_if_ne 26 22 dX12_ways_19 (by decide) rfl (fun h19 => ?_) (fun h19 => absurd h19 h3)
          refine q_iload 4 28 dX12_ways_26 rfl rfl ?_
          refine q_iconst 0 29 dX12_ways_28 ic_0 rfl ?_
          refine q_bipush 30 31 dX12_ways_29 bc_30 rfl ?_
          refine q_cSi [] [0] [0] 34 (wr := [_]) (w1 := _) (ws' := [_]) c_isIn m_X12_70 dX12_ways_31 rfl rfl rfl rfl rfl (by decide) (by decide) (by decide) (by decide) (Nat.le_of_ble_eq_true rfl) (by omega) (by omega) (by omega) rfl ?_
          refine q_if_ne 41 37 dX12_ways_34 (by decide) rfl (fun h34 => absurd h4 h34) (fun h34 => ?_)
          refine q_iconst 2 38 dX12_ways_37 ic_2 rfl ?_
          refine q_goto 42 dX12_ways_38 (by decide) ?_
          refine q_putI 0 45 (w' := [_]) f_X12_67 ft_X12_0 dX12_ways_42 rfl rfl rfl rfl ?_
          refine q_aload_n 0 46 dX12_ways_45 rfl rfl rfl ?_
          refine q_getI 0 49 f_X12_67 dX12_ways_46 rfl rfl rfl ?_
          refine q_if_le 54 52 dX12_ways_49 (by decide) rfl (fun h49 => absurd h49 (by show ¬ (2 : Int32) ≤ 0; decide)) (fun h49 => ?_)
          refine q_iconst 0 53 dX12_ways_52 ic_0 rfl ?_
          refine q_ireturn dX12_ways_53 rfl ?_
          exact pR.rf
        · exact absurd (e1.trans (if_neg h4)) h0
theorem in01 {s : Int32} (h : ¬ rIn s 0 1 = 0) : s = 0 ∨ s = 1 := by
  unfold rIn at h
  by_cases h1 : 0 ≤ s ∧ s ≤ 1
  · obtain ⟨k, hk, rfl⟩ := nat_to (n := 1) h1.1 h1.2 (by decide)
    match k, hk with
    | 0, _ => exact Or.inl rfl
    | 1, _ => exact Or.inr rfl
    | (k + 2), hk => omega
  · rw [if_neg h1] at h; exact absurd rfl h
theorem wyT_0 {s w th n : Int32} (h : wyT s w th n = 0) : ¬ rIn s 0 1 = 0 ∧ ¬ rIn w 0 1 = 0 ∧ ¬ rIn th 0 1 = 0 ∧ ¬ rIn n 0 30 = 0 := by
  unfold wyT at h
  by_cases h1 : rIn s 0 1 = 0 ∨ rIn w 0 1 = 0 ∨ rIn th 0 1 = 0
  · rw [if_pos h1] at h; exact absurd h (by decide)
  · rw [if_neg h1] at h
    by_cases h2 : rIn n 0 30 = 0
    · rw [if_pos h2] at h; exact absurd h (by decide)
    · exact ⟨fun z => h1 (Or.inl z), fun z => h1 (Or.inr (Or.inl z)), fun z => h1 (Or.inr (Or.inr z)), h2⟩
theorem p_ways1 {l : Launch} {g : Gh} {q : Nat} {A : Nat → Nat} {i m tp fc x st nw ls : Sc} {s w th : Int32} {n : Nat} (hM : MOK m) (hn : n ≤ 30) (h0 : wyT s w th (nI n) = 0) :
    Ce l g yX12_ways (Cond.code yX12_ways cX12_ways 5 (some .int)) 34 [.ref q, .int s, .int w, .int th, .int (nI n)] [(q, ob 12 i (rM A)), (A 1, aI g 2616 m), (A 5, aI g 400 tp), (A 12, aI g 5 fc), (A 16, aI g 9 x), (A 19, aI g 30976 st), (A 20, aI g 15488 nw), (A 21, aI g 15488 ls)]
      (fun z : Sc × Sc × Sc × Sc × Sc × Sc => some (.int (plR m (svA m) w th n (bg0 m s)))) (fun z : Sc × Sc × Sc × Sc × Sc × Sc => [(q, ob 12 z.1 (rM A)), (A 1, aI g 2616 m), (A 5, aI g 400 tp), (A 12, aI g 5 z.2.1), (A 16, aI g 9 z.2.2.1), (A 19, aI g 30976 z.2.2.2.1), (A 20, aI g 15488 z.2.2.2.2.1), (A 21, aI g 15488 z.2.2.2.2.2)]) (fun z : Sc × Sc × Sc × Sc × Sc × Sc => smK (upd i 0 0) z.1) := by
  refine ct_of (M := mtX12_ways) [some (.ref q), some (.int s), some (.int w), some (.int th), some (.int (nI n))] rfl (by decide) (Nat.le_of_ble_eq_true rfl) (fun _ h => h) (fun a => ?_)
  obtain ⟨h1, h2, h3, h4⟩ := wyT_0 h0
  obtain ⟨ha, eA, -, -⟩ := bg0_of hM.2.1 (in01 h1)
  have hsv := svA_ok hM.2.2.1 hM.2.2.2
  generalize bg0 m s = j0 at *
  refine q_aload_n 0 1 dX12_ways_0 rfl rfl rfl ?_
  refine q_iload_n 1 2 dX12_ways_1 rfl rfl rfl ?_
  refine q_cSi [] [0, 1, 2, 3, 4, 5, 6, 7] [0, 1, 2, 3, 4, 5, 6, 7] 5 (wr := [_, _, _, _, _, _, _, _]) (w1 := _) (ws' := [_, _, _, _, _, _, _, _]) c_isPlayer m_X12_197 dX12_ways_2 rfl rfl rfl rfl rfl (by decide) (by decide) (by decide) (by decide) (Nat.le_of_ble_eq_true rfl) (by omega) (by omega) (by omega) rfl ?_
  refine q_if_eq 22 8 dX12_ways_5 (by decide) rfl (fun h5 => absurd h5 h1) (fun h5 => ?_)
  refine q_iload_n 2 9 dX12_ways_8 rfl rfl rfl ?_
  refine q_cSi [] [0, 1, 2, 3, 4, 5, 6, 7] [0, 1, 2, 3, 4, 5, 6, 7] 12 (wr := [_, _, _, _, _, _, _, _]) (w1 := _) (ws' := [_, _, _, _, _, _, _, _]) c_isPlayer m_X12_197 dX12_ways_9 rfl rfl rfl rfl rfl (by decide) (by decide) (by decide) (by decide) (Nat.le_of_ble_eq_true rfl) (by omega) (by omega) (by omega) rfl ?_
  refine q_if_eq 22 15 dX12_ways_12 (by decide) rfl (fun h12 => absurd h12 h2) (fun h12 => ?_)
  refine q_iload_n 3 16 dX12_ways_15 rfl rfl rfl ?_
  refine q_cSi [] [0, 1, 2, 3, 4, 5, 6, 7] [0, 1, 2, 3, 4, 5, 6, 7] 19 (wr := [_, _, _, _, _, _, _, _]) (w1 := _) (ws' := [_, _, _, _, _, _, _, _]) c_isPlayer m_X12_197 dX12_ways_16 rfl rfl rfl rfl rfl (by decide) (by decide) (by decide) (by decide) (Nat.le_of_ble_eq_true rfl) (by omega) (by omega) (by omega) rfl ?_
  refine q_if_ne 26 22 dX12_ways_19 (by decide) rfl (fun h19 => ?_) (fun h19 => absurd h19 h3)
  refine q_iload 4 28 dX12_ways_26 rfl rfl ?_
  refine q_iconst 0 29 dX12_ways_28 ic_0 rfl ?_
  refine q_bipush 30 31 dX12_ways_29 bc_30 rfl ?_
  refine q_cSi [] [0, 1, 2, 3, 4, 5, 6, 7] [0, 1, 2, 3, 4, 5, 6, 7] 34 (wr := [_, _, _, _, _, _, _, _]) (w1 := _) (ws' := [_, _, _, _, _, _, _, _]) c_isIn m_X12_70 dX12_ways_31 rfl rfl rfl rfl rfl (by decide) (by decide) (by decide) (by decide) (Nat.le_of_ble_eq_true rfl) (by omega) (by omega) (by omega) rfl ?_
  refine q_if_ne 41 37 dX12_ways_34 (by decide) rfl (fun h34 => ?_) (fun h34 => absurd h34 h4)
  refine q_iconst 0 42 dX12_ways_41 ic_0 rfl ?_
  refine q_putI 0 45 (w' := [_, _, _, _, _, _, _, _]) f_X12_67 ft_X12_0 dX12_ways_42 rfl rfl rfl rfl ?_
  refine q_aload_n 0 46 dX12_ways_45 rfl rfl rfl ?_
  refine q_getI 0 49 f_X12_67 dX12_ways_46 rfl rfl rfl ?_
  refine q_if_le 54 52 dX12_ways_49 (by decide) rfl (fun h49 => ?_) (fun h49 => absurd z_le h49)
  refine q_aload_n 0 55 dX12_ways_54 rfl rfl rfl ?_
  refine q_ax 3 (fz fc) rfl (fz_eq fc) rfl ?_
  refine q_cVv 0 [0, 1, 2, 3, 4, 5] [6, 7] [2, 3, 4, 5, 6, 7, 0, 1] 58 (wr := [_, _]) (w1 := _) (ws' := [_, _, _, _, _, _, _, _]) (p_allStyles hM.2.2.1 hM.2.2.2) m_X12_263 dX12_ways_55 rfl rfl rfl rfl rfl rfl rfl rfl (by decide) (by decide) (by decide) (by decide) (Nat.le_of_ble_eq_true rfl) (by omega) (by omega) (by omega) rfl ?_
  have hi5 := alI_K (upd i 0 0) m (fz fc) x 15488
  refine q_ax 5 (svA m) rfl (fun k hk => alS_sv (fz_O fc) 15488 k (by omega)) rfl ?_
  generalize alI (upd i 0 0) m (fz fc) x 15488 = i5 at *
  generalize alF m (fz fc) x 15488 = fc5 at *
  generalize alX m x 15488 = x5 at *
  refine q_aload_n 0 59 dX12_ways_58 rfl rfl rfl ?_
  refine q_iload_n 2 60 dX12_ways_59 rfl rfl rfl ?_
  refine q_iload_n 3 61 dX12_ways_60 rfl rfl rfl ?_
  refine q_iload 4 63 dX12_ways_61 rfl rfl ?_
  refine q_aload_n 0 64 dX12_ways_63 rfl rfl rfl ?_
  refine q_getR 0 67 f_X12_35 dX12_ways_64 rfl rfl rfl rfl ?_
  refine q_aload_n 0 68 dX12_ways_67 rfl rfl rfl ?_
  refine q_getR 0 71 f_X12_38 dX12_ways_68 rfl rfl rfl rfl ?_
  refine q_xVv 0 [0, 1, 4, 5, 6, 7] [2, 3] [2, 3, 0, 1, 4, 5, 6, 7] 74 (wr := [_, _]) (w1 := _) (ws' := fun _ => [_, _, _, _, _, _, _, _]) (p_plays0 hn hsv hM.2.1) m_X12_266 dX12_ways_71 rfl rfl rfl rfl rfl rfl rfl (fun _ => rfl) (by decide) (by decide) (by decide) (by decide) (Nat.le_of_ble_eq_true rfl) (by omega) (by omega) (by omega) rfl (fun z71 hx71 => ?_)
  obtain ⟨i71, x71, b71⟩ := z71
  dsimp only at hx71 ⊢
  refine q_aload_n 0 75 dX12_ways_74 rfl rfl rfl ?_
  refine q_getR 0 78 f_X12_35 dX12_ways_75 rfl rfl rfl rfl ?_
  refine q_aload_n 0 79 dX12_ways_78 rfl rfl rfl ?_
  refine q_iload_n 1 80 dX12_ways_79 rfl rfl rfl ?_
  refine q_cVi 0 [0, 1, 4] [2, 3, 5, 6, 7] [5, 6, 0, 1, 7, 2, 3, 4] 83 (wr := [_, _, _, _, _]) (w1 := _) (ws' := [_, _, _, _, _, _, _, _]) p_beginNumber m_X12_279 dX12_ways_80 rfl rfl rfl rfl rfl rfl rfl rfl (by decide) (by decide) (by decide) (by decide) (Nat.le_of_ble_eq_true rfl) (by omega) (by omega) (by omega) rfl ?_
  rw [rNum_c (bnX_S m x71 s), eA]
  refine q_iald 6 j0 84 dX12_ways_83 rfl ⟨rfl, by omega, by decide⟩ rfl ?_
  refine q_ireturn dX12_ways_84 rfl ?_
  exact pE.mk (_, _, _, _, _, _) (hi5.tr hx71.K) rfl rfl

