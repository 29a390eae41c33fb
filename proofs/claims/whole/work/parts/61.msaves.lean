/-! ===== saves ===== -/
def saT (m : Sc) (p n wh : Int32) : Int32 := if reT m (S m) p n = 0 then (if rIn wh 0 2 = 0 then 4 else 0) else reT m (S m) p n
theorem p_saves0 {l : Launch} {g : Gh} {q : Nat} {A : Nat → Nat} {i m x : Sc} {p n wh : Int32} (h0 : ¬ saT m p n wh = 0) : Cp l g yX12_saves (Cond.code yX12_saves cX12_saves 10 (some .int)) 4 [.ref q, .int p, .int n, .int wh] [(q, ob 12 i (rM A)), (A 1, aI g 2616 m), (A 16, aI g 9 x)] (some (.int 0)) [(q, ob 12 (upd i 0 (saT m p n wh)) (rM A)), (A 1, aI g 2616 m), (A 16, aI g 9 (rTake m x))] := by
  refine ct_of (M := mtX12_saves) [some (.ref q), some (.int p), some (.int n), some (.int wh), none, none, none, none, none, none] rfl (by decide) (Nat.le_of_ble_eq_true rfl) (fun _ h => h) (fun a => ?_)
  by_cases h1 : reT m (S m) p n = 0
  · have e : saT m p n wh = if rIn wh 0 2 = 0 then 4 else 0 := if_pos h1
    by_cases h2 : rIn wh 0 2 = 0
    · rw [e, if_pos h2]
      have e2 : upd (upd i 0 0) 0 4 = upd i 0 4 := by
        funext k
        by_cases hk : k = 0
        · subst hk; rfl
        · rw [pk_un hk, pk_un hk, pk_un hk]
      rw [← e2]
      refine q_aload_n 0 1 dX12_saves_0 rfl rfl rfl ?_
      refine q_aload_n 0 2 dX12_saves_1 rfl rfl rfl ?_
      refine q_iload_n 1 3 dX12_saves_2 rfl rfl rfl ?_
      refine q_iload_n 2 4 dX12_saves_3 rfl rfl rfl ?_
      refine q_cVi 0 [0, 1, 2] [] [0, 1, 2] 7 (wr := []) (w1 := _) (ws' := [_, _, _]) p_refuses m_X12_260 dX12_saves_4 rfl rfl rfl rfl rfl rfl rfl rfl (by decide) (by decide) (by decide) (by decide) (Nat.le_of_ble_eq_true rfl) (by omega) (by omega) (by omega) rfl ?_
      rw [reT_S, h1]
      refine q_putI 0 10 (w' := [_, _, _]) f_X12_67 ft_X12_0 dX12_saves_7 rfl rfl rfl rfl ?_
      refine q_aload_n 0 11 dX12_saves_10 rfl rfl rfl ?_
      refine q_getI 0 14 f_X12_67 dX12_saves_11 rfl rfl rfl ?_
      refine q_if_ne 31 17 dX12_saves_14 (by decide) rfl (fun h14 => absurd rfl h14) (fun h14 => ?_)
      refine q_iload_n 3 18 dX12_saves_17 rfl rfl rfl ?_
      refine q_iconst 0 19 dX12_saves_18 ic_0 rfl ?_
      refine q_iconst 2 20 dX12_saves_19 ic_2 rfl ?_
      refine q_cSi [] [0, 1, 2] [0, 1, 2] 23 (wr := [_, _, _]) (w1 := _) (ws' := [_, _, _]) c_isIn m_X12_70 dX12_saves_20 rfl rfl rfl rfl rfl (by decide) (by decide) (by decide) (by decide) (Nat.le_of_ble_eq_true rfl) (by omega) (by omega) (by omega) rfl ?_
      refine q_if_ne 31 26 dX12_saves_23 (by decide) rfl (fun h23 => absurd h2 h23) (fun h23 => ?_)
      refine q_aload_n 0 27 dX12_saves_26 rfl rfl rfl ?_
      refine q_iconst 4 28 dX12_saves_27 ic_4 rfl ?_
      refine q_putI 0 31 (w' := [_, _, _]) f_X12_67 ft_X12_0 dX12_saves_28 rfl rfl rfl rfl ?_
      refine q_aload_n 0 32 dX12_saves_31 rfl rfl rfl ?_
      refine q_getI 0 35 f_X12_67 dX12_saves_32 rfl rfl rfl ?_
      refine q_if_le 40 38 dX12_saves_35 (by decide) rfl (fun h35 => absurd h35 (by show ¬ (4 : Int32) ≤ 0; decide)) (fun h35 => ?_)
      refine q_iconst 0 39 dX12_saves_38 ic_0 rfl ?_
      refine q_ireturn dX12_saves_39 rfl ?_
      exact pR.rf
    · exact absurd (e.trans (if_neg h2)) h0
  · have e : saT m p n wh = reT m (S m) p n := if_neg h1
    rw [e]
    have hle := reT_le h1
    generalize hr : reT m (S m) p n = r at *
    refine q_aload_n 0 1 dX12_saves_0 rfl rfl rfl ?_
    refine q_aload_n 0 2 dX12_saves_1 rfl rfl rfl ?_
    refine q_iload_n 1 3 dX12_saves_2 rfl rfl rfl ?_
    refine q_iload_n 2 4 dX12_saves_3 rfl rfl rfl ?_
    refine q_cVi 0 [0, 1, 2] [] [0, 1, 2] 7 (wr := []) (w1 := _) (ws' := [_, _, _]) p_refuses m_X12_260 dX12_saves_4 rfl rfl rfl rfl rfl rfl rfl rfl (by decide) (by decide) (by decide) (by decide) (Nat.le_of_ble_eq_true rfl) (by omega) (by omega) (by omega) rfl ?_
    rw [reT_S, hr]
    refine q_putI 0 10 (w' := [_, _, _]) f_X12_67 ft_X12_0 dX12_saves_7 rfl rfl rfl rfl ?_
    refine q_aload_n 0 11 dX12_saves_10 rfl rfl rfl ?_
    refine q_getI 0 14 f_X12_67 dX12_saves_11 rfl rfl rfl ?_
    refine q_if_ne 31 17 dX12_saves_14 (by decide) rfl (fun h14 => ?_) (fun h14 => absurd h14 h1)
    refine q_aload_n 0 32 dX12_saves_31 rfl rfl rfl ?_
    refine q_getI 0 35 f_X12_67 dX12_saves_32 rfl rfl rfl ?_
    refine q_if_le 40 38 dX12_saves_35 (by decide) rfl (fun h35 => absurd h35 hle) (fun h35 => ?_)
    refine q_iconst 0 39 dX12_saves_38 ic_0 rfl ?_
    refine q_ireturn dX12_saves_39 rfl ?_
    exact pR.rf
theorem saT_0 {m : Sc} {p n wh : Int32} (h : saT m p n wh = 0) : reT m (S m) p n = 0 ∧ ¬ rIn wh 0 2 = 0 := by
  unfold saT at h
  by_cases h1 : reT m (S m) p n = 0
  · rw [if_pos h1] at h
    refine ⟨h1, fun z => ?_⟩
    rw [if_pos z] at h
    exact absurd h (by decide)
  · rw [if_neg h1] at h; exact absurd h h1
theorem reT_p {m X : Sc} {p n : Int32} (h : reT m X p n = 0) : (p = 0 ∨ p = 1) ∧ ¬ rIn n 0 30 = 0 ∧ rOver m X = 0 := by
  unfold reT at h
  by_cases h1 : rIn p 0 1 = 0
  · rw [if_pos h1] at h; exact absurd h (by decide)
  · rw [if_neg h1] at h
    by_cases h2 : rIn n 0 30 = 0
    · rw [if_pos h2] at h; exact absurd h (by decide)
    · rw [if_neg h2] at h
      by_cases h3 : rOver m X = 0
      · exact ⟨in01 h1, h2, h3⟩
      · rw [if_neg h3] at h; exact absurd h (by decide)
theorem Val_rBis {m x : Sc} {p : Int32} (hH : HOK m) (hx : Val x) (hp : p = 0 ∨ p = 1) : Val (rBis m x p) := by
  obtain ⟨a1, a2, a3⟩ := Val_pt hH hx.1 hp
  obtain ⟨hp0, h2, hc⟩ := hx
  unfold rBis
  by_cases h6 : x 6 = 1
  · rw [if_pos h6]
    refine ⟨a1, by rw [a2]; exact h2, ?_⟩
    rcases a3 with ⟨b1, b2, b3, b4⟩ | ⟨b1, b2⟩
    · rw [b1, b2, b3, b4]; exact hc
    · exact Or.inl ⟨b1, b2⟩
  · rw [if_neg h6]
    rcases a3 with ⟨b1, b2, b3, b4⟩ | ⟨b1, b2⟩
    · rcases hc with hc | hc | hc
      · exact Val_ends a1 (by rw [a2]; exact h2) (by rw [b4]; exact hc.2) (Or.inl (by rw [b1]; exact hc.1))
      · rcases hc.2.2 with h | h
        · exact Val_ends a1 (by rw [a2]; exact h2) (by rw [b4]; exact h) (Or.inr (Or.inl ⟨by rw [b1]; exact hc.1, by rw [b2]; exact hc.2.1⟩))
        · exact absurd h h6
      · exact absurd hc.2.2.2 h6
    · exact Val_ends a1 (by rw [a2]; exact h2) b2 (Or.inl b1)
theorem sm2_iBis (i x : Sc) (p : Int32) : sm2 i (iBis i x p) := by
  intro z h1 h2
  unfold iBis
  rw [sm2_iPt _ _ _ z h1 h2]
  exact pk_un h1
theorem iBis_17 (i x : Sc) (p : Int32) : iBis i x p 17 = if sWins (sPt1 (sPt0 x p)) p = 0 then -1 else p := by
  unfold iBis iPt iPtE
  by_cases h : sWins (sPt1 (sPt0 x p)) p = 0
  · rw [if_pos h, if_pos h]; rfl
  · rw [if_neg h, if_neg h]; rfl
/-- the number behind a bisque, and what it is worth there -/
def bqN (m : Sc) (p : Int32) (j : Nat) : Nat := (rNum (rBis m (U m (nI j)) p)).toNatClampNeg
def bqV (m pl : Sc) (p : Int32) (j : Nat) : Int32 := if sWins (sPt1 (sPt0 (U m (nI j)) p)) p = 0 then pl (bqN m p j) else 1000000000
theorem bqN_of {m : Sc} {p : Int32} {j : Nat} (hH : HOK m) (hp : p = 0 ∨ p = 1) (hj : j < 15488) (hc : ¬ rCan (nI j) = 0) : bqN m p j < 15488 ∧ rNum (rBis m (U m (nI j)) p) = nI (bqN m p j) := by
  obtain ⟨k, h1, h2, h3, h4⟩ := num_of (m := m) (Val_rBis hH (U_Val m hj hc) hp)
  have e : bqN m p j = k := by unfold bqN; rw [h2, nI_clamp (by omega)]
  rw [e]
  exact ⟨h1, h2⟩
def saR (m st : Sc) (p : Int32) : Nat → Sc
  | 0 => fun _ => 0
  | n + 1 => fun j => if rCan (nI j) = 0 then saR m st p n j else if bqV m (plR m st p (-1) (n + 1)) p j ≤ hdB m st (saR m st p n) p (-1) j then hdB m st (saR m st p n) p (-1) j else bqV m (plR m st p (-1) (n + 1)) p j
theorem saR_s (m st : Sc) (p : Int32) (n j : Nat) : saR m st p (n + 1) j = if rCan (nI j) = 0 then saR m st p n j else if bqV m (plR m st p (-1) (n + 1)) p j ≤ hdB m st (saR m st p n) p (-1) j then hdB m st (saR m st p n) p (-1) j else bqV m (plR m st p (-1) (n + 1)) p j := rfl
def saK (m st : Sc) (p : Int32) (a0 : Nat) : Nat → Int32
  | 0 => 0
  | n + 1 => if bqV m (plR m st p (-1) (n + 1)) p a0 ≤ hdB m st (saR m st p n) p (-1) a0 then 0 else 1
def saV (m st : Sc) (p wh : Int32) (a0 n : Nat) : Int32 := if wh = 0 then saR m st p n a0 else if wh = 1 then saK m st p a0 n else saR m st p n a0 - plR m st p (-1) n a0
theorem p_saves1 {l : Launch} {g : Gh} {q : Nat} {A : Nat → Nat} {i m tp fc x st nw ls pl pll : Sc} {p wh : Int32} {n : Nat} (hM : MOK m) (hn : n ≤ 30) (h0 : saT m p (nI n) wh = 0) :
    Ce l g yX12_saves (Cond.code yX12_saves cX12_saves 10 (some .int)) 34 [.ref q, .int p, .int (nI n), .int wh] [(q, ob 12 i (rM A)), (A 1, aI g 2616 m), (A 5, aI g 400 tp), (A 12, aI g 5 fc), (A 16, aI g 9 x), (A 19, aI g 30976 st), (A 20, aI g 15488 nw), (A 21, aI g 15488 ls), (A 22, aI g 15488 pl), (A 23, aI g 15488 pll)]
      (fun z : Sc × Sc × Sc × Sc × Sc × Sc × Sc × Sc => some (.int (saV m (svA m) p wh (at0 m) n))) (fun z : Sc × Sc × Sc × Sc × Sc × Sc × Sc × Sc => [(q, ob 12 z.1 (rM A)), (A 1, aI g 2616 m), (A 5, aI g 400 tp), (A 12, aI g 5 z.2.1), (A 16, aI g 9 z.2.2.1), (A 19, aI g 30976 z.2.2.2.1), (A 20, aI g 15488 z.2.2.2.2.1), (A 21, aI g 15488 z.2.2.2.2.2.1), (A 22, aI g 15488 z.2.2.2.2.2.2.1), (A 23, aI g 15488 z.2.2.2.2.2.2.2)]) (fun z : Sc × Sc × Sc × Sc × Sc × Sc × Sc × Sc => smK (upd i 0 0) z.1) := by
  refine ct_of (M := mtX12_saves) [some (.ref q), some (.int p), some (.int (nI n)), some (.int wh), none, none, none, none, none, none] rfl (by decide) (Nat.le_of_ble_eq_true rfl) (fun _ h => h) (fun a => ?_)
  obtain ⟨ha, eA, hcA, -⟩ := at0_of hM.1
  have hsv := svA_ok hM.2.2.1 hM.2.2.2
  have hH := hM.2.1
  obtain ⟨hr0, hwh⟩ := saT_0 h0
  have hp := (reT_p hr0).1
  generalize at0 m = a0 at *
  have K86 : ∀ (i5 fc5 x5 ls5 pll5 : Sc) (z6 z7 z8 z9 : Option Value), smK (upd i 0 0) i5 → WPs l g mtX12_saves 34 0 0 (pE (fun z : Sc × Sc × Sc × Sc × Sc × Sc × Sc × Sc => some (.int (saV m (svA m) p wh a0 n))) (fun z : Sc × Sc × Sc × Sc × Sc × Sc × Sc × Sc => [(q, ob 12 z.1 (rM A)), (A 1, aI g 2616 m), (A 5, aI g 400 tp), (A 12, aI g 5 z.2.1), (A 16, aI g 9 z.2.2.1), (A 19, aI g 30976 z.2.2.2.1), (A 20, aI g 15488 z.2.2.2.2.1), (A 21, aI g 15488 z.2.2.2.2.2.1), (A 22, aI g 15488 z.2.2.2.2.2.2.1), (A 23, aI g 15488 z.2.2.2.2.2.2.2)]) (fun z : Sc × Sc × Sc × Sc × Sc × Sc × Sc × Sc => smK (upd i 0 0) z.1)) noX a 86 [some (.ref q), some (.int p), some (.int (nI n)), some (.int wh), some (.int (nI a0)), some (.int 0), z6, z7, z8, z9] [] [(q, ob 12 i5 (rM A)), (A 1, aI g 2616 m), (A 5, aI g 400 tp), (A 12, aI g 5 fc5), (A 16, aI g 9 x5), (A 19, aI g 30976 (svA m)), (A 20, aI g 15488 (fun _ => 0)), (A 21, aI g 15488 ls5), (A 22, aI g 15488 (fun _ => 0)), (A 23, aI g 15488 pll5)] 0 0 := by
    intro i5 fc5 x5 ls5 pll5 z6 z7 z8 z9 hi5
    generalize svA m = st5 at *
    unfold saV
    have K89 : ∀ (c w : Nat), c + w = n → ∀ (i1 x1 b1 b2 : Sc) (z7 z8 z9 : Option Value), smK (upd i 0 0) i1 → WPs l g mtX12_saves 34 0 0 (pE (fun z : Sc × Sc × Sc × Sc × Sc × Sc × Sc × Sc => some (.int (if wh = 0 then saR m st5 p n a0 else if wh = 1 then saK m st5 p a0 n else saR m st5 p n a0 - plR m st5 p (-1) n a0))) (fun z : Sc × Sc × Sc × Sc × Sc × Sc × Sc × Sc => [(q, ob 12 z.1 (rM A)), (A 1, aI g 2616 m), (A 5, aI g 400 tp), (A 12, aI g 5 z.2.1), (A 16, aI g 9 z.2.2.1), (A 19, aI g 30976 z.2.2.2.1), (A 20, aI g 15488 z.2.2.2.2.1), (A 21, aI g 15488 z.2.2.2.2.2.1), (A 22, aI g 15488 z.2.2.2.2.2.2.1), (A 23, aI g 15488 z.2.2.2.2.2.2.2)]) (fun z : Sc × Sc × Sc × Sc × Sc × Sc × Sc × Sc => smK (upd i 0 0) z.1)) noX a 89 [some (.ref q), some (.int p), some (.int (nI n)), some (.int wh), some (.int (nI a0)), some (.int (saK m st5 p a0 w)), some (.int (nI w)), z7, z8, z9] [] [(q, ob 12 i1 (rM A)), (A 1, aI g 2616 m), (A 5, aI g 400 tp), (A 12, aI g 5 fc5), (A 16, aI g 9 x1), (A 19, aI g 30976 st5), (A 20, aI g 15488 (saR m st5 p w)), (A 21, aI g 15488 b1), (A 22, aI g 15488 (plR m st5 p (-1) w)), (A 23, aI g 15488 b2)] 0 0 := by
      intro c
      induction c with
      | zero =>
        intro w hw i1 x1 b1 b2 z7 z8 z9 hi
        obtain rfl : w = n := by omega
        generalize saR m st5 p w = S9
        generalize saK m st5 p a0 w = K9v
        generalize plR m st5 p (-1) w = P9v
        have hge : nI w ≤ nI w := Int32.le_refl _
        by_cases hb : wh = 0
        · rw [if_pos hb]
          refine q_iload 6 91 dX12_saves_89 rfl rfl ?_
          refine q_iload_n 2 92 dX12_saves_91 rfl rfl rfl ?_
          refine q_icmp_ge 314 95 dX12_saves_92 (by decide) rfl (fun h92 => ?_) (fun h92 => absurd hge h92)
          refine q_iload_n 3 315 dX12_saves_314 rfl rfl rfl ?_
          refine q_if_ne 328 318 dX12_saves_315 (by decide) rfl (fun h315 => absurd hb h315) (fun h315 => ?_)
          refine q_aload_n 0 319 dX12_saves_318 rfl rfl rfl ?_
          refine q_getR 0 322 f_X12_35 dX12_saves_319 rfl rfl rfl rfl ?_
          refine q_iload 4 324 dX12_saves_322 rfl rfl ?_
          refine q_iald 6 a0 325 dX12_saves_324 rfl ⟨rfl, by omega, by decide⟩ rfl ?_
          refine q_goto 353 dX12_saves_325 (by decide) ?_
          refine q_ireturn dX12_saves_353 rfl ?_
          exact pE.mk (i1, fc5, x1, st5, S9, b1, P9v, b2) hi rfl rfl
        · rw [if_neg hb]
          by_cases hb1 : wh = 1
          · rw [if_pos hb1]
            refine q_iload 6 91 dX12_saves_89 rfl rfl ?_
            refine q_iload_n 2 92 dX12_saves_91 rfl rfl rfl ?_
            refine q_icmp_ge 314 95 dX12_saves_92 (by decide) rfl (fun h92 => ?_) (fun h92 => absurd hge h92)
            refine q_iload_n 3 315 dX12_saves_314 rfl rfl rfl ?_
            refine q_if_ne 328 318 dX12_saves_315 (by decide) rfl (fun h315 => ?_) (fun h315 => absurd h315 hb)
            refine q_iload_n 3 329 dX12_saves_328 rfl rfl rfl ?_
            refine q_iconst 1 330 dX12_saves_329 ic_1 rfl ?_
            refine q_icmp_ne 338 333 dX12_saves_330 (by decide) rfl (fun h330 => absurd hb1 h330) (fun h330 => ?_)
            refine q_iload 5 335 dX12_saves_333 rfl rfl ?_
            refine q_goto 353 dX12_saves_335 (by decide) ?_
            refine q_ireturn dX12_saves_353 rfl ?_
            exact pE.mk (i1, fc5, x1, st5, S9, b1, P9v, b2) hi rfl rfl
          · rw [if_neg hb1]
            refine q_iload 6 91 dX12_saves_89 rfl rfl ?_
            refine q_iload_n 2 92 dX12_saves_91 rfl rfl rfl ?_
            refine q_icmp_ge 314 95 dX12_saves_92 (by decide) rfl (fun h92 => ?_) (fun h92 => absurd hge h92)
            refine q_iload_n 3 315 dX12_saves_314 rfl rfl rfl ?_
            refine q_if_ne 328 318 dX12_saves_315 (by decide) rfl (fun h315 => ?_) (fun h315 => absurd h315 hb)
            refine q_iload_n 3 329 dX12_saves_328 rfl rfl rfl ?_
            refine q_iconst 1 330 dX12_saves_329 ic_1 rfl ?_
            refine q_icmp_ne 338 333 dX12_saves_330 (by decide) rfl (fun h330 => ?_) (fun h330 => absurd h330 hb1)
            refine q_aload_n 0 339 dX12_saves_338 rfl rfl rfl ?_
            refine q_getR 0 342 f_X12_35 dX12_saves_339 rfl rfl rfl rfl ?_
            refine q_iload 4 344 dX12_saves_342 rfl rfl ?_
            refine q_iald 6 a0 345 dX12_saves_344 rfl ⟨rfl, by omega, by decide⟩ rfl ?_
            refine q_aload_n 0 346 dX12_saves_345 rfl rfl rfl ?_
            refine q_getR 0 349 f_X12_41 dX12_saves_346 rfl rfl rfl rfl ?_
            refine q_iload 4 351 dX12_saves_349 rfl rfl ?_
            refine q_iald 8 a0 352 dX12_saves_351 rfl ⟨rfl, by omega, by decide⟩ rfl ?_
            refine q_isub 353 dX12_saves_352 rfl ?_
            refine q_ireturn dX12_saves_353 rfl ?_
            exact pE.mk (i1, fc5, x1, st5, S9, b1, P9v, b2) hi rfl rfl
      | succ c ih =>
        intro w hw i1 x1 b1 b2 z7 z8 z9 hi
        have hge : ¬ nI n ≤ nI w := nI_ge (by omega) (by omega)
        have K9 := ih (w + 1) (by omega)
        clear ih
        have hR0 : ∀ v, rCan (nI v) = 0 → saR m st5 p (w + 1) v = saR m st5 p w v := fun v hv => by rw [saR_s, if_pos hv]
        have hR1 : ∀ v, ¬ rCan (nI v) = 0 → saR m st5 p (w + 1) v = if bqV m (plR m st5 p (-1) (w + 1)) p v ≤ hdB m st5 (saR m st5 p w) p (-1) v then hdB m st5 (saR m st5 p w) p (-1) v else bqV m (plR m st5 p (-1) (w + 1)) p v := fun v hv => by rw [saR_s, if_neg hv]
        have hF1 : saK m st5 p a0 (w + 1) = if bqV m (plR m st5 p (-1) (w + 1)) p a0 ≤ hdB m st5 (saR m st5 p w) p (-1) a0 then 0 else 1 := rfl
        have hP0 : ∀ v, rCan (nI v) = 0 → plR m st5 p (-1) (w + 1) v = 0 := fun v hv => by rw [plR_s, if_pos hv]
        have hP1 : ∀ v, ¬ rCan (nI v) = 0 → plR m st5 p (-1) (w + 1) v = hdB m st5 (plR m st5 p (-1) w) p (-1) v := fun v hv => by rw [plR_s, if_neg hv]
        generalize saR m st5 p n = S9 at *
        generalize saK m st5 p a0 n = K9v at *
        generalize plR m st5 p (-1) n = P9v at *
        generalize saR m st5 p (w + 1) = R1 at *
        generalize saR m st5 p w = R0 at *
        generalize plR m st5 p (-1) (w + 1) = Q1 at *
        generalize plR m st5 p (-1) w = Q0 at *
        generalize saK m st5 p a0 (w + 1) = F1 at *
        generalize saK m st5 p a0 w = F0 at *
        have K191 : ∀ (c v : Nat), c + v = 15488 → ∀ (i2 x2 : Sc) (z8 z9 : Option Value), smK (upd i 0 0) i2 → WPs l g mtX12_saves 34 0 0 (pE (fun z : Sc × Sc × Sc × Sc × Sc × Sc × Sc × Sc => some (.int (if wh = 0 then S9 a0 else if wh = 1 then K9v else S9 a0 - P9v a0))) (fun z : Sc × Sc × Sc × Sc × Sc × Sc × Sc × Sc => [(q, ob 12 z.1 (rM A)), (A 1, aI g 2616 m), (A 5, aI g 400 tp), (A 12, aI g 5 z.2.1), (A 16, aI g 9 z.2.2.1), (A 19, aI g 30976 z.2.2.2.1), (A 20, aI g 15488 z.2.2.2.2.1), (A 21, aI g 15488 z.2.2.2.2.2.1), (A 22, aI g 15488 z.2.2.2.2.2.2.1), (A 23, aI g 15488 z.2.2.2.2.2.2.2)]) (fun z : Sc × Sc × Sc × Sc × Sc × Sc × Sc × Sc => smK (upd i 0 0) z.1)) noX a 191 [some (.ref q), some (.int p), some (.int (nI n)), some (.int wh), some (.int (nI a0)), some (.int (if a0 < v then F1 else F0)), some (.int (nI w)), some (.int (nI v)), z8, z9] [] [(q, ob 12 i2 (rM A)), (A 1, aI g 2616 m), (A 5, aI g 400 tp), (A 12, aI g 5 fc5), (A 16, aI g 9 x2), (A 19, aI g 30976 st5), (A 20, aI g 15488 (cp R0 R1 v)), (A 21, aI g 15488 R0), (A 22, aI g 15488 Q1), (A 23, aI g 15488 Q0)] 0 0 := by
          intro c
          induction c with
          | zero =>
            intro v hv i2 x2 z8 z9 hi2
            obtain rfl : v = 15488 := by omega
            refine q_ax 6 R1 rfl (cp_full R0 R1 15488) rfl ?_
            have hge2 : (15488 : Int32) ≤ nI 15488 := by decide
            rw [if_pos ha]
            refine q_iload 7 193 dX12_saves_191 rfl rfl ?_
            refine q_sipush 15488 196 dX12_saves_193 sc_15488 rfl ?_
            refine q_icmp_ge 308 199 dX12_saves_196 (by decide) rfl (fun h196 => ?_) (fun h196 => absurd hge2 h196)
            refine q_iinc 6 (nI (w + 1)) 311 (L' := [_, _, _, _, _, _, _, _, _, _]) dX12_saves_308 rfl (inc1 (w)) (by decide) rfl rfl ?_
            refine q_goto 89 dX12_saves_311 (by decide) ?_
            exact K9 _ _ _ _ _ _ _ hi2
          | succ c ih =>
            intro v hv i2 x2 z8 z9 hi2
            have hlt : ¬ (15488 : Int32) ≤ nI v := by rw [n15488]; exact nI_ge (by omega) (by omega)
            have hv9 : v < 15488 := by omega
            have K1 := fun i3 x3 z8 z9 h3 => ih (v + 1) (by omega) i3 x3 z8 z9 h3
            rw [← cp_s R0 R1 v] at K1
            clear ih
            rcases rCan_or (nI v) with hz | hz
            · rw [hR0 v hz] at K1
              have hne : v ≠ a0 := fun h => hcA (h ▸ hz)
              have e1 : (if a0 < v + 1 then F1 else F0) = (if a0 < v then F1 else F0) := by
                by_cases h1 : a0 < v
                · rw [if_pos h1, if_pos (by omega)]
                · rw [if_neg h1, if_neg (by omega)]
              have e2 : upd (cp R0 R1 v) v (R0 v) = cp R0 R1 v := by
                funext k
                by_cases hk : k = v
                · subst hk
                  rw [pk_us]
                  exact (if_neg (Nat.lt_irrefl _)).symm
                · rw [pk_un hk]
              rw [e1, e2] at K1
              refine q_iload 7 193 dX12_saves_191 rfl rfl ?_
              refine q_sipush 15488 196 dX12_saves_193 sc_15488 rfl ?_
              refine q_icmp_ge 308 199 dX12_saves_196 (by decide) rfl (fun h196 => absurd h196 hlt) (fun h196 => ?_)
              refine q_iload 7 201 dX12_saves_199 rfl rfl ?_
              refine q_cSi [] [0, 1, 2, 3, 4, 5, 6, 7, 8, 9] [0, 1, 2, 3, 4, 5, 6, 7, 8, 9] 204 (wr := [_, _, _, _, _, _, _, _, _, _]) (w1 := _) (ws' := [_, _, _, _, _, _, _, _, _, _]) p_canBe m_X12_253 dX12_saves_201 rfl rfl rfl rfl rfl (by decide) (by decide) (by decide) (by decide) (Nat.le_of_ble_eq_true rfl) (by omega) (by omega) (by omega) rfl ?_
              refine q_if_ne 210 207 dX12_saves_204 (by decide) rfl (fun h204 => absurd hz h204) (fun h204 => ?_)
              refine q_goto 302 dX12_saves_207 (by decide) ?_
              refine q_iinc 7 (nI (v + 1)) 305 (L' := [_, _, _, _, _, _, _, _, _, _]) dX12_saves_302 rfl (inc1 (v)) (by decide) rfl rfl ?_
              refine q_goto 191 dX12_saves_305 (by decide) ?_
              exact K1 _ _ _ _ hi2
            · have hz0 : ¬ rCan (nI v) = 0 := by rw [hz]; decide
              rw [hR1 v hz0] at K1
              have hV := U_Val m hv9 hz0
              obtain ⟨hq9, eq9⟩ := bqN_of (m := m) hH hp hv9 hz0
              have hcs : (nI v = nI a0) ↔ v = a0 := eq_nI hv9 ha
              have hB0 : sWins (sPt1 (sPt0 (U m (nI v)) p)) p = 0 → bqV m Q1 p v = Q1 (bqN m p v) := fun h => if_pos h
              have hB1 : ¬ sWins (sPt1 (sPt0 (U m (nI v)) p)) p = 0 → bqV m Q1 p v = 1000000000 := fun h => if_neg h
              have hpn : ¬ (-1 : Int32) = p := by rcases hp with h | h <;> rw [h] <;> decide
              have hF2 : (if a0 < v + 1 then F1 else F0) = if v = a0 then (if bqV m Q1 p v ≤ hdB m st5 R0 p (-1) v then 0 else 1) else (if a0 < v then F1 else F0) := by
                by_cases h1 : v = a0
                · rw [if_pos h1, if_pos (by omega), hF1, h1]
                · rw [if_neg h1]
                  by_cases h2 : a0 < v
                  · rw [if_pos h2, if_pos (by omega)]
                  · rw [if_neg h2, if_neg (by omega)]
              rw [hF2] at K1
              clear hF2 hF1
              generalize (if a0 < v then F1 else F0) = fd at *
              generalize hu : U m (nI v) = u at *
              generalize bqN m p v = jq at *
              generalize hon : hdB m st5 R0 p (-1) v = on at *
              have K258 : ∀ (i4 x4 : Sc) (z9 : Option Value), smK (upd i 0 0) i4 → WPs l g mtX12_saves 34 0 0 (pE (fun z : Sc × Sc × Sc × Sc × Sc × Sc × Sc × Sc => some (.int (if wh = 0 then S9 a0 else if wh = 1 then K9v else S9 a0 - P9v a0))) (fun z : Sc × Sc × Sc × Sc × Sc × Sc × Sc × Sc => [(q, ob 12 z.1 (rM A)), (A 1, aI g 2616 m), (A 5, aI g 400 tp), (A 12, aI g 5 z.2.1), (A 16, aI g 9 z.2.2.1), (A 19, aI g 30976 z.2.2.2.1), (A 20, aI g 15488 z.2.2.2.2.1), (A 21, aI g 15488 z.2.2.2.2.2.1), (A 22, aI g 15488 z.2.2.2.2.2.2.1), (A 23, aI g 15488 z.2.2.2.2.2.2.2)]) (fun z : Sc × Sc × Sc × Sc × Sc × Sc × Sc × Sc => smK (upd i 0 0) z.1)) noX a 258 [some (.ref q), some (.int p), some (.int (nI n)), some (.int wh), some (.int (nI a0)), some (.int fd), some (.int (nI w)), some (.int (nI v)), some (.int on), z9] [.int (bqV m Q1 p v)] [(q, ob 12 i4 (rM A)), (A 1, aI g 2616 m), (A 5, aI g 400 tp), (A 12, aI g 5 fc5), (A 16, aI g 9 x4), (A 19, aI g 30976 st5), (A 20, aI g 15488 (cp R0 R1 v)), (A 21, aI g 15488 R0), (A 22, aI g 15488 Q1), (A 23, aI g 15488 Q0)] 0 0 := by
                intro i4 x4 z9 hi4
                generalize bqV m Q1 p v = by9 at *
                by_cases hle : by9 ≤ on
                · rw [if_pos hle, if_pos hle] at K1
                  by_cases hva : v = a0
                  · rw [if_pos hva] at K1
                    refine q_istore 9 260 (L' := [_, _, _, _, _, _, _, _, _, _]) dX12_saves_258 (by decide) rfl rfl ?_
                    refine q_aload_n 0 261 dX12_saves_260 rfl rfl rfl ?_
                    refine q_getR 0 264 f_X12_35 dX12_saves_261 rfl rfl rfl rfl ?_
                    refine q_iload 7 266 dX12_saves_264 rfl rfl ?_
                    refine q_iload 9 268 dX12_saves_266 rfl rfl ?_
                    refine q_iload 8 270 dX12_saves_268 rfl rfl ?_
                    refine q_icmp_le 278 273 dX12_saves_270 (by decide) rfl (fun h270 => ?_) (fun h270 => absurd hle h270)
                    refine q_iload 8 280 dX12_saves_278 rfl rfl ?_
                    refine q_iast 6 v 281 (w' := [_, _, _, _, _, _, _, _, _, _]) dX12_saves_280 rfl ⟨rfl, by omega, by decide⟩ rfl rfl ?_
                    refine q_iload 7 283 dX12_saves_281 rfl rfl ?_
                    refine q_iload 4 285 dX12_saves_283 rfl rfl ?_
                    refine q_icmp_ne 302 288 dX12_saves_285 (by decide) rfl (fun h285 => absurd (hcs.mpr hva) h285) (fun h285 => ?_)
                    refine q_iload 9 290 dX12_saves_288 rfl rfl ?_
                    refine q_iload 8 292 dX12_saves_290 rfl rfl ?_
                    refine q_icmp_le 299 295 dX12_saves_292 (by decide) rfl (fun h292 => ?_) (fun h292 => absurd hle h292)
                    refine q_iconst 0 300 dX12_saves_299 ic_0 rfl ?_
                    refine q_istore 5 302 (L' := [_, _, _, _, _, _, _, _, _, _]) dX12_saves_300 (by decide) rfl rfl ?_
                    refine q_iinc 7 (nI (v + 1)) 305 (L' := [_, _, _, _, _, _, _, _, _, _]) dX12_saves_302 rfl (inc1 (v)) (by decide) rfl rfl ?_
                    refine q_goto 191 dX12_saves_305 (by decide) ?_
                    exact K1 _ _ _ _ hi4
                  · rw [if_neg hva] at K1
                    refine q_istore 9 260 (L' := [_, _, _, _, _, _, _, _, _, _]) dX12_saves_258 (by decide) rfl rfl ?_
                    refine q_aload_n 0 261 dX12_saves_260 rfl rfl rfl ?_
                    refine q_getR 0 264 f_X12_35 dX12_saves_261 rfl rfl rfl rfl ?_
                    refine q_iload 7 266 dX12_saves_264 rfl rfl ?_
                    refine q_iload 9 268 dX12_saves_266 rfl rfl ?_
                    refine q_iload 8 270 dX12_saves_268 rfl rfl ?_
                    refine q_icmp_le 278 273 dX12_saves_270 (by decide) rfl (fun h270 => ?_) (fun h270 => absurd hle h270)
                    refine q_iload 8 280 dX12_saves_278 rfl rfl ?_
                    refine q_iast 6 v 281 (w' := [_, _, _, _, _, _, _, _, _, _]) dX12_saves_280 rfl ⟨rfl, by omega, by decide⟩ rfl rfl ?_
                    refine q_iload 7 283 dX12_saves_281 rfl rfl ?_
                    refine q_iload 4 285 dX12_saves_283 rfl rfl ?_
                    refine q_icmp_ne 302 288 dX12_saves_285 (by decide) rfl (fun h285 => ?_) (fun h285 => absurd h285 (fun h => hva (hcs.mp h)))
                    refine q_iinc 7 (nI (v + 1)) 305 (L' := [_, _, _, _, _, _, _, _, _, _]) dX12_saves_302 rfl (inc1 (v)) (by decide) rfl rfl ?_
                    refine q_goto 191 dX12_saves_305 (by decide) ?_
                    exact K1 _ _ _ _ hi4
                · rw [if_neg hle, if_neg hle] at K1
                  by_cases hva : v = a0
                  · rw [if_pos hva] at K1
                    refine q_istore 9 260 (L' := [_, _, _, _, _, _, _, _, _, _]) dX12_saves_258 (by decide) rfl rfl ?_
                    refine q_aload_n 0 261 dX12_saves_260 rfl rfl rfl ?_
                    refine q_getR 0 264 f_X12_35 dX12_saves_261 rfl rfl rfl rfl ?_
                    refine q_iload 7 266 dX12_saves_264 rfl rfl ?_
                    refine q_iload 9 268 dX12_saves_266 rfl rfl ?_
                    refine q_iload 8 270 dX12_saves_268 rfl rfl ?_
                    refine q_icmp_le 278 273 dX12_saves_270 (by decide) rfl (fun h270 => absurd h270 hle) (fun h270 => ?_)
                    refine q_iload 9 275 dX12_saves_273 rfl rfl ?_
                    refine q_goto 280 dX12_saves_275 (by decide) ?_
                    refine q_iast 6 v 281 (w' := [_, _, _, _, _, _, _, _, _, _]) dX12_saves_280 rfl ⟨rfl, by omega, by decide⟩ rfl rfl ?_
                    refine q_iload 7 283 dX12_saves_281 rfl rfl ?_
                    refine q_iload 4 285 dX12_saves_283 rfl rfl ?_
                    refine q_icmp_ne 302 288 dX12_saves_285 (by decide) rfl (fun h285 => absurd (hcs.mpr hva) h285) (fun h285 => ?_)
                    refine q_iload 9 290 dX12_saves_288 rfl rfl ?_
                    refine q_iload 8 292 dX12_saves_290 rfl rfl ?_
                    refine q_icmp_le 299 295 dX12_saves_292 (by decide) rfl (fun h292 => absurd h292 hle) (fun h292 => ?_)
                    refine q_iconst 1 296 dX12_saves_295 ic_1 rfl ?_
                    refine q_goto 300 dX12_saves_296 (by decide) ?_
                    refine q_istore 5 302 (L' := [_, _, _, _, _, _, _, _, _, _]) dX12_saves_300 (by decide) rfl rfl ?_
                    refine q_iinc 7 (nI (v + 1)) 305 (L' := [_, _, _, _, _, _, _, _, _, _]) dX12_saves_302 rfl (inc1 (v)) (by decide) rfl rfl ?_
                    refine q_goto 191 dX12_saves_305 (by decide) ?_
                    exact K1 _ _ _ _ hi4
                  · rw [if_neg hva] at K1
                    refine q_istore 9 260 (L' := [_, _, _, _, _, _, _, _, _, _]) dX12_saves_258 (by decide) rfl rfl ?_
                    refine q_aload_n 0 261 dX12_saves_260 rfl rfl rfl ?_
                    refine q_getR 0 264 f_X12_35 dX12_saves_261 rfl rfl rfl rfl ?_
                    refine q_iload 7 266 dX12_saves_264 rfl rfl ?_
                    refine q_iload 9 268 dX12_saves_266 rfl rfl ?_
                    refine q_iload 8 270 dX12_saves_268 rfl rfl ?_
                    refine q_icmp_le 278 273 dX12_saves_270 (by decide) rfl (fun h270 => absurd h270 hle) (fun h270 => ?_)
                    refine q_iload 9 275 dX12_saves_273 rfl rfl ?_
                    refine q_goto 280 dX12_saves_275 (by decide) ?_
                    refine q_iast 6 v 281 (w' := [_, _, _, _, _, _, _, _, _, _]) dX12_saves_280 rfl ⟨rfl, by omega, by decide⟩ rfl rfl ?_
                    refine q_iload 7 283 dX12_saves_281 rfl rfl ?_
                    refine q_iload 4 285 dX12_saves_283 rfl rfl ?_
                    refine q_icmp_ne 302 288 dX12_saves_285 (by decide) rfl (fun h285 => ?_) (fun h285 => absurd h285 (fun h => hva (hcs.mp h)))
                    refine q_iinc 7 (nI (v + 1)) 305 (L' := [_, _, _, _, _, _, _, _, _, _]) dX12_saves_302 rfl (inc1 (v)) (by decide) rfl rfl ?_
                    refine q_goto 191 dX12_saves_305 (by decide) ?_
                    exact K1 _ _ _ _ hi4
              by_cases hsw : sWins (sPt1 (sPt0 u p)) p = 0
              · rw [hB0 hsw] at K258
                refine q_iload 7 193 dX12_saves_191 rfl rfl ?_
                refine q_sipush 15488 196 dX12_saves_193 sc_15488 rfl ?_
                refine q_icmp_ge 308 199 dX12_saves_196 (by decide) rfl (fun h196 => absurd h196 hlt) (fun h196 => ?_)
                refine q_iload 7 201 dX12_saves_199 rfl rfl ?_
                refine q_cSi [] [0, 1, 2, 3, 4, 5, 6, 7, 8, 9] [0, 1, 2, 3, 4, 5, 6, 7, 8, 9] 204 (wr := [_, _, _, _, _, _, _, _, _, _]) (w1 := _) (ws' := [_, _, _, _, _, _, _, _, _, _]) p_canBe m_X12_253 dX12_saves_201 rfl rfl rfl rfl rfl (by decide) (by decide) (by decide) (by decide) (Nat.le_of_ble_eq_true rfl) (by omega) (by omega) (by omega) rfl ?_
                refine q_if_ne 210 207 dX12_saves_204 (by decide) rfl (fun h204 => ?_) (fun h204 => absurd h204 hz0)
                refine q_aload_n 0 211 dX12_saves_210 rfl rfl rfl ?_
                refine q_iload 7 213 dX12_saves_211 rfl rfl ?_
                refine q_iload_n 1 214 dX12_saves_213 rfl rfl rfl ?_
                refine q_iconst (-1) 215 dX12_saves_214 ic_m1 rfl ?_
                refine q_aload_n 0 216 dX12_saves_215 rfl rfl rfl ?_
                refine q_getR 0 219 f_X12_38 dX12_saves_216 rfl rfl rfl rfl ?_
                refine q_xVi 0 [0, 1, 4, 5, 7] [2, 3, 6, 8, 9] [5, 6, 0, 1, 7, 8, 2, 9, 3, 4] 222 (wr := [_, _, _, _, _]) (w1 := _) (ws' := fun _ => [_, _, _, _, _, _, _, _, _, _]) (p_byStyles (T := A 21) hv9 hz0 hsv hH) m_X12_256 dX12_saves_219 rfl rfl rfl rfl rfl rfl rfl (fun _ => rfl) (by decide) (by decide) (by decide) (by decide) (Nat.le_of_ble_eq_true rfl) (by omega) (by omega) (by omega) rfl (fun z219 hx219 => ?_)
                obtain ⟨i219, x219⟩ := z219
                dsimp only at hx219 ⊢
                rw [hon]
                refine q_istore 8 224 (L' := [_, _, _, _, _, _, _, _, _, _]) dX12_saves_222 (by decide) rfl rfl ?_
                refine q_aload_n 0 225 dX12_saves_224 rfl rfl rfl ?_
                refine q_iload 7 227 dX12_saves_225 rfl rfl ?_
                refine q_cVv 0 [0, 1, 4] [2, 3, 5, 6, 7, 8, 9] [7, 8, 0, 1, 9, 2, 3, 4, 5, 6] 230 (wr := [_, _, _, _, _, _, _]) (w1 := _) (ws' := [_, _, _, _, _, _, _, _, _, _]) c_M_unnumber m_X12_239 dX12_saves_227 rfl rfl rfl rfl rfl rfl rfl rfl (by decide) (by decide) (by decide) (by decide) (Nat.le_of_ble_eq_true rfl) (by omega) (by omega) (by omega) rfl ?_
                refine q_ax 4 u rfl (fun k hk => (U_eq m _ (nI v) k hk).trans (congrFun hu k)) rfl ?_
                refine q_aload_n 0 231 dX12_saves_230 rfl rfl rfl ?_
                refine q_iload_n 1 232 dX12_saves_231 rfl rfl rfl ?_
                refine q_cVv 0 [0, 1, 4] [2, 3, 5, 6, 7, 8, 9] [7, 8, 0, 1, 9, 2, 3, 4, 5, 6] 235 (wr := [_, _, _, _, _, _, _]) (w1 := _) (ws' := [_, _, _, _, _, _, _, _, _, _]) (c_M_takesBisque hp) m_X12_236 dX12_saves_232 rfl rfl rfl rfl rfl rfl rfl rfl (by decide) (by decide) (by decide) (by decide) (Nat.le_of_ble_eq_true rfl) (by omega) (by omega) (by omega) rfl ?_
                refine q_aload_n 0 236 dX12_saves_235 rfl rfl rfl ?_
                refine q_getI 0 239 f_X12_215 dX12_saves_236 rfl rfl rfl ?_
                rw [iBis_17, if_pos hsw]
                refine q_iload_n 1 240 dX12_saves_239 rfl rfl rfl ?_
                refine q_icmp_ne 249 243 dX12_saves_240 (by decide) rfl (fun h240 => ?_) (fun h240 => absurd h240 hpn)
                refine q_aload_n 0 250 dX12_saves_249 rfl rfl rfl ?_
                refine q_getR 0 253 f_X12_41 dX12_saves_250 rfl rfl rfl rfl ?_
                refine q_aload_n 0 254 dX12_saves_253 rfl rfl rfl ?_
                refine q_cVi 0 [0, 4] [1, 2, 3, 5, 6, 7, 8, 9] [8, 0, 1, 2, 9, 3, 4, 5, 6, 7] 257 (wr := [_, _, _, _, _, _, _, _]) (w1 := _) (ws' := [_, _, _, _, _, _, _, _, _, _]) c_M_number m_X12_242 dX12_saves_254 rfl rfl rfl rfl rfl rfl rfl rfl (by decide) (by decide) (by decide) (by decide) (Nat.le_of_ble_eq_true rfl) (by omega) (by omega) (by omega) rfl ?_
                rw [eq9]
                refine q_iald 8 jq 258 dX12_saves_257 rfl ⟨rfl, by omega, by decide⟩ rfl ?_
                exact K258 _ _ _ (hi2.tr (hx219.tr (sm2_iBis _ _ _)).K)
              · rw [hB1 hsw] at K258
                refine q_iload 7 193 dX12_saves_191 rfl rfl ?_
                refine q_sipush 15488 196 dX12_saves_193 sc_15488 rfl ?_
                refine q_icmp_ge 308 199 dX12_saves_196 (by decide) rfl (fun h196 => absurd h196 hlt) (fun h196 => ?_)
                refine q_iload 7 201 dX12_saves_199 rfl rfl ?_
                refine q_cSi [] [0, 1, 2, 3, 4, 5, 6, 7, 8, 9] [0, 1, 2, 3, 4, 5, 6, 7, 8, 9] 204 (wr := [_, _, _, _, _, _, _, _, _, _]) (w1 := _) (ws' := [_, _, _, _, _, _, _, _, _, _]) p_canBe m_X12_253 dX12_saves_201 rfl rfl rfl rfl rfl (by decide) (by decide) (by decide) (by decide) (Nat.le_of_ble_eq_true rfl) (by omega) (by omega) (by omega) rfl ?_
                refine q_if_ne 210 207 dX12_saves_204 (by decide) rfl (fun h204 => ?_) (fun h204 => absurd h204 hz0)
                refine q_aload_n 0 211 dX12_saves_210 rfl rfl rfl ?_
                refine q_iload 7 213 dX12_saves_211 rfl rfl ?_
                refine q_iload_n 1 214 dX12_saves_213 rfl rfl rfl ?_
                refine q_iconst (-1) 215 dX12_saves_214 ic_m1 rfl ?_
                refine q_aload_n 0 216 dX12_saves_215 rfl rfl rfl ?_
                refine q_getR 0 219 f_X12_38 dX12_saves_216 rfl rfl rfl rfl ?_
                refine q_xVi 0 [0, 1, 4, 5, 7] [2, 3, 6, 8, 9] [5, 6, 0, 1, 7, 8, 2, 9, 3, 4] 222 (wr := [_, _, _, _, _]) (w1 := _) (ws' := fun _ => [_, _, _, _, _, _, _, _, _, _]) (p_byStyles (T := A 21) hv9 hz0 hsv hH) m_X12_256 dX12_saves_219 rfl rfl rfl rfl rfl rfl rfl (fun _ => rfl) (by decide) (by decide) (by decide) (by decide) (Nat.le_of_ble_eq_true rfl) (by omega) (by omega) (by omega) rfl (fun z219 hx219 => ?_)
                obtain ⟨i219, x219⟩ := z219
                dsimp only at hx219 ⊢
                rw [hon]
                refine q_istore 8 224 (L' := [_, _, _, _, _, _, _, _, _, _]) dX12_saves_222 (by decide) rfl rfl ?_
                refine q_aload_n 0 225 dX12_saves_224 rfl rfl rfl ?_
                refine q_iload 7 227 dX12_saves_225 rfl rfl ?_
                refine q_cVv 0 [0, 1, 4] [2, 3, 5, 6, 7, 8, 9] [7, 8, 0, 1, 9, 2, 3, 4, 5, 6] 230 (wr := [_, _, _, _, _, _, _]) (w1 := _) (ws' := [_, _, _, _, _, _, _, _, _, _]) c_M_unnumber m_X12_239 dX12_saves_227 rfl rfl rfl rfl rfl rfl rfl rfl (by decide) (by decide) (by decide) (by decide) (Nat.le_of_ble_eq_true rfl) (by omega) (by omega) (by omega) rfl ?_
                refine q_ax 4 u rfl (fun k hk => (U_eq m _ (nI v) k hk).trans (congrFun hu k)) rfl ?_
                refine q_aload_n 0 231 dX12_saves_230 rfl rfl rfl ?_
                refine q_iload_n 1 232 dX12_saves_231 rfl rfl rfl ?_
                refine q_cVv 0 [0, 1, 4] [2, 3, 5, 6, 7, 8, 9] [7, 8, 0, 1, 9, 2, 3, 4, 5, 6] 235 (wr := [_, _, _, _, _, _, _]) (w1 := _) (ws' := [_, _, _, _, _, _, _, _, _, _]) (c_M_takesBisque hp) m_X12_236 dX12_saves_232 rfl rfl rfl rfl rfl rfl rfl rfl (by decide) (by decide) (by decide) (by decide) (Nat.le_of_ble_eq_true rfl) (by omega) (by omega) (by omega) rfl ?_
                refine q_aload_n 0 236 dX12_saves_235 rfl rfl rfl ?_
                refine q_getI 0 239 f_X12_215 dX12_saves_236 rfl rfl rfl ?_
                rw [iBis_17, if_neg hsw]
                refine q_iload_n 1 240 dX12_saves_239 rfl rfl rfl ?_
                refine q_icmp_ne 249 243 dX12_saves_240 (by decide) rfl (fun h240 => absurd rfl h240) (fun h240 => ?_)
                refine q_ldcw 1000000000 246 k_X12_273 dX12_saves_243 rfl ?_
                refine q_goto 258 dX12_saves_246 (by decide) ?_
                exact K258 _ _ _ (hi2.tr (hx219.tr (sm2_iBis _ _ _)).K)
        have K143 : ∀ (c v : Nat), c + v = 15488 → ∀ (i2 x2 : Sc) (z8 z9 : Option Value), smK (upd i 0 0) i2 → WPs l g mtX12_saves 34 0 0 (pE (fun z : Sc × Sc × Sc × Sc × Sc × Sc × Sc × Sc => some (.int (if wh = 0 then S9 a0 else if wh = 1 then K9v else S9 a0 - P9v a0))) (fun z : Sc × Sc × Sc × Sc × Sc × Sc × Sc × Sc => [(q, ob 12 z.1 (rM A)), (A 1, aI g 2616 m), (A 5, aI g 400 tp), (A 12, aI g 5 z.2.1), (A 16, aI g 9 z.2.2.1), (A 19, aI g 30976 z.2.2.2.1), (A 20, aI g 15488 z.2.2.2.2.1), (A 21, aI g 15488 z.2.2.2.2.2.1), (A 22, aI g 15488 z.2.2.2.2.2.2.1), (A 23, aI g 15488 z.2.2.2.2.2.2.2)]) (fun z : Sc × Sc × Sc × Sc × Sc × Sc × Sc × Sc => smK (upd i 0 0) z.1)) noX a 143 [some (.ref q), some (.int p), some (.int (nI n)), some (.int wh), some (.int (nI a0)), some (.int F0), some (.int (nI w)), some (.int (nI v)), z8, z9] [] [(q, ob 12 i2 (rM A)), (A 1, aI g 2616 m), (A 5, aI g 400 tp), (A 12, aI g 5 fc5), (A 16, aI g 9 x2), (A 19, aI g 30976 st5), (A 20, aI g 15488 R0), (A 21, aI g 15488 R0), (A 22, aI g 15488 (cp Q0 Q1 v)), (A 23, aI g 15488 Q0)] 0 0 := by
          intro c
          induction c with
          | zero =>
            intro v hv i2 x2 z8 z9 hi2
            obtain rfl : v = 15488 := by omega
            refine q_ax 8 Q1 rfl (cp_full Q0 Q1 15488) rfl ?_
            have hge2 : (15488 : Int32) ≤ nI 15488 := by decide
            have K1 := K191 15488 0 rfl i2 x2
            rw [cp_0, if_neg (Nat.not_lt_zero _)] at K1
            refine q_iload 7 145 dX12_saves_143 rfl rfl ?_
            refine q_sipush 15488 148 dX12_saves_145 sc_15488 rfl ?_
            refine q_icmp_ge 188 151 dX12_saves_148 (by decide) rfl (fun h148 => ?_) (fun h148 => absurd hge2 h148)
            refine q_iconst 0 189 dX12_saves_188 ic_0 rfl ?_
            refine q_istore 7 191 (L' := [_, _, _, _, _, _, _, _, _, _]) dX12_saves_189 (by decide) rfl rfl ?_
            exact K1 _ _ hi2
          | succ c ih =>
            intro v hv i2 x2 z8 z9 hi2
            have hlt : ¬ (15488 : Int32) ≤ nI v := by rw [n15488]; exact nI_ge (by omega) (by omega)
            have K1 := fun i3 x3 z8 z9 h3 => ih (v + 1) (by omega) i3 x3 z8 z9 h3
            rw [← cp_s Q0 Q1 v] at K1
            clear ih
            rcases rCan_or (nI v) with hz | hz
            · rw [hP0 v hz] at K1
              refine q_iload 7 145 dX12_saves_143 rfl rfl ?_
              refine q_sipush 15488 148 dX12_saves_145 sc_15488 rfl ?_
              refine q_icmp_ge 188 151 dX12_saves_148 (by decide) rfl (fun h148 => absurd h148 hlt) (fun h148 => ?_)
              refine q_aload_n 0 152 dX12_saves_151 rfl rfl rfl ?_
              refine q_getR 0 155 f_X12_41 dX12_saves_152 rfl rfl rfl rfl ?_
              refine q_iload 7 157 dX12_saves_155 rfl rfl ?_
              refine q_iload 7 159 dX12_saves_157 rfl rfl ?_
              refine q_cSi [] [0, 1, 2, 3, 4, 5, 6, 7, 8, 9] [0, 1, 2, 3, 4, 5, 6, 7, 8, 9] 162 (wr := [_, _, _, _, _, _, _, _, _, _]) (w1 := _) (ws' := [_, _, _, _, _, _, _, _, _, _]) p_canBe m_X12_253 dX12_saves_159 rfl rfl rfl rfl rfl (by decide) (by decide) (by decide) (by decide) (Nat.le_of_ble_eq_true rfl) (by omega) (by omega) (by omega) rfl ?_
              refine q_if_eq 180 165 dX12_saves_162 (by decide) rfl (fun h162 => ?_) (fun h162 => absurd hz h162)
              refine q_iconst 0 181 dX12_saves_180 ic_0 rfl ?_
              refine q_iast 8 v 182 (w' := [_, _, _, _, _, _, _, _, _, _]) dX12_saves_181 rfl ⟨rfl, by omega, by decide⟩ rfl rfl ?_
              refine q_iinc 7 (nI (v + 1)) 185 (L' := [_, _, _, _, _, _, _, _, _, _]) dX12_saves_182 rfl (inc1 (v)) (by decide) rfl rfl ?_
              refine q_goto 143 dX12_saves_185 (by decide) ?_
              exact K1 _ _ _ _ hi2
            · have hz0 : ¬ rCan (nI v) = 0 := by rw [hz]; decide
              rw [hP1 v hz0] at K1
              refine q_iload 7 145 dX12_saves_143 rfl rfl ?_
              refine q_sipush 15488 148 dX12_saves_145 sc_15488 rfl ?_
              refine q_icmp_ge 188 151 dX12_saves_148 (by decide) rfl (fun h148 => absurd h148 hlt) (fun h148 => ?_)
              refine q_aload_n 0 152 dX12_saves_151 rfl rfl rfl ?_
              refine q_getR 0 155 f_X12_41 dX12_saves_152 rfl rfl rfl rfl ?_
              refine q_iload 7 157 dX12_saves_155 rfl rfl ?_
              refine q_iload 7 159 dX12_saves_157 rfl rfl ?_
              refine q_cSi [] [0, 1, 2, 3, 4, 5, 6, 7, 8, 9] [0, 1, 2, 3, 4, 5, 6, 7, 8, 9] 162 (wr := [_, _, _, _, _, _, _, _, _, _]) (w1 := _) (ws' := [_, _, _, _, _, _, _, _, _, _]) p_canBe m_X12_253 dX12_saves_159 rfl rfl rfl rfl rfl (by decide) (by decide) (by decide) (by decide) (Nat.le_of_ble_eq_true rfl) (by omega) (by omega) (by omega) rfl ?_
              refine q_if_eq 180 165 dX12_saves_162 (by decide) rfl (fun h162 => absurd h162 hz0) (fun h162 => ?_)
              refine q_aload_n 0 166 dX12_saves_165 rfl rfl rfl ?_
              refine q_iload 7 168 dX12_saves_166 rfl rfl ?_
              refine q_iload_n 1 169 dX12_saves_168 rfl rfl rfl ?_
              refine q_iconst (-1) 170 dX12_saves_169 ic_m1 rfl ?_
              refine q_aload_n 0 171 dX12_saves_170 rfl rfl rfl ?_
              refine q_getR 0 174 f_X12_44 dX12_saves_171 rfl rfl rfl rfl ?_
              refine q_xVi 0 [0, 1, 4, 5, 9] [2, 3, 6, 7, 8] [5, 6, 0, 1, 7, 8, 2, 3, 4, 9] 177 (wr := [_, _, _, _, _]) (w1 := _) (ws' := fun _ => [_, _, _, _, _, _, _, _, _, _]) (p_byStyles (T := A 23) (by omega) hz0 hsv hH) m_X12_256 dX12_saves_174 rfl rfl rfl rfl rfl rfl rfl (fun _ => rfl) (by decide) (by decide) (by decide) (by decide) (Nat.le_of_ble_eq_true rfl) (by omega) (by omega) (by omega) rfl (fun z174 hx174 => ?_)
              obtain ⟨i174, x174⟩ := z174
              dsimp only at hx174 ⊢
              refine q_goto 181 dX12_saves_177 (by decide) ?_
              refine q_iast 8 v 182 (w' := [_, _, _, _, _, _, _, _, _, _]) dX12_saves_181 rfl ⟨rfl, by omega, by decide⟩ rfl rfl ?_
              refine q_iinc 7 (nI (v + 1)) 185 (L' := [_, _, _, _, _, _, _, _, _, _]) dX12_saves_182 rfl (inc1 (v)) (by decide) rfl rfl ?_
              refine q_goto 143 dX12_saves_185 (by decide) ?_
              exact K1 _ _ _ _ (hi2.tr hx174.K)
        have K98 : ∀ (c v : Nat), c + v = 15488 → ∀ (z8 z9 : Option Value), WPs l g mtX12_saves 34 0 0 (pE (fun z : Sc × Sc × Sc × Sc × Sc × Sc × Sc × Sc => some (.int (if wh = 0 then S9 a0 else if wh = 1 then K9v else S9 a0 - P9v a0))) (fun z : Sc × Sc × Sc × Sc × Sc × Sc × Sc × Sc => [(q, ob 12 z.1 (rM A)), (A 1, aI g 2616 m), (A 5, aI g 400 tp), (A 12, aI g 5 z.2.1), (A 16, aI g 9 z.2.2.1), (A 19, aI g 30976 z.2.2.2.1), (A 20, aI g 15488 z.2.2.2.2.1), (A 21, aI g 15488 z.2.2.2.2.2.1), (A 22, aI g 15488 z.2.2.2.2.2.2.1), (A 23, aI g 15488 z.2.2.2.2.2.2.2)]) (fun z : Sc × Sc × Sc × Sc × Sc × Sc × Sc × Sc => smK (upd i 0 0) z.1)) noX a 98 [some (.ref q), some (.int p), some (.int (nI n)), some (.int wh), some (.int (nI a0)), some (.int F0), some (.int (nI w)), some (.int (nI v)), z8, z9] [] [(q, ob 12 i1 (rM A)), (A 1, aI g 2616 m), (A 5, aI g 400 tp), (A 12, aI g 5 fc5), (A 16, aI g 9 x1), (A 19, aI g 30976 st5), (A 20, aI g 15488 R0), (A 21, aI g 15488 (cp b1 R0 v)), (A 22, aI g 15488 Q0), (A 23, aI g 15488 (cp b2 Q0 v))] 0 0 := by
          intro c
          induction c with
          | zero =>
            intro v hv z8 z9
            obtain rfl : v = 15488 := by omega
            refine q_ax 7 R0 rfl (cp_full b1 R0 15488) rfl ?_
            refine q_ax 9 Q0 rfl (cp_full b2 Q0 15488) rfl ?_
            have hge2 : (15488 : Int32) ≤ nI 15488 := by decide
            have K1 := K143 15488 0 rfl i1 x1
            rw [cp_0] at K1
            refine q_iload 7 100 dX12_saves_98 rfl rfl ?_
            refine q_sipush 15488 103 dX12_saves_100 sc_15488 rfl ?_
            refine q_icmp_ge 140 106 dX12_saves_103 (by decide) rfl (fun h103 => ?_) (fun h103 => absurd hge2 h103)
            refine q_iconst 0 141 dX12_saves_140 ic_0 rfl ?_
            refine q_istore 7 143 (L' := [_, _, _, _, _, _, _, _, _, _]) dX12_saves_141 (by decide) rfl rfl ?_
            exact K1 _ _ hi
          | succ c ih =>
            intro v hv z8 z9
            have hlt : ¬ (15488 : Int32) ≤ nI v := by rw [n15488]; exact nI_ge (by omega) (by omega)
            have K1 := ih (v + 1) (by omega)
            rw [← cp_s b1 R0 v, ← cp_s b2 Q0 v] at K1
            clear ih
            refine q_iload 7 100 dX12_saves_98 rfl rfl ?_
            refine q_sipush 15488 103 dX12_saves_100 sc_15488 rfl ?_
            refine q_icmp_ge 140 106 dX12_saves_103 (by decide) rfl (fun h103 => absurd h103 hlt) (fun h103 => ?_)
            refine q_aload_n 0 107 dX12_saves_106 rfl rfl rfl ?_
            refine q_getR 0 110 f_X12_38 dX12_saves_107 rfl rfl rfl rfl ?_
            refine q_iload 7 112 dX12_saves_110 rfl rfl ?_
            refine q_aload_n 0 113 dX12_saves_112 rfl rfl rfl ?_
            refine q_getR 0 116 f_X12_35 dX12_saves_113 rfl rfl rfl rfl ?_
            refine q_iload 7 118 dX12_saves_116 rfl rfl ?_
            refine q_iald 6 v 119 dX12_saves_118 rfl ⟨rfl, by omega, by decide⟩ rfl ?_
            refine q_iast 7 v 120 (w' := [_, _, _, _, _, _, _, _, _, _]) dX12_saves_119 rfl ⟨rfl, by omega, by decide⟩ rfl rfl ?_
            refine q_aload_n 0 121 dX12_saves_120 rfl rfl rfl ?_
            refine q_getR 0 124 f_X12_44 dX12_saves_121 rfl rfl rfl rfl ?_
            refine q_iload 7 126 dX12_saves_124 rfl rfl ?_
            refine q_aload_n 0 127 dX12_saves_126 rfl rfl rfl ?_
            refine q_getR 0 130 f_X12_41 dX12_saves_127 rfl rfl rfl rfl ?_
            refine q_iload 7 132 dX12_saves_130 rfl rfl ?_
            refine q_iald 8 v 133 dX12_saves_132 rfl ⟨rfl, by omega, by decide⟩ rfl ?_
            refine q_iast 9 v 134 (w' := [_, _, _, _, _, _, _, _, _, _]) dX12_saves_133 rfl ⟨rfl, by omega, by decide⟩ rfl rfl ?_
            refine q_iinc 7 (nI (v + 1)) 137 (L' := [_, _, _, _, _, _, _, _, _, _]) dX12_saves_134 rfl (inc1 (v)) (by decide) rfl rfl ?_
            refine q_goto 98 dX12_saves_137 (by decide) ?_
            exact K1 _ _
        have K1 := K98 15488 0 rfl
        rw [cp_0, cp_0] at K1
        refine q_iload 6 91 dX12_saves_89 rfl rfl ?_
        refine q_iload_n 2 92 dX12_saves_91 rfl rfl rfl ?_
        refine q_icmp_ge 314 95 dX12_saves_92 (by decide) rfl (fun h92 => absurd h92 hge) (fun h92 => ?_)
        refine q_iconst 0 96 dX12_saves_95 ic_0 rfl ?_
        refine q_istore 7 98 (L' := [_, _, _, _, _, _, _, _, _, _]) dX12_saves_96 (by decide) rfl rfl ?_
        exact K1 _ _
    have K1 := K89 n 0 rfl i5 x5 ls5 pll5
    rw [show saR m st5 p 0 = fun _ => 0 from rfl, show saK m st5 p a0 0 = 0 from rfl, show plR m st5 p (-1) 0 = fun _ => 0 from rfl] at K1
    refine q_iconst 0 87 dX12_saves_86 ic_0 rfl ?_
    refine q_istore 6 89 (L' := [_, _, _, _, _, _, _, _, _, _]) dX12_saves_87 (by decide) rfl rfl ?_
    exact K1 _ _ _ hi5
  generalize hVAL : saV m (svA m) p wh a0 n = V9 at *
  have K56 : ∀ (i5 fc5 x5 ls5 pll5 : Sc), smK (upd i 0 0) i5 → ∀ (c v : Nat), c + v = 15488 → WPs l g mtX12_saves 34 0 0 (pE (fun z : Sc × Sc × Sc × Sc × Sc × Sc × Sc × Sc => some (.int V9)) (fun z : Sc × Sc × Sc × Sc × Sc × Sc × Sc × Sc => [(q, ob 12 z.1 (rM A)), (A 1, aI g 2616 m), (A 5, aI g 400 tp), (A 12, aI g 5 z.2.1), (A 16, aI g 9 z.2.2.1), (A 19, aI g 30976 z.2.2.2.1), (A 20, aI g 15488 z.2.2.2.2.1), (A 21, aI g 15488 z.2.2.2.2.2.1), (A 22, aI g 15488 z.2.2.2.2.2.2.1), (A 23, aI g 15488 z.2.2.2.2.2.2.2)]) (fun z : Sc × Sc × Sc × Sc × Sc × Sc × Sc × Sc => smK (upd i 0 0) z.1)) noX a 56 [some (.ref q), some (.int p), some (.int (nI n)), some (.int wh), some (.int (nI a0)), some (.int 0), some (.int (nI v)), none, none, none] [] [(q, ob 12 i5 (rM A)), (A 1, aI g 2616 m), (A 5, aI g 400 tp), (A 12, aI g 5 fc5), (A 16, aI g 9 x5), (A 19, aI g 30976 (svA m)), (A 20, aI g 15488 (cp nw (fun _ => 0) v)), (A 21, aI g 15488 ls5), (A 22, aI g 15488 (cp pl (fun _ => 0) v)), (A 23, aI g 15488 pll5)] 0 0 := by
    intro i5 fc5 x5 ls5 pll5 hi5 c
    induction c with
    | zero =>
      intro v hv
      obtain rfl : v = 15488 := by omega
      refine q_ax 6 (fun _ => 0) rfl (cp_full nw (fun _ => 0) 15488) rfl ?_
      refine q_ax 8 (fun _ => 0) rfl (cp_full pl (fun _ => 0) 15488) rfl ?_
      have hge2 : (15488 : Int32) ≤ nI 15488 := by decide
      refine q_iload 6 58 dX12_saves_56 rfl rfl ?_
      refine q_sipush 15488 61 dX12_saves_58 sc_15488 rfl ?_
      refine q_icmp_ge 86 64 dX12_saves_61 (by decide) rfl (fun h61 => ?_) (fun h61 => absurd hge2 h61)
      exact K86 _ _ _ _ _ _ _ _ _ hi5
    | succ c ih =>
      intro v hv
      have hlt : ¬ (15488 : Int32) ≤ nI v := by rw [n15488]; exact nI_ge (by omega) (by omega)
      have K1 := ih (v + 1) (by omega)
      rw [← cp_s nw (fun _ => 0) v, ← cp_s pl (fun _ => 0) v] at K1
      clear ih
      refine q_iload 6 58 dX12_saves_56 rfl rfl ?_
      refine q_sipush 15488 61 dX12_saves_58 sc_15488 rfl ?_
      refine q_icmp_ge 86 64 dX12_saves_61 (by decide) rfl (fun h61 => absurd h61 hlt) (fun h61 => ?_)
      refine q_aload_n 0 65 dX12_saves_64 rfl rfl rfl ?_
      refine q_getR 0 68 f_X12_35 dX12_saves_65 rfl rfl rfl rfl ?_
      refine q_iload 6 70 dX12_saves_68 rfl rfl ?_
      refine q_iconst 0 71 dX12_saves_70 ic_0 rfl ?_
      refine q_iast 6 v 72 (w' := [_, _, _, _, _, _, _, _, _, _]) dX12_saves_71 rfl ⟨rfl, by omega, by decide⟩ rfl rfl ?_
      refine q_aload_n 0 73 dX12_saves_72 rfl rfl rfl ?_
      refine q_getR 0 76 f_X12_41 dX12_saves_73 rfl rfl rfl rfl ?_
      refine q_iload 6 78 dX12_saves_76 rfl rfl ?_
      refine q_iconst 0 79 dX12_saves_78 ic_0 rfl ?_
      refine q_iast 8 v 80 (w' := [_, _, _, _, _, _, _, _, _, _]) dX12_saves_79 rfl ⟨rfl, by omega, by decide⟩ rfl rfl ?_
      refine q_iinc 6 (nI (v + 1)) 83 (L' := [_, _, _, _, _, _, _, _, _, _]) dX12_saves_80 rfl (inc1 (v)) (by decide) rfl rfl ?_
      refine q_goto 56 dX12_saves_83 (by decide) ?_
      exact K1
  refine q_aload_n 0 1 dX12_saves_0 rfl rfl rfl ?_
  refine q_aload_n 0 2 dX12_saves_1 rfl rfl rfl ?_
  refine q_iload_n 1 3 dX12_saves_2 rfl rfl rfl ?_
  refine q_iload_n 2 4 dX12_saves_3 rfl rfl rfl ?_
  refine q_cVi 0 [0, 1, 4] [2, 3, 5, 6, 7, 8, 9] [7, 8, 0, 1, 9, 2, 3, 4, 5, 6] 7 (wr := [_, _, _, _, _, _, _]) (w1 := _) (ws' := [_, _, _, _, _, _, _, _, _, _]) p_refuses m_X12_260 dX12_saves_4 rfl rfl rfl rfl rfl rfl rfl rfl (by decide) (by decide) (by decide) (by decide) (Nat.le_of_ble_eq_true rfl) (by omega) (by omega) (by omega) rfl ?_
  rw [reT_S, hr0]
  refine q_putI 0 10 (w' := [_, _, _, _, _, _, _, _, _, _]) f_X12_67 ft_X12_0 dX12_saves_7 rfl rfl rfl rfl ?_
  refine q_aload_n 0 11 dX12_saves_10 rfl rfl rfl ?_
  refine q_getI 0 14 f_X12_67 dX12_saves_11 rfl rfl rfl ?_
  refine q_if_ne 31 17 dX12_saves_14 (by decide) rfl (fun h14 => absurd rfl h14) (fun h14 => ?_)
  refine q_iload_n 3 18 dX12_saves_17 rfl rfl rfl ?_
  refine q_iconst 0 19 dX12_saves_18 ic_0 rfl ?_
  refine q_iconst 2 20 dX12_saves_19 ic_2 rfl ?_
  refine q_cSi [] [0, 1, 2, 3, 4, 5, 6, 7, 8, 9] [0, 1, 2, 3, 4, 5, 6, 7, 8, 9] 23 (wr := [_, _, _, _, _, _, _, _, _, _]) (w1 := _) (ws' := [_, _, _, _, _, _, _, _, _, _]) c_isIn m_X12_70 dX12_saves_20 rfl rfl rfl rfl rfl (by decide) (by decide) (by decide) (by decide) (Nat.le_of_ble_eq_true rfl) (by omega) (by omega) (by omega) rfl ?_
  refine q_if_ne 31 26 dX12_saves_23 (by decide) rfl (fun h23 => ?_) (fun h23 => absurd h23 hwh)
  refine q_aload_n 0 32 dX12_saves_31 rfl rfl rfl ?_
  refine q_getI 0 35 f_X12_67 dX12_saves_32 rfl rfl rfl ?_
  refine q_if_le 40 38 dX12_saves_35 (by decide) rfl (fun h35 => ?_) (fun h35 => absurd z_le h35)
  refine q_aload_n 0 41 dX12_saves_40 rfl rfl rfl ?_
  refine q_ax 3 (fz fc) rfl (fz_eq fc) rfl ?_
  refine q_cVv 0 [0, 1, 2, 3, 4, 5] [6, 7, 8, 9] [4, 5, 6, 7, 8, 9, 0, 1, 2, 3] 44 (wr := [_, _, _, _]) (w1 := _) (ws' := [_, _, _, _, _, _, _, _, _, _]) (p_allStyles hM.2.2.1 hM.2.2.2) m_X12_263 dX12_saves_41 rfl rfl rfl rfl rfl rfl rfl rfl (by decide) (by decide) (by decide) (by decide) (Nat.le_of_ble_eq_true rfl) (by omega) (by omega) (by omega) rfl ?_
  have hi5 := alI_K (upd i 0 0) m (fz fc) (rTake m x) 15488
  refine q_ax 5 (svA m) rfl (fun k hk => alS_sv (fz_O fc) 15488 k (by omega)) rfl ?_
  generalize alI (upd i 0 0) m (fz fc) (rTake m x) 15488 = i5 at *
  generalize alF m (fz fc) (rTake m x) 15488 = fc5 at *
  generalize alX m (rTake m x) 15488 = x5 at *
  refine q_aload_n 0 45 dX12_saves_44 rfl rfl rfl ?_
  refine q_cVi 0 [0, 1, 4] [2, 3, 5, 6, 7, 8, 9] [7, 8, 0, 1, 9, 2, 3, 4, 5, 6] 48 (wr := [_, _, _, _, _, _, _]) (w1 := _) (ws' := [_, _, _, _, _, _, _, _, _, _]) p_atNow m_X12_270 dX12_saves_45 rfl rfl rfl rfl rfl rfl rfl rfl (by decide) (by decide) (by decide) (by decide) (Nat.le_of_ble_eq_true rfl) (by omega) (by omega) (by omega) rfl ?_
  rw [rNum_c (take_S m x5), eA]
  refine q_istore 4 50 (L' := [_, _, _, _, _, _, _, _, _, _]) dX12_saves_48 (by decide) rfl rfl ?_
  refine q_iconst 0 51 dX12_saves_50 ic_0 rfl ?_
  refine q_istore 5 53 (L' := [_, _, _, _, _, _, _, _, _, _]) dX12_saves_51 (by decide) rfl rfl ?_
  refine q_iconst 0 54 dX12_saves_53 ic_0 rfl ?_
  refine q_istore 6 56 (L' := [_, _, _, _, _, _, _, _, _, _]) dX12_saves_54 (by decide) rfl rfl ?_
  have K1 := K56 i5 fc5 (rTake m x5) ls pll hi5 15488 0 rfl
  rw [cp_0, cp_0] at K1
  exact K1

