/-! ===== saves: what is taken; the answers of chance, best, saves, worth, ways ===== -/
theorem rPt_gm {m x : Sc} {p : Int32} (hp : p = 0 ∨ p = 1) : rPt m x p 7 = (if (if sWins (sPt1 (sPt0 x p)) p = 0 then (-1 : Int32) else p) = 0 then x 7 + 1 else x 7) ∧ rPt m x p 8 = (if (if sWins (sPt1 (sPt0 x p)) p = 0 then (-1 : Int32) else p) = 1 then x 8 + 1 else x 8) := by
  unfold rPt rPtE
  have t7 := sPt1_o x p 7 (by decide)
  have t8 := sPt1_o x p 8 (by decide)
  generalize sPt1 (sPt0 x p) = t at *
  by_cases h1 : sWins t p = 0
  · rw [if_pos h1, if_pos h1, t7, t8]; simp
  · rw [if_neg h1, if_neg h1]
    unfold rRestart sBump
    rcases hp with rfl | rfl
    · simp only [if_pos rfl]
      simp [upd_at, t7, t8]
    · rw [if_neg (by decide)]
      simp [upd_at, t7, t8]
theorem sa_tv {m li cf s0 s : Sc} {p : Int32} {i : Nat} {k : Int32} (hX : CtxO m li cf s0) (hp : p = 0 ∨ p = 1) (hf : FrO s0 s) (hk : GKr k) : rvT (wyC p) (plF m p (-1) i) (tgB li p s k) = saT9 m p i k := by
  obtain ⟨j, hj, rfl, hcan⟩ := hk
  obtain ⟨hl, hH, _, _, ⟨z7, z8, z9, z10⟩, ⟨a, ha, ea⟩, b, hb, eb⟩ := hX
  obtain ⟨f7, f8, f9, f10⟩ := id hf
  have hsa : SA m (sBec s (nI j)) (U m (nI j)) := bec_eq (f7.trans z7) (f8.trans z8) (f9.trans z9) (f10.trans z10) hj
  have hv := U_Val m hj hcan
  have x7 : U m (nI j) 7 = nI a := by rw [← ea]; unfold U rUn; simp [upd_at]
  have x8 : U m (nI j) 8 = nI b := by rw [← eb]; unfold U rUn; simp [upd_at]
  have hbs := (hsa.bis hl hH hv hp).1
  have hvb := Val_rBis hH hv hp
  obtain ⟨g7, g8⟩ := rPt_gm (m := m) (x := U m (nI j)) hp
  have r7 : rBis m (U m (nI j)) p 7 = rPt m (U m (nI j)) p 7 := by unfold rBis; split; rfl; exact rEnds_gm.1
  have r8 : rBis m (U m (nI j)) p 8 = rPt m (U m (nI j)) p 8 := by unfold rBis; split; rfl; exact rEnds_gm.2
  have hwn : (if sWins (sPt1 (sPt0 (U m (nI j)) p)) p = 0 then (-1 : Int32) else p) = -1 ∨ (if sWins (sPt1 (sPt0 (U m (nI j)) p)) p = 0 then (-1 : Int32) else p) = 0 ∨ (if sWins (sPt1 (sPt0 (U m (nI j)) p)) p = 0 then (-1 : Int32) else p) = 1 := by
    split
    · exact Or.inl rfl
    · exact Or.inr hp
  unfold tgB
  rw [tgt_val hsa hbs hvb x7 ha x8 hb hwn (r7.trans g7) (r8.trans g8) (Cnt_wy hp)]
  unfold saT9 bqV
  rw [nI_clamp (by omega)]
  by_cases h1 : sWins (sPt1 (sPt0 (U m (nI j)) p)) p = 0
  · rw [if_pos h1, if_pos rfl, if_pos h1]
    rfl
  · rw [if_neg h1, if_neg (by rcases hp with rfl | rfl <;> decide), if_pos ⟨rfl, Or.inl rfl⟩, if_neg h1]
/-- the score that stands now -/
theorem at0_c {m s : Sc} (h : SA m s (S m)) (hv : Val (S m)) : sCode s = nI (at0 m) ∧ at0 m < 15488 := by
  obtain ⟨k, hk, e, _⟩ := num_of (m := m) hv
  have e2 : at0 m = k := by unfold at0; rw [e, nI_clamp (by omega)]
  rw [e2]
  exact ⟨(code_eq h.1 hv).trans e, hk⟩
theorem an_chance {m s : Sc} {p th : Int32} {n : Nat} (h : SA m s (S m)) (hv : Val (S m)) : plF m p th n (sCode s) = plR m (svA m) p th n (at0 m) := by
  obtain ⟨e, hk⟩ := at0_c h hv
  unfold plF
  rw [e, nI_clamp (by omega)]
theorem an_best {m s : Sc} {p n : Nat} {b : Int32} (hp : p ≤ 1) (hH : HOK m) (hc : ChO m) (hst : stOK (svA m)) (h : SA m s (S m)) (hv : Val (S m)) : bsA (fun i => bsF9 m p i) (fun i => bsW9 m (bsR m (svA m) p i) p) b n (sCode s) = if b = 0 then bsR m (svA m) p n (at0 m) else bsF m (svA m) p (at0 m) n := by
  obtain ⟨e, hk⟩ := at0_c h hv
  have hg := (gk_of h hv).1
  unfold bsA
  dsimp only
  by_cases hb : b = 0
  · rw [if_pos hb, if_pos hb, e]
    unfold bsF9
    rw [nI_clamp (by omega)]
  · rw [if_neg hb, if_neg hb]
    cases n with
    | zero => rfl
    | succ n =>
      rw [if_neg (Nat.succ_ne_zero n), bsF9_s hp hH hc hst n _ hg, show n + 1 - 1 = n from rfl]
      have hcan : ¬ rCan (nI (at0 m)) = 0 := by
        obtain ⟨j, hj, e1, hj2⟩ := hg
        rw [e1] at e
        rw [← e]; exact hj2
      have hf : bsW9 m (bsR m (svA m) p n) p (sCode s) = bsV m (svA m) (bsR m (svA m) p n) p (at0 m) := by
        funext c
        unfold bsW9
        rw [e, nI_clamp (by omega)]
      rw [hf]
      have hN := fun c (hc4 : c < 4) => bsV_N hH hc hst (bsR_N hp hH hc hst n) hp hk hcan hc4
      have h9 := fd_ch (f := bsV m (svA m) (bsR m (svA m) p n) p (at0 m)) (fd := bsF m (svA m) p (at0 m) n) (fun c hc4 => by obtain ⟨a, h1, h2⟩ := hN c hc4; exact ⟨a, by omega, h2⟩)
      exact h9.symm
theorem an_saves {m s : Sc} {p w : Int32} {n : Nat} (hn0 : 0 < n) (hp : p = 0 ∨ p = 1) (hw : w = 0 ∨ w = 1 ∨ w = 2) (hH : HOK m) (hc : ChO m) (hst : stOK (svA m)) (h : SA m s (S m)) (hv : Val (S m)) : saA (plF m p (-1)) (saF9 m p) (saT9 m p) (fun i => plW9 m (saR m (svA m) p i) p (-1)) w n (sCode s) = saV m (svA m) p w (at0 m) n := by
  obtain ⟨e, hk⟩ := at0_c h hv
  obtain ⟨j, hj, e1, hcan⟩ := (gk_of h hv).1
  have ej : j = at0 m := nI_eqI (by omega) (by omega) (e1.symm.trans e)
  subst ej
  obtain ⟨n, rfl⟩ : ∃ q, n = q + 1 := ⟨n - 1, by omega⟩
  have eG : saF9 m p (n + 1) (sCode s) = saR m (svA m) p (n + 1) (at0 m) := by unfold saF9; rw [e, nI_clamp (by omega)]
  have eF : plF m p (-1) (n + 1) (sCode s) = plR m (svA m) p (-1) (n + 1) (at0 m) := by unfold plF; rw [e, nI_clamp (by omega)]
  have eT : saT9 m p (n + 1) (sCode s) = bqV m (plR m (svA m) p (-1) (n + 1)) p (at0 m) := by unfold saT9; rw [e, nI_clamp (by omega)]
  obtain ⟨a, h1, h2⟩ := hdB_N (p := p) (th := -1) hH hc hst (saR_N hp hH hc hst n) hk hcan
  have eX : moW (plW9 m (saR m (svA m) p n) p (-1) (sCode s)) 1 = hdB m (svA m) (saR m (svA m) p n) p (-1) (at0 m) := by
    show iMax 0 _ = _
    unfold plW9
    rw [e, nI_clamp (by omega), h2, iMax0 (by omega)]
  unfold saA saV
  dsimp only
  rw [show n + 1 - 1 = n from rfl, eX, eT, eG, eF]
  rcases hw with rfl | rfl | rfl
  · rw [if_neg (show ¬ (0 : Int32) = 1 by decide), if_pos rfl, if_pos rfl]
  · rw [if_pos rfl, if_neg (show ¬ (1 : Int32) = 0 by decide), if_pos rfl]
    show _ = (if bqV m (plR m (svA m) p (-1) (n + 1)) p (at0 m) ≤ hdB m (svA m) (saR m (svA m) p n) p (-1) (at0 m) then (0 : Int32) else 1)
    by_cases hc9 : bqV m (plR m (svA m) p (-1) (n + 1)) p (at0 m) ≤ hdB m (svA m) (saR m (svA m) p n) p (-1) (at0 m)
    · rw [if_pos hc9, if_neg (Int32.not_lt.mpr hc9)]
    · rw [if_neg hc9, if_pos (Int32.not_le.mp hc9)]
  · rw [if_neg (show ¬ (2 : Int32) = 1 by decide), if_neg (show ¬ (2 : Int32) = 0 by decide), if_neg (show ¬ (2 : Int32) = 0 by decide), if_neg (show ¬ (2 : Int32) = 1 by decide)]
theorem an_worth {m s li : Sc} {p ln : Int32} {n : Nat} (hl : LwA m li) (hH : HOK m) (h : SA m s (S m)) (hv : Val (S m)) (hln : lnOK ln) : plF m p (-1) n (sCode (sStrike s li 2 ln)) = plR m (svA m) p (-1) n (lnA m ln) ∧ gkC GKr (sStrike s li 2 ln) := by
  have hs := h.strike hl hH hv (how := 2) (ln := ln) (Or.inr (Or.inr ⟨rfl, hln⟩))
  have er : raH 2 ln = 2 + ln := by unfold raH; rw [if_pos rfl]
  rw [er] at hs
  obtain ⟨k0, hk0, rfl⟩ := nat_to (n := 9) hln.1 hln.2 (by decide)
  have hvy : Val (rRal m (S m) (2 + nI k0)) := Val_rRal hH hv (fun _ _ => by
    have e2 : (2 : Int32) + nI k0 - 2 = nI k0 := by rw [Int32.add_comm, Int32.add_sub_cancel]
    rw [e2]; exact hln)
  obtain ⟨k, hk, e, _⟩ := num_of (m := m) hvy
  refine ⟨?_, gk_of hs hvy⟩
  unfold plF lnA
  rw [code_eq hs.1 hvy]
theorem ng_SA {m s : Sc} {v : Int32} (h9 : s 9 = m 197) (h10 : s 10 = m 198) : Alk (ngS s v) (bnS m v) := by
  unfold ngS sRestart bnS
  simp only [Alk, upd_at]
  simp [h9, h10]
theorem bn_Val {m : Sc} {v : Int32} (hH : HOK m) (hv : v = 0 ∨ v = 1) : Val (bnS m v) := by
  refine ⟨?_, ?_, Or.inl ⟨?_, ?_⟩⟩
  · have := hH.pt
    unfold bnS
    simpa [upd_at] using this
  · unfold bnS
    simpa [upd_at] using hv
  · unfold bnS; simp [upd_at]
  · unfold bnS; simp [upd_at]
theorem an_ways {m s : Sc} {v p th : Int32} {n : Nat} (hH : HOK m) (hv : v = 0 ∨ v = 1) (h9 : s 9 = m 197) (h10 : s 10 = m 198) : plF m p th n (sCode (ngS s v)) = plR m (svA m) p th n (bg0 m v) ∧ gkC GKr (ngS s v) := by
  have hb := bn_Val (m := m) hH hv
  obtain ⟨k, hk, e, hc, _⟩ := num_of (m := m) hb
  have ec : sCode (ngS s v) = nI k := (code_eq (ng_SA h9 h10) hb).trans e
  refine ⟨?_, ⟨k, hk, ec, hc⟩, k, hk, ec⟩
  unfold plF bg0
  rw [code_eq (ng_SA h9 h10) hb]

