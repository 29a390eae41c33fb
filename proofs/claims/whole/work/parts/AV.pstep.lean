/-! ===== the class's rallies are the reference's ===== -/
/-- laws alike -/
def LwA (m li : Sc) : Prop := li 1 = m 194 ∧ li 2 = m 195 ∧ li 3 = m 196
/-- a score of the class and one of the reference -/
def SA (m s x : Sc) : Prop := Alk s x ∧ s 7 = x 7 ∧ s 8 = x 8 ∧ s 9 = m 197 ∧ s 10 = m 198
theorem SA.pt0 {m s x : Sc} (h : SA m s x) (p : Int32) : SA m (sPt0 s p) (sPt0 x p) := by
  obtain ⟨⟨h0, h1, h2, h3, h6, h4, h5⟩, h7, h8, h9, h10⟩ := h
  unfold sPt0
  by_cases hp : p = 0
  · rw [if_pos hp, if_pos hp]
    simp only [SA, Alk, upd_at]
    simp [h0, h1, h2, h3, h6, h7, h8, h9, h10]
    exact ⟨fun h => h4 (by rw [h3]; exact h), fun h => h5 (by rw [h3]; exact h)⟩
  · rw [if_neg hp, if_neg hp]
    simp only [SA, Alk, upd_at]
    simp [h0, h1, h2, h3, h6, h7, h8, h9, h10]
    exact ⟨fun h => h4 (by rw [h3]; exact h), fun h => h5 (by rw [h3]; exact h)⟩
theorem SA.pt1 {m s x : Sc} (h : SA m s x) : SA m (sPt1 s) (sPt1 x) := by
  have h' := h
  obtain ⟨⟨h0, h1, h2, h3, h6, h4, h5⟩, h7, h8, h9, h10⟩ := h
  unfold sPt1
  rw [h0, h1]
  by_cases hp : x 0 = 4 ∧ x 1 = 4
  · rw [if_pos hp, if_pos hp]
    simp only [SA, Alk, upd_at]
    simp [h2, h3, h6, h7, h8, h9, h10]
    exact ⟨fun h => h4 (by rw [h3]; exact h), fun h => h5 (by rw [h3]; exact h)⟩
  · rw [if_neg hp, if_neg hp]; exact h'
theorem SA.ptE {m s x : Sc} (h : SA m s x) (p : Int32) : SA m (sPtE s p) (rPtE m x p) := by
  have h' := h
  obtain ⟨⟨h0, h1, h2, h3, h6, h4, h5⟩, h7, h8, h9, h10⟩ := h
  have ew : sWins s p = sWins x p := by unfold sWins sMine sHis; rw [h0, h1]
  unfold sPtE rPtE
  rw [ew]
  by_cases hw : sWins x p = 0
  · rw [if_pos hw, if_pos hw]; exact h'
  · rw [if_neg hw, if_neg hw]
    unfold sRestart rRestart sBump
    by_cases hp : p = 0
    · simp only [if_pos hp]
      simp only [SA, Alk, upd_at]
      simp [h2, h7, h8, h9, h10]
    · simp only [if_neg hp]
      simp only [SA, Alk, upd_at]
      simp [h2, h7, h8, h9, h10]
theorem SA.pt {m s x : Sc} (h : SA m s x) (p : Int32) : SA m (sPt s p) (rPt m x p) := (h.pt0 p).pt1.ptE p
theorem SA.give {m s x : Sc} (h : SA m s x) (w : Int32) : SA m (sGive s w) (rGive m x w) := by
  unfold sGive rGive rP
  by_cases hw : w = 0
  · rw [if_pos hw, if_pos hw]; exact h
  · rw [if_neg hw, if_neg hw, h.1.2.2.1]; exact h.pt _
theorem SA.add {m s x : Sc} (h : SA m s x) (hx : x 3 = 0 ∨ x 3 = 1) (v : Int32) : SA m (sAdd s v) (sAdd x v) := by
  obtain ⟨⟨h0, h1, h2, h3, h6, h4, h5⟩, h7, h8, h9, h10⟩ := h
  unfold sAdd
  rw [h3]
  by_cases hp : x 3 = 0
  · rw [if_pos hp, if_pos hp]
    simp only [SA, Alk, upd_at]
    simp [h0, h1, h2, h6, h7, h8, h9, h10, hp]
  · have h31 := hx.resolve_left hp
    rw [if_neg hp, if_neg hp]
    simp only [SA, Alk, upd_at]
    simp [h0, h1, h2, h6, h7, h8, h9, h10, h31]
    exact h4 (by rw [h3, h31]; decide)
theorem pog_fin : ∀ a ∈ l8, ∀ b ∈ l8, ((3 ≤ a ∧ b < a ∨ 3 ≤ b ∧ a < b) ↔ (¬ rWin a b = 0 ∨ ¬ rWin b a = 0)) := by decide +kernel
theorem SA.ends {m s x : Sc} {li : Sc} (hl : LwA m li) (h : SA m s x) (hp : ptOK (x 0) (x 1)) (h6 : x 6 = 0) : SA m (sEnds s (li 2)) (rEnds m x) := by
  have h' := h
  obtain ⟨⟨h0, h1, h2, h3, h6', h4, h5⟩, h7, h8, h9, h10⟩ := h
  obtain ⟨ha, hb⟩ := pt_l8 hp
  have ep : (¬ sPog s = 0) ↔ (¬ rWin (x 0) (x 1) = 0 ∨ ¬ rWin (x 1) (x 0) = 0) := by
    rw [← pog_fin _ ha _ hb]
    unfold sPog
    rw [h0, h1]
    by_cases hc : 3 ≤ x 0 ∧ x 1 < x 0 ∨ 3 ≤ x 1 ∧ x 0 < x 1
    · rw [if_pos hc]; exact ⟨fun _ => hc, fun _ => by decide⟩
    · rw [if_neg hc]; exact ⟨fun h => absurd rfl h, fun h => absurd h hc⟩
  unfold sEnds rEnds
  rw [h6', h6, h3]
  by_cases h30 : x 3 = 0
  · rw [if_pos (Or.inr h30), if_pos h30]; exact h'
  · rw [if_neg (fun h => h.elim (fun h => h rfl) h30), if_neg h30, hl.2.1]
    have ec : (x 3 = 2 ∨ m 195 = 1 ∨ m 195 = 0 ∧ sPog s ≠ 0) ↔ (x 3 = 2 ∨ m 195 = 1 ∨ m 195 = 0 ∧ (¬ rWin (x 0) (x 1) = 0 ∨ ¬ rWin (x 1) (x 0) = 0)) := by rw [← ep]
    by_cases hc : x 3 = 2 ∨ m 195 = 1 ∨ m 195 = 0 ∧ sPog s ≠ 0
    · rw [if_pos hc, if_pos (ec.mp hc)]
      unfold rEnd1
      simp only [SA, Alk, upd_at]
      simp [h0, h1, h2, h3, h7, h8, h9, h10]
      exact ⟨fun h => h4 (by rw [h3]; exact h), fun h => h5 (by rw [h3]; exact h)⟩
    · rw [if_neg hc, if_neg (fun h => hc (ec.mpr h))]; exact h'
/-- the rally's number: a win, a loss, or 2 and the line -/
theorem who_eq {m s x li : Sc} (hl : LwA m li) (h : SA m s x) (h6 : ¬ x 6 = 0) (hx3 : ¬ x 3 = 0) (how ln : Int32) (hh : how = 0 ∨ how = 1 ∨ how = 2 ∧ lnOK ln) : sHit s li how ln = rWho m x (raH how ln) := by
  obtain ⟨⟨h0, h1, h2, h3, h6', h4, h5⟩, h7, h8, h9, h10⟩ := h
  have e4 : s 4 = x 4 := h4 (by rw [h3]; exact hx3)
  unfold sHit
  rw [h6', if_neg h6]
  rcases hh with rfl | rfl | ⟨rfl, hln⟩
  · have e : raH 0 ln = 0 := by unfold raH; rw [if_neg (by decide)]
    rw [if_neg (by decide), e]; simp [rWho, sWho]
  · have e : raH 1 ln = 1 := by unfold raH; rw [if_neg (by decide)]
    rw [if_neg (by decide), e]; simp [rWho, sWho]
  · obtain ⟨k, hk, rfl⟩ := nat_to (n := 9) hln.1 hln.2 (by decide)
    have e2 : (2 : Int32) + nI k - 2 = nI k := by rw [Int32.add_comm, Int32.add_sub_cancel]
    have hn2 : ¬ (2 : Int32) + nI k < 2 := by rw [show (2 : Int32) = nI 2 by decide, nI_add]; exact nI_nlt (by omega) (by omega)
    have hn12 : ¬ (12 : Int32) ≤ 2 + nI k := by rw [show (12 : Int32) = nI 12 by decide, show (2 : Int32) = nI 2 by decide, nI_add]; exact nI_ge (by omega) (by decide)
    rw [if_pos rfl]
    unfold raH rWho rAs lBy iCmp
    rw [if_pos rfl, if_neg hn2, if_neg h6, if_neg hn12, e2, e4, hl.2.2]
    by_cases c1 : nI k < x 4
    · simp only [if_pos c1]
      simp
    · simp only [if_neg c1]
      by_cases c2 : nI k = x 4
      · have c5 : ¬ x 4 < nI k := by rw [c2]; exact fun h => Int32.lt_irrefl h
        simp only [if_pos c2, if_neg c5]
        simp
      · have c4 : x 4 < nI k := by
          rcases Int32.lt_or_eq_of_le (Int32.not_lt.mp c1) with h | h
          · exact h
          · exact absurd h.symm c2
        simp only [if_neg c2, if_pos c4]
        simp
theorem SA.tr {m s x y : Sc} (h : SA m s x) (g : AlkG x y) : SA m s y := by
  obtain ⟨⟨h0, h1, h2, h3, h6, h4, h5⟩, h7, h8, h9, h10⟩ := h
  obtain ⟨⟨g0, g1, g2, g3, g6, g4, g5⟩, g7, g8⟩ := g
  exact ⟨⟨h0.trans g0, h1.trans g1, h2.trans g2, h3.trans g3, h6.trans g6, fun h => (h4 h).trans (g4 (by rw [← h3]; exact h)), fun h => (h5 h).trans (g5 (by rw [← h3]; exact h))⟩, h7.trans g7, h8.trans g8, h9, h10⟩
theorem AlkG.rf (x : Sc) : AlkG x x := ⟨⟨rfl, rfl, rfl, rfl, rfl, fun _ => rfl, fun _ => rfl⟩, rfl, rfl⟩
theorem ptE_6 {m t : Sc} {p : Int32} : (sWins t p = 0 ∧ rPtE m t p = t) ∨ (¬ sWins t p = 0 ∧ rPtE m t p 3 = 0 ∧ rPtE m t p 6 = 0) := by
  unfold rPtE
  by_cases h : sWins t p = 0
  · rw [if_pos h]; exact Or.inl ⟨h, rfl⟩
  · rw [if_neg h]
    refine Or.inr ⟨h, ?_, ?_⟩
    · unfold rRestart; simp [upd_at]
    · unfold rRestart; simp [upd_at]
/-- a chase that is played off: taken away ahead of the point, or behind it -/
theorem SA.off {m s x : Sc} (h : SA m s x) (h6 : x 6 = 1) (h3 : x 3 = 1 ∨ x 3 = 2) (w : Int32) : SA m (sPlayOff s w) (rGone (rGive m x w)) := by
  obtain ⟨⟨h0, h1, h2, e3, e6, h4, h5⟩, h7, h8, h9, h10⟩ := h
  -- the reference's score with the chase taken away first
  have hz : SA m (upd (sOff0 s) 6 (if s 3 - 1 ≤ 0 then 0 else 1)) (upd (upd (upd x 3 (x 3 - 1)) 4 (x 5)) 6 (if x 3 - 1 ≤ 0 then 0 else 1)) := by
    unfold sOff0
    rw [e3]
    simp only [SA, Alk, upd_at]
    simp [h0, h1, h2, e3, h7, h8, h9, h10]
    refine ⟨fun hc => ?_, fun hc => ?_⟩
    · rcases h3 with h3 | h3
      · exact absurd (by rw [h3]; decide) hc
      · exact h5 (by rw [e3]; exact h3)
    · rcases h3 with h3 | h3
      · rw [h3] at hc; exact absurd hc (by decide)
      · rw [h3] at hc; exact absurd hc (by decide)
  have hg := hz.give w
  unfold sPlayOff
  refine hg.tr ?_
  generalize hb : (if x 3 - 1 ≤ 0 then (0 : Int32) else 1) = b
  unfold rGive
  by_cases hw : w = 0
  · rw [if_pos hw, if_pos hw]
    unfold rGone
    rw [if_neg (by rw [h6]; decide), hb]
    exact AlkG.rf _
  · rw [if_neg hw, if_neg hw]
    have ep : rP (upd (upd (upd x 3 (x 3 - 1)) 4 (x 5)) 6 b) w = rP x w := by unfold rP; simp [upd_at]
    rw [ep]
    generalize rP x w = p
    have o0 : upd (upd (upd x 3 (x 3 - 1)) 4 (x 5)) 6 b 0 = x 0 := by simp [upd_at]
    have o1 : upd (upd (upd x 3 (x 3 - 1)) 4 (x 5)) 6 b 1 = x 1 := by simp [upd_at]
    have o2 : upd (upd (upd x 3 (x 3 - 1)) 4 (x 5)) 6 b 2 = x 2 := by simp [upd_at]
    have o3 : upd (upd (upd x 3 (x 3 - 1)) 4 (x 5)) 6 b 3 = x 3 - 1 := by simp [upd_at]
    have o4 : upd (upd (upd x 3 (x 3 - 1)) 4 (x 5)) 6 b 4 = x 5 := by simp [upd_at]
    have o5 : upd (upd (upd x 3 (x 3 - 1)) 4 (x 5)) 6 b 5 = x 5 := by simp [upd_at]
    have o6 : upd (upd (upd x 3 (x 3 - 1)) 4 (x 5)) 6 b 6 = b := by simp [upd_at]
    have o7 : upd (upd (upd x 3 (x 3 - 1)) 4 (x 5)) 6 b 7 = x 7 := by simp [upd_at]
    have o8 : upd (upd (upd x 3 (x 3 - 1)) 4 (x 5)) 6 b 8 = x 8 := by simp [upd_at]
    generalize upd (upd (upd x 3 (x 3 - 1)) 4 (x 5)) 6 b = ox at *
    have a0 := sPt1_A x p
    have a1 := sPt1_B x p
    have b0 := sPt1_A ox p
    have b1 := sPt1_B ox p
    have ao := sPt1_o x p
    have bo := sPt1_o ox p
    have aw := sWins_W x p
    have bw := sWins_W ox p
    rw [o0, o1] at b0 b1 bw
    unfold rPt rPtE
    rw [aw, bw]
    generalize sPt1 (sPt0 x p) = t at *
    generalize sPt1 (sPt0 ox p) = u at *
    have t2 := ao 2 (by decide); have t3 := ao 3 (by decide); have t4 := ao 4 (by decide); have t5 := ao 5 (by decide); have t6 := ao 6 (by decide); have t7 := ao 7 (by decide); have t8 := ao 8 (by decide)
    have u2 := bo 2 (by decide); have u3 := bo 3 (by decide); have u4 := bo 4 (by decide); have u5 := bo 5 (by decide); have u6 := bo 6 (by decide); have u7 := bo 7 (by decide); have u8 := bo 8 (by decide)
    by_cases hwin : pW (x 0) (x 1) p = 0
    · rw [if_pos hwin, if_pos hwin]
      unfold rGone
      rw [if_neg (by rw [t6, h6]; decide), t3, t5, hb]
      simp only [AlkG, Alk, upd_at]
      simp [a0, a1, b0, b1, t2, t7, t8, u2, u3, u4, u5, u6, u7, u8, o2, o3, o4, o5, o6, o7, o8, t5]
    · rw [if_neg hwin, if_neg hwin]
      have r6 : rRestart m (sBump t p) 6 = 0 := by unfold rRestart; simp [upd_at]
      unfold rGone
      rw [if_pos r6]
      unfold rRestart sBump
      by_cases hp : p = 0
      · simp only [if_pos hp]
        simp only [AlkG, Alk, upd_at]
        simp [t2, t7, t8, u2, u7, u8, o2, o7, o8]
      · simp only [if_neg hp]
        simp only [AlkG, Alk, upd_at]
        simp [t2, t7, t8, u2, u7, u8, o2, o7, o8]
/-- one rally -/
theorem SA.strike {m s x li : Sc} (hl : LwA m li) (hH : HOK m) (h : SA m s x) (hx : Val x) {how ln : Int32} (hh : how = 0 ∨ how = 1 ∨ how = 2 ∧ lnOK ln) : SA m (sStrike s li how ln) (rRal m x (raH how ln)) := by
  have e6 := h.1.2.2.2.2.1
  unfold sStrike rRal
  rw [e6]
  obtain ⟨hp, hv, hc⟩ := hx
  by_cases h6 : x 6 = 0
  · rw [if_pos h6, if_pos h6]
    have hc1 : x 3 = 0 ∨ x 3 = 1 := by
      rcases hc with ⟨a, _⟩ | ⟨a, _⟩ | ⟨_, _, _, a⟩
      · exact Or.inl a
      · exact Or.inr a
      · rw [h6] at a; exact absurd a (by decide)
    have key : SA m (sGive (if how = 2 then sAdd s ln else s) (sWho how)) (rRal0 m x (raH how ln)) ∧ ptOK (rRal0 m x (raH how ln) 0) (rRal0 m x (raH how ln) 1) ∧ (rRal0 m x (raH how ln) 6 = 0) := by
      rcases hh with rfl | rfl | ⟨rfl, hln⟩
      · have e : raH 0 ln = 0 := by unfold raH; rw [if_neg (by decide)]
        have ew : rWho m x 0 = 1 := by simp [rWho]
        rw [e, if_neg (by decide), show sWho 0 = 1 by decide]
        unfold rRal0
        rw [if_pos (by decide), ew]
        have hg := Val_give (w := 1) hH ⟨hp, hv, hc⟩
        refine ⟨h.give 1, hg.1, ?_⟩
        rcases hg.2.2 with a | a
        · rw [a.2.2.2]; exact h6
        · exact a.2
      · have e : raH 1 ln = 1 := by unfold raH; rw [if_neg (by decide)]
        have ew : rWho m x 1 = 2 := by simp [rWho]
        rw [e, if_neg (by decide), show sWho 1 = 2 by decide]
        unfold rRal0
        rw [if_pos (by decide), ew]
        have hg := Val_give (w := 2) hH ⟨hp, hv, hc⟩
        refine ⟨h.give 2, hg.1, ?_⟩
        rcases hg.2.2 with a | a
        · rw [a.2.2.2]; exact h6
        · exact a.2
      · obtain ⟨k, hk, rfl⟩ := nat_to (n := 9) hln.1 hln.2 (by decide)
        have e2 : (2 : Int32) + nI k - 2 = nI k := by rw [Int32.add_comm, Int32.add_sub_cancel]
        have hn2 : ¬ (2 : Int32) + nI k < 2 := by rw [show (2 : Int32) = nI 2 by decide, nI_add]; exact nI_nlt (by omega) (by omega)
        have e : raH 2 (nI k) = 2 + nI k := by unfold raH; rw [if_pos rfl]
        rw [e, if_pos rfl, show sWho 2 = 0 by decide]
        unfold rRal0 sGive
        rw [if_neg hn2, if_pos rfl, e2]
        refine ⟨h.add hc1 _, ?_, ?_⟩
        · unfold sAdd
          split <;> simpa [upd_at] using hp
        · unfold sAdd
          split <;> simpa [upd_at] using h6
    rw [if_pos key.2.2]
    exact key.1.ends hl key.2.1 key.2.2
  · rw [if_neg h6, if_neg h6]
    have h61 : x 6 = 1 ∧ (x 3 = 1 ∨ x 3 = 2) := by
      rcases hc with ⟨_, a⟩ | ⟨a, _, b⟩ | ⟨a, _, _, b⟩
      · exact absurd a h6
      · exact ⟨b.resolve_left h6, Or.inl a⟩
      · exact ⟨b, Or.inr a⟩
    have h30 : ¬ x 3 = 0 := by rcases h61.2 with a | a <;> rw [a] <;> decide
    rw [who_eq hl h h6 h30 how ln hh]
    exact h.off h61.1 h61.2 _

