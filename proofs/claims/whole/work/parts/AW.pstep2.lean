/-! ===== numbers of scores, ends of sets, what is told, bisques: the class's are the reference's ===== -/
theorem code_ring (A b k : Int32) : (A * 2 + b) * 121 + k = A * 242 + 121 * b + k := by
  have e : (A * 2 + b) * 121 = A * 242 + 121 * b := by
    rw [Int32.add_mul, Int32.mul_assoc, show (2 : Int32) * 121 = 242 by decide, Int32.mul_comm b 121]
  rw [e]
theorem code_eq {s x : Sc} (h : Alk s x) (hx : Val x) : sCode s = rNum x := by
  obtain ⟨h0, h1, h2, h3, h6, h4, h5⟩ := h
  obtain ⟨hp, hv, hc⟩ := hx
  have ek : sKind s = rCk x := by
    unfold sKind rCk
    rw [h3, h6]
    rcases hc with ⟨a, b⟩ | ⟨a, _, b⟩ | ⟨a, _, _, b⟩
    · rw [a]; simp
    · have e4 := h4 (by rw [h3, a]; decide)
      rw [a, e4]
      rcases b with b | b <;> rw [b] <;> simp
    · have e4 := h4 (by rw [h3, a]; decide)
      have e5 := h5 (by rw [h3]; exact a)
      rw [a, e4, e5]
      simp
      rw [Int32.mul_comm]
  unfold sCode rNum
  rw [h0, h1, h2, ek, code_ring]
theorem over_eq {m s x li : Sc} (hl : LwA m li) (h7 : s 7 = x 7) (h8 : s 8 = x 8) : sOver s li = rOver m x := by
  unfold sOver rOver
  rw [hl.1, h7, h8]
theorem tell_eq {m s x : Sc} (h : SA m s x) (hx : Val x) {w : Nat} (hw : w < 10) : sTell s w = rTold x w := by
  obtain ⟨⟨h0, h1, h2, h3, h6, h4, h5⟩, h7, h8, h9, h10⟩ := h
  obtain ⟨hp, hv, hc⟩ := hx
  obtain ⟨ha, hb⟩ := pt_l8 hp
  unfold sTell rTold
  by_cases w4 : w = 4
  · rw [if_pos w4, if_pos w4, h3]
    by_cases c : x 3 ≤ 0
    · rw [if_pos c, if_pos c]
    · rw [if_neg c, if_neg c]
      exact h4 (fun e => c (by rw [← h3, e]; decide))
  · rw [if_neg w4, if_neg w4]
    by_cases w5 : w = 5
    · rw [if_pos w5, if_pos w5, h3]
      by_cases c : x 3 ≤ 1
      · rw [if_pos c, if_pos c]
      · rw [if_neg c, if_neg c]
        refine h5 ?_
        rw [h3]
        rcases hc with ⟨a, _⟩ | ⟨a, _⟩ | ⟨a, _⟩
        · exact absurd (by rw [a]; decide) c
        · exact absurd (by rw [a]; decide) c
        · exact a
    · rw [if_neg w5, if_neg w5]
      by_cases w6 : w = 6
      · rw [if_pos w6, w6, h6, if_neg (show ¬ (6 : Nat) = 9 by decide)]
        have : x 6 = 0 ∨ x 6 = 1 := by
          rcases hc with ⟨_, a⟩ | ⟨_, _, a⟩ | ⟨_, _, _, a⟩
          · exact Or.inl a
          · exact a
          · exact Or.inr a
        rcases this with a | a <;> rw [a] <;> decide
      · rw [if_neg w6]
        by_cases w9 : w = 9
        · rw [if_pos w9, if_pos w9]
          have ep := pog_fin _ ha _ hb
          unfold sPog
          rw [h0, h1]
          by_cases hcp : 3 ≤ x 0 ∧ x 1 < x 0 ∨ 3 ≤ x 1 ∧ x 0 < x 1
          · rw [if_pos hcp, if_neg (by decide), if_neg (fun h => (ep.mp hcp).elim (fun g => g h.1) (fun g => g h.2))]
          · rw [if_neg hcp, if_pos rfl]
            have hn : ¬ (¬ rWin (x 0) (x 1) = 0 ∨ ¬ rWin (x 1) (x 0) = 0) := fun h => hcp (ep.mpr h)
            rw [if_pos ⟨Classical.byContradiction fun h => hn (Or.inl h), Classical.byContradiction fun h => hn (Or.inr h)⟩]
        · rw [if_neg w9, if_neg w9]
          obtain rfl | rfl | rfl | rfl | rfl | rfl : w = 0 ∨ w = 1 ∨ w = 2 ∨ w = 3 ∨ w = 7 ∨ w = 8 := by omega
          · exact h0
          · exact h1
          · exact h2
          · exact h3
          · exact h7
          · exact h8
theorem SA.bis {m s x li : Sc} (hl : LwA m li) (hH : HOK m) (h : SA m s x) (hx : Val x) {p : Int32} (hp : p = 0 ∨ p = 1) : SA m (sBisque s li p) (rBis m x p) ∧ sPtW s p = sWins (sPt1 (sPt0 x p)) p := by
  have hpt := h.pt p
  have ew : sPtW s p = sWins (sPt1 (sPt0 x p)) p := by
    unfold sPtW
    rw [sWins_W, sWins_W, h.1.1, h.1.2.1]
  refine ⟨?_, ew⟩
  have hv := Val_pt (p := p) hH hx.1 hp
  unfold sBisque rBis
  by_cases h6 : rPt m x p 6 = 0
  · have he := hpt.ends hl hv.1 h6
    by_cases hx6 : x 6 = 1
    · rw [if_pos hx6]
      -- a won game: no chase is left
      have h30 : rPt m x p 3 = 0 := by
        rcases hv.2.2 with a | a
        · rw [a.2.2.2, hx6] at h6; exact absurd h6 (by decide)
        · exact a.1
      have e1 : rEnds m (rPt m x p) = rPt m x p := by unfold rEnds; rw [if_pos h30]
      rw [e1] at he
      exact he
    · rw [if_neg hx6]; exact he
  · have hx6 : x 6 = 1 := by
      rcases hv.2.2 with a | a
      · rw [a.2.2.2] at h6
        rcases hx.2.2 with ⟨_, b⟩ | ⟨_, _, b⟩ | ⟨_, _, _, b⟩
        · exact absurd b h6
        · exact b.resolve_left h6
        · exact b
      · exact absurd a.2 h6
    rw [if_pos hx6]
    unfold sEnds
    rw [if_pos (Or.inl (by rw [hpt.1.2.2.2.2.1]; exact h6))]
    exact hpt
theorem bk_fin1 : ∀ c : Nat, c < 121 → nI c = 0 → uCh (nI c) = 0 ∧ uOff (nI c) = 0 := by decide +kernel
theorem bk_fin2 : ∀ c : Nat, c < 121 → ¬ nI c = 0 → nI c ≤ 20 → uCh (nI c) = 1 ∧ uOff (nI c) = (if nI c ≤ 10 then 0 else 1) ∧ uF (nI c) = nI c - 1 - (nI c - 1) / 10 * 10 := by decide +kernel
theorem bk_fin3 : ∀ c : Nat, c < 121 → ¬ nI c = 0 → ¬ nI c ≤ 20 → uCh (nI c) = 2 ∧ uOff (nI c) = (if nI c ≤ 10 then 0 else 1) ∧ uF (nI c) = (nI c - 1 - 10 - 10) / 10 ∧ uS (nI c) = nI c - 1 - (nI c - 1) / 10 * 10 := by decide +kernel
/-- a score read back from its number -/
theorem bec_eq {m s : Sc} (h7 : s 7 = m 208) (h8 : s 8 = m 209) (h9 : s 9 = m 197) (h10 : s 10 = m 198) {j : Nat} (hj : j < 15488) : SA m (sBec s (nI j)) (U m (nI j)) := by
  have e1 : nI j / 121 = nI (j / 121) := nI_div (by decide) (by omega) (by decide) (by decide)
  have e2 : nI j - nI j / 121 * 121 = nI (j % 121) := nI_rem (by decide) (by omega) (by decide) (by decide)
  have e3 : nI (j / 121) / 16 = nI (j / 1936) := by rw [nI_div (d := 16) (by decide) (by omega) (by decide) (by decide), Nat.div_div_eq_div_mul]
  have e4 : nI (j / 121) / 2 = nI (j / 242) := by rw [nI_div (d := 2) (by decide) (by omega) (by decide) (by decide), Nat.div_div_eq_div_mul]
  have e5 : nI (j / 242) - nI (j / 242) / 8 * 8 = nI (j / 242 % 8) := nI_rem (by decide) (by omega) (by decide) (by decide)
  have e6 : nI (j / 121) - nI (j / 242) * 2 = nI (j / 121 % 2) := by rw [← e4]; exact nI_rem (by decide) (by omega) (by decide) (by decide)
  unfold sBec
  rw [e2, e1]
  have u0 := U_0 m hj; have u1 := U_1 m hj; have u2 := U_2 m hj; have u3 := U_3 m hj; have u4 := U_4 m hj; have u5 := U_5 m hj; have u6 := U_6 m hj
  have u7 : U m (nI j) 7 = m 208 := by unfold U rUn; simp [upd_at]
  have u8 : U m (nI j) 8 = m 209 := by unfold U rUn; simp [upd_at]
  have f1 := bk_fin1 (j % 121) (Nat.mod_lt _ (by decide)); have f2 := bk_fin2 (j % 121) (Nat.mod_lt _ (by decide)); have f3 := bk_fin3 (j % 121) (Nat.mod_lt _ (by decide))
  have hr : ∀ k, sBr k (nI (j / 121)) s = sRestart s (nI (j / 1936) - 3) (nI (j / 242 % 8) - 3) (nI (j / 121 % 2)) := by
    intro k
    unfold sBr
    rw [e3, e4, e5, e6]
  rw [hr]
  generalize nI (j % 121) = c at *
  unfold sBk
  by_cases c0 : c = 0
  · rw [if_pos c0]
    obtain ⟨g1, g2⟩ := f1 c0
    unfold sRestart
    simp only [SA, Alk, upd_at]
    simp [u0, u1, u2, u3, u6, u7, u8, g1, g2, h7, h8, h9, h10]
  · rw [if_neg c0]
    by_cases c20 : c ≤ 20
    · rw [if_pos c20]
      obtain ⟨g1, g2, g3⟩ := f2 c0 c20
      unfold sRestart
      simp only [SA, Alk, upd_at]
      simp [u0, u1, u2, u3, u4, u6, u7, u8, g1, g2, g3, h7, h8, h9, h10]
    · rw [if_neg c20]
      obtain ⟨g1, g2, g3, g4⟩ := f3 c0 c20
      unfold sRestart
      simp only [SA, Alk, upd_at]
      simp [u0, u1, u2, u3, u4, u5, u6, u7, u8, g1, g2, g3, g4, h7, h8, h9, h10]

