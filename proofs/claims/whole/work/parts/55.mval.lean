/-! ===== the states of the reference that can be, and their numbers ===== -/
abbrev ptOK (a b : Int32) : Prop := (-3 ≤ a ∧ a ≤ 3 ∧ -3 ≤ b ∧ b ≤ 3) ∨ (a = 4 ∧ b = 3) ∨ (a = 3 ∧ b = 4)
abbrev lnOK (z : Int32) : Prop := 0 ≤ z ∧ z ≤ 9
abbrev chOK (c l1 l2 o : Int32) : Prop := (c = 0 ∧ o = 0) ∨ (c = 1 ∧ lnOK l1 ∧ (o = 0 ∨ o = 1)) ∨ (c = 2 ∧ lnOK l1 ∧ lnOK l2 ∧ o = 1)
def Val (x : Sc) : Prop := ptOK (x 0) (x 1) ∧ (x 2 = 0 ∨ x 2 = 1) ∧ chOK (x 3) (x 4) (x 5) (x 6)
def HOK (m : Sc) : Prop := (0 ≤ m 197 ∧ m 197 ≤ 3) ∧ (0 ≤ m 198 ∧ m 198 ≤ 3)
def l8 : List Int32 := [-3, -2, -1, 0, 1, 2, 3, 4]
theorem l8_of {a : Int32} (h1 : -3 ≤ a) (h2 : a ≤ 4) : a ∈ l8 := by
  have e1 : (-3 : Int32).toInt = -3 := by decide
  have e2 : (4 : Int32).toInt = 4 := by decide
  rw [i_le, e1] at h1
  rw [i_le, e2] at h2
  have h : a = Int32.ofInt a.toInt := (Int32.ofInt_toInt a).symm
  have h9 : a.toInt = -3 ∨ a.toInt = -2 ∨ a.toInt = -1 ∨ a.toInt = 0 ∨ a.toInt = 1 ∨ a.toInt = 2 ∨ a.toInt = 3 ∨ a.toInt = 4 := by omega
  rcases h9 with h3 | h3 | h3 | h3 | h3 | h3 | h3 | h3 <;> (rw [h3] at h; rw [h]; decide)
theorem pt_l8 {a b : Int32} (h : ptOK a b) : a ∈ l8 ∧ b ∈ l8 := by
  rcases h with ⟨h1, h2, h3, h4⟩ | ⟨rfl, rfl⟩ | ⟨rfl, rfl⟩
  · exact ⟨l8_of h1 (Int32.le_trans h2 (by decide)), l8_of h3 (Int32.le_trans h4 (by decide))⟩
  · decide
  · decide
theorem nat_to {a : Int32} {n : Nat} (h1 : 0 ≤ a) (h2 : a ≤ nI n) (hn : n < 2 ^ 31) : ∃ k : Nat, k ≤ n ∧ a = nI k := by
  obtain ⟨j, hj, rfl⟩ := nI_of (Int32.not_lt.mpr h1)
  exact ⟨j, (nI_leI hj hn).mp h2, rfl⟩
abbrev pA1 (a p : Int32) : Int32 := if p = 0 then a + 1 else a
abbrev pB1 (b p : Int32) : Int32 := if p = 0 then b else b + 1
abbrev pA2 (a b p : Int32) : Int32 := if pA1 a p = 4 ∧ pB1 b p = 4 then 3 else pA1 a p
abbrev pB2 (a b p : Int32) : Int32 := if pA1 a p = 4 ∧ pB1 b p = 4 then 3 else pB1 b p
abbrev pW (a b p : Int32) : Int32 := if (if p = 0 then pA2 a b p else pB2 a b p) < 4 ∨ (if p = 0 then pA2 a b p else pB2 a b p) - (if p = 0 then pB2 a b p else pA2 a b p) < 2 then 0 else 1
theorem sPt0_A (s : Sc) (p : Int32) : sPt0 s p 0 = pA1 (s 0) p := by
  by_cases hp : p = 0 <;> simp [sPt0, pA1, hp, upd]
theorem sPt0_B (s : Sc) (p : Int32) : sPt0 s p 1 = pB1 (s 1) p := by
  by_cases hp : p = 0 <;> simp [sPt0, pB1, hp, upd]
theorem sPt0_o (s : Sc) (p : Int32) (k : Nat) (hk : 2 ≤ k) : sPt0 s p k = s k := by
  have h0 : ¬ k = 0 := by omega
  have h1 : ¬ k = 1 := by omega
  by_cases hp : p = 0 <;> simp [sPt0, hp, upd, h0, h1]
theorem sPt1_A (s : Sc) (p : Int32) : sPt1 (sPt0 s p) 0 = pA2 (s 0) (s 1) p := by
  unfold sPt1 pA2
  rw [sPt0_A, sPt0_B]
  by_cases hc : pA1 (s 0) p = 4 ∧ pB1 (s 1) p = 4
  · rw [if_pos hc, if_pos hc]; rfl
  · rw [if_neg hc, if_neg hc, sPt0_A]
theorem sPt1_B (s : Sc) (p : Int32) : sPt1 (sPt0 s p) 1 = pB2 (s 0) (s 1) p := by
  unfold sPt1 pB2
  rw [sPt0_A, sPt0_B]
  by_cases hc : pA1 (s 0) p = 4 ∧ pB1 (s 1) p = 4
  · rw [if_pos hc, if_pos hc]; rfl
  · rw [if_neg hc, if_neg hc, sPt0_B]
theorem sPt1_o (s : Sc) (p : Int32) (k : Nat) (hk : 2 ≤ k) : sPt1 (sPt0 s p) k = s k := by
  have h0 : ¬ k = 0 := by omega
  have h1 : ¬ k = 1 := by omega
  unfold sPt1
  by_cases hc : sPt0 s p 0 = 4 ∧ sPt0 s p 1 = 4
  · rw [if_pos hc]
    simp only [upd, h0, h1, if_false]
    exact sPt0_o s p k hk
  · rw [if_neg hc]
    exact sPt0_o s p k hk
theorem sWins_W (s : Sc) (p : Int32) : sWins (sPt1 (sPt0 s p)) p = pW (s 0) (s 1) p := by
  unfold sWins sMine sHis
  rw [sPt1_A, sPt1_B]
theorem pt_fin : ∀ a ∈ l8, ∀ b ∈ l8, ∀ p ∈ [(0 : Int32), 1], ptOK a b → pW a b p = 0 → ptOK (pA2 a b p) (pB2 a b p) := by decide +kernel
theorem hk_fin : ∀ a ∈ [(0 : Int32), 1, 2, 3], ∀ b ∈ [(0 : Int32), 1, 2, 3], ptOK (-a) b := by decide +kernel
theorem l4_of {a : Int32} (h : 0 ≤ a ∧ a ≤ 3) : a ∈ [(0 : Int32), 1, 2, 3] := by
  obtain ⟨k, hk, rfl⟩ := nat_to (n := 3) h.1 h.2 (by decide)
  match k, hk with
  | 0, _ => decide
  | 1, _ => decide
  | 2, _ => decide
  | 3, _ => decide
  | (k + 4), hk => omega
theorem HOK.pt {m : Sc} (h : HOK m) : ptOK (-(m 197)) (m 198) := hk_fin _ (l4_of h.1) _ (l4_of h.2)
theorem p01 {p : Int32} (hp : p = 0 ∨ p = 1) : p ∈ [(0 : Int32), 1] := by rcases hp with rfl | rfl <;> decide
theorem Val_pt {m x : Sc} {p : Int32} (hH : HOK m) (h : ptOK (x 0) (x 1)) (hp : p = 0 ∨ p = 1) : ptOK (rPt m x p 0) (rPt m x p 1) ∧ rPt m x p 2 = x 2 ∧ ((rPt m x p 3 = x 3 ∧ rPt m x p 4 = x 4 ∧ rPt m x p 5 = x 5 ∧ rPt m x p 6 = x 6) ∨ (rPt m x p 3 = 0 ∧ rPt m x p 6 = 0)) := by
  unfold rPt rPtE
  by_cases hw : sWins (sPt1 (sPt0 x p)) p = 0
  · rw [if_pos hw]
    rw [sWins_W] at hw
    rw [sPt1_A, sPt1_B]
    exact ⟨pt_fin _ (pt_l8 h).1 _ (pt_l8 h).2 _ (p01 hp) h hw, sPt1_o x p 2 (by decide), Or.inl ⟨sPt1_o x p 3 (by decide), sPt1_o x p 4 (by decide), sPt1_o x p 5 (by decide), sPt1_o x p 6 (by decide)⟩⟩
  · rw [if_neg hw]
    have e2 : sBump (sPt1 (sPt0 x p)) p 2 = x 2 := by
      have e : sPt1 (sPt0 x p) 2 = x 2 := sPt1_o x p 2 (by decide)
      rcases hp with rfl | rfl
      · rw [sBump_0]; exact e
      · rw [sBump_1]; exact e
    exact ⟨hH.pt, e2, Or.inr ⟨rfl, rfl⟩⟩
theorem Val_ends {m x : Sc} (h : ptOK (x 0) (x 1)) (h2 : x 2 = 0 ∨ x 2 = 1) (h6 : x 6 = 0) (h3 : x 3 = 0 ∨ (x 3 = 1 ∧ lnOK (x 4)) ∨ (x 3 = 2 ∧ lnOK (x 4) ∧ lnOK (x 5))) : Val (rEnds m x) := by
  unfold rEnds
  by_cases h0 : x 3 = 0
  · rw [if_pos h0]
    exact ⟨h, h2, Or.inl ⟨h0, h6⟩⟩
  · rw [if_neg h0]
    have hE : Val (rEnd1 x) := by
      refine ⟨h, one_or h2, ?_⟩
      rcases h3 with h3 | h3 | h3
      · exact absurd h3 h0
      · exact Or.inr (Or.inl ⟨h3.1, h3.2, Or.inr rfl⟩)
      · exact Or.inr (Or.inr ⟨h3.1, h3.2.1, h3.2.2, rfl⟩)
    by_cases hc : x 3 = 2 ∨ m 195 = 1 ∨ (m 195 = 0 ∧ (¬ rWin (x 0) (x 1) = 0 ∨ ¬ rWin (x 1) (x 0) = 0))
    · rw [if_pos hc]
      exact hE
    · rw [if_neg hc]
      refine ⟨h, h2, Or.inr (Or.inl ?_)⟩
      rcases h3 with h3 | h3 | h3
      · exact absurd h3 h0
      · exact ⟨h3.1, h3.2, Or.inl h6⟩
      · exact absurd (Or.inl h3.1) hc
theorem Val_give {m x : Sc} {w : Int32} (hH : HOK m) (hx : Val x) : ptOK (rGive m x w 0) (rGive m x w 1) ∧ rGive m x w 2 = x 2 ∧ ((rGive m x w 3 = x 3 ∧ rGive m x w 4 = x 4 ∧ rGive m x w 5 = x 5 ∧ rGive m x w 6 = x 6) ∨ (rGive m x w 3 = 0 ∧ rGive m x w 6 = 0)) := by
  unfold rGive
  by_cases hw : w = 0
  · rw [if_pos hw]
    exact ⟨hx.1, rfl, Or.inl ⟨rfl, rfl, rfl, rfl⟩⟩
  · rw [if_neg hw]
    exact Val_pt hH hx.1 (rP_or hx.2.1 w)
theorem Val_rRal {m x : Sc} {how : Int32} (hH : HOK m) (hx : Val x) (hh : x 6 = 0 → ¬ how < 2 → lnOK (how - 2)) : Val (rRal m x how) := by
  unfold rRal
  obtain ⟨hp, h2, hc⟩ := id hx
  by_cases h6 : x 6 = 0
  · rw [if_pos h6]
    have K : ptOK (rRal0 m x how 0) (rRal0 m x how 1) ∧ (rRal0 m x how 2 = 0 ∨ rRal0 m x how 2 = 1) ∧ rRal0 m x how 6 = 0 ∧ (rRal0 m x how 3 = 0 ∨ (rRal0 m x how 3 = 1 ∧ lnOK (rRal0 m x how 4)) ∨ (rRal0 m x how 3 = 2 ∧ lnOK (rRal0 m x how 4) ∧ lnOK (rRal0 m x how 5))) := by
      unfold rRal0
      by_cases hw : how < 2
      · rw [if_pos hw]
        obtain ⟨a1, a2, a3⟩ := Val_give (w := rWho m x how) hH hx
        refine ⟨a1, by rw [a2]; exact h2, ?_⟩
        rcases a3 with ⟨b1, b2, b3, b4⟩ | ⟨b1, b2⟩
        · rw [b1, b2, b3, b4]
          refine ⟨h6, ?_⟩
          rcases hc with hc | hc | hc
          · exact Or.inl hc.1
          · exact Or.inr (Or.inl ⟨hc.1, hc.2.1⟩)
          · exact Or.inr (Or.inr ⟨hc.1, hc.2.1, hc.2.2.1⟩)
        · exact ⟨b2, Or.inl b1⟩
      · rw [if_neg hw]
        have hl := hh h6 hw
        rcases hc with hc | hc | hc
        · have e : sAdd x (how - 2) = upd (upd x 4 (how - 2)) 3 1 := by unfold sAdd; rw [if_pos hc.1, hc.1]; rfl
          rw [e]
          exact ⟨hp, h2, h6, Or.inr (Or.inl ⟨rfl, hl⟩)⟩
        · have e : sAdd x (how - 2) = upd (upd x 5 (how - 2)) 3 2 := by unfold sAdd; rw [if_neg (by rw [hc.1]; decide), hc.1]; rfl
          rw [e]
          exact ⟨hp, h2, h6, Or.inr (Or.inr ⟨rfl, hc.2.1, hl⟩)⟩
        · exact absurd (h6.symm.trans hc.2.2.2) (by decide)
    rw [if_pos K.2.2.1]
    exact Val_ends K.1 K.2.1 K.2.2.1 K.2.2.2
  · rw [if_neg h6]
    obtain ⟨a1, a2, a3⟩ := Val_give (w := rWho m x how) hH hx
    unfold rGone
    rcases a3 with ⟨b1, b2, b3, b4⟩ | ⟨b1, b2⟩
    · rw [if_neg (by rw [b4]; exact h6)]
      generalize rGive m x (rWho m x how) = y at *
      rcases hc with hc | hc | hc
      · exact absurd hc.2 h6
      · have e : y 3 - 1 = 0 := by rw [b1, hc.1]; rfl
        rw [e, if_pos (by decide)]
        exact ⟨a1, by show y 2 = 0 ∨ y 2 = 1; rw [a2]; exact h2, Or.inl ⟨rfl, rfl⟩⟩
      · have e : y 3 - 1 = 1 := by rw [b1, hc.1]; rfl
        rw [e, if_neg (by decide)]
        exact ⟨a1, by show y 2 = 0 ∨ y 2 = 1; rw [a2]; exact h2, Or.inr (Or.inl ⟨rfl, by show lnOK (y 5); rw [b3]; exact hc.2.2.1, Or.inr rfl⟩)⟩
    · rw [if_pos b2]
      exact ⟨a1, by rw [a2]; exact h2, Or.inl ⟨b1, b2⟩⟩
/-! numbers -/
theorem a8_fin : ∀ a ∈ l8, ∃ n, n < 8 ∧ a + 3 = nI n ∧ nI n - 3 = a := by
  intro a ha
  have h : ∀ a ∈ l8, ∃ n ∈ [0, 1, 2, 3, 4, 5, 6, 7], n < 8 ∧ a + 3 = nI n ∧ nI n - 3 = a := by decide +kernel
  obtain ⟨n, -, h2⟩ := h a ha
  exact ⟨n, h2⟩
theorem ck_fin1 : ∀ n : Nat, n < 10 → uCh (nI (1 + n)) = 1 ∧ uOff (nI (1 + n)) = 0 ∧ uF (nI (1 + n)) = nI n ∧ uCh (nI (11 + n)) = 1 ∧ uOff (nI (11 + n)) = 1 ∧ uF (nI (11 + n)) = nI n := by decide +kernel
theorem ck_fin2 : ∀ n : Nat, n < 10 → ∀ k : Nat, k < 10 → uCh (nI (21 + 10 * n + k)) = 2 ∧ uOff (nI (21 + 10 * n + k)) = 1 ∧ uF (nI (21 + 10 * n + k)) = nI n ∧ uS (nI (21 + 10 * n + k)) = nI k := by decide +kernel
theorem ck_fin : ∀ c : Nat, c < 121 → chOK (uCh (nI c)) (uF (nI c)) (uS (nI c)) (uOff (nI c)) := by decide +kernel
theorem ck_of {x : Sc} (h : chOK (x 3) (x 4) (x 5) (x 6)) : ∃ c : Nat, c < 121 ∧ rCk x = nI c ∧ uCh (nI c) = x 3 ∧ uOff (nI c) = x 6 ∧ (¬ x 3 = 0 → uF (nI c) = x 4) ∧ (x 3 = 2 → uS (nI c) = x 5) := by
  unfold rCk
  rcases h with ⟨h1, h2⟩ | ⟨h1, h2, h3⟩ | ⟨h1, h2, h3, h4⟩
  · refine ⟨0, by decide, by rw [if_pos h1]; rfl, ?_, ?_, fun z => absurd h1 z, fun z => absurd (h1.symm.trans z) (by decide)⟩
    · rw [h1]; decide
    · rw [h2]; decide
  · obtain ⟨n, hn, e⟩ := nat_to (n := 9) h2.1 h2.2 (by decide)
    obtain ⟨f1, f2, f3, f4, f5, f6⟩ := ck_fin1 n (by omega)
    rw [if_neg (by rw [h1]; decide), if_neg (by rw [h1]; decide), h1, e]
    rcases h3 with h3 | h3
    · refine ⟨1 + n, by omega, ?_, f1, by rw [h3]; exact f2, fun _ => f3, fun z => absurd z (by decide)⟩
      rw [if_neg (by rw [h3]; decide)]
      exact nI_add 1 n
    · refine ⟨11 + n, by omega, ?_, f4, by rw [h3]; exact f5, fun _ => f6, fun z => absurd z (by decide)⟩
      rw [if_pos h3]
      exact nI_add 11 n
  · obtain ⟨n, hn, e⟩ := nat_to (n := 9) h2.1 h2.2 (by decide)
    obtain ⟨k, hk, e2⟩ := nat_to (n := 9) h3.1 h3.2 (by decide)
    obtain ⟨f1, f2, f3, f4⟩ := ck_fin2 n (by omega) k (by omega)
    refine ⟨21 + 10 * n + k, by omega, ?_, by rw [h1]; exact f1, by rw [h4]; exact f2, fun _ => by rw [e]; exact f3, fun _ => by rw [e2]; exact f4⟩
    rw [if_neg (by rw [h1]; decide), if_pos h1, e, e2, show (21 : Int32) + 10 * nI n = nI (21 + 10 * n) from by rw [show (10 : Int32) = nI 10 from by decide, show (21 : Int32) = nI 21 from by decide, pk_mul, nI_add]]
    exact nI_add _ _
/-- the state of a number -/
def U (m : Sc) (k : Int32) : Sc := rUn m (fun _ => 0) k
theorem U_eq (m x : Sc) (k : Int32) : ∀ j, j < 9 → rUn m x k j = U m k j := by
  intro j hj
  match j, hj with
  | 0, _ => rfl
  | 1, _ => rfl
  | 2, _ => rfl
  | 3, _ => rfl
  | 4, _ => rfl
  | 5, _ => rfl
  | 6, _ => rfl
  | 7, _ => rfl
  | 8, _ => rfl
  | (j + 9), hj => omega
theorem nI_div {a d : Nat} {D : Int32} (hD : D = nI d) (ha : a < 2 ^ 31) (h0 : 0 < d) (hd : d < 2 ^ 31) : nI a / D = nI (a / d) := by rw [hD]; exact pk_div ha h0 hd
theorem nI_rem {a d : Nat} {D : Int32} (hD : D = nI d) (ha : a < 2 ^ 31) (h0 : 0 < d) (hd : d < 2 ^ 31) : nI a - nI a / D * D = nI (a % d) := by rw [hD]; exact pk_rem ha h0 hd
theorem U_0 (m : Sc) {j : Nat} (hj : j < 15488) : U m (nI j) 0 = nI (j / 1936) - 3 := by
  show nI j / 1936 - 3 = _
  rw [nI_div (d := 1936) (by decide) (by omega) (by decide) (by decide)]
theorem U_1 (m : Sc) {j : Nat} (hj : j < 15488) : U m (nI j) 1 = nI (j / 242 % 8) - 3 := by
  show nI j / 242 - nI j / 242 / 8 * 8 - 3 = _
  rw [nI_div (d := 242) (by decide) (by omega) (by decide) (by decide), nI_rem (d := 8) (by decide) (by omega) (by decide) (by decide)]
theorem U_2 (m : Sc) {j : Nat} (hj : j < 15488) : U m (nI j) 2 = nI (j / 121 % 2) := by
  show nI j / 121 - nI j / 121 / 2 * 2 = _
  rw [nI_div (d := 121) (by decide) (by omega) (by decide) (by decide), nI_rem (d := 2) (by decide) (by omega) (by decide) (by decide)]
theorem uC_j {j : Nat} (hj : j < 15488) : uC (nI j) = nI (j % 121) := by
  show nI j - nI j / 121 * 121 = _
  rw [nI_rem (d := 121) (by decide) (by omega) (by decide) (by decide)]
theorem U_3 (m : Sc) {j : Nat} (hj : j < 15488) : U m (nI j) 3 = uCh (nI (j % 121)) := by rw [← uC_j hj]; rfl
theorem U_4 (m : Sc) {j : Nat} (hj : j < 15488) : U m (nI j) 4 = uF (nI (j % 121)) := by rw [← uC_j hj]; rfl
theorem U_5 (m : Sc) {j : Nat} (hj : j < 15488) : U m (nI j) 5 = uS (nI (j % 121)) := by rw [← uC_j hj]; rfl
theorem U_6 (m : Sc) {j : Nat} (hj : j < 15488) : U m (nI j) 6 = uOff (nI (j % 121)) := by rw [← uC_j hj]; rfl
theorem can_j {j : Nat} (hj : j < 15488) : rCan (nI j) = if (nI (j / 1936) - 3 < 4 ∨ nI (j / 242 % 8) - 3 = 3) ∧ (nI (j / 242 % 8) - 3 < 4 ∨ nI (j / 1936) - 3 = 3) then 1 else 0 := by
  have e1 := U_0 (fun _ => 0) hj
  have e2 := U_1 (fun _ => 0) hj
  rw [← e1, ← e2]
  rfl
theorem can_fin : ∀ a : Nat, a < 8 → ∀ b : Nat, b < 8 → ((nI a - 3 < 4 ∨ nI b - 3 = 3) ∧ (nI b - 3 < 4 ∨ nI a - 3 = 3) ↔ ptOK (nI a - 3) (nI b - 3)) := by decide +kernel
theorem U_Val (m : Sc) {j : Nat} (hj : j < 15488) (hc : ¬ rCan (nI j) = 0) : Val (U m (nI j)) := by
  refine ⟨?_, ?_, ?_⟩
  · rw [U_0 m hj, U_1 m hj]
    refine (can_fin _ (by omega) _ (by omega)).mp ?_
    rw [can_j hj] at hc
    by_cases h : (nI (j / 1936) - 3 < 4 ∨ nI (j / 242 % 8) - 3 = 3) ∧ (nI (j / 242 % 8) - 3 < 4 ∨ nI (j / 1936) - 3 = 3)
    · exact h
    · rw [if_neg h] at hc; exact absurd rfl hc
  · rw [U_2 m hj]
    have h : j / 121 % 2 = 0 ∨ j / 121 % 2 = 1 := by omega
    rcases h with h | h <;> rw [h] <;> decide
  · rw [U_3 m hj, U_4 m hj, U_5 m hj, U_6 m hj]
    exact ck_fin _ (by omega)
/-- states alike where one looks -/
def Alk (x y : Sc) : Prop := x 0 = y 0 ∧ x 1 = y 1 ∧ x 2 = y 2 ∧ x 3 = y 3 ∧ x 6 = y 6 ∧ (¬ x 3 = 0 → x 4 = y 4) ∧ (x 3 = 2 → x 5 = y 5)
theorem num_of {m x : Sc} (hx : Val x) : ∃ j : Nat, j < 15488 ∧ rNum x = nI j ∧ ¬ rCan (nI j) = 0 ∧ Alk (U m (nI j)) x := by
  obtain ⟨hp, h2, hc⟩ := id hx
  obtain ⟨a, ha, ea, ea'⟩ := a8_fin _ (pt_l8 hp).1
  obtain ⟨b, hb, eb, eb'⟩ := a8_fin _ (pt_l8 hp).2
  obtain ⟨c, hc1, ec, c1, c2, c3, c4⟩ := ck_of hc
  obtain ⟨s, hs, es⟩ : ∃ s : Nat, s < 2 ∧ x 2 = nI s := by
    rcases h2 with h | h
    · exact ⟨0, by decide, h⟩
    · exact ⟨1, by decide, h⟩
  have hj : (a * 8 + b) * 242 + 121 * s + c < 15488 := by omega
  have d1 : ((a * 8 + b) * 242 + 121 * s + c) / 1936 = a := by omega
  have d2 : ((a * 8 + b) * 242 + 121 * s + c) / 242 % 8 = b := by omega
  have d3 : ((a * 8 + b) * 242 + 121 * s + c) / 121 % 2 = s := by omega
  have d4 : ((a * 8 + b) * 242 + 121 * s + c) % 121 = c := by omega
  refine ⟨(a * 8 + b) * 242 + 121 * s + c, hj, ?_, ?_, ?_⟩
  · unfold rNum
    rw [ea, ec, es, show (8 : Int32) = nI 8 from by decide, pk_mul, Int32.add_assoc (nI (a * 8)), eb, nI_add, show (242 : Int32) = nI 242 from by decide, pk_mul, show (121 : Int32) = nI 121 from by decide, pk_mul, nI_add, nI_add]
  · rw [can_j hj, d1, d2, if_pos ((can_fin a ha b hb).mpr (by rw [ea', eb']; exact hp))]
    decide
  · unfold Alk
    rw [U_0 m hj, U_1 m hj, U_2 m hj, U_3 m hj, U_4 m hj, U_5 m hj, U_6 m hj, d1, d2, d3, d4]
    exact ⟨ea', eb', es.symm, c1, c2, fun h => c3 (by rw [← c1]; exact h), fun h => c4 (by rw [← c1]; exact h)⟩

