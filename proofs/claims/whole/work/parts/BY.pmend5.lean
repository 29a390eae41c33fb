/-! ===== mends: what a rally does, in few words ===== -/
def loff (m : Sc) (a b : Int32) : Int32 := if m 195 = 1 ∨ (m 195 = 0 ∧ (¬ rWin a b = 0 ∨ ¬ rWin b a = 0)) then 1 else 0
def Pt0 (x y : Sc) : Prop := y 0 = x 0 ∧ y 1 = x 1 ∧ y 7 = x 7 ∧ y 8 = x 8
def Pt1 (m x y : Sc) : Prop := ∃ p : Int32, (p = 0 ∨ p = 1) ∧ Pt0 (rPt m x p) y
theorem ends_o (m x : Sc) (k : Nat) (h2 : ¬ k = 2) (h6 : ¬ k = 6) : rEnds m x k = x k := by
  unfold rEnds
  split
  · rfl
  · split
    · unfold rEnd1; simp only [upd_at, if_neg h2, if_neg h6]
    · rfl
theorem gone_o (x : Sc) (k : Nat) (h3 : ¬ k = 3) (h4 : ¬ k = 4) (h6 : ¬ k = 6) : rGone x k = x k := by
  unfold rGone
  split
  · rfl
  · simp only [upd_at, if_neg h3, if_neg h4, if_neg h6]
theorem ends_6 (m : Sc) {y : Sc} (h3 : y 3 = 1) (h6 : y 6 = 0) : rEnds m y 6 = loff m (y 0) (y 1) := by
  unfold rEnds loff
  rw [if_neg (by rw [h3]; decide)]
  by_cases h : m 195 = 1 ∨ (m 195 = 0 ∧ (¬ rWin (y 0) (y 1) = 0 ∨ ¬ rWin (y 1) (y 0) = 0))
  · rw [if_pos (Or.inr h), if_pos h]; rfl
  · rw [if_neg (fun z => by
      rcases z with z | z
      · rw [h3] at z; exact absurd z (by decide)
      · exact h z), if_neg h]
    exact h6
theorem ral_shape {m x : Sc} {how : Int32} (hH : HOK m) (hx : Val x) :
    (x 6 = 0 ∧ how < 2 ∧ Pt1 m x (rRal m x how) ∧ (rRal m x how 3 = 0 ∨ (x 3 = 1 ∧ rRal m x how 3 = 1 ∧ rRal m x how 4 = x 4)))
    ∨ (x 6 = 0 ∧ ¬ how < 2 ∧ Pt0 x (rRal m x how) ∧ ((x 3 = 0 ∧ rRal m x how 3 = 1 ∧ rRal m x how 4 = how - 2 ∧ rRal m x how 6 = loff m (x 0) (x 1)) ∨ (x 3 = 1 ∧ rRal m x how 3 = 2 ∧ rRal m x how 4 = x 4 ∧ rRal m x how 5 = how - 2)))
    ∨ (x 6 = 1 ∧ (Pt0 x (rRal m x how) ∨ Pt1 m x (rRal m x how)) ∧ ((rRal m x how 3 = 0 ∧ ¬ x 3 = 0) ∨ (x 3 = 2 ∧ rRal m x how 3 = 1 ∧ rRal m x how 4 = x 5 ∧ rRal m x how 6 = 1))) := by
  obtain ⟨hp, h2, hc⟩ := id hx
  unfold rRal
  by_cases h6 : x 6 = 0
  · rw [if_pos h6]
    by_cases hw : how < 2
    · left
      have hw0 : ¬ rWho m x how = 0 := by
        unfold rWho
        rw [if_pos hw]
        split <;> decide
      have e0 : rRal0 m x how = rPt m x (rP x (rWho m x how)) := by
        unfold rRal0 rGive
        rw [if_pos hw, if_neg hw0]
      have hpp := rP_or h2 (rWho m x how)
      rw [e0]
      generalize rP x (rWho m x how) = p at *
      obtain ⟨_, _, v⟩ := Val_pt hH hp hpp
      have y6 : rPt m x p 6 = 0 := by
        rcases v with ⟨_, _, _, v⟩ | ⟨_, v⟩
        · rw [v, h6]
        · exact v
      rw [if_pos y6]
      refine ⟨h6, hw, ⟨p, hpp, ends_o _ _ 0 (by decide) (by decide), ends_o _ _ 1 (by decide) (by decide), ends_o _ _ 7 (by decide) (by decide), ends_o _ _ 8 (by decide) (by decide)⟩, ?_⟩
      rw [ends_o _ _ 3 (by decide) (by decide), ends_o _ _ 4 (by decide) (by decide)]
      rcases v with ⟨v3, v4, v5, v6⟩ | ⟨v3, v6⟩
      · rw [v3, v4]
        rcases hc with c | c | c
        · exact Or.inl c.1
        · exact Or.inr ⟨c.1, c.1, rfl⟩
        · exact absurd (h6.symm.trans c.2.2.2) (by decide)
      · exact Or.inl v3
    · right; left
      have e0 : rRal0 m x how = sAdd x (how - 2) := by unfold rRal0; rw [if_neg hw]
      rw [e0]
      rcases hc with c | c | c
      · have e : sAdd x (how - 2) = upd (upd x 4 (how - 2)) 3 1 := by unfold sAdd; rw [if_pos c.1, c.1]; rfl
        have e6 : upd (upd x 4 (how - 2)) 3 1 6 = 0 := h6
        rw [e, if_pos e6]
        refine ⟨h6, hw, ⟨ends_o _ _ 0 (by decide) (by decide), ends_o _ _ 1 (by decide) (by decide), ends_o _ _ 7 (by decide) (by decide), ends_o _ _ 8 (by decide) (by decide)⟩, Or.inl ⟨c.1, ?_, ?_, ?_⟩⟩
        · rw [ends_o _ _ 3 (by decide) (by decide)]; rfl
        · rw [ends_o _ _ 4 (by decide) (by decide)]; rfl
        · exact ends_6 m (y := upd (upd x 4 (how - 2)) 3 1) rfl h6
      · have e : sAdd x (how - 2) = upd (upd x 5 (how - 2)) 3 2 := by unfold sAdd; rw [if_neg (by rw [c.1]; decide), c.1]; rfl
        have e6 : upd (upd x 5 (how - 2)) 3 2 6 = 0 := h6
        rw [e, if_pos e6]
        refine ⟨h6, hw, ⟨ends_o _ _ 0 (by decide) (by decide), ends_o _ _ 1 (by decide) (by decide), ends_o _ _ 7 (by decide) (by decide), ends_o _ _ 8 (by decide) (by decide)⟩, Or.inr ⟨c.1, ?_, ?_, ?_⟩⟩
        · rw [ends_o _ _ 3 (by decide) (by decide)]; rfl
        · rw [ends_o _ _ 4 (by decide) (by decide)]; rfl
        · rw [ends_o _ _ 5 (by decide) (by decide)]; rfl
      · exact absurd (h6.symm.trans c.2.2.2) (by decide)
  · right; right
    have h61 : x 6 = 1 := by
      rcases hc with c | c | c
      · exact absurd c.2 h6
      · exact c.2.2.resolve_left h6
      · exact c.2.2.2
    rw [if_neg h6]
    generalize rWho m x how = w
    obtain ⟨_, _, v⟩ := Val_give (w := w) hH hx
    have hpt : Pt0 x (rGive m x w) ∨ Pt1 m x (rGive m x w) := by
      unfold rGive
      by_cases hw : w = 0
      · rw [if_pos hw]; exact Or.inl ⟨rfl, rfl, rfl, rfl⟩
      · rw [if_neg hw]; exact Or.inr ⟨_, rP_or h2 w, rfl, rfl, rfl, rfl⟩
    generalize rGive m x w = y at *
    have g0 := gone_o y 0 (by decide) (by decide) (by decide)
    have g1 := gone_o y 1 (by decide) (by decide) (by decide)
    have g7 := gone_o y 7 (by decide) (by decide) (by decide)
    have g8 := gone_o y 8 (by decide) (by decide) (by decide)
    refine ⟨h61, ?_, ?_⟩
    · rcases hpt with ⟨a, b, c, d⟩ | ⟨p, hpp, a, b, c, d⟩
      · exact Or.inl ⟨g0.trans a, g1.trans b, g7.trans c, g8.trans d⟩
      · exact Or.inr ⟨p, hpp, g0.trans a, g1.trans b, g7.trans c, g8.trans d⟩
    · unfold rGone
      rcases v with ⟨v3, v4, v5, v6⟩ | ⟨v3, v6⟩
      · rw [if_neg (by rw [v6]; exact h6)]
        rcases hc with c | c | c
        · exact absurd c.2 h6
        · refine Or.inl ⟨?_, by rw [c.1]; decide⟩
          show y 3 - 1 = 0
          rw [v3, c.1]; rfl
        · have e : y 3 - 1 = 1 := by rw [v3, c.1]; rfl
          refine Or.inr ⟨c.1, e, v5, ?_⟩
          show (if y 3 - 1 ≤ 0 then (0 : Int32) else 1) = 1
          rw [e]; decide
      · rw [if_pos v6]
        refine Or.inl ⟨v3, fun z => ?_⟩
        rcases hc with c | c | c
        · exact h6 c.2
        · rw [c.1] at z; exact absurd z (by decide)
        · rw [c.1] at z; exact absurd z (by decide)
/-! ===== points, in natural numbers ===== -/
def aN (x : Sc) : Nat := (x 0 + 3).toNatClampNeg
def bN (x : Sc) : Nat := (x 1 + 3).toNatClampNeg
def gzN (x : Sc) : Nat := (x 7).toNatClampNeg
def zN (x : Sc) : Nat := (x 8).toNatClampNeg
def chz (x : Sc) : Nat := (x 3).toNatClampNeg
theorem p_fin0 : ∀ a ∈ l8, ∀ b ∈ l8, ∀ p ∈ [(0 : Int32), 1], ptOK a b → pW a b p = 0 → (pA2 a b p + 3).toNatClampNeg + (pB2 a b p + 3).toNatClampNeg ≤ (a + 3).toNatClampNeg + (b + 3).toNatClampNeg + 1 ∧ ((a + 3).toNatClampNeg ≤ (pA2 a b p + 3).toNatClampNeg ∨ 6 ≤ (pA2 a b p + 3).toNatClampNeg) ∧ ((b + 3).toNatClampNeg ≤ (pB2 a b p + 3).toNatClampNeg ∨ 6 ≤ (pB2 a b p + 3).toNatClampNeg) := by decide +kernel
theorem p_fin1 : ∀ a ∈ l8, ∀ b ∈ l8, ptOK a b → (¬ pW a b 0 = 0 → 6 ≤ (a + 3).toNatClampNeg ∧ (b + 3).toNatClampNeg + 1 ≤ (a + 3).toNatClampNeg) ∧ (¬ pW a b 1 = 0 → 6 ≤ (b + 3).toNatClampNeg ∧ (a + 3).toNatClampNeg + 1 ≤ (b + 3).toNatClampNeg) := by decide +kernel
theorem h_fin : ∀ a ∈ [(0 : Int32), 1, 2, 3], (-a + 3).toNatClampNeg + a.toNatClampNeg = 3 ∧ (a + 3).toNatClampNeg = 3 + a.toNatClampNeg ∧ a.toNatClampNeg ≤ 3 := by decide +kernel
def c0N (o gv : Nat) : Nat := if gv = 3 then 5 + o else 4 + o
def c1N (gv : Nat) : Nat := 4 - gv
/-- the fewest points of so many games, the first of them begun -/
def bs (c d : Nat) : Nat → Nat → Nat
  | 0, 0 => 0
  | 0, j + 1 => 1 + d * j
  | i + 1, 0 => 1 + c * i
  | i + 1, j + 1 => 1 + c * i + d * j + min c d
theorem bs_l (c d : Nat) : ∀ i j, ¬ (i = 0 ∧ j = 0) → bs c d (i + 1) j ≤ bs c d i j + c
  | 0, 0, h => absurd ⟨rfl, rfl⟩ h
  | 0, j + 1, _ => by rw [bs, bs]; have := Nat.min_le_left c d; omega
  | i + 1, 0, _ => by rw [bs, bs, Nat.mul_succ]; omega
  | i + 1, j + 1, _ => by rw [bs, bs, Nat.mul_succ]; omega
theorem bs_r (c d : Nat) : ∀ i j, ¬ (i = 0 ∧ j = 0) → bs c d i (j + 1) ≤ bs c d i j + d
  | 0, 0, h => absurd ⟨rfl, rfl⟩ h
  | 0, j + 1, _ => by rw [bs, bs, Nat.mul_succ]; omega
  | i + 1, 0, _ => by rw [bs, bs]; have := Nat.min_le_right c d; omega
  | i + 1, j + 1, _ => by rw [bs, bs, Nat.mul_succ]; omega
def PT (o gv g0 h0 g h A B n : Nat) : Prop := (g = g0 ∧ h = h0) ∨ (∃ i j, ¬ (i = 0 ∧ j = 0) ∧ g = g0 + i ∧ h = h0 + j ∧ 3 ≤ A + o ∧ 3 + gv ≤ B ∧ bs (c0N o gv) (c1N gv) i j + (A + o - 3) + (B - 3 - gv) ≤ n)
theorem PT.mono {o gv g0 h0 g h A B n k : Nat} (hk : n ≤ k) (H : PT o gv g0 h0 g h A B n) : PT o gv g0 h0 g h A B k := by
  rcases H with H | ⟨i, j, a, b, c, d, e, f⟩
  · exact Or.inl H
  · exact Or.inr ⟨i, j, a, b, c, d, e, by omega⟩
theorem gzN_1 {x : Sc} {a : Nat} (ha : a ≤ 6) (e : x 7 = nI a) : gzN x = a := by unfold gzN; rw [e, nI_clamp (by omega)]
theorem zN_1 {x : Sc} {a : Nat} (ha : a ≤ 6) (e : x 8 = nI a) : zN x = a := by unfold zN; rw [e, nI_clamp (by omega)]
theorem PT.pt {m x : Sc} {p : Int32} {o gv g0 h0 n : Nat} (hH : HOK m) (eo : o = (m 197).toNatClampNeg) (eg : gv = (m 198).toNatClampNeg) (hx : VG x) (hp : p = 0 ∨ p = 1) (H : PT o gv g0 h0 (gzN x) (zN x) (aN x) (bN x) n) : PT o gv g0 h0 (gzN (rPt m x p)) (zN (rPt m x p)) (aN (rPt m x p)) (bN (rPt m x p)) (n + 1) := by
  obtain ⟨⟨hpt, _, _⟩, ⟨a, ha, ea⟩, ⟨b, hb, eb⟩⟩ := hx
  obtain ⟨la, lb⟩ := pt_l8 hpt
  obtain ⟨f1, _, f3⟩ := h_fin _ (l4_of hH.1)
  obtain ⟨_, k2, k3⟩ := h_fin _ (l4_of hH.2)
  rw [← eo] at f1 f3
  rw [← eg] at k2 k3
  rw [gzN_1 ha ea, zN_1 hb eb] at H
  unfold rPt rPtE
  by_cases hw : sWins (sPt1 (sPt0 x p)) p = 0
  · rw [if_pos hw]
    rw [sWins_W] at hw
    obtain ⟨q1, q2, q3⟩ := p_fin0 _ la _ lb _ (p01 hp) hpt hw
    have e7 : gzN (sPt1 (sPt0 x p)) = a := gzN_1 ha ((sPt1_o x p 7 (by decide)).trans ea)
    have e8 : zN (sPt1 (sPt0 x p)) = b := zN_1 hb ((sPt1_o x p 8 (by decide)).trans eb)
    have e0 : aN (sPt1 (sPt0 x p)) = (pA2 (x 0) (x 1) p + 3).toNatClampNeg := by unfold aN; rw [sPt1_A]
    have e1 : bN (sPt1 (sPt0 x p)) = (pB2 (x 0) (x 1) p + 3).toNatClampNeg := by unfold bN; rw [sPt1_B]
    rw [e7, e8, e0, e1]
    rcases H with H | ⟨i, j, z1, z2, z3, z4, z5, z6⟩
    · exact Or.inl H
    · unfold aN at z4 z6
      unfold bN at z5 z6
      exact Or.inr ⟨i, j, z1, z2, z3, by omega, by omega, by omega⟩
  · rw [if_neg hw]
    rw [sWins_W] at hw
    obtain ⟨q1, q2⟩ := p_fin1 _ la _ lb hpt
    have e0 : aN (rRestart m (sBump (sPt1 (sPt0 x p)) p)) = (-(m 197) + 3).toNatClampNeg := rfl
    have e1 : bN (rRestart m (sBump (sPt1 (sPt0 x p)) p)) = (m 198 + 3).toNatClampNeg := rfl
    rw [e0, e1]
    rcases hp with hp | hp
    · subst hp
      obtain ⟨r1, r2⟩ := q1 hw
      have e7 : gzN (rRestart m (sBump (sPt1 (sPt0 x 0)) 0)) = a + 1 := by
        unfold gzN
        show (sPt1 (sPt0 x 0) 7 + 1).toNatClampNeg = a + 1
        rw [sPt1_o x 0 7 (by decide), ea, nI_1, nI_clamp (by omega)]
      have e8 : zN (rRestart m (sBump (sPt1 (sPt0 x 0)) 0)) = b := by
        unfold zN
        show (sPt1 (sPt0 x 0) 8).toNatClampNeg = b
        rw [sPt1_o x 0 8 (by decide), eb, nI_clamp (by omega)]
      rw [e7, e8]
      rcases H with ⟨H1, H2⟩ | ⟨i, j, z1, z2, z3, z4, z5, z6⟩
      · refine Or.inr ⟨1, 0, by simp, by omega, by omega, by omega, by omega, ?_⟩
        rw [bs, Nat.mul_zero]
        omega
      · refine Or.inr ⟨i + 1, j, by omega, by omega, by omega, by omega, by omega, ?_⟩
        have hb1 := bs_l (c0N o gv) (c1N gv) i j z1
        have hc : c0N o gv + 3 + 3 + gv ≤ 1 + (aN x + o) + bN x := by
          unfold aN bN at *
          unfold c0N
          split <;> omega
        omega
    · subst hp
      obtain ⟨r1, r2⟩ := q2 hw
      have e7 : gzN (rRestart m (sBump (sPt1 (sPt0 x 1)) 1)) = a := by
        unfold gzN
        show (sPt1 (sPt0 x 1) 7).toNatClampNeg = a
        rw [sPt1_o x 1 7 (by decide), ea, nI_clamp (by omega)]
      have e8 : zN (rRestart m (sBump (sPt1 (sPt0 x 1)) 1)) = b + 1 := by
        unfold zN
        show (sPt1 (sPt0 x 1) 8 + 1).toNatClampNeg = b + 1
        rw [sPt1_o x 1 8 (by decide), eb, nI_1, nI_clamp (by omega)]
      rw [e7, e8]
      rcases H with ⟨H1, H2⟩ | ⟨i, j, z1, z2, z3, z4, z5, z6⟩
      · refine Or.inr ⟨0, 1, by simp, by omega, by omega, by omega, by omega, ?_⟩
        rw [bs, Nat.mul_zero]
        omega
      · refine Or.inr ⟨i, j + 1, by omega, by omega, by omega, by omega, by omega, ?_⟩
        have hb1 := bs_r (c0N o gv) (c1N gv) i j z1
        have hc : c1N gv + 3 + 3 + gv ≤ 1 + (aN x + o) + bN x := by
          unfold aN bN at *
          unfold c1N
          omega
        omega

