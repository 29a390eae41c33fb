/-! ===== what an outcome leads to: class and reference ===== -/
/-- who wins the game if the point goes to who (0 nobody, 1 the server, 2 the striker), or -1 -/
def wnW (x : Sc) (w : Int32) : Int32 := if w = 0 then -1 else if sWins (sPt1 (sPt0 x (rP x w))) (rP x w) = 0 then -1 else rP x w
theorem rWn_W (m x : Sc) (how : Int32) : rWn m x how = wnW x (rWho m x how) := rfl
theorem rP01 {x : Sc} (h2 : x 2 = 0 ∨ x 2 = 1) (w : Int32) : rP x w = 0 ∨ rP x w = 1 := by
  unfold rP
  rcases h2 with h | h <;> rw [h] <;> by_cases hw : w = 1 <;> simp [hw]
theorem wnW_or {x : Sc} (h2 : x 2 = 0 ∨ x 2 = 1) (w : Int32) : wnW x w = -1 ∨ wnW x w = 0 ∨ wnW x w = 1 := by
  unfold wnW
  by_cases h : w = 0
  · rw [if_pos h]; exact Or.inl rfl
  · rw [if_neg h]
    by_cases h1 : sWins (sPt1 (sPt0 x (rP x w))) (rP x w) = 0
    · rw [if_pos h1]; exact Or.inl rfl
    · rw [if_neg h1]; exact Or.inr (rP01 h2 w)
theorem rGive_gm {m x : Sc} (h2 : x 2 = 0 ∨ x 2 = 1) (w : Int32) : rGive m x w 7 = (if wnW x w = 0 then x 7 + 1 else x 7) ∧ rGive m x w 8 = (if wnW x w = 1 then x 8 + 1 else x 8) := by
  unfold rGive wnW
  by_cases h : w = 0
  · rw [if_pos h, if_pos h]; simp
  · rw [if_neg h, if_neg h]
    have hp := rP01 h2 w
    generalize rP x w = p at *
    unfold rPt rPtE
    have t7 := sPt1_o x p 7 (by decide)
    have t8 := sPt1_o x p 8 (by decide)
    generalize sPt1 (sPt0 x p) = t at *
    by_cases h1 : sWins t p = 0
    · rw [if_pos h1, if_pos h1, t7, t8]; simp
    · rw [if_neg h1, if_neg h1]
      unfold rRestart sBump
      rcases hp with rfl | rfl
      · simp only [if_pos rfl]
        simp [upd_at, t7, t8]
      · rw [if_neg (by decide)]
        simp [upd_at, t7, t8]
theorem rEnds_gm {m x : Sc} : rEnds m x 7 = x 7 ∧ rEnds m x 8 = x 8 := by
  unfold rEnds
  split
  · exact ⟨rfl, rfl⟩
  · split
    · unfold rEnd1; simp [upd_at]
    · exact ⟨rfl, rfl⟩
theorem rGone_gm {x : Sc} : rGone x 7 = x 7 ∧ rGone x 8 = x 8 := by
  unfold rGone
  split
  · exact ⟨rfl, rfl⟩
  · simp [upd_at]
theorem sAdd_gm {x : Sc} {v : Int32} : sAdd x v 7 = x 7 ∧ sAdd x v 8 = x 8 := by
  unfold sAdd
  split <;> simp [upd_at]
theorem rRal_gm {m x : Sc} (h2 : x 2 = 0 ∨ x 2 = 1) (how : Int32) : rRal m x how 7 = (if rWn m x how = 0 then x 7 + 1 else x 7) ∧ rRal m x how 8 = (if rWn m x how = 1 then x 8 + 1 else x 8) := by
  rw [rWn_W]
  unfold rRal
  by_cases h6 : x 6 = 0
  · rw [if_pos h6]
    have key : rRal0 m x how 7 = (if wnW x (rWho m x how) = 0 then x 7 + 1 else x 7) ∧ rRal0 m x how 8 = (if wnW x (rWho m x how) = 1 then x 8 + 1 else x 8) := by
      unfold rRal0
      by_cases hh : how < 2
      · rw [if_pos hh]; exact rGive_gm h2 _
      · rw [if_neg hh]
        have hw : rWho m x how = 0 := by unfold rWho; rw [if_neg hh, if_pos h6]
        have hn : wnW x 0 = -1 := by unfold wnW; rw [if_pos rfl]
        rw [hw, hn]
        simp [sAdd_gm]
    by_cases h : rRal0 m x how 6 = 0
    · rw [if_pos h]
      rw [rEnds_gm.1, rEnds_gm.2]; exact key
    · rw [if_neg h]; exact key
  · rw [if_neg h6]
    rw [rGone_gm.1, rGone_gm.2]; exact rGive_gm h2 _
/-- which ends of a game count -/
def CntO (cnt p th : Int32) : Prop := ∀ wn v : Nat, wn ≤ 1 → v ≤ 1 → eV cnt (2 * wn + v) = if nI wn = p ∧ (th = -1 ∨ nI v = th) then 1000000000 else 0
theorem nI_plus1 {a : Nat} (h : a ≤ 6) : nI a < nI a + 1 := by rw [nI_1]; exact nI_lt (by omega) (by omega)
theorem tgt_val {m sf sb x y : Sc} {cnt p th wn : Int32} {f : Int32 → Int32} {a b : Nat} (h : SA m sf x) (hb : SA m sb y) (hy : Val y) (hx7 : x 7 = nI a) (ha : a ≤ 6) (hx8 : x 8 = nI b) (hb6 : b ≤ 6) (hwn : wn = -1 ∨ wn = 0 ∨ wn = 1) (h7 : y 7 = if wn = 0 then x 7 + 1 else x 7) (h8 : y 8 = if wn = 1 then x 8 + 1 else x 8) (hc : CntO cnt p th) : rvT cnt f (tgt sf sb) = if wn = -1 then f (rNum y) else if wn = p ∧ (th = -1 ∨ y 2 = th) then 1000000000 else 0 := by
  obtain ⟨v, hv1, hv2⟩ : ∃ v : Nat, v ≤ 1 ∧ y 2 = nI v := by
    rcases hy.2.1 with e | e
    · exact ⟨0, by decide, by rw [e]; decide⟩
    · exact ⟨1, by decide, by rw [e]; decide⟩
  have e2 : (sb 2).toNatClampNeg = v := by rw [hb.1.2.2.1, hv2]; exact nI_clamp (by omega)
  unfold tgt
  rw [h.2.1, h.2.2.1, hb.2.1, hb.2.2.1, e2]
  rcases hwn with rfl | rfl | rfl
  · rw [if_neg (show ¬ (-1 : Int32) = 0 by decide)] at h7
    rw [if_neg (show ¬ (-1 : Int32) = 1 by decide)] at h8
    rw [h7, h8, if_neg (fun g => Int32.lt_irrefl g), if_neg (fun g => Int32.lt_irrefl g), if_pos rfl]
    show f (sCode sb) = _
    rw [code_eq hb.1 hy]
  · rw [if_pos rfl] at h7
    rw [h7, if_pos (by rw [hx7]; exact nI_plus1 ha), if_neg (show ¬ (0 : Int32) = -1 by decide)]
    show eV cnt v = _
    have := hc 0 v (by decide) hv1
    rw [show 2 * 0 + v = v by omega, show nI 0 = (0 : Int32) by decide] at this
    rw [this, hv2]
  · rw [if_neg (show ¬ (1 : Int32) = 0 by decide)] at h7
    rw [if_pos rfl] at h8
    rw [h7, h8, if_neg (fun g => Int32.lt_irrefl g), if_pos (by rw [hx8]; exact nI_plus1 hb6), if_neg (show ¬ (1 : Int32) = -1 by decide)]
    show eV cnt (2 + v) = _
    have := hc 1 v (by decide) hv1
    rw [show 2 * 1 + v = 2 + v by omega, show nI 1 = (1 : Int32) by decide] at this
    rw [this, hv2]
/-- what an outcome is worth, by a table of the scores -/
def RT (m tb : Sc) (p th : Int32) (x : Sc) (how : Int32) : Int32 := if rWn m x how = -1 then tb (rNum (rRal m x how)).toNatClampNeg else if rWn m x how = p ∧ (th = -1 ∨ rRal m x how 2 = th) then 1000000000 else 0
theorem hdT_RT (m tb : Sc) (p th : Int32) (j s h w : Nat) : hdT m tb p th j s h w = (hdC m s h w).toInt64 * (RT m tb p th (U m (nI j)) (nI w)).toInt64 := by
  unfold hdT RT
  by_cases h0 : hdC m s h w = 0
  · rw [if_pos h0, h0, show (0 : Int32).toInt64 = 0 by decide, Int64.zero_mul]
  · rw [if_neg h0]
    by_cases h1 : rWn m (U m (nI j)) (nI w) = -1
    · rw [if_pos h1, if_pos h1]
    · rw [if_neg h1, if_neg h1]
      by_cases h2 : rWn m (U m (nI j)) (nI w) = p ∧ (th = -1 ∨ rRal m (U m (nI j)) (nI w) 2 = th)
      · rw [if_pos h2, if_pos h2, show (1000000000 : Int32).toInt64 = 1000000000 by decide]
      · rw [if_neg h2, if_neg h2, show (0 : Int32).toInt64 = 0 by decide, Int64.mul_zero]
theorem hdS_sm (m tb : Sc) (p th : Int32) (j s h : Nat) : ∀ n, hdS m tb p th j s h n = sm9 (fun w => (hdC m s h w).toInt64 * (RT m tb p th (U m (nI j)) (nI w)).toInt64) n
  | 0 => rfl
  | n + 1 => by rw [hdS, sm9, hdS_sm m tb p th j s h n, hdT_RT]
/-- with a chase played off: the worth of a point for who -/
def RW (m tb : Sc) (p th : Int32) (x : Sc) (w : Int32) : Int32 := if wnW x w = -1 then tb (rNum (rGone (rGive m x w))).toNatClampNeg else if wnW x w = p ∧ (th = -1 ∨ rGone (rGive m x w) 2 = th) then 1000000000 else 0
theorem RT_RW {m tb : Sc} {p th : Int32} {x : Sc} {how : Int32} (h6 : ¬ x 6 = 0) : RT m tb p th x how = RW m tb p th x (rWho m x how) := by
  unfold RT RW
  rw [rWn_W]
  have e : rRal m x how = rGone (rGive m x (rWho m x how)) := by unfold rRal; rw [if_neg h6]
  rw [e]

