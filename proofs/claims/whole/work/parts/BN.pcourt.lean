/-! ===== court: class = reference ===== -/
def CoM (m i ch : Sc) : Prop := (∀ j, j < 192 → ch j = m j) ∧ i 1 = m 194 ∧ i 2 = m 195 ∧ i 3 = m 196
def CoV (m : Sc) : Prop := (∀ j, j < 192 → ∃ v : Nat, v ≤ 100 ∧ m j = nI v) ∧ (∃ v : Nat, 1 ≤ v ∧ v ≤ 6 ∧ m 194 = nI v) ∧ (∃ v : Nat, v ≤ 2 ∧ m 195 = nI v) ∧ (∃ v : Nat, v ≤ 1 ∧ m 196 = nI v)
def CoK (m M : Sc) : Prop := ∀ j, 192 ≤ j → (j < 194 ∨ 196 < j) → M j = m j
theorem CoK.rf (m : Sc) : CoK m m := fun _ _ _ => rfl
theorem psB_p {L : List Tok} {e k : Nat} {v : Int32} (h : isT L e k v) : psB L e k v = 1 ∧ psK L e k v = k + 1 := by unfold psB psK; rw [if_pos h, if_pos h]; exact ⟨rfl, rfl⟩
theorem psB_n {L : List Tok} {e k : Nat} {v : Int32} (h : ¬ isT L e k v) : psB L e k v = 0 ∧ psK L e k v = k := by unfold psB psK; rw [if_neg h, if_neg h]; exact ⟨rfl, rfl⟩
theorem pn_p {L : List Tok} {e k : Nat} {lo hi : Int32} (h : isN L e k lo hi) : pnV L e k lo hi = (tA L e k).2.2 ∧ pnK L e k lo hi = k + 1 := by unfold pnV pnK; rw [if_pos h, if_pos h]; exact ⟨rfl, rfl⟩
theorem pn_n {L : List Tok} {e k : Nat} {lo hi : Int32} (h : ¬ isN L e k lo hi) : pnV L e k lo hi = -1 ∧ pnK L e k lo hi = k := by unfold pnV pnK; rw [if_neg h, if_neg h]; exact ⟨rfl, rfl⟩
theorem fgF_g {T : Sc} {e n : Nat} {f lo hi : Int32} (h : ¬ f = -1) : fgF T e n f lo hi = f := by unfold fgF; rw [if_neg h]
theorem AtP.nv {T : Sc} {e n k : Nat} {L : List Tok} (hB : TkB T e L) (h : AtP T e L n k) (a b : Nat) (ha : a ≤ 999) (hb : b ≤ 999) (h1 : isN L e k (nI a) (nI b)) : ∃ v : Nat, a ≤ v ∧ v ≤ b ∧ (tA L e k).2.2 = nI v ∧ figV T e n = nI v ∧ AtP T e L (figE T e n) (k + 1) ∧ ¬ (nI v : Int32) = -1 := by
  obtain ⟨⟨v, hv, ev⟩, g1, g2⟩ := h.numS hB (nI a) (nI b) (by rw [show (999 : Int32) = nI 999 by decide]; exact nI_le hb (by decide)) h1
  have h2 := h1.2
  rw [ev] at h2
  have h3 : v ≤ b := (nI_leI (by omega) (by omega)).mp h2.2
  have h4 : a ≤ v := by
    rcases Nat.lt_or_ge v a with h | h
    · exact absurd (nI_lt (by omega) (by omega)) h2.1
    · exact h
  exact ⟨v, h4, h3, ev, g1.trans ev, g2, nI_nm1 (by omega)⟩

theorem CoM.ch {m i ch : Sc} (h : CoM m i ch) {c : Nat} (hc : c < 192) (v : Int32) : CoM (upd m c v) i (upd ch c v) := by
  obtain ⟨h1, h2, h3, h4⟩ := h
  refine ⟨fun j hj => ?_, ?_, ?_, ?_⟩
  · by_cases hj2 : j = c
    · rw [hj2, pk_us, pk_us]
    · rw [pk_un hj2, pk_un hj2]; exact h1 j hj
  · rw [pk_un (by omega)]; exact h2
  · rw [pk_un (by omega)]; exact h3
  · rw [pk_un (by omega)]; exact h4
theorem CoV.ch {m : Sc} (h : CoV m) {c v : Nat} (hc : c < 192) (hv : v ≤ 100) : CoV (upd m c (nI v)) := by
  obtain ⟨h1, ⟨a, h2, h3, h4⟩, ⟨b, h5, h6⟩, ⟨d, h7, h8⟩⟩ := h
  refine ⟨fun j hj => ?_, ⟨a, h2, h3, by rw [pk_un (by omega)]; exact h4⟩, ⟨b, h5, by rw [pk_un (by omega)]; exact h6⟩, ⟨d, h7, by rw [pk_un (by omega)]; exact h8⟩⟩
  by_cases hj2 : j = c
  · exact ⟨v, hv, by rw [hj2, pk_us]⟩
  · rw [pk_un hj2]; exact h1 j hj
theorem CoK.ch {m M : Sc} (h : CoK m M) {c : Nat} (hc : c < 192 ∨ c = 194 ∨ c = 195 ∨ c = 196) (v : Int32) : CoK m (upd M c v) := fun j h1 h2 => by rw [pk_un (by omega)]; exact h j h1 h2
/-- a line of a court's text: the class's answer c, the reference's r -/
def CtA (T : Sc) (e : Nat) (L : List Tok) (m : Sc) (i4 : Int32) (c : Int32 × Nat × Sc × Sc) (r : Nat × Int32 × Sc) : Prop :=
  CoK m r.2.2 ∧ ((c.1 = 0 ∧ r.2.1 = nI (tA L e c.2.1).2.1 ∧ (tA L e c.2.1).2.1 ≤ e) ∨ (¬ c.1 = 0 ∧ r.2.1 = -1 ∧ AtP T e L r.1 c.2.1 ∧ CoM r.2.2 c.2.2.1 c.2.2.2 ∧ CoV r.2.2 ∧ c.2.2.1 4 = i4))
theorem AtP.be {T : Sc} {e n k : Nat} {L : List Tok} (h : AtP T e L n k) : (tA L e k).2.1 ≤ e := by rw [← h.2.2]; exact sk_in h.1
theorem n10 : ¬ (1 : Int32) = 0 := by decide
theorem n0m : ¬ (0 : Int32) = -1 := by decide
theorem n1m : ¬ (1 : Int32) = -1 := by decide
theorem ct_one {T : Sc} {e n k c : Nat} {L : List Tok} {m i ch : Sc} {d lo hi : Nat} (hB : TkB T e L) (h : AtP T e L n k) (hm : CoM m i ch) (hv : CoV m) (hlo : lo ≤ 999) (hhi : hi ≤ 999) (hc : c = 194 ∧ d = 1 ∧ 1 ≤ lo ∧ hi ≤ 6 ∨ c = 195 ∧ d = 2 ∧ hi ≤ 2 ∨ c = 196 ∧ d = 3 ∧ hi ≤ 1) : CtA T e L m (i 4) (if pnV L e k (nI lo) (nI hi) = -1 then 0 else 1, pnK L e k (nI lo) (nI hi), upd i d (pnV L e k (nI lo) (nI hi)), ch) (ct1 T e c (nI lo) (nI hi) n m) := by
  have hh : (nI hi : Int32) ≤ 999 := by rw [show (999 : Int32) = nI 999 by decide]; exact nI_le hhi (by decide)
  unfold ct1 CtA
  rw [h.num hB _ _ hh]
  refine ⟨(CoK.rf m).ch (by omega) _, ?_⟩
  by_cases h1 : isN L e k (nI lo) (nI hi)
  · obtain ⟨v, v1, v2, v3, v4, v5, v6⟩ := h.nv hB lo hi hlo hhi h1
    rw [if_pos h1, (pn_p h1).1, (pn_p h1).2, v3, if_neg v6, v4]
    dsimp only
    refine Or.inr ⟨n10, rfl, v5, ?_, ?_, ?_⟩
    · obtain ⟨h1, h2, h3, h4⟩ := hm
      refine ⟨fun j hj => by rw [pk_un (by omega)]; exact h1 j hj, ?_, ?_, ?_⟩
      · rcases hc with ⟨rfl, rfl, _⟩ | ⟨rfl, rfl, _⟩ | ⟨rfl, rfl, _⟩ <;> simp [upd_at, h2]
      · rcases hc with ⟨rfl, rfl, _⟩ | ⟨rfl, rfl, _⟩ | ⟨rfl, rfl, _⟩ <;> simp [upd_at, h3]
      · rcases hc with ⟨rfl, rfl, _⟩ | ⟨rfl, rfl, _⟩ | ⟨rfl, rfl, _⟩ <;> simp [upd_at, h4]
    · obtain ⟨h1, ⟨a, h2, h3, h4⟩, ⟨b, h5, h6⟩, ⟨d, h7, h8⟩⟩ := hv
      refine ⟨fun j hj => by rw [pk_un (by omega)]; exact h1 j hj, ?_, ?_, ?_⟩
      · rcases hc with ⟨rfl, rfl, _, _⟩ | ⟨rfl, rfl, _⟩ | ⟨rfl, rfl, _⟩
        · exact ⟨v, by omega, by omega, by simp [upd_at]⟩
        · exact ⟨a, h2, h3, by simp [upd_at, h4]⟩
        · exact ⟨a, h2, h3, by simp [upd_at, h4]⟩
      · rcases hc with ⟨rfl, rfl, _, _⟩ | ⟨rfl, rfl, _⟩ | ⟨rfl, rfl, _⟩
        · exact ⟨b, h5, by simp [upd_at, h6]⟩
        · exact ⟨v, by omega, by simp [upd_at]⟩
        · exact ⟨b, h5, by simp [upd_at, h6]⟩
      · rcases hc with ⟨rfl, rfl, _, _⟩ | ⟨rfl, rfl, _⟩ | ⟨rfl, rfl, _⟩
        · exact ⟨d, h7, by simp [upd_at, h8]⟩
        · exact ⟨d, h7, by simp [upd_at, h8]⟩
        · exact ⟨v, by omega, by simp [upd_at]⟩
    · rw [pk_un (by omega)]
  · rw [if_neg h1, (pn_n h1).1, (pn_n h1).2, if_pos rfl]
    exact Or.inl ⟨rfl, rfl, h.be⟩
/-- the rally's last number -/
theorem ct_num {T : Sc} {e n k a b w : Nat} {L : List Tok} {m i ch : Sc} (he : e ≤ 400) (hB : TkB T e L) (h : AtP T e L n k) (hm : CoM m i ch) (hv : CoV m) (ha : a ≤ 3) (hb : b ≤ 3) (hw : w ≤ 11) : CtA T e L m (i 4) (if pnV L e k 0 100 = -1 then 0 else 1, pnK L e k 0 100, i, if pnV L e k 0 100 = -1 then ch else upd ch (12 * (4 * a + b) + w) (pnV L e k 0 100)) (ctN T e (nI a) (nI b) (nI w) n (-1) m) := by
  have ec : cellOf (nI a) (nI b) (nI w) = 12 * (4 * a + b) + w := by unfold cellOf; rw [nI_clamp (by omega), nI_clamp (by omega), nI_clamp (by omega)]
  unfold ctN CtA
  rw [ec, h.num hB 0 100 (by decide), show fgV T e n (-1) = figV T e n from rfl, show fgN T e n (-1) = figE T e n from rfl]
  by_cases h1 : isN L e k 0 100
  · obtain ⟨v, v1, v2, v3, v4, v5, v6⟩ := h.nv hB 0 100 (by decide) (by decide) h1
    rw [if_pos h1, (pn_p h1).1, (pn_p h1).2, v3, if_neg v6, if_pos rfl, v4, if_neg v6]
    exact ⟨(CoK.rf m).ch (by omega) _, Or.inr ⟨n10, rfl, v5, hm.ch (by omega) _, hv.ch (by omega) v2, rfl⟩⟩
  · rw [if_neg h1, (pn_n h1).1, (pn_n h1).2, if_pos rfl, if_neg (h.bg he).2]
    exact ⟨CoK.rf m, Or.inl ⟨rfl, rfl, h.be⟩⟩
theorem rrR_eq (L : List Tok) (e k : Nat) (ch : Sc) : rrR L e k ch = (if pnV L e k 0 3 = -1 then (0, pnK L e k 0 3, ch) else if pnV L e (pnK L e k 0 3) 0 3 = -1 then (0, pnK L e (pnK L e k 0 3) 0 3, ch) else if (roR L e (pnK L e (pnK L e k 0 3) 0 3)).1 = -1 then (0, (roR L e (pnK L e (pnK L e k 0 3) 0 3)).2, ch) else if pnV L e (roR L e (pnK L e (pnK L e k 0 3) 0 3)).2 0 100 = -1 then (0, pnK L e (roR L e (pnK L e (pnK L e k 0 3) 0 3)).2 0 100, ch) else (1, pnK L e (roR L e (pnK L e (pnK L e k 0 3) 0 3)).2 0 100, upd ch (12 * (4 * (pnV L e k 0 3).toNatClampNeg + (pnV L e (pnK L e k 0 3) 0 3).toNatClampNeg) + (roR L e (pnK L e (pnK L e k 0 3) 0 3)).1.toNatClampNeg) (pnV L e (roR L e (pnK L e (pnK L e k 0 3) 0 3)).2 0 100))) := rfl
theorem fgN_f {T : Sc} {e n : Nat} {f : Int32} (h : ¬ f = -1) : fgN T e n f = n := by unfold fgN; rw [if_neg h]
theorem wm (w : List Int32 × Int32) (h : decide (w ∈ wds) = true) : w ∈ wds := of_decide_eq_true h
/-- the outcome's word and its number -/
theorem ct_W {T : Sc} {e n k a b : Nat} {L : List Tok} {m i ch : Sc} (he : e ≤ 400) (hB : TkB T e L) (h : AtP T e L n k) (hm : CoM m i ch) (hv : CoV m) (ha : a ≤ 3) (hb : b ≤ 3) :
    CtA T e L m (i 4) (if (roR L e k).1 = -1 then (0, (roR L e k).2, i, ch) else (if pnV L e (roR L e k).2 0 100 = -1 then 0 else 1, pnK L e (roR L e k).2 0 100, i, if pnV L e (roR L e k).2 0 100 = -1 then ch else upd ch (12 * (4 * a + b) + (roR L e k).1.toNatClampNeg) (pnV L e (roR L e k).2 0 100))) (ctW T e (nI a) (nI b) n m) := by
  unfold ctW roR
  by_cases h3 : isT L e k 3
  · have hw := (h.word hB (w_won, 3) (by decide)).mpr h3
    have h5 := h.wordS hB (w_won, 3) (by decide) h3
    rw [if_pos hw, (psB_p h3).1, (psB_p h3).2, if_neg n10]
    dsimp only
    rw [if_neg n0m]
    exact ct_num (w := 0) he hB h5 hm hv ha hb (by decide)
  · have hw : ¬ isW T e (sk T e n) w_won := fun z => h3 ((h.word hB (w_won, 3) (by decide)).mp z)
    rw [if_neg hw, (psB_n h3).1, (psB_n h3).2, if_pos rfl]
    by_cases h4 : isT L e k 4
    · have hw := (h.word hB (w_lost, 4) (by decide)).mpr h4
      have h5 := h.wordS hB (w_lost, 4) (by decide) h4
      rw [if_pos hw, (psB_p h4).1, (psB_p h4).2, if_neg n10]
      dsimp only
      rw [if_neg n1m]
      exact ct_num (w := 1) he hB h5 hm hv ha hb (by decide)
    · have hw : ¬ isW T e (sk T e n) w_lost := fun z => h4 ((h.word hB (w_lost, 4) (by decide)).mp z)
      rw [if_neg hw, (psB_n h4).1, (psB_n h4).2, if_pos rfl]
      by_cases h6 : isT L e k 5
      · have hw := (h.word hB (w_dead, 5) (by decide)).mpr h6
        have h5 : AtP T e L (sk T e n + 4) (k + 1) := h.wordS hB (w_dead, 5) (by decide) h6
        rw [if_pos hw, (psB_p h6).1, (psB_p h6).2, if_neg n10]
        dsimp only
        rw [h5.num hB 0 9 (by decide)]
        by_cases h7 : isN L e (k + 1) 0 9
        · obtain ⟨v, v1, v2, v3, v4, v5, v6⟩ := h5.nv hB 0 9 (by decide) (by decide) h7
          rw [if_pos h7, (pn_p h7).1, (pn_p h7).2, v3, if_neg v6, v4, show (2 : Int32) + nI v = nI (2 + v) from by rw [show (2 : Int32) = nI 2 by decide, nI_add], if_neg (nI_nm1 (by omega)), nI_clamp (by omega)]
          exact ct_num he hB v5 hm hv ha hb (by omega)
        · rw [if_neg h7, (pn_n h7).1, (pn_n h7).2, if_pos rfl, if_pos rfl]
          unfold ctN CtA
          rw [fgF_g (h5.bg he).2, if_neg (h5.bg he).2]
          exact ⟨CoK.rf m, Or.inl ⟨rfl, rfl, h5.be⟩⟩
      · have hw : ¬ isW T e (sk T e n) w_dead := fun z => h6 ((h.word hB (w_dead, 5) (by decide)).mp z)
        rw [if_neg hw, (psB_n h6).1, (psB_n h6).2, if_pos rfl]
        dsimp only
        rw [if_pos rfl, h.2.2]
        exact ⟨CoK.rf m, Or.inl ⟨rfl, rfl, h.be⟩⟩
theorem ct_L {T : Sc} {e n k : Nat} {L : List Tok} {m i ch : Sc} (he : e ≤ 400) (hB : TkB T e L) (h : AtP T e L n k) (hm : CoM m i ch) (hv : CoV m) : CtA T e L m (i 4) ((rrR L e k ch).1, (rrR L e k ch).2.1, i, (rrR L e k ch).2.2) (ctL T e n m) := by
  unfold ctL
  rw [rrR_eq, h.num hB 0 3 (by decide)]
  by_cases h1 : isN L e k 0 3
  · obtain ⟨v, v1, v2, v3, v4, v5, v6⟩ := h.nv hB 0 3 (by decide) (by decide) h1
    rw [if_pos h1, (pn_p h1).1, (pn_p h1).2, v3, if_neg v6, v4, v5.num hB 0 3 (by decide)]
    by_cases h2 : isN L e (k + 1) 0 3
    · obtain ⟨u, u1, u2, u3, u4, u5, u6⟩ := v5.nv hB 0 3 (by decide) (by decide) h2
      rw [if_pos h2, (pn_p h2).1, (pn_p h2).2, u3, if_neg u6, if_pos rfl, u4, nI_clamp (by omega), nI_clamp (by omega)]
      have := ct_W he hB u5 hm hv v2 u2
      by_cases c1 : (roR L e (k + 1 + 1)).1 = -1
      · rw [if_pos c1] at this ⊢; exact this
      · rw [if_neg c1] at this ⊢
        by_cases c2 : pnV L e (roR L e (k + 1 + 1)).2 0 100 = -1
        · rw [if_pos c2] at this ⊢; simp only [if_pos c2] at this; exact this
        · rw [if_neg c2] at this ⊢; simp only [if_neg c2] at this; exact this
    · rw [if_neg h2, (pn_n h2).1, (pn_n h2).2, if_pos rfl, if_neg (v5.bg he).2]
      exact ⟨CoK.rf m, Or.inl ⟨rfl, rfl, v5.be⟩⟩
  · rw [if_neg h1, (pn_n h1).1, (pn_n h1).2, if_pos rfl, fgF_g (h.bg he).2, if_neg (h.bg he).2]
    exact ⟨CoK.rf m, Or.inl ⟨rfl, rfl, h.be⟩⟩
theorem ct_line {T : Sc} {e n k : Nat} {L : List Tok} {m i ch : Sc} (he : e ≤ 400) (hB : TkB T e L) (h : AtP T e L n k) (hm : CoM m i ch) (hv : CoV m) : CtA T e L m (i 4) (rlC L e k i ch) (ctR T e n m) := by
  unfold ctR rlC
  dsimp only
  by_cases h1 : isT L e k 2
  · rw [if_pos ((h.word hB (w_rally, 2) (by decide)).mpr h1), (psB_p h1).1, (psB_p h1).2, if_neg n10]
    exact ct_L he hB (h.wordS hB (w_rally, 2) (by decide) h1) hm hv
  · rw [if_neg (fun z => h1 ((h.word hB (w_rally, 2) (by decide)).mp z)), (psB_n h1).1, (psB_n h1).2, if_pos rfl]
    by_cases h2 : isT L e k 6
    · rw [if_pos ((h.word hB (w_games, 6) (by decide)).mpr h2), (psB_p h2).1, (psB_p h2).2, if_neg n10]
      exact ct_one (lo := 1) (hi := 6) hB (h.wordS hB (w_games, 6) (by decide) h2) hm hv (by decide) (by decide) (by decide)
    · rw [if_neg (fun z => h2 ((h.word hB (w_games, 6) (by decide)).mp z)), (psB_n h2).1, (psB_n h2).2, if_pos rfl]
      by_cases h3 : isT L e k 7
      · rw [if_pos ((h.word hB (w_club, 7) (by decide)).mpr h3), (psB_p h3).1, (psB_p h3).2, if_neg n10]
        exact ct_one (lo := 0) (hi := 2) hB (h.wordS hB (w_club, 7) (by decide) h3) hm hv (by decide) (by decide) (by decide)
      · rw [if_neg (fun z => h3 ((h.word hB (w_club, 7) (by decide)).mp z)), (psB_n h3).1, (psB_n h3).2, if_pos rfl]
        by_cases h4 : isT L e k 8
        · rw [if_pos ((h.word hB (w_even, 8) (by decide)).mpr h4), (psB_p h4).1, (psB_p h4).2, if_neg n10]
          exact ct_one (lo := 0) (hi := 1) hB (h.wordS hB (w_even, 8) (by decide) h4) hm hv (by decide) (by decide) (by decide)
        · rw [if_neg (fun z => h4 ((h.word hB (w_even, 8) (by decide)).mp z)), (psB_n h4).1, (psB_n h4).2, if_pos rfl, h.2.2]
          exact ⟨CoK.rf m, Or.inl ⟨rfl, rfl, h.be⟩⟩

