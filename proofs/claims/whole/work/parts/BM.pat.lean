/-! ===== a place in the text, and the token there ===== -/
def AtP (T : Sc) (e : Nat) (L : List Tok) (n k : Nat) : Prop := n ≤ e ∧ k ≤ L.length ∧ sk T e n = (tA L e k).2.1
theorem AtP.s {T : Sc} {e n k : Nat} {L : List Tok} (h : AtP T e L n k) : AtP T e L (sk T e n) k := ⟨sk_in h.1, h.2.1, by rw [sk_sk]; exact h.2.2⟩
theorem AtP.lt {T : Sc} {e n k : Nat} {L : List Tok} (hB : TkB T e L) (h : AtP T e L n k) : sk T e n < e ↔ k < L.length := by
  rw [h.2.2]
  constructor
  · intro h1
    rcases Nat.lt_or_ge k L.length with h2 | h2
    · exact h2
    · rw [hB.2.1 k h2] at h1; exact absurd h1 (Nat.lt_irrefl _)
  · intro h1; exact (hB.2.2 k h1).1
theorem AtP.ty0 {T : Sc} {e n k : Nat} {L : List Tok} (hB : TkB T e L) (h : AtP T e L n k) : (tA L e k).1 = 0 ↔ sk T e n = e := by
  have h1 := h.lt hB
  have h2 := sk_in (T := T) h.1
  by_cases hk : k < L.length
  · have h3 := (hB.2.2 k hk).2.2.2.2.2.2.2.2
    have := h1.mpr hk
    exact ⟨fun z => absurd z h3, fun z => by omega⟩
  · have h3 : ¬ sk T e n < e := fun z => hk (h1.mp z)
    rw [hB.2.1 k (by omega)]
    exact ⟨fun _ => by omega, fun _ => rfl⟩
theorem AtP.word {T : Sc} {e n k : Nat} {L : List Tok} (hB : TkB T e L) (h : AtP T e L n k) (w : List Int32 × Int32) (hw : w ∈ wds) : isW T e (sk T e n) w.1 ↔ isT L e k w.2 := by
  have h1 := h.lt hB
  by_cases hk : k < L.length
  · have h3 := ((hB.2.2 k hk).2.2.1 w hw).1
    rw [h.2.2, ← h3]
    exact ⟨fun z => ⟨hk, z⟩, fun z => z.2⟩
  · refine ⟨fun z => ?_, fun z => absurd z.1 hk⟩
    have := isW_in z (wds_len w hw).1
    have := (wds_len w hw).1
    exact absurd (h1.mp (by omega)) hk
theorem AtP.wordS {T : Sc} {e n k : Nat} {L : List Tok} (hB : TkB T e L) (h : AtP T e L n k) (w : List Int32 × Int32) (hw : w ∈ wds) (hi : isT L e k w.2) : AtP T e L (sk T e n + w.1.length) (k + 1) := by
  have h2 := (h.word hB w hw).mpr hi
  exact ⟨isW_in h2 (wds_len w hw).1, hi.1, by rw [h.2.2]; exact ((hB.2.2 k hi.1).2.2.1 w hw).2 hi.2⟩
theorem AtP.sgn {T : Sc} {e n k : Nat} {L : List Tok} (hB : TkB T e L) (h : AtP T e L n k) (c : Int32) (hc : c ∈ sgs) : (sk T e n < e ∧ T (sk T e n) = c) ↔ isT L e k (100 + c) := by
  have h1 := h.lt hB
  rw [h1]
  constructor
  · rintro ⟨h2, h3⟩
    rw [h.2.2] at h3
    exact ⟨h2, ((hB.2.2 k h2).2.2.2.2.2.2.2.1 c hc).1.mpr h3⟩
  · rintro ⟨h2, h3⟩
    rw [h.2.2]
    exact ⟨h2, ((hB.2.2 k h2).2.2.2.2.2.2.2.1 c hc).1.mp h3⟩
theorem AtP.sgnS {T : Sc} {e n k : Nat} {L : List Tok} (hB : TkB T e L) (h : AtP T e L n k) (c : Int32) (hc : c ∈ sgs) (hi : isT L e k (100 + c)) : AtP T e L (sk T e n + 1) (k + 1) := by
  have h2 := (h.sgn hB c hc).mpr hi
  refine ⟨by omega, hi.1, ?_⟩
  rw [h.2.2] at h2 ⊢
  exact ((hB.2.2 k hi.1).2.2.2.2.2.2.2.1 c hc).2 h2.2
theorem figE_sk (T : Sc) (e n : Nat) : figE T e (sk T e n) = figE T e n := by unfold figE; rw [sk_sk]
theorem figV_sk (T : Sc) (e n : Nat) : figV T e (sk T e n) = figV T e n := by unfold figV; rw [sk_sk]
theorem AtP.dg {T : Sc} {e n k : Nat} {L : List Tok} (hB : TkB T e L) (h : AtP T e L n k) : isD T e (sk T e n) ↔ isT L e k 1 := by
  have h1 := h.lt hB
  by_cases hk : k < L.length
  · have h3 := (hB.2.2 k hk).2.2.2.1
    rw [h.2.2, ← h3]
    exact ⟨fun z => ⟨hk, z⟩, fun z => z.2⟩
  · exact ⟨fun z => absurd (h1.mp z.1) hk, fun z => absurd z.1 hk⟩
theorem AtP.bad {T : Sc} {e n k : Nat} {L : List Tok} (hB : TkB T e L) (h : AtP T e L n k) (lo hi : Int32) (hh : hi ≤ 999) : figBad T e n lo hi ↔ ¬ isN L e k lo hi := by
  have h1 := h.lt hB
  have e1 : figBad T e n lo hi ↔ figBad T e (sk T e n) lo hi := by unfold figBad; rw [figE_sk, figV_sk, sk_sk]
  rw [e1, h.2.2]
  by_cases hk : k < L.length
  · obtain ⟨k1, k2, k3, k4, k5, k6, k7⟩ := (hB.2.2 k hk).2.2
    by_cases h1 : (tA L e k).1 = 1
    · rw [k3 h1 lo hi hh]
      exact ⟨fun z y => z y.2, fun z y => z ⟨⟨hk, h1⟩, y⟩⟩
    · refine ⟨fun _ z => h1 z.1.2, fun _ => Or.inl ?_⟩
      rw [k5 h1, sk_end (fun z => (hB.2.2 k hk).2.1 z.2)]
  · refine ⟨fun _ z => hk z.1.1, fun _ => Or.inl ?_⟩
    rw [hB.2.1 k (by omega)]
    show figE T e e = sk T e e
    have hs : sk T e e = e := sk_end (fun z => by omega)
    unfold figE
    rw [hs, dgs_de _ _ _ (Nat.le_refl _), de_end (fun z => by omega), Nat.sub_self, Nat.min_zero]
    rfl
theorem AtP.num {T : Sc} {e n k : Nat} {L : List Tok} (hB : TkB T e L) (h : AtP T e L n k) (lo hi : Int32) (hh : hi ≤ 999) : fgF T e n (-1) lo hi = if isN L e k lo hi then -1 else nI (tA L e k).2.1 := by
  unfold fgF
  rw [if_pos rfl]
  have := h.bad hB lo hi hh
  by_cases h1 : isN L e k lo hi
  · rw [if_pos h1, if_neg (fun z => this.mp z h1)]
  · rw [if_neg h1, if_pos (this.mpr h1), h.2.2]
theorem AtP.numS {T : Sc} {e n k : Nat} {L : List Tok} (hB : TkB T e L) (h : AtP T e L n k) (lo hi : Int32) (hh : hi ≤ 999) (h1 : isN L e k lo hi) : (∃ v : Nat, v < 1000 ∧ (tA L e k).2.2 = nI v) ∧ figV T e n = (tA L e k).2.2 ∧ AtP T e L (figE T e n) (k + 1) := by
  obtain ⟨k1, k2, k3, k4, k5, k6, k7⟩ := (hB.2.2 k h1.1.1).2.2
  obtain ⟨g1, g2, g3⟩ := k4 h1.1.2 (Int32.le_trans h1.2.2 hh)
  rw [← figV_sk, h.2.2]
  refine ⟨g1, g2, figE_le T e n h.1, h1.1.1, ?_⟩
  rw [← figE_sk, h.2.2]
  exact g3
theorem AtP.bg {T : Sc} {e n k : Nat} {L : List Tok} (h : AtP T e L n k) (he : e ≤ 400) : (tA L e k).2.1 ≤ 400 ∧ ¬ nI (tA L e k).2.1 = -1 := by
  have := sk_in (T := T) h.1
  have h2 := h.2.2
  exact ⟨by omega, nI_nm1 (by omega)⟩

