/-! ===== tokens and text ===== -/
def asc (v : Int32) : Prop := 0 ≤ v ∧ v ≤ 127
/-- texts alike: the same letters, or neither is one -/
def Cg (e : Nat) (T U : Sc) : Prop := ∀ k, k < e → T k = U k ∨ (¬ asc (T k) ∧ ¬ asc (U k))
theorem Cg.eq {e k : Nat} {T U : Sc} {c : Int32} (h : Cg e T U) (hk : k < e) (hc : asc c) : T k = c ↔ U k = c := by
  rcases h k hk with h | ⟨h1, h2⟩
  · rw [h]
  · exact ⟨fun z => absurd (z ▸ hc) h1, fun z => absurd (z ▸ hc) h2⟩
theorem rIn_ne {v lo hi : Int32} : ¬ rIn v lo hi = 0 ↔ lo ≤ v ∧ v ≤ hi := by
  unfold rIn
  by_cases h : lo ≤ v ∧ v ≤ hi
  · rw [if_pos h]; exact ⟨fun _ => h, fun _ => by decide⟩
  · rw [if_neg h]; exact ⟨fun z => absurd rfl z, fun z => absurd z h⟩
theorem Cg.rin {e k : Nat} {T U : Sc} {lo hi : Int32} (h : Cg e T U) (hk : k < e) (h0 : 0 ≤ lo) (h1 : hi ≤ 127) : rIn (T k) lo hi = rIn (U k) lo hi := by
  rcases h k hk with h | ⟨g1, g2⟩
  · rw [h]
  · unfold rIn
    rw [if_neg (fun z => g1 ⟨Int32.le_trans h0 z.1, Int32.le_trans z.2 h1⟩), if_neg (fun z => g2 ⟨Int32.le_trans h0 z.1, Int32.le_trans z.2 h1⟩)]
theorem Cg.dig {e k : Nat} {T U : Sc} (h : Cg e T U) (hk : k < e) (hd : ¬ rIn (T k) 48 57 = 0) : T k = U k := by
  rcases h k hk with h | ⟨g1, g2⟩
  · exact h
  · rw [rIn_ne] at hd
    exact absurd ⟨Int32.le_trans (by decide) hd.1, Int32.le_trans hd.2 (by decide)⟩ g1
theorem Cg.sym {e : Nat} {T U : Sc} (h : Cg e T U) : Cg e U T := fun k hk => (h k hk).imp Eq.symm And.symm
theorem Cg.tr {e : Nat} {T U V : Sc} (h : Cg e T U) (g : Cg e U V) : Cg e T V := fun k hk => by
  rcases h k hk with h | ⟨h1, h2⟩
  · rw [h]; exact g k hk
  · rcases g k hk with g | ⟨g1, g2⟩
    · rw [← g]; exact Or.inr ⟨h1, h2⟩
    · exact Or.inr ⟨h1, g2⟩
theorem Cg.of {e : Nat} {T U : Sc} (h : ∀ k, k < e → T k = U k) : Cg e T U := fun k hk => Or.inl (h k hk)
theorem asc_fin : ∀ b : Nat, b < 256 → ¬ b < 128 → ¬ (0 ≤ nI b - 256 ∧ nI b - 256 ≤ 127) ∧ ¬ (0 ≤ nI b ∧ nI b ≤ 127) := by decide +kernel
theorem Cg.by {e : Nat} {T U : Sc} (h : ∀ k, k < e → ByA (T k) (U k)) : Cg e T U := fun k hk => by
  obtain ⟨b, hb, e1, e2⟩ := h k hk
  by_cases h8 : b < 128
  · rw [e2, if_pos h8, e1]; exact Or.inl rfl
  · rw [e2, if_neg h8, e1]; exact Or.inr (asc_fin b hb h8)
theorem skp_cg {e : Nat} {T U : Sc} (h : Cg e T U) : ∀ f n, skp T e f n = skp U e f n
  | 0, n => rfl
  | f + 1, n => by
    rw [skp, skp]
    by_cases hn : n < e
    · have := h.eq hn (c := 32) ⟨by decide, by decide⟩
      by_cases h2 : T n = 32
      · rw [if_pos ⟨hn, h2⟩, if_pos ⟨hn, this.mp h2⟩, skp_cg h f]
      · rw [if_neg (fun z => h2 z.2), if_neg (fun z => h2 (this.mpr z.2))]
    · rw [if_neg (fun z => hn z.1), if_neg (fun z => hn z.1)]
theorem sk_cg {e : Nat} {T U : Sc} (h : Cg e T U) (n : Nat) : sk T e n = sk U e n := skp_cg h _ n
theorem wep_cg {e : Nat} {T U : Sc} (h : Cg e T U) : ∀ f n, wep T e f n = wep U e f n
  | 0, n => rfl
  | f + 1, n => by
    rw [wep, wep]
    by_cases hn : n < e
    · rw [h.rin hn (by decide) (by decide), wep_cg h f]
    · rw [if_neg (fun z => hn z.1), if_neg (fun z => hn z.1)]
theorem we_cg {e : Nat} {T U : Sc} (h : Cg e T U) (n : Nat) : we T e n = we U e n := wep_cg h _ n
theorem dgs_cg {e : Nat} {T U : Sc} (h : Cg e T U) : ∀ k n v, dgs T e k n v = dgs U e k n v
  | 0, n, v => rfl
  | k + 1, n, v => by
    rw [dgs, dgs]
    by_cases hn : n < e
    · rw [← h.rin hn (by decide) (by decide)]
      by_cases h2 : rIn (T n) 48 57 = 0
      · rw [if_neg (fun z => z.2 h2), if_neg (fun z => z.2 h2)]
      · rw [if_pos ⟨hn, h2⟩, if_pos ⟨hn, h2⟩, h.dig hn h2, dgs_cg h k]
    · rw [if_neg (fun z => hn z.1), if_neg (fun z => hn z.1)]
theorem figE_cg {e : Nat} {T U : Sc} (h : Cg e T U) (n : Nat) : figE T e n = figE U e n := by unfold figE; rw [sk_cg h, dgs_cg h]
theorem figV_cg {e : Nat} {T U : Sc} (h : Cg e T U) (n : Nat) : figV T e n = figV U e n := by unfold figV; rw [sk_cg h, dgs_cg h]
/-- the words, and their numbers as tokens -/
def wds : List (List Int32 × Int32) := [(w_rally, 2), (w_won, 3), (w_lost, 4), (w_dead, 5), (w_games, 6), (w_club, 7), (w_even, 8), (w_style, 9), (w_if, 10), (w_or, 11), (w_and, 12), (w_not, 13), (w_serving, 14), (w_off, 15), (w_mine, 16), (w_his, 17), (w_line, 18), (w_chases, 19)]
theorem wds_len : ∀ w ∈ wds, 0 < w.1.length ∧ w.1.length ≤ 7 := by decide +kernel
theorem wds_asc : ∀ w ∈ wds, ∀ j, j < w.1.length → (0 ≤ w.1.getD j 0 &&& 255 ∧ w.1.getD j 0 &&& 255 ≤ 127) := by decide +kernel
theorem wds_dis : ∀ a ∈ wds, ∀ b ∈ wds, a.1.length = b.1.length → (∀ j, j < a.1.length → a.1.getD j 0 &&& 255 = b.1.getD j 0 &&& 255) → a = b := by decide +kernel
theorem wds_rng : ∀ w ∈ wds, 2 ≤ w.2 ∧ w.2 ≤ 19 := by decide +kernel
theorem isW_cg {e n : Nat} {T U : Sc} (h : Cg e T U) {w : List Int32 × Int32} (hw : w ∈ wds) : isW T e n w.1 → isW U e n w.1 := by
  intro hi
  have h1 := isW_in hi (wds_len w hw).1
  refine ⟨by rw [← we_cg h]; exact hi.1, fun j hj => ?_⟩
  exact (h.eq (by omega) (wds_asc w hw j hj)).mp (hi.2 j hj)
theorem isW_cgI {e n : Nat} {T U : Sc} (h : Cg e T U) {w : List Int32 × Int32} (hw : w ∈ wds) : isW T e n w.1 ↔ isW U e n w.1 := ⟨isW_cg h hw, isW_cg h.sym hw⟩
theorem spW_one {T : Sc} {p e : Nat} {a b : List Int32 × Int32} (ha : a ∈ wds) (hb : b ∈ wds) (h1 : spW T p e a.1) (h2 : spW T p e b.1) : a = b := by
  have hl : a.1.length = b.1.length := by have := h1.1; have := h2.1; omega
  exact wds_dis a ha b hb hl (fun j hj => (h1.2 j hj).symm.trans (h2.2 j (by omega)))

theorem wdK_to {T : Sc} {p e : Nat} : wdK T p e = 20 ∨ ∃ w ∈ wds, wdK T p e = w.2 ∧ spW T p e w.1 := by
  unfold wdK cwK rwK
  by_cases hrally : spW T p e w_rally
  · exact Or.inr ⟨(w_rally, 2), by simp [wds], by simp only [if_pos hrally]; rw [if_neg (by decide)], hrally⟩
  by_cases hwon : spW T p e w_won
  · exact Or.inr ⟨(w_won, 3), by simp [wds], by simp only [if_neg hrally, if_pos hwon]; rw [if_neg (by decide)], hwon⟩
  by_cases hlost : spW T p e w_lost
  · exact Or.inr ⟨(w_lost, 4), by simp [wds], by simp only [if_neg hrally, if_neg hwon, if_pos hlost]; rw [if_neg (by decide)], hlost⟩
  by_cases hdead : spW T p e w_dead
  · exact Or.inr ⟨(w_dead, 5), by simp [wds], by simp only [if_neg hrally, if_neg hwon, if_neg hlost, if_pos hdead]; rw [if_neg (by decide)], hdead⟩
  by_cases hgames : spW T p e w_games
  · exact Or.inr ⟨(w_games, 6), by simp [wds], by simp only [if_neg hrally, if_neg hwon, if_neg hlost, if_neg hdead, if_pos hgames]; rw [if_neg (by decide)], hgames⟩
  by_cases hclub : spW T p e w_club
  · exact Or.inr ⟨(w_club, 7), by simp [wds], by simp only [if_neg hrally, if_neg hwon, if_neg hlost, if_neg hdead, if_neg hgames, if_pos hclub]; rw [if_neg (by decide)], hclub⟩
  by_cases heven : spW T p e w_even
  · exact Or.inr ⟨(w_even, 8), by simp [wds], by simp only [if_neg hrally, if_neg hwon, if_neg hlost, if_neg hdead, if_neg hgames, if_neg hclub, if_pos heven]; rw [if_neg (by decide)], heven⟩
  simp only [if_neg hrally, if_neg hwon, if_neg hlost, if_neg hdead, if_neg hgames, if_neg hclub, if_neg heven, if_true]
  by_cases hstyle : spW T p e w_style
  · exact Or.inr ⟨(w_style, 9), by simp [wds], by simp only [if_pos hstyle], hstyle⟩
  by_cases hif : spW T p e w_if
  · exact Or.inr ⟨(w_if, 10), by simp [wds], by simp only [if_neg hstyle, if_pos hif], hif⟩
  by_cases hor : spW T p e w_or
  · exact Or.inr ⟨(w_or, 11), by simp [wds], by simp only [if_neg hstyle, if_neg hif, if_pos hor], hor⟩
  by_cases hand : spW T p e w_and
  · exact Or.inr ⟨(w_and, 12), by simp [wds], by simp only [if_neg hstyle, if_neg hif, if_neg hor, if_pos hand], hand⟩
  by_cases hnot : spW T p e w_not
  · exact Or.inr ⟨(w_not, 13), by simp [wds], by simp only [if_neg hstyle, if_neg hif, if_neg hor, if_neg hand, if_pos hnot], hnot⟩
  by_cases hserving : spW T p e w_serving
  · exact Or.inr ⟨(w_serving, 14), by simp [wds], by simp only [if_neg hstyle, if_neg hif, if_neg hor, if_neg hand, if_neg hnot, if_pos hserving], hserving⟩
  by_cases hoff : spW T p e w_off
  · exact Or.inr ⟨(w_off, 15), by simp [wds], by simp only [if_neg hstyle, if_neg hif, if_neg hor, if_neg hand, if_neg hnot, if_neg hserving, if_pos hoff], hoff⟩
  by_cases hmine : spW T p e w_mine
  · exact Or.inr ⟨(w_mine, 16), by simp [wds], by simp only [if_neg hstyle, if_neg hif, if_neg hor, if_neg hand, if_neg hnot, if_neg hserving, if_neg hoff, if_pos hmine], hmine⟩
  by_cases hhis : spW T p e w_his
  · exact Or.inr ⟨(w_his, 17), by simp [wds], by simp only [if_neg hstyle, if_neg hif, if_neg hor, if_neg hand, if_neg hnot, if_neg hserving, if_neg hoff, if_neg hmine, if_pos hhis], hhis⟩
  by_cases hline : spW T p e w_line
  · exact Or.inr ⟨(w_line, 18), by simp [wds], by simp only [if_neg hstyle, if_neg hif, if_neg hor, if_neg hand, if_neg hnot, if_neg hserving, if_neg hoff, if_neg hmine, if_neg hhis, if_pos hline], hline⟩
  by_cases hchases : spW T p e w_chases
  · exact Or.inr ⟨(w_chases, 19), by simp [wds], by simp only [if_neg hstyle, if_neg hif, if_neg hor, if_neg hand, if_neg hnot, if_neg hserving, if_neg hoff, if_neg hmine, if_neg hhis, if_neg hline, if_pos hchases], hchases⟩
  exact Or.inl (by simp only [if_neg hstyle, if_neg hif, if_neg hor, if_neg hand, if_neg hnot, if_neg hserving, if_neg hoff, if_neg hmine, if_neg hhis, if_neg hline, if_neg hchases])
theorem wdK_of {T : Sc} {p e : Nat} : ∀ w ∈ wds, spW T p e w.1 → ¬ wdK T p e = 20 := by
  intro w hw hs
  unfold wdK cwK rwK
  by_cases hrally : spW T p e w_rally
  · simp only [if_pos hrally]; rw [if_neg (by decide)]; decide
  by_cases hwon : spW T p e w_won
  · simp only [if_neg hrally, if_pos hwon]; rw [if_neg (by decide)]; decide
  by_cases hlost : spW T p e w_lost
  · simp only [if_neg hrally, if_neg hwon, if_pos hlost]; rw [if_neg (by decide)]; decide
  by_cases hdead : spW T p e w_dead
  · simp only [if_neg hrally, if_neg hwon, if_neg hlost, if_pos hdead]; rw [if_neg (by decide)]; decide
  by_cases hgames : spW T p e w_games
  · simp only [if_neg hrally, if_neg hwon, if_neg hlost, if_neg hdead, if_pos hgames]; rw [if_neg (by decide)]; decide
  by_cases hclub : spW T p e w_club
  · simp only [if_neg hrally, if_neg hwon, if_neg hlost, if_neg hdead, if_neg hgames, if_pos hclub]; rw [if_neg (by decide)]; decide
  by_cases heven : spW T p e w_even
  · simp only [if_neg hrally, if_neg hwon, if_neg hlost, if_neg hdead, if_neg hgames, if_neg hclub, if_pos heven]; rw [if_neg (by decide)]; decide
  by_cases hstyle : spW T p e w_style
  · simp only [if_neg hrally, if_neg hwon, if_neg hlost, if_neg hdead, if_neg hgames, if_neg hclub, if_neg heven, if_pos hstyle, if_true]; decide
  by_cases hif : spW T p e w_if
  · simp only [if_neg hrally, if_neg hwon, if_neg hlost, if_neg hdead, if_neg hgames, if_neg hclub, if_neg heven, if_neg hstyle, if_pos hif, if_true]; decide
  by_cases hor : spW T p e w_or
  · simp only [if_neg hrally, if_neg hwon, if_neg hlost, if_neg hdead, if_neg hgames, if_neg hclub, if_neg heven, if_neg hstyle, if_neg hif, if_pos hor, if_true]; decide
  by_cases hand : spW T p e w_and
  · simp only [if_neg hrally, if_neg hwon, if_neg hlost, if_neg hdead, if_neg hgames, if_neg hclub, if_neg heven, if_neg hstyle, if_neg hif, if_neg hor, if_pos hand, if_true]; decide
  by_cases hnot : spW T p e w_not
  · simp only [if_neg hrally, if_neg hwon, if_neg hlost, if_neg hdead, if_neg hgames, if_neg hclub, if_neg heven, if_neg hstyle, if_neg hif, if_neg hor, if_neg hand, if_pos hnot, if_true]; decide
  by_cases hserving : spW T p e w_serving
  · simp only [if_neg hrally, if_neg hwon, if_neg hlost, if_neg hdead, if_neg hgames, if_neg hclub, if_neg heven, if_neg hstyle, if_neg hif, if_neg hor, if_neg hand, if_neg hnot, if_pos hserving, if_true]; decide
  by_cases hoff : spW T p e w_off
  · simp only [if_neg hrally, if_neg hwon, if_neg hlost, if_neg hdead, if_neg hgames, if_neg hclub, if_neg heven, if_neg hstyle, if_neg hif, if_neg hor, if_neg hand, if_neg hnot, if_neg hserving, if_pos hoff, if_true]; decide
  by_cases hmine : spW T p e w_mine
  · simp only [if_neg hrally, if_neg hwon, if_neg hlost, if_neg hdead, if_neg hgames, if_neg hclub, if_neg heven, if_neg hstyle, if_neg hif, if_neg hor, if_neg hand, if_neg hnot, if_neg hserving, if_neg hoff, if_pos hmine, if_true]; decide
  by_cases hhis : spW T p e w_his
  · simp only [if_neg hrally, if_neg hwon, if_neg hlost, if_neg hdead, if_neg hgames, if_neg hclub, if_neg heven, if_neg hstyle, if_neg hif, if_neg hor, if_neg hand, if_neg hnot, if_neg hserving, if_neg hoff, if_neg hmine, if_pos hhis, if_true]; decide
  by_cases hline : spW T p e w_line
  · simp only [if_neg hrally, if_neg hwon, if_neg hlost, if_neg hdead, if_neg hgames, if_neg hclub, if_neg heven, if_neg hstyle, if_neg hif, if_neg hor, if_neg hand, if_neg hnot, if_neg hserving, if_neg hoff, if_neg hmine, if_neg hhis, if_pos hline, if_true]; decide
  by_cases hchases : spW T p e w_chases
  · simp only [if_neg hrally, if_neg hwon, if_neg hlost, if_neg hdead, if_neg hgames, if_neg hclub, if_neg heven, if_neg hstyle, if_neg hif, if_neg hor, if_neg hand, if_neg hnot, if_neg hserving, if_neg hoff, if_neg hmine, if_neg hhis, if_neg hline, if_pos hchases, if_true]; decide
  exfalso
  simp only [wds, List.mem_cons, List.not_mem_nil, or_false] at hw
  rcases hw with rfl | rfl | rfl | rfl | rfl | rfl | rfl | rfl | rfl | rfl | rfl | rfl | rfl | rfl | rfl | rfl | rfl | rfl
  · exact hrally hs
  · exact hwon hs
  · exact hlost hs
  · exact hdead hs
  · exact hgames hs
  · exact hclub hs
  · exact heven hs
  · exact hstyle hs
  · exact hif hs
  · exact hor hs
  · exact hand hs
  · exact hnot hs
  · exact hserving hs
  · exact hoff hs
  · exact hmine hs
  · exact hhis hs
  · exact hline hs
  · exact hchases hs
theorem wdK_iff {T : Sc} {p e : Nat} {w : List Int32 × Int32} (hw : w ∈ wds) : wdK T p e = w.2 ↔ spW T p e w.1 := by
  have inj : ∀ a ∈ wds, ∀ b ∈ wds, a.2 = b.2 → a = b := by decide +kernel
  constructor
  · intro h
    rcases wdK_to (T := T) (p := p) (e := e) with h2 | ⟨v, hv, h2, h3⟩
    · have := (wds_rng w hw).2
      rw [← h, h2] at this
      exact absurd this (by decide)
    · rw [inj w hw v hv (h.symm.trans h2)]; exact h3
  · intro h
    rcases wdK_to (T := T) (p := p) (e := e) with h2 | ⟨v, hv, h2, h3⟩
    · exact absurd h2 (wdK_of w hw h)
    · rw [spW_one hw hv h h3]; exact h2


