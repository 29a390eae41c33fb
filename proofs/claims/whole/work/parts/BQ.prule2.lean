/-! ===== rules: conditions and lines ===== -/
theorem and01 {a b : Int32} (ha : a = 0 ∨ a = 1) (hb : b = 0 ∨ b = 1) : joV 12 a b = (if ¬ a = 0 ∧ ¬ b = 0 then 1 else 0) ∧ joV 11 a b = (if ¬ a = 0 ∨ ¬ b = 0 then 1 else 0) := by
  rcases ha with rfl | rfl <;> rcases hb with rfl | rfl <;> decide

theorem an_eq {T : Sc} {e nd : Nat} {L : List Tok} {fa : Int32 → Int32} {f : Nat → PR} {at0 : Nat → Int32 → R3} (he : e ≤ 400) (hB : TkB T e L) (hok : ∀ k, k ≤ L.length → okP L k (f k)) (hf : ∀ n k, AtP T e L n k → PaA T e L fa nd (f k) (at0 n (-1))) : ∀ (c d n k : Nat) (v : Int32), AtP T e L n k → L.length - k ≤ c → L.length - k < d → (v = 0 ∨ v = 1) →
    ((jnC L e 12 f c k).1 = 0 ∧ (andG at0 T e d v n (-1)).2.2 = nI (tA L e (jnC L e 12 f c k).2.1).2.1 ∧ (tA L e (jnC L e 12 f c k).2.1).2.1 ≤ e) ∨
    (¬ (jnC L e 12 f c k).1 = 0 ∧ (andG at0 T e d v n (-1)).2.2 = -1 ∧ AtP T e L (andG at0 T e d v n (-1)).2.1 (jnC L e 12 f c k).2.1 ∧ ((andG at0 T e d v n (-1)).1 = 0 ∨ (andG at0 T e d v n (-1)).1 = 1) ∧ Ev1 fa (nd + 1) (jnC L e 12 f c k).2.2 v (andG at0 T e d v n (-1)).1)
  | c, 0, n, k, v, h, hc, hd, hv => by omega
  | c, d + 1, n, k, v, h, hc, hd, hv => by
    rw [andG, if_pos rfl]
    have hw := h.word hB (w_and, 12) (by decide)
    by_cases ht : isT L e k 12
    · obtain ⟨c, rfl⟩ : ∃ c', c = c' + 1 := ⟨c - 1, by have := ht.1; omega⟩
      have h2 : AtP T e L (sk T e n + 3) (k + 1) := h.wordS hB (w_and, 12) (by decide) ht
      have hk := hok (k + 1) h2.2.1
      rw [if_pos (hw.mpr ht), jnC, if_pos ht]
      rcases hf _ _ h2 with ⟨a1, a2, a3⟩ | ⟨a1, a2, a3, a4, a5⟩
      · have hb : ¬ nI (tA L e (f (k + 1)).2.1).2.1 = -1 := nI_nm1 (by omega)
        rw [if_pos a1, a2]
        obtain ⟨d, rfl⟩ : ∃ d', d = d' + 1 := ⟨d - 1, by have := ht.1; omega⟩
        rw [andG, if_neg hb]
        exact Or.inl ⟨rfl, rfl, a3⟩
      · rw [if_neg a1, a2]
        have ih := an_eq he hB hok hf c d _ _ (if ¬ v = 0 ∧ ¬ (at0 (sk T e n + 3) (-1)).1 = 0 then 1 else 0) a3 (by have := hk.2.1; have := ht.1; omega) (by have := hk.2.1; have := ht.1; omega) (if01 _)
        rcases ih with ⟨g1, g2, g3⟩ | ⟨g1, g2, g3, g4, g5⟩
        · exact Or.inl ⟨g1, g2, g3⟩
        · refine Or.inr ⟨g1, g2, g3, g4, fun st hst => ?_⟩
          show hoL fa ((f (k + 1)).2.2 ++ 12 :: (jnC L e 12 f c (f (k + 1)).2.1).2.2) (v :: st) = _
          rw [hoL_app, a5 (v :: st) (by rw [List.length_cons]; omega), hoL, hoS_join (by decide) (by decide), (and01 hv a4).1]
          exact g5 st hst
    · have e1 : jnC L e 12 f c k = (1, k, []) := by
        cases c with
        | zero => rfl
        | succ c => rw [jnC, if_neg ht]
      rw [if_neg (fun z => ht (hw.mp z)), e1]
      exact Or.inr ⟨n10, rfl, h.s, hv, fun st hst => rfl⟩
theorem an_all {T : Sc} {e nd : Nat} {L : List Tok} {fa : Int32 → Int32} {f : Nat → PR} {at0 : Nat → Int32 → R3} (he : e ≤ 400) (hL : L.length ≤ 400) (hB : TkB T e L) (hok : ∀ k, k ≤ L.length → okP L k (f k)) (hf : ∀ n k, AtP T e L n k → PaA T e L fa nd (f k) (at0 n (-1))) (n k : Nat) (h : AtP T e L n k) : PaA T e L fa (nd + 1) (lsC L e 12 f k) (andG at0 T e 1001 (at0 n (-1)).1 (at0 n (-1)).2.1 (at0 n (-1)).2.2) := by
  unfold lsC
  rcases hf n k h with ⟨a1, a2, a3⟩ | ⟨a1, a2, a3, a4, a5⟩
  · have hb : ¬ nI (tA L e (f k).2.1).2.1 = -1 := nI_nm1 (by omega)
    rw [if_pos a1, a2, andG, if_neg hb]
    exact Or.inl ⟨rfl, rfl, a3⟩
  · rw [if_neg a1, a2]
    rcases an_eq he hB hok hf 400 1001 _ _ (at0 n (-1)).1 a3 (by omega) (by omega) a4 with ⟨g1, g2, g3⟩ | ⟨g1, g2, g3, g4, g5⟩
    · exact Or.inl ⟨g1, g2, g3⟩
    · refine Or.inr ⟨g1, g2, g3, g4, fun st hst => ?_⟩
      show hoL fa ((f k).2.2 ++ (jnC L e 12 f 400 (f k).2.1).2.2) st = _
      rw [hoL_app, a5 st (by omega)]
      exact g5 st hst
theorem or_eq {T : Sc} {e nd : Nat} {L : List Tok} {fa : Int32 → Int32} {f : Nat → PR} {at0 : Nat → Int32 → R3} (he : e ≤ 400) (hB : TkB T e L) (hok : ∀ k, k ≤ L.length → okP L k (f k)) (hf : ∀ n k, AtP T e L n k → PaA T e L fa nd (f k) (at0 n (-1))) : ∀ (c d n k : Nat) (v : Int32), AtP T e L n k → L.length - k ≤ c → L.length - k < d → (v = 0 ∨ v = 1) →
    ((jnC L e 11 f c k).1 = 0 ∧ (orG at0 T e d v n (-1)).2.2 = nI (tA L e (jnC L e 11 f c k).2.1).2.1 ∧ (tA L e (jnC L e 11 f c k).2.1).2.1 ≤ e) ∨
    (¬ (jnC L e 11 f c k).1 = 0 ∧ (orG at0 T e d v n (-1)).2.2 = -1 ∧ AtP T e L (orG at0 T e d v n (-1)).2.1 (jnC L e 11 f c k).2.1 ∧ ((orG at0 T e d v n (-1)).1 = 0 ∨ (orG at0 T e d v n (-1)).1 = 1) ∧ Ev1 fa (nd + 1) (jnC L e 11 f c k).2.2 v (orG at0 T e d v n (-1)).1)
  | c, 0, n, k, v, h, hc, hd, hv => by omega
  | c, d + 1, n, k, v, h, hc, hd, hv => by
    rw [orG, if_pos rfl]
    have hw := h.word hB (w_or, 11) (by decide)
    by_cases ht : isT L e k 11
    · obtain ⟨c, rfl⟩ : ∃ c', c = c' + 1 := ⟨c - 1, by have := ht.1; omega⟩
      have h2 : AtP T e L (sk T e n + 2) (k + 1) := h.wordS hB (w_or, 11) (by decide) ht
      have hk := hok (k + 1) h2.2.1
      rw [if_pos (hw.mpr ht), jnC, if_pos ht]
      rcases hf _ _ h2 with ⟨a1, a2, a3⟩ | ⟨a1, a2, a3, a4, a5⟩
      · have hb : ¬ nI (tA L e (f (k + 1)).2.1).2.1 = -1 := nI_nm1 (by omega)
        rw [if_pos a1, a2]
        obtain ⟨d, rfl⟩ : ∃ d', d = d' + 1 := ⟨d - 1, by have := ht.1; omega⟩
        rw [orG, if_neg hb]
        exact Or.inl ⟨rfl, rfl, a3⟩
      · rw [if_neg a1, a2]
        have ih := or_eq he hB hok hf c d _ _ (if ¬ v = 0 ∨ ¬ (at0 (sk T e n + 2) (-1)).1 = 0 then 1 else 0) a3 (by have := hk.2.1; have := ht.1; omega) (by have := hk.2.1; have := ht.1; omega) (if01 _)
        rcases ih with ⟨g1, g2, g3⟩ | ⟨g1, g2, g3, g4, g5⟩
        · exact Or.inl ⟨g1, g2, g3⟩
        · refine Or.inr ⟨g1, g2, g3, g4, fun st hst => ?_⟩
          show hoL fa ((f (k + 1)).2.2 ++ 11 :: (jnC L e 11 f c (f (k + 1)).2.1).2.2) (v :: st) = _
          rw [hoL_app, a5 (v :: st) (by rw [List.length_cons]; omega), hoL, hoS_join (by decide) (by decide), (and01 hv a4).2]
          exact g5 st hst
    · have e1 : jnC L e 11 f c k = (1, k, []) := by
        cases c with
        | zero => rfl
        | succ c => rw [jnC, if_neg ht]
      rw [if_neg (fun z => ht (hw.mp z)), e1]
      exact Or.inr ⟨n10, rfl, h.s, hv, fun st hst => rfl⟩
theorem or_all {T : Sc} {e nd : Nat} {L : List Tok} {fa : Int32 → Int32} {f : Nat → PR} {at0 : Nat → Int32 → R3} (he : e ≤ 400) (hL : L.length ≤ 400) (hB : TkB T e L) (hok : ∀ k, k ≤ L.length → okP L k (f k)) (hf : ∀ n k, AtP T e L n k → PaA T e L fa nd (f k) (at0 n (-1))) (n k : Nat) (h : AtP T e L n k) : PaA T e L fa (nd + 1) (lsC L e 11 f k) (orG at0 T e 1001 (at0 n (-1)).1 (at0 n (-1)).2.1 (at0 n (-1)).2.2) := by
  unfold lsC
  rcases hf n k h with ⟨a1, a2, a3⟩ | ⟨a1, a2, a3, a4, a5⟩
  · have hb : ¬ nI (tA L e (f k).2.1).2.1 = -1 := nI_nm1 (by omega)
    rw [if_pos a1, a2, orG, if_neg hb]
    exact Or.inl ⟨rfl, rfl, a3⟩
  · rw [if_neg a1, a2]
    rcases or_eq he hB hok hf 400 1001 _ _ (at0 n (-1)).1 a3 (by omega) (by omega) a4 with ⟨g1, g2, g3⟩ | ⟨g1, g2, g3, g4, g5⟩
    · exact Or.inl ⟨g1, g2, g3⟩
    · refine Or.inr ⟨g1, g2, g3, g4, fun st hst => ?_⟩
      show hoL fa ((f k).2.2 ++ (jnC L e 11 f 400 (f k).2.1).2.2) st = _
      rw [hoL_app, a5 st (by omega)]
      exact g5 st hst
/-- conditions -/
theorem any_eq {T : Sc} {e nd : Nat} {L : List Tok} {fa : Int32 → Int32} {f : Nat → PR} {at0 : Nat → Int32 → R3} (he : e ≤ 400) (hL : L.length ≤ 400) (hB : TkB T e L) (hok : ∀ k, k ≤ L.length → okP L k (f k)) (hf : ∀ n k, AtP T e L n k → PaA T e L fa nd (f k) (at0 n (-1))) (n k : Nat) (h : AtP T e L n k) : PaA T e L fa (nd + 1 + 1) (anyC L e f k) (someG at0 T e n (-1)) := by
  unfold anyC someG
  exact or_all (at0 := everyG at0 T e) he hL hB (lsC_ok hok) (fun n k h => by unfold everyG; exact an_all he hL hB hok hf n k h) n k h
theorem at_eq {T fc : Sc} {e : Nat} {L : List Tok} {fa : Int32 → Int32} {sv of : Int32} (he : e ≤ 400) (hL : L.length ≤ 400) (hB : TkB T e L) (hf : FaO fa fc sv of) (hsv : sv = 0 ∨ sv = 1) (hof : of = 0 ∨ of = 1) : ∀ (d n k : Nat), AtP T e L n k → PaA T e L fa (3 + 2 * d) (atC L e d k) (atomG T fc sv of e d n (-1)) := by
  have hplain : ∀ n k, AtP T e L n k → PaA T e L fa 3 (if (tA L e k).1 = 14 ∨ (tA L e k).1 = 15 then (1, k + 1, [(tA L e k).1]) else cmpC L e k) (pcR T fc sv of e (sk T e n)) := by
    intro n k h
    have hw1 := h.s.word hB (w_serving, 14) (by decide)
    have hw2 := h.s.word hB (w_off, 15) (by decide)
    by_cases h14 : isT L e k 14
    · rw [if_pos (Or.inl h14.2)]
      unfold pcR
      rw [if_pos (hw1.mpr h14)]
      refine Or.inr ⟨n10, rfl, h.s.wordS hB (w_serving, 14) (by decide) h14, hsv, fun st hst => ?_⟩
      show hoL fa [(tA L e k).1] st = _
      rw [h14.2, hoL, hoL, hoS_push (by decide) (by decide) (by omega), hf.1]
    · by_cases h15 : isT L e k 15
      · rw [if_pos (Or.inr h15.2)]
        unfold pcR
        rw [if_neg (fun z => h14 (hw1.mp z)), if_pos (hw2.mpr h15)]
        refine Or.inr ⟨n10, rfl, h.s.wordS hB (w_off, 15) (by decide) h15, hof, fun st hst => ?_⟩
        show hoL fa [(tA L e k).1] st = _
        rw [h15.2, hoL, hoL, hoS_push (by decide) (by decide) (by omega), hf.2.1]
      · rw [if_neg ?_]
        · exact cmp_eq he hL hB hf h.s h14 h15
        · rintro (z | z)
          · exact h14 ⟨tA_lt (by rw [z]; decide), z⟩
          · exact h15 ⟨tA_lt (by rw [z]; decide), z⟩
  intro d
  induction d with
  | zero =>
    intro n k h
    have hw := h.word hB (w_not, 13) (by decide)
    have hp := h.sgn hB 40 (by decide)
    rw [show (100 : Int32) + 40 = 140 by decide] at hp
    rw [atomG, if_pos rfl, atC]
    by_cases h13 : isT L e k 13
    · rw [if_pos (hw.mpr h13), if_pos (Or.inl h13.2), h.2.2]
      exact Or.inl ⟨rfl, rfl, h.be⟩
    · rw [if_neg (fun z => h13 (hw.mp z))]
      by_cases h40 : isT L e k 140
      · rw [if_pos (hp.mpr h40), if_pos (Or.inr h40.2), h.2.2]
        exact Or.inl ⟨rfl, rfl, h.be⟩
      · rw [if_neg (fun z => h40 (hp.mp z)), if_neg ?_]
        · exact hplain n k h
        · rintro (z | z)
          · exact h13 ⟨tA_lt (by rw [z]; decide), z⟩
          · exact h40 ⟨tA_lt (by rw [z]; decide), z⟩
  | succ d ih =>
    intro n k h
    have hw := h.word hB (w_not, 13) (by decide)
    have hp := h.sgn hB 40 (by decide)
    rw [show (100 : Int32) + 40 = 140 by decide] at hp
    rw [atomG, if_pos rfl, atC]
    by_cases h13 : isT L e k 13
    · have h2 : AtP T e L (sk T e n + 3) (k + 1) := h.wordS hB (w_not, 13) (by decide) h13
      rw [if_pos (hw.mpr h13), if_pos h13.2]
      rcases ih _ _ h2 with ⟨a1, a2, a3⟩ | ⟨a1, a2, a3, a4, a5⟩
      · rw [if_pos a1]; exact Or.inl ⟨rfl, a2, a3⟩
      · rw [if_neg a1]
        refine Or.inr ⟨n10, a2, a3, if01 _, fun st hst => ?_⟩
        show hoL fa ((atC L e d (k + 1)).2.2 ++ [13]) st = _
        rw [hoL_app, a5 st (by omega), hoL, hoL, hoS_not]
        congr 1
        rcases a4 with z | z <;> (dsimp only; rw [z]; decide)
    · rw [if_neg (fun z => h13 (hw.mp z)), if_neg (fun z => h13 ⟨tA_lt (by rw [z]; decide), z⟩)]
      by_cases h40 : isT L e k 140
      · have h2 : AtP T e L (sk T e n + 1) (k + 1) := h.sgnS hB 40 (by decide) h40
        rw [if_pos (hp.mpr h40), if_pos h40.2]
        unfold clR
        rcases any_eq he hL hB (atC_ok d) ih _ _ h2 with ⟨a1, a2, a3⟩ | ⟨a1, a2, a3, a4, a5⟩
        · have hb : ¬ nI (tA L e (anyC L e (atC L e d) (k + 1)).2.1).2.1 = -1 := nI_nm1 (by omega)
          rw [if_pos a1, a2, if_neg hb, if_neg hb]
          exact Or.inl ⟨rfl, rfl, a3⟩
        · have hq := a3.sgn hB 41 (by decide)
          rw [show (100 : Int32) + 41 = 141 by decide] at hq
          rw [if_neg a1, if_pos a2, if_pos a2]
          by_cases h41 : isT L e (anyC L e (atC L e d) (k + 1)).2.1 141
          · rw [if_pos h41, if_pos (hq.mpr h41)]
            exact Or.inr ⟨n10, rfl, a3.sgnS hB 41 (by decide) h41, a4, a5.le (by omega)⟩
          · rw [if_neg h41, if_neg (fun z => h41 (hq.mp z)), a3.2.2]
            exact Or.inl ⟨rfl, rfl, a3.be⟩
      · rw [if_neg (fun z => h40 (hp.mp z)), if_neg (fun z => h40 ⟨tA_lt (by rw [z]; decide), z⟩)]
        rcases hplain n k h with a | ⟨a1, a2, a3, a4, a5⟩
        · exact Or.inl a
        · exact Or.inr ⟨a1, a2, a3, a4, a5.le (by omega)⟩
/-- a whole condition -/
theorem cond_eq {T fc : Sc} {e n k : Nat} {L : List Tok} {fa : Int32 → Int32} {sv of : Int32} (he : e ≤ 400) (hL : L.length ≤ 400) (hB : TkB T e L) (hf : FaO fa fc sv of) (hsv : sv = 0 ∨ sv = 1) (hof : of = 0 ∨ of = 1) (h : AtP T e L n k) : PaA T e L fa 17 (anyC L e (atC L e 6) k) (someG (atomG T fc sv of e 6) T e n (-1)) :=
  any_eq he hL hB (atC_ok 6) (at_eq he hL hB hf hsv hof 6) n k h


