/-! ===== rules: reading and worth, class = reference ===== -/
def FaO (fa : Int32 → Int32) (fc : Sc) (sv of : Int32) : Prop := fa 14 = sv ∧ fa 15 = of ∧ fa 16 = fc 0 ∧ fa 17 = fc 1 ∧ fa 18 = fc 2 ∧ fa 19 = fc 3 ∧ fa 6 = fc 4 ∧ ∀ v : Nat, v < 1000 → fa (1000 + nI v) = nI v
/-- the code leaves v on the pile; at most nd of the pile's places are used -/
def Evl (fa : Int32 → Int32) (nd : Nat) (c : List Int32) (v : Int32) : Prop := ∀ st : List Int32, st.length + nd ≤ 40 → hoL fa c st = v :: st
def Ev1 (fa : Int32 → Int32) (nd : Nat) (c : List Int32) (a v : Int32) : Prop := ∀ st : List Int32, st.length + nd ≤ 40 → hoL fa c (a :: st) = v :: st
theorem hoL_app (fa : Int32 → Int32) : ∀ (a b st : List Int32), hoL fa (a ++ b) st = hoL fa b (hoL fa a st)
  | [], b, st => rfl
  | x :: a, b, st => by rw [List.cons_append, hoL, hoL, hoL_app fa a b]
theorem Evl.le {fa : Int32 → Int32} {a b : Nat} {c : List Int32} {v : Int32} (h : Evl fa a c v) (hab : a ≤ b) : Evl fa b c v := fun st hs => h st (by omega)
theorem hoS_push {fa : Int32 → Int32} {x : Int32} {st : List Int32} (h1 : ¬ x = 13) (h2 : ¬ jnO x) (h3 : st.length < 40) : hoS fa x st = fa x :: st := by
  unfold hoS
  rw [if_neg (fun z => h1 z.1), if_neg (fun z => h2 z.1), if_pos h3]
theorem hoS_join {fa : Int32 → Int32} {x a b : Int32} {st : List Int32} (h1 : ¬ x = 13) (h2 : jnO x) : hoS fa x (b :: a :: st) = joV x a b :: st := by
  unfold hoS
  rw [if_neg (fun z => h1 z.1), if_pos ⟨h2, by simp⟩]
  rfl
theorem hoS_not {fa : Int32 → Int32} {a : Int32} {st : List Int32} : hoS fa 13 (a :: st) = (1 - a) :: st := by
  unfold hoS
  rw [if_pos ⟨rfl, by simp⟩]
  rfl
/-- an operand stands at k -/
def OpO (L : List Tok) (e k : Nat) : Prop := isN L e k 0 999 ∨ isPa (tA L e k).1
def opX (L : List Tok) (e k : Nat) : Int32 := if isN L e k 0 999 then 1000 + (tA L e k).2.2 else (tA L e k).1
theorem op_fin1 : ∀ v : Nat, v < 1000 → ¬ 1000 + (nI v : Int32) = 13 ∧ ¬ jnO (1000 + nI v) := by decide +kernel
theorem op_fin2 {x : Int32} (h : isPa x) : ¬ x = 13 ∧ ¬ jnO x := by rcases h with h | h | h | h | h <;> (rw [h]; decide)
theorem pt_eq {T fc : Sc} {e n k : Nat} {L : List Tok} {fa : Int32 → Int32} {sv of : Int32} (hB : TkB T e L) (hf : FaO fa fc sv of) (h : AtP T e L n k) :
    (OpO L e k ∧ ptF T e n (-1) = -1 ∧ AtP T e L (ptN T e n (-1)) (k + 1) ∧ ptV T fc e n (-1) = fa (opX L e k) ∧ ¬ opX L e k = 13 ∧ ¬ jnO (opX L e k)) ∨ (¬ OpO L e k ∧ ptF T e n (-1) = nI (tA L e k).2.1) := by
  obtain ⟨f14, f15, f16, f17, f18, f19, f6, f1⟩ := hf
  unfold ptF ptN ptV
  rw [if_pos rfl, if_pos rfl, if_pos rfl]
  by_cases hd : isT L e k 1
  · have hD := (h.dg hB).mpr hd
    rw [if_pos hD, if_pos hD, if_pos hD, h.s.num hB 0 999 (by decide)]
    by_cases hn : isN L e k 0 999
    · obtain ⟨v, v1, v2, v3, v4, v5, v6⟩ := h.s.nv hB 0 999 (by decide) (by decide) hn
      have e1 : opX L e k = 1000 + nI v := by unfold opX; rw [if_pos hn, v3]
      rw [if_pos hn, v4, e1]
      exact Or.inl ⟨Or.inl hn, rfl, v5, (f1 v (by omega)).symm, (op_fin1 v (by omega)).1, (op_fin1 v (by omega)).2⟩
    · rw [if_neg hn]
      refine Or.inr ⟨fun z => z.elim hn (fun z => ?_), rfl⟩
      rw [hd.2] at z
      exact absurd z (by decide)
  · have hD : ¬ isD T e (sk T e n) := fun z => hd ((h.dg hB).mp z)
    have hn : ¬ isN L e k 0 999 := fun z => hd z.1
    rw [if_neg hD, if_neg hD, if_neg hD]
    have ex : opX L e k = (tA L e k).1 := by unfold opX; rw [if_neg hn]
    rw [ex]
    unfold pK

    by_cases hmine : isT L e k 16
    · have hw := (h.word hB (w_mine, 16) (by decide)).mpr hmine
      have hS := h.wordS hB (w_mine, 16) (by decide) hmine
      rw [if_pos hw]
      have hp : isPa (tA L e k).1 := by rw [hmine.2]; decide
      exact Or.inl ⟨Or.inr hp, rfl, hS, by rw [hmine.2, f16]; rfl, op_fin2 hp⟩
    have nmine : ¬ isW T e (sk T e n) w_mine := fun z => hmine ((h.word hB (w_mine, 16) (by decide)).mp z)
    rw [if_neg nmine]
    by_cases hhis : isT L e k 17
    · have hw := (h.word hB (w_his, 17) (by decide)).mpr hhis
      have hS := h.wordS hB (w_his, 17) (by decide) hhis
      rw [if_pos hw]
      have hp : isPa (tA L e k).1 := by rw [hhis.2]; decide
      exact Or.inl ⟨Or.inr hp, rfl, hS, by rw [hhis.2, f17]; rfl, op_fin2 hp⟩
    have nhis : ¬ isW T e (sk T e n) w_his := fun z => hhis ((h.word hB (w_his, 17) (by decide)).mp z)
    rw [if_neg nhis]
    by_cases hline : isT L e k 18
    · have hw := (h.word hB (w_line, 18) (by decide)).mpr hline
      have hS := h.wordS hB (w_line, 18) (by decide) hline
      rw [if_pos hw]
      have hp : isPa (tA L e k).1 := by rw [hline.2]; decide
      exact Or.inl ⟨Or.inr hp, rfl, hS, by rw [hline.2, f18]; rfl, op_fin2 hp⟩
    have nline : ¬ isW T e (sk T e n) w_line := fun z => hline ((h.word hB (w_line, 18) (by decide)).mp z)
    rw [if_neg nline]
    by_cases hchases : isT L e k 19
    · have hw := (h.word hB (w_chases, 19) (by decide)).mpr hchases
      have hS := h.wordS hB (w_chases, 19) (by decide) hchases
      rw [if_pos hw]
      have hp : isPa (tA L e k).1 := by rw [hchases.2]; decide
      exact Or.inl ⟨Or.inr hp, rfl, hS, by rw [hchases.2, f19]; rfl, op_fin2 hp⟩
    have nchases : ¬ isW T e (sk T e n) w_chases := fun z => hchases ((h.word hB (w_chases, 19) (by decide)).mp z)
    rw [if_neg nchases]
    by_cases hgames : isT L e k 6
    · have hw := (h.word hB (w_games, 6) (by decide)).mpr hgames
      have hS := h.wordS hB (w_games, 6) (by decide) hgames
      rw [if_pos hw]
      have hp : isPa (tA L e k).1 := by rw [hgames.2]; decide
      exact Or.inl ⟨Or.inr hp, rfl, hS, by rw [hgames.2, f6]; rfl, op_fin2 hp⟩
    have ngames : ¬ isW T e (sk T e n) w_games := fun z => hgames ((h.word hB (w_games, 6) (by decide)).mp z)
    rw [if_neg ngames]
    refine Or.inr ⟨fun z => z.elim hn (fun z => ?_), by rw [if_pos rfl, h.2.2]⟩
    have hk := isPa_lt z
    rcases z with z | z | z | z | z
    · exact hmine ⟨hk, z⟩
    · exact hhis ⟨hk, z⟩
    · exact hline ⟨hk, z⟩
    · exact hchases ⟨hk, z⟩
    · exact hgames ⟨hk, z⟩
theorem op_code {fa : Int32 → Int32} {x v0 : Int32} {m : Nat} {st c : List Int32} (h1 : ¬ x = 13) (h2 : ¬ jnO x) (h3 : st.length + 2 ≤ 40) : hoL fa (x :: (pl1 m ++ c)) (if m = 0 then st else v0 :: st) = hoL fa c ((if m = 0 then fa x else v0 + fa x) :: st) := by
  unfold pl1
  by_cases hm : m = 0
  · rw [if_pos hm, if_pos hm, if_pos hm, List.nil_append, hoL, hoS_push h1 h2 (by omega)]
  · rw [if_neg hm, if_neg hm, if_neg hm, hoL, hoS_push h1 h2 (by rw [List.length_cons]; omega), List.singleton_append, hoL, hoS_join (by decide) (by decide)]
    rfl
theorem sumC_s (L : List Tok) (e c m k : Nat) (h : OpO L e k) : sumC L e (c + 1) m k = if isT L e (k + 1) 143 then ((sumC L e c (m + 1) (k + 2)).1, (sumC L e c (m + 1) (k + 2)).2.1, opX L e k :: (pl1 m ++ (sumC L e c (m + 1) (k + 2)).2.2)) else (1, k + 1, opX L e k :: pl1 m) := by
  unfold opX
  rw [sumC]
  by_cases hn : isN L e k 0 999
  · rw [if_pos hn, if_pos hn]
  · rw [if_neg hn, if_neg hn, if_pos (h.resolve_left hn)]
theorem sumC_n (L : List Tok) (e c m k : Nat) (h : ¬ OpO L e k) : sumC L e c m k = (0, k, []) := by
  cases c with
  | zero => rfl
  | succ c => rw [sumC, if_neg (fun z => h (Or.inl z)), if_neg (fun z => h (Or.inr z))]
theorem OpO.lt {L : List Tok} {e k : Nat} (h : OpO L e k) : k < L.length := by
  rcases h with h | h
  · exact h.1.1
  · exact isPa_lt h
/-- sums -/
theorem sum_eq {T fc : Sc} {e : Nat} {L : List Tok} {fa : Int32 → Int32} {sv of : Int32} (he : e ≤ 400) (hB : TkB T e L) (hf : FaO fa fc sv of) : ∀ (c m k n d : Nat) (v0 : Int32), AtP T e L n k → L.length - k ≤ c → L.length - k < d →
    ((sumC L e c m k).1 = 0 ∧ (sumG T fc e d (if m = 0 then ptV T fc e n (-1) else v0 + ptV T fc e n (-1)) (ptN T e n (-1)) (ptF T e n (-1))).2.2 = nI (tA L e (sumC L e c m k).2.1).2.1 ∧ (tA L e (sumC L e c m k).2.1).2.1 ≤ e) ∨
    (¬ (sumC L e c m k).1 = 0 ∧ (sumG T fc e d (if m = 0 then ptV T fc e n (-1) else v0 + ptV T fc e n (-1)) (ptN T e n (-1)) (ptF T e n (-1))).2.2 = -1 ∧ AtP T e L (sumG T fc e d (if m = 0 then ptV T fc e n (-1) else v0 + ptV T fc e n (-1)) (ptN T e n (-1)) (ptF T e n (-1))).2.1 (sumC L e c m k).2.1 ∧
      ∀ st : List Int32, st.length + 2 ≤ 40 → hoL fa (sumC L e c m k).2.2 (if m = 0 then st else v0 :: st) = (sumG T fc e d (if m = 0 then ptV T fc e n (-1) else v0 + ptV T fc e n (-1)) (ptN T e n (-1)) (ptF T e n (-1))).1 :: st)
  | c, m, k, n, d, v0, h, hc, hd => by
    obtain ⟨d, rfl⟩ : ∃ d', d = d' + 1 := ⟨d - 1, by omega⟩
    rcases pt_eq hB hf h with ⟨ho, h1, h2, h3, h4, h5⟩ | ⟨ho, h1⟩
    · have hk := ho.lt
      obtain ⟨c, rfl⟩ : ∃ c', c = c' + 1 := ⟨c - 1, by omega⟩
      rw [sumC_s L e c m k ho, h1, h3]
      have hs := h2.sgn hB 43 (by decide)
      rw [show (100 : Int32) + 43 = 143 by decide] at hs
      rw [sumG, if_pos rfl]
      by_cases hp : isT L e (k + 1) 143
      · have h6 := h2.sgnS hB 43 (by decide) hp
        rw [if_pos hp, if_pos (hs.mpr hp)]
        generalize ha : (if m = 0 then fa (opX L e k) else v0 + fa (opX L e k)) = acc at *
        have ih := sum_eq he hB hf c (m + 1) (k + 2) _ d acc h6 (by omega) (by omega)
        rw [if_neg (by omega)] at ih
        rcases ih with ⟨g1, g2, g3⟩ | ⟨g1, g2, g3, g4⟩
        · exact Or.inl ⟨g1, g2, g3⟩
        · refine Or.inr ⟨g1, g2, g3, fun st hst => ?_⟩
          have := g4 st hst
          rw [if_neg (by omega)] at this
          rw [op_code h4 h5 hst, ha, this]
      · rw [if_neg hp, if_neg (fun z => hp (hs.mp z))]
        refine Or.inr ⟨n10, rfl, h2.s, fun st hst => ?_⟩
        have := op_code (fa := fa) (v0 := v0) (m := m) (c := []) h4 h5 hst
        rw [List.append_nil, hoL] at this
        exact this
    · rw [sumC_n L e c m k ho, h1]
      have hb := (h.bg he).2
      rw [sumG, if_neg hb]
      exact Or.inl ⟨rfl, rfl, h.be⟩
  termination_by c => c
theorem sm_eq {T fc : Sc} {e n k : Nat} {L : List Tok} {fa : Int32 → Int32} {sv of : Int32} (he : e ≤ 400) (hL : L.length ≤ 400) (hB : TkB T e L) (hf : FaO fa fc sv of) (h : AtP T e L n k) :
    ((sumC L e 400 0 k).1 = 0 ∧ (smR T fc e n (-1)).2.2 = nI (tA L e (sumC L e 400 0 k).2.1).2.1 ∧ (tA L e (sumC L e 400 0 k).2.1).2.1 ≤ e) ∨
    (¬ (sumC L e 400 0 k).1 = 0 ∧ (smR T fc e n (-1)).2.2 = -1 ∧ AtP T e L (smR T fc e n (-1)).2.1 (sumC L e 400 0 k).2.1 ∧ Evl fa 2 (sumC L e 400 0 k).2.2 (smR T fc e n (-1)).1) := by
  have := sum_eq he hB hf 400 0 k n 1001 0 h (by omega) (by omega)
  rw [if_pos rfl] at this
  rcases this with a | ⟨a, b, c, d⟩
  · exact Or.inl a
  · exact Or.inr ⟨a, b, c, fun st hst => by have := d st hst; rwa [if_pos rfl] at this⟩
/-- parsers alike -/
def PaA (T : Sc) (e : Nat) (L : List Tok) (fa : Int32 → Int32) (nd : Nat) (f : PR) (g : R3) : Prop :=
  (f.1 = 0 ∧ g.2.2 = nI (tA L e f.2.1).2.1 ∧ (tA L e f.2.1).2.1 ≤ e) ∨ (¬ f.1 = 0 ∧ g.2.2 = -1 ∧ AtP T e L g.2.1 f.2.1 ∧ (g.1 = 0 ∨ g.1 = 1) ∧ Evl fa nd f.2.2 g.1)
theorem cmp_eq {T fc : Sc} {e n k : Nat} {L : List Tok} {fa : Int32 → Int32} {sv of : Int32} (he : e ≤ 400) (hL : L.length ≤ 400) (hB : TkB T e L) (hf : FaO fa fc sv of) (h : AtP T e L n k) (hs : ¬ isT L e k 14) (ho : ¬ isT L e k 15) : PaA T e L fa 3 (cmpC L e k) (pcR T fc sv of e n) := by
  unfold pcR cmpC PaA
  dsimp only
  rw [if_neg (fun z => hs ((h.word hB (w_serving, 14) (by decide)).mp z)), if_neg (fun z => ho ((h.word hB (w_off, 15) (by decide)).mp z))]
  rcases sm_eq he hL hB hf h.s with ⟨a1, a2, a3⟩ | ⟨a1, a2, a3, a4⟩
  · have hb : ¬ nI (tA L e (sumC L e 400 0 k).2.1).2.1 = -1 := nI_nm1 (by omega)
    rw [if_pos a1, if_neg (by rw [a2]; exact hb)]
    exact Or.inl ⟨rfl, a2, a3⟩
  · rw [if_neg a1, if_pos a2]
    have h60 := a3.sgn hB 60 (by decide)
    have h62 := a3.sgn hB 62 (by decide)
    rw [show (100 : Int32) + 60 = 160 by decide] at h60
    rw [show (100 : Int32) + 62 = 162 by decide] at h62
    generalize hs1 : sumC L e 400 0 k = s1 at *
    generalize hr1 : smR T fc e (sk T e n) (-1) = r1 at *
    by_cases c0 : isT L e s1.2.1 160
    · have h6 := a3.sgnS hB 60 (by decide) c0
      rw [if_pos (Or.inl c0.2), if_pos (h60.mpr c0)]
      rcases sm_eq he hL hB hf h6 with ⟨b1, b2, b3⟩ | ⟨b1, b2, b3, b4⟩
      · rw [if_pos b1]; exact Or.inl ⟨rfl, b2, b3⟩
      · rw [if_neg b1]
        refine Or.inr ⟨n10, b2, b3, if01 _, fun st hst => ?_⟩
        rw [hoL_app, hoL_app, a4 st (by omega), b4 _ (by rw [List.length_cons]; omega), hoL, hoL, c0.2, hoS_join (by decide) (by decide)]
        rfl
    · rw [if_neg (fun z => c0 (h60.mp z))]
      by_cases c2 : isT L e s1.2.1 162
      · have h6 := a3.sgnS hB 62 (by decide) c2
        rw [if_pos (Or.inr c2.2), if_pos (h62.mpr c2)]
        rcases sm_eq he hL hB hf h6 with ⟨b1, b2, b3⟩ | ⟨b1, b2, b3, b4⟩
        · rw [if_pos b1]; exact Or.inl ⟨rfl, b2, b3⟩
        · rw [if_neg b1]
          refine Or.inr ⟨n10, b2, b3, if01 _, fun st hst => ?_⟩
          rw [hoL_app, hoL_app, a4 st (by omega), b4 _ (by rw [List.length_cons]; omega), hoL, hoL, c2.2, hoS_join (by decide) (by decide)]
          rfl
      · have hn : ¬ ((tA L e s1.2.1).1 = 160 ∨ (tA L e s1.2.1).1 = 162) := by
          rintro (z | z)
          · exact c0 ⟨tA_lt (by rw [z]; decide), z⟩
          · exact c2 ⟨tA_lt (by rw [z]; decide), z⟩
        rw [if_neg (fun z => c2 (h62.mp z)), if_neg hn]
        exact Or.inl ⟨rfl, by rw [a3.2.2], a3.be⟩


