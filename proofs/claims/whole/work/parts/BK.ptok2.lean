/-! ===== what tokens tell of the text ===== -/
theorem Tk.sk_at {T : Sc} {e n : Nat} (h : sk T e n < e) : ¬ T (sk T e n) = 32 := by
  intro h2
  have h3 := sk_go h h2
  rw [sk_sk] at h3
  have := sk_ge T e (sk T e n + 1)
  omega
theorem skp_all {T : Sc} {e : Nat} : ∀ f n, e - n ≤ f → n ≤ e → skp T e f n = sk T e n
  | 0, n, h, h2 => by
    rw [skp]
    exact (sk_end (fun z => by omega)).symm
  | f + 1, n, h, h2 => by
    rw [skp]
    by_cases hc : n < e ∧ T n = 32
    · rw [if_pos hc, skp_all f (n + 1) (by omega) (by omega), sk_go hc.1 hc.2]
    · rw [if_neg hc, sk_end hc]
/-- the tokens from p on -/
def tkl (T : Sc) (e p : Nat) : List Tok := tokL T e (e - p) p
theorem tkl_all {T : Sc} {e : Nat} : ∀ f p, e - p ≤ f → p ≤ e → tokL T e f p = tkl T e p := by
  intro f
  induction f using Nat.strongRecOn with
  | _ f ih =>
    intro p h1 h2
    match f, ih, h1 with
    | 0, _, h1 =>
      have : p = e := by omega
      subst this
      unfold tkl
      rw [Nat.sub_self]
    | f + 1, ih, h1 =>
      by_cases hp : p < e
      · unfold tkl
        obtain ⟨d, hd⟩ : ∃ d, e - p = d + 1 := ⟨e - p - 1, by omega⟩
        rw [hd, tokL, tokL, if_pos hp, if_pos hp]
        by_cases h3 : T p = 32
        · rw [if_pos h3, if_pos h3, ih f (by omega) (p + 1) (by omega) (by omega), ih d (by omega) (p + 1) (by omega) (by omega)]
        · obtain ⟨g1, g2⟩ := tkE_in T hp
          rw [if_neg h3, if_neg h3, ih f (by omega) _ (by omega) g2, ih d (by omega) _ (by omega) g2]
      · unfold tkl
        have : e - p = 0 := by omega
        rw [this, tokL, tokL, if_neg hp]
theorem tkl_nil {T : Sc} {e : Nat} : tkl T e e = [] := by unfold tkl; rw [Nat.sub_self, tokL]
theorem tkl_st {T : Sc} {e : Nat} : ∀ d p, e - p = d → p ≤ e → tkl T e p = if sk T e p < e then tk1 T e (sk T e p) :: tkl T e (tkE T e (sk T e p)) else []
  | 0, p, h, h2 => by
    have : p = e := by omega
    subst this
    rw [sk_end (fun z => by omega), if_neg (by omega), tkl_nil]
  | d + 1, p, h, h2 => by
    have hp : p < e := by omega
    by_cases h3 : T p = 32
    · rw [sk_go hp h3, ← tkl_st d (p + 1) (by omega) (by omega)]
      rw [show tkl T e p = tokL T e (d + 1) p by unfold tkl; rw [h], tokL, if_pos hp, if_pos h3, tkl_all d (p + 1) (by omega) (by omega)]
    · have e1 : sk T e p = p := sk_end (fun z => h3 z.2)
      obtain ⟨g1, g2⟩ := tkE_in T hp
      rw [e1, if_pos hp, show tkl T e p = tokL T e (d + 1) p by unfold tkl; rw [h], tokL, if_pos hp, if_neg h3, tkl_all d _ (by omega) g2]
theorem tkl_at {T : Sc} {e : Nat} : ∀ k p, p ≤ e → k ≤ (tkl T e p).length → ∃ q, q ≤ e ∧ (tkl T e p).drop k = tkl T e q ∧ (k = 0 → q = p)
  | 0, p, hp, _ => ⟨p, hp, rfl, fun _ => rfl⟩
  | k + 1, p, hp, hk => by
    by_cases h : sk T e p < e
    · have e1 := tkl_st (T := T) _ p rfl hp
      rw [if_pos h] at e1
      obtain ⟨g1, g2⟩ := tkE_in T h
      obtain ⟨q, h1, h2, _⟩ := tkl_at k (tkE T e (sk T e p)) g2 (by rw [e1] at hk; simpa using hk)
      exact ⟨q, h1, by rw [e1]; simpa using h2, fun z => by omega⟩
    · have e1 := tkl_st (T := T) _ p rfl hp
      rw [if_neg h] at e1
      rw [e1] at hk
      exact absurd hk (by simp)
theorem tA_drop (L : List Tok) (e k : Nat) : tA L e k = (L.drop k).headD (dT e) := by
  unfold tA
  rw [List.headD_eq_head?_getD, List.head?_drop, List.getD_eq_getElem?_getD]
/-- the tokens of a text: where each begins, and what it is -/
def TkJ (T : Sc) (e : Nat) (L : List Tok) : Prop := (tA L e 0).2.1 = sk T e 0 ∧ (∀ k, L.length ≤ k → tA L e k = dT e) ∧ ∀ k, k < L.length → (tA L e k).2.1 < e ∧ ¬ T (tA L e k).2.1 = 32 ∧ tA L e k = tk1 T e (tA L e k).2.1 ∧ (tA L e (k + 1)).2.1 = sk T e (tkE T e (tA L e k).2.1)
theorem tkl_hd {T : Sc} {e q : Nat} (hq : q ≤ e) : ((tkl T e q).headD (dT e)).2.1 = sk T e q := by
  rw [tkl_st _ q rfl hq]
  by_cases h : sk T e q < e
  · rw [if_pos h]; rfl
  · rw [if_neg h]
    have := sk_in (T := T) hq
    show e = _
    omega
theorem TkJ_toks (T : Sc) {e : Nat} (he : e ≤ 400) : TkJ T e (toks T e) := by
  have e0 : toks T e = tkl T e 0 := tkl_all 400 0 (by omega) (by omega)
  rw [e0]
  refine ⟨?_, fun k hk => ?_, fun k hk => ?_⟩
  · rw [tA_drop]; exact tkl_hd (by omega)
  · unfold tA; rw [List.getD_eq_getElem?_getD, List.getElem?_eq_none hk]; rfl
  · obtain ⟨q, hq, h1, _⟩ := tkl_at (T := T) (e := e) k 0 (by omega) (by omega)
    have hne : ¬ (tkl T e 0).drop k = [] := by
      intro z
      have := congrArg List.length z
      rw [List.length_drop] at this
      simp at this
      omega
    rw [h1] at hne
    have e1 := tkl_st (T := T) _ q rfl hq
    by_cases h : sk T e q < e
    · rw [if_pos h] at e1
      have ek : tA (tkl T e 0) e k = tk1 T e (sk T e q) := by rw [tA_drop, h1, e1]; rfl
      have ed : (tkl T e 0).drop (k + 1) = tkl T e (tkE T e (sk T e q)) := by
        rw [← List.drop_drop, h1, e1]; rfl
      rw [ek]
      refine ⟨h, Tk.sk_at h, rfl, ?_⟩
      rw [tA_drop, ed]
      exact tkl_hd (tkE_in T h).2
    · rw [if_neg h] at e1; exact absurd e1 hne
/-- a digit's run read from the left -/
def dgV (T : Sc) (n : Nat) (v : Int32) : Nat → Int32
  | 0 => v
  | j + 1 => 10 * dgV T n v j + T (n + j) - 48
theorem dgV_s (T : Sc) (n : Nat) (v : Int32) : ∀ j, dgV T n v (j + 1) = dgV T (n + 1) (10 * v + T n - 48) j
  | 0 => rfl
  | j + 1 => by rw [dgV, dgV_s T n v j, dgV, show n + 1 + j = n + (j + 1) from by omega]
theorem nmS_dgV (T : Sc) (p : Nat) : ∀ j, nmS T p j = dgV T p 0 j
  | 0 => rfl
  | j + 1 => by rw [nmS, dgV, nmS_dgV T p j, Int32.mul_comm]
theorem dgs_de {T : Sc} {e : Nat} : ∀ k n v, n ≤ e → dgs T e k n v = (n + min k (de T e n - n), dgV T n v (min k (de T e n - n)))
  | 0, n, v, _ => by rw [dgs, Nat.zero_min, dgV]; rfl
  | k + 1, n, v, hn => by
    rw [dgs]
    by_cases h : n < e ∧ rIn (T n) 48 57 ≠ 0
    · have h1 := de_go h.1 h.2
      have h2 := de_ge T e (n + 1)
      rw [if_pos h, dgs_de k (n + 1) _ (by omega), h1]
      have e1 : min (k + 1) (de T e (n + 1) - n) = min k (de T e (n + 1) - (n + 1)) + 1 := by omega
      rw [e1, dgV_s]
      congr 1
      omega
    · rw [if_neg h, de_end h, Nat.sub_self, Nat.min_zero, dgV]; rfl
theorem nmS_rng {T : Sc} {p : Nat} : ∀ j, j ≤ 3 → (∀ i, i < j → ¬ rIn (T (p + i)) 48 57 = 0) → ∃ v : Nat, v < 10 ^ j ∧ nmS T p j = nI v
  | 0, _, _ => ⟨0, by decide, by rw [nmS]; decide⟩
  | j + 1, hj, h => by
    obtain ⟨v, hv, ev⟩ := nmS_rng j (by omega) (fun i hi => h i (by omega))
    have hd := h j (by omega)
    rw [rIn_ne] at hd
    obtain ⟨d, h1, h2⟩ := nat_to (n := 57) (Int32.le_trans (by decide) hd.1) hd.2 (by decide)
    have h48 : 48 ≤ d := by
      have := hd.1
      rw [h2] at this
      exact (nI_leI (a := 48) (by decide) (by omega)).mp this
    refine ⟨v * 10 + (d - 48), by rw [Nat.pow_succ]; omega, ?_⟩
    rw [nmS, ev, h2, show (10 : Int32) = nI 10 by decide, pk_mul, nI_add, show (48 : Int32) = nI 48 by decide, pk_sub (by omega)]
    congr 1
    omega
theorem de_all {T : Sc} {e : Nat} : ∀ d n, e - n = d → ∀ i, n ≤ i → i < de T e n → i < e ∧ ¬ rIn (T i) 48 57 = 0
  | 0, n, h, i, h1, h2 => by
    rw [de_end (fun z => by omega)] at h2
    omega
  | d + 1, n, h, i, h1, h2 => by
    by_cases hc : n < e ∧ ¬ rIn (T n) 48 57 = 0
    · rcases Nat.eq_or_lt_of_le h1 with rfl | h3
      · exact hc
      · exact de_all d (n + 1) (by omega) i h3 (by rw [← de_go hc.1 hc.2]; exact h2)
    · rw [de_end hc] at h2
      omega

