/-! ===== styles: their range; the table of all styles without its scratch ===== -/
def ok4 (s : Int32) : Prop := s = -1 ∨ ∃ v : Nat, v < 4 ∧ s = nI v
theorem lnG_inv {line : Nat → Int32 → RLn Int32} {T : Sc} {e b : Nat} (P : Int32 → Prop) (hok : ∀ n s, n ≤ e → okL e b (line n s)) (hP : ∀ n s, n ≤ e → P s → P (line n s).2.2) : ∀ (k n : Nat) (s : Int32), n ≤ e → P s → P (lnG line T e k n s).2.2
  | 0, n, s, _, h => h
  | k + 1, n, s, hn, h => by
    have hsk := sk_in (T := T) hn
    have h1 := hP _ s hsk h
    have h2 := hok _ s hsk
    rw [lnG]
    generalize line (sk T e n) s = r at *
    by_cases hf : r.2.1 = -1
    · rw [if_pos hf]
      have h3 := sk_in (T := T) (h2.2 hf)
      by_cases h4 : sk T e r.1 = e
      · rw [if_pos h4]; exact h1
      · rw [if_neg h4]
        by_cases h5 : T (sk T e r.1) = 59
        · rw [if_pos h5]
          exact lnG_inv P hok hP k _ _ (by omega) h1
        · rw [if_neg h5]; exact h1
    · rw [if_neg hf]; exact h1
theorem rlR_ok4 {T : Sc} {sm : Nat → Int32 → R3} {e n : Nat} {s : Int32} (he : e ≤ 400) (hn : n ≤ e) (h : ok4 s) : ok4 (rlR T sm e n s).2.2 := by
  have hsk := sk_in (T := T) hn
  have hv : isW T e (sk T e n) w_style → fgF T e (sk T e n + 5) (-1) 0 3 = -1 → ok4 (figV T e (sk T e n + 5)) := by
    intro hw hf
    have h5 : sk T e n + 5 ≤ e := isW_in hw (by decide)
    have hs2 := sk_in (T := T) h5
    unfold fgF at hf
    rw [if_pos rfl] at hf
    by_cases hb : figBad T e (sk T e n + 5) 0 3
    · rw [if_pos hb] at hf
      exact absurd hf (nI_nm1 (by omega))
    · have h1 : ¬ figV T e (sk T e n + 5) < 0 := fun z => hb (Or.inr (Or.inr (Or.inl z)))
      have h2 : ¬ 3 < figV T e (sk T e n + 5) := fun z => hb (Or.inr (Or.inr (Or.inr z)))
      obtain ⟨v, h3, h4⟩ := nat_to (n := 3) (Int32.not_lt.mp h1) (Int32.not_lt.mp h2) (by decide)
      exact Or.inr ⟨v, by omega, h4⟩
  unfold rlR
  by_cases hw : isW T e (sk T e n) w_style
  · rw [if_pos hw]
    by_cases hf : fgF T e (sk T e n + 5) (-1) 0 3 = -1
    · rw [if_pos hf]
      have h9 := hv hw hf
      by_cases hi : isW T e (sk T e (figE T e (sk T e n + 5))) w_if
      · rw [if_pos hi]
        dsimp only
        split
        · exact h9
        · exact h
      · rw [if_neg hi]
        dsimp only
        split
        · exact h9
        · exact h
    · rw [if_neg hf]; exact h
  · rw [if_neg hw]; exact h
theorem stS_or (x : Sc) (p : Nat) : stS x p = 0 ∨ stS x p = 1 := by unfold stS; exact if01 _
theorem stO_or (x : Sc) : stO x = 0 ∨ stO x = 1 := by unfold stO; exact if01 _
theorem stR_ok4 {m fc x : Sc} {p r e : Nat} (he : e ≤ 400) : ok4 (stR m fc x p r e).2.2 := by
  unfold stR lnR
  have h0 : ok4 (-1) := Or.inl rfl
  by_cases hs : sk (stT m r) e 0 < e
  · rw [if_pos hs]
    exact lnG_inv (b := 6) ok4 (fun n s hn => rlR_ok he (stS_or x p) (stO_or x) hn) (fun n s hn h => rlR_ok4 he hn h) 12 _ _ (by omega) h0
  · rw [if_neg hs]; exact h0
theorem soV_4 {m fc x : Sc} {p : Nat} (hH : stH m p) : ∃ s : Nat, s < 4 ∧ soV m fc x p = nI s := by
  unfold soV
  by_cases hm : m (199 + p) = -1
  · rw [if_pos hm]; exact ⟨0, by decide, rfl⟩
  · rw [if_neg hm]
    rcases hH with h | ⟨r, e, hr, he, h1, h2⟩
    · exact absurd h hm
    · have e1 : soN m p = r := by unfold soN; rw [h1, nI_clamp (by omega)]
      have e2 : soE m p = e := by unfold soE; rw [e1, h2, nI_clamp (by omega)]
      have h4 : ok4 (soR m fc x p).2.2 := by
        unfold soR
        rw [e1, e2]
        exact stR_ok4 he
      by_cases h5 : (soR m fc x p).2.2 = -1
      · rw [if_pos h5]; exact ⟨0, by decide, rfl⟩
      · rw [if_neg h5]
        rcases h4 with h4 | h4
        · exact absurd h4 h5
        · exact h4
/-- facts that are 0 behind the five -/
def fz (fc : Sc) : Sc := fun k => if k < 5 then fc k else 0
theorem fz_eq (fc : Sc) : ∀ k, k < 5 → fc k = fz fc k := fun k hk => (if_pos hk).symm
def fzO (fc : Sc) : Prop := ∀ k, 5 ≤ k → fc k = 0
theorem fz_O (fc : Sc) : fzO (fz fc) := fun k hk => if_neg (by omega)
theorem stX_z {fc x y : Sc} {p : Nat} (hp : p ≤ 1) (h : fzO fc) (hx : ∀ j, j < 9 → x j = y j) : stX fc x p = stX (fun _ => 0) y p := by
  have e0 := hx p (by omega)
  have e1 := hx (1 - p) (by omega)
  have e3 := hx 3 (by decide)
  have e4 := hx 4 (by decide)
  have e7 := hx (7 + p) (by omega)
  funext k
  unfold stX
  rw [e0, e1, e3, e4, e7]
  by_cases hk : k < 5
  · match k, hk with
    | 0, _ => rfl
    | 1, _ => rfl
    | 2, _ => rfl
    | 3, _ => rfl
    | 4, _ => rfl
    | (k + 5), hk => omega
  · have h0 : ¬ k = 0 := by omega
    have h1 : ¬ k = 1 := by omega
    have h2 : ¬ k = 2 := by omega
    have h3 : ¬ k = 3 := by omega
    have h4 : ¬ k = 4 := by omega
    simp only [upd, h0, h1, h2, h3, h4, if_false]
    exact h k (by omega)
/-- the style of player p at state x -/
def svV (m x : Sc) (p : Nat) : Int32 := soV m (fun _ => 0) x p
theorem soV_z {m fc x y : Sc} {p : Nat} (hp : p ≤ 1) (h : fzO fc) (hx : ∀ j, j < 9 → x j = y j) : soV m fc x p = svV m y p := by
  have e : soR m fc x p = soR m (fun _ => 0) y p := by
    unfold soR stR
    rw [stX_z hp h hx, show stS x p = stS y p from by unfold stS; rw [hx 2 (by decide)], show stO x = stO y from by unfold stO; rw [hx 6 (by decide)]]
  unfold svV soV
  rw [e]
theorem soF_O {m fc x : Sc} {p : Nat} (h : fzO fc) : fzO (soF m fc x p) := by
  intro k hk
  unfold soF
  split
  · exact h k hk
  · have h0 : ¬ k = 0 := by omega
    have h1 : ¬ k = 1 := by omega
    have h2 : ¬ k = 2 := by omega
    have h3 : ¬ k = 3 := by omega
    have h4 : ¬ k = 4 := by omega
    simp only [stX, upd, h0, h1, h2, h3, h4, if_false]
    exact h k hk
theorem alF_O {m fc x : Sc} (h : fzO fc) : ∀ n, fzO (alF m fc x n)
  | 0 => h
  | n + 1 => soF_O (soF_O (alF_O h n))
/-- all styles: of number k / 2 and player k % 2 -/
def svA (m : Sc) : Sc := fun k => svV m (U m (nI (k / 2))) (k % 2)
theorem alS_sv {m fc x st : Sc} (h : fzO fc) : ∀ n k, k < 2 * n → alS m fc x st n k = svA m k
  | 0, k, hk => by omega
  | n + 1, k, hk => by
    rw [alS]
    have hX : ∀ j, j < 9 → alX m x (n + 1) j = U m (nI n) j := fun j hj => U_eq m _ _ j hj
    by_cases h1 : k = 2 * n + 1
    · subst h1
      rw [pk_us, soV_z (by decide) (soF_O (alF_O h n)) hX]
      unfold svA
      rw [show (2 * n + 1) / 2 = n by omega, show (2 * n + 1) % 2 = 1 by omega]
    · rw [pk_un h1]
      by_cases h2 : k = 2 * n
      · subst h2
        rw [pk_us, soV_z (by decide) (alF_O h n) hX]
        unfold svA
        rw [show (2 * n) / 2 = n by omega, show (2 * n) % 2 = 0 by omega]
      · rw [pk_un h2]
        exact alS_sv h n k (by omega)
theorem svA_ok {m : Sc} (h0 : stH m 0) (h1 : stH m 1) : stOK (svA m) := by
  intro k _
  have h : k % 2 = 0 ∨ k % 2 = 1 := by omega
  unfold svA svV
  rcases h with h | h <;> rw [h]
  · exact soV_4 h0
  · exact soV_4 h1
/-- the object's ints that are no scratch -/
def f01 (i : Sc) : Prop := (i 13 = 0 ∨ i 13 = 1) ∧ (i 14 = 0 ∨ i 14 = 1)
def smK (i j : Sc) : Prop := j 0 = i 0 ∧ j 3 = i 3 ∧ j 6 = i 6 ∧ j 10 = i 10 ∧ (f01 i → f01 j)
theorem smK.rf {i : Sc} : smK i i := ⟨rfl, rfl, rfl, rfl, fun h => h⟩
theorem smK.tr {i j k : Sc} (h : smK i j) (h2 : smK j k) : smK i k := ⟨h2.1.trans h.1, h2.2.1.trans h.2.1, h2.2.2.1.trans h.2.2.1, h2.2.2.2.1.trans h.2.2.2.1, fun z => h2.2.2.2.2 (h.2.2.2.2 z)⟩
theorem sm2.K {i j : Sc} (h : sm2 i j) : smK i j := ⟨h 0 (by decide) (by decide), h 3 (by decide) (by decide), h 6 (by decide) (by decide), h 10 (by decide) (by decide), fun z => by unfold f01; rw [h 13 (by decide) (by decide), h 14 (by decide) (by decide)]; exact z⟩
theorem soI_K (i m fc x : Sc) (p : Nat) : smK i (soI i m fc x p) := by
  unfold soI
  split
  · exact smK.rf
  · refine ⟨rfl, rfl, rfl, rfl, fun _ => ?_⟩
    show (stS x p = 0 ∨ stS x p = 1) ∧ (stO x = 0 ∨ stO x = 1)
    unfold stS stO
    constructor
    · split
      · exact Or.inr rfl
      · exact Or.inl rfl
    · split
      · exact Or.inr rfl
      · exact Or.inl rfl
theorem alI_K (i m fc x : Sc) : ∀ n, smK i (alI i m fc x n)
  | 0 => smK.rf
  | n + 1 => ((alI_K i m fc x n).tr (soI_K _ _ _ _ _)).tr (soI_K _ _ _ _ _)
/-! the state that is now, and its number -/
def S (m : Sc) : Sc := fun k => m (201 + k)
theorem take_S (m x : Sc) : ∀ j, j < 9 → rTake m x j = S m j := fun j hj => if_pos hj
theorem rNum_c {x y : Sc} (h : ∀ j, j < 9 → x j = y j) : rNum x = rNum y := by
  unfold rNum rCk
  rw [h 0 (by decide), h 1 (by decide), h 2 (by decide), h 3 (by decide), h 4 (by decide), h 5 (by decide), h 6 (by decide)]
theorem rOver_c {m x y : Sc} (h : ∀ j, j < 9 → x j = y j) : rOver m x = rOver m y := by
  unfold rOver
  rw [h 7 (by decide), h 8 (by decide)]
def at0 (m : Sc) : Nat := (rNum (S m)).toNatClampNeg
theorem at0_of {m : Sc} (h : Val (S m)) : at0 m < 15488 ∧ rNum (S m) = nI (at0 m) ∧ ¬ rCan (nI (at0 m)) = 0 ∧ Alk (U m (nI (at0 m))) (S m) := by
  obtain ⟨j, h1, h2, h3, h4⟩ := num_of (m := m) h
  have e : at0 m = j := by unfold at0; rw [h2, nI_clamp (by omega)]
  rw [e]
  exact ⟨h1, h2, h3, h4⟩
/-- what the court's ints must keep for the reference -/
def MOK (m : Sc) : Prop := Val (S m) ∧ HOK m ∧ stH m 0 ∧ stH m 1

