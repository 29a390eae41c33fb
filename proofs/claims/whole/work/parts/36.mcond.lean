/-! ===== atom, every, some: value, place, fault ===== -/
abbrev R3 : Type := Int32 × Nat × Int32
def andG (at0 : Nat → Int32 → R3) (T : Nat → Int32) (e : Nat) : Nat → Int32 → Nat → Int32 → R3
  | 0, v, n, f => (v, n, f)
  | k + 1, v, n, f => if f = -1 then (if isW T e (sk T e n) w_and then andG at0 T e k (if ¬ v = 0 ∧ ¬ (at0 (sk T e n + 3) (-1)).1 = 0 then 1 else 0) (at0 (sk T e n + 3) (-1)).2.1 (at0 (sk T e n + 3) (-1)).2.2 else (v, sk T e n, f)) else (v, n, f)
def everyG (at0 : Nat → Int32 → R3) (T : Nat → Int32) (e n : Nat) (f : Int32) : R3 := andG at0 T e 1001 (at0 n f).1 (at0 n f).2.1 (at0 n f).2.2
def orG (ev : Nat → Int32 → R3) (T : Nat → Int32) (e : Nat) : Nat → Int32 → Nat → Int32 → R3
  | 0, v, n, f => (v, n, f)
  | k + 1, v, n, f => if f = -1 then (if isW T e (sk T e n) w_or then orG ev T e k (if ¬ v = 0 ∨ ¬ (ev (sk T e n + 2) (-1)).1 = 0 then 1 else 0) (ev (sk T e n + 2) (-1)).2.1 (ev (sk T e n + 2) (-1)).2.2 else (v, sk T e n, f)) else (v, n, f)
def someG (at0 : Nat → Int32 → R3) (T : Nat → Int32) (e n : Nat) (f : Int32) : R3 := orG (everyG at0 T e) T e 1001 (everyG at0 T e n f).1 (everyG at0 T e n f).2.1 (everyG at0 T e n f).2.2
/-- behind what stands in brackets -/
def clR (T : Nat → Int32) (e : Nat) (r : R3) : R3 := (r.1, if r.2.2 = -1 then sk T e r.2.1 + 1 else r.2.1 + 1, if r.2.2 = -1 then (if sk T e r.2.1 < e ∧ T (sk T e r.2.1) = 41 then -1 else nI (sk T e r.2.1)) else r.2.2)
abbrev isP (T : Nat → Int32) (e n : Nat) : Prop := n < e ∧ T n = 40
def atomG (T fc : Nat → Int32) (sv of : Int32) (e : Nat) : Nat → Nat → Int32 → R3
  | 0, n, f => if f = -1 then (if isW T e (sk T e n) w_not then (0, sk T e n + 3, nI (sk T e n)) else if isP T e (sk T e n) then (0, sk T e n, nI (sk T e n)) else pcR T fc sv of e (sk T e n)) else (0, n, f)
  | k + 1, n, f => if f = -1 then (if isW T e (sk T e n) w_not then (if (atomG T fc sv of e k (sk T e n + 3) (-1)).1 = 0 then 1 else 0, (atomG T fc sv of e k (sk T e n + 3) (-1)).2) else if isP T e (sk T e n) then clR T e (someG (atomG T fc sv of e k) T e (sk T e n + 1) (-1)) else pcR T fc sv of e (sk T e n)) else (0, n, f)
/-- what is kept: the value is 0 or 1; the place doesn't fall; it stays in the text, but for a fault, where it may pass it by b -/
def okR (e b n : Nat) (r : R3) : Prop := (r.1 = 0 ∨ r.1 = 1) ∧ n ≤ r.2.1 ∧ r.2.1 ≤ e + b ∧ (r.2.2 = -1 → r.2.1 ≤ e)
theorem sk_in {T : Nat → Int32} {e n : Nat} (h : n ≤ e) : sk T e n ≤ e := by rcases sk_le T e n with h2 | h2 <;> omega
theorem isW_in {T : Nat → Int32} {e n : Nat} {bs : List Int32} (h : isW T e n bs) (hl : 0 < bs.length) : n + bs.length ≤ e := by rcases isW_le h with h2 | h2 <;> omega
theorem if01 (c : Prop) [Decidable c] : (if c then (1 : Int32) else 0) = 0 ∨ (if c then (1 : Int32) else 0) = 1 := by split <;> simp
theorem andG_ok {at0 : Nat → Int32 → R3} {T : Nat → Int32} {e b : Nat} (h : ∀ n f, n ≤ e → okR e b n (at0 n f)) : ∀ k v n f, (v = 0 ∨ v = 1) → n ≤ e + b → (f = -1 → n ≤ e) → okR e b n (andG at0 T e k v n f)
  | 0, v, n, f, hv, hb, hn => ⟨hv, Nat.le_refl _, hb, hn⟩
  | k + 1, v, n, f, hv, hb, hn => by
    rw [andG]
    split
    · rename_i hf
      have h1 := sk_ge T e n
      have h2 := sk_in (T := T) (hn hf)
      split
      · rename_i hw
        have h3 := isW_in hw (by decide)
        have h4 := h (sk T e n + 3) (-1) h3
        have h5 := andG_ok (T := T) h k (if ¬ v = 0 ∧ ¬ (at0 (sk T e n + 3) (-1)).1 = 0 then 1 else 0) _ _ (if01 _) h4.2.2.1 h4.2.2.2
        have h6 := h4.2.1
        have h7 := h5.2.1
        exact ⟨h5.1, by omega, h5.2.2.1, h5.2.2.2⟩
      · exact ⟨hv, h1, Nat.le_trans h2 (Nat.le_add_right _ _), fun _ => h2⟩
    · exact ⟨hv, Nat.le_refl _, hb, hn⟩
theorem everyG_ok {at0 : Nat → Int32 → R3} {T : Nat → Int32} {e b : Nat} (h : ∀ n f, n ≤ e → okR e b n (at0 n f)) (n : Nat) (f : Int32) (hn : n ≤ e) : okR e b n (everyG at0 T e n f) := by
  have h1 := h n f hn
  have h2 := andG_ok (T := T) h 1001 _ _ _ h1.1 h1.2.2.1 h1.2.2.2
  have h3 := h1.2.1
  exact ⟨h2.1, by have := h2.2.1; unfold everyG; omega, h2.2.2.1, h2.2.2.2⟩
theorem orG_ok {ev : Nat → Int32 → R3} {T : Nat → Int32} {e b : Nat} (h : ∀ n f, n ≤ e → okR e b n (ev n f)) : ∀ k v n f, (v = 0 ∨ v = 1) → n ≤ e + b → (f = -1 → n ≤ e) → okR e b n (orG ev T e k v n f)
  | 0, v, n, f, hv, hb, hn => ⟨hv, Nat.le_refl _, hb, hn⟩
  | k + 1, v, n, f, hv, hb, hn => by
    rw [orG]
    split
    · rename_i hf
      have h1 := sk_ge T e n
      have h2 := sk_in (T := T) (hn hf)
      split
      · rename_i hw
        have h3 := isW_in hw (by decide)
        have h4 := h (sk T e n + 2) (-1) h3
        have h5 := orG_ok (T := T) h k (if ¬ v = 0 ∨ ¬ (ev (sk T e n + 2) (-1)).1 = 0 then 1 else 0) _ _ (if01 _) h4.2.2.1 h4.2.2.2
        have h6 := h4.2.1
        have h7 := h5.2.1
        exact ⟨h5.1, by omega, h5.2.2.1, h5.2.2.2⟩
      · exact ⟨hv, h1, Nat.le_trans h2 (Nat.le_add_right _ _), fun _ => h2⟩
    · exact ⟨hv, Nat.le_refl _, hb, hn⟩
theorem someG_ok {at0 : Nat → Int32 → R3} {T : Nat → Int32} {e b : Nat} (h : ∀ n f, n ≤ e → okR e b n (at0 n f)) (n : Nat) (f : Int32) (hn : n ≤ e) : okR e b n (someG at0 T e n f) := by
  have h1 := everyG_ok (T := T) h n f hn
  have h2 := orG_ok (T := T) (everyG_ok (T := T) h) 1001 _ _ _ h1.1 h1.2.2.1 h1.2.2.2
  have h3 := h1.2.1
  exact ⟨h2.1, by have := h2.2.1; unfold someG; omega, h2.2.2.1, h2.2.2.2⟩
theorem sumG_ge (T fc : Nat → Int32) (e : Nat) : ∀ k v n f, n ≤ (sumG T fc e k v n f).2.1
  | 0, v, n, f => Nat.le_refl n
  | k + 1, v, n, f => by
    rw [sumG]
    have h1 := sk_ge T e n
    split
    · split
      · have h2 := sumG_ge T fc e k (v + ptV T fc e (sk T e n + 1) (-1)) (ptN T e (sk T e n + 1) (-1)) (ptF T e (sk T e n + 1) (-1))
        have h3 := ptN_ge T e (sk T e n + 1) (-1)
        omega
      · exact h1
    · exact Nat.le_refl n
theorem smR_ge (T fc : Nat → Int32) (e n : Nat) (f : Int32) : n ≤ (smR T fc e n f).2.1 := by
  have h1 := sumG_ge T fc e 1001 (ptV T fc e n f) (ptN T e n f) (ptF T e n f)
  have h2 := ptN_ge T e n f
  unfold smR
  omega
theorem pcR_ok {T fc : Nat → Int32} {sv of : Int32} {e : Nat} (hsv : sv = 0 ∨ sv = 1) (hof : of = 0 ∨ of = 1) (n : Nat) (hn : n ≤ e) : okR e 0 n (pcR T fc sv of e n) := by
  have h1 := sk_ge T e n
  have h2 := sk_in (T := T) hn
  unfold pcR
  split
  · rename_i hw
    have h3 := isW_in hw (by decide)
    exact ⟨hsv, by simp only; omega, by simpa using h3, fun _ => by simpa using h3⟩
  · split
    · rename_i hw
      have h3 := isW_in hw (by decide)
      exact ⟨hof, by simp only; omega, by simpa using h3, fun _ => by simpa using h3⟩
    · have h4 := smR_ge T fc e (sk T e n) (-1)
      have h5 := smR_le T fc e (sk T e n) (-1)
      generalize smR T fc e (sk T e n) (-1) = r1 at *
      have h6 := sk_ge T e r1.2.1
      have h7 := sk_in (T := T) (e := e) (n := r1.2.1) (by omega)
      split
      · split
        · rename_i hc
          have h8 := smR_ge T fc e (sk T e r1.2.1 + 1) (-1)
          have h9 := smR_le T fc e (sk T e r1.2.1 + 1) (-1)
          exact ⟨if01 _, by simp only; omega, by simp only; omega, fun _ => by simp only; omega⟩
        · split
          · rename_i hc
            have h8 := smR_ge T fc e (sk T e r1.2.1 + 1) (-1)
            have h9 := smR_le T fc e (sk T e r1.2.1 + 1) (-1)
            exact ⟨if01 _, by simp only; omega, by simp only; omega, fun _ => by simp only; omega⟩
          · exact ⟨Or.inl rfl, by simp only; omega, by simp only; omega, fun _ => by simp only; omega⟩
      · exact ⟨Or.inl rfl, by simp only; omega, by simp only; omega, fun _ => by simp only; omega⟩
theorem okR_mono {e b b' n : Nat} {r : R3} (h : okR e b n r) (hb : b ≤ b') : okR e b' n r := ⟨h.1, h.2.1, by have := h.2.2.1; omega, h.2.2.2⟩
theorem atomG_ok {T fc : Nat → Int32} {sv of : Int32} {e : Nat} (he4 : e ≤ 400) (hsv : sv = 0 ∨ sv = 1) (hof : of = 0 ∨ of = 1) : ∀ (k n : Nat) (f : Int32), n ≤ e → okR e k n (atomG T fc sv of e k n f)
  | 0, n, f, hn => by
    have h1 := sk_ge T e n
    have h2 := sk_in (T := T) hn
    rw [atomG]
    split
    · split
      · rename_i hw
        have h3 := isW_in hw (by decide)
        exact ⟨Or.inl rfl, by simp only; omega, by simpa using h3, fun _ => by simpa using h3⟩
      · split
        · exact ⟨Or.inl rfl, h1, by simpa using h2, fun _ => h2⟩
        · have h3 := pcR_ok (T := T) (fc := fc) hsv hof (sk T e n) h2
          have h4 := h3.2.1
          exact ⟨h3.1, by omega, h3.2.2.1, h3.2.2.2⟩
    · exact ⟨Or.inl rfl, Nat.le_refl _, by simpa using hn, fun _ => hn⟩
  | k + 1, n, f, hn => by
    have h1 := sk_ge T e n
    have h2 := sk_in (T := T) hn
    rw [atomG]
    split
    · split
      · rename_i hw
        have h3 := isW_in hw (by decide)
        have h4 := atomG_ok (T := T) (fc := fc) he4 hsv hof k (sk T e n + 3) (-1) h3
        have h5 := h4.2.1
        have h6 := h4.2.2.1
        exact ⟨if01 _, by simp only; omega, by simp only; omega, h4.2.2.2⟩
      · split
        · rename_i hp
          have h4 := someG_ok (at0 := atomG T fc sv of e k) (T := T) (e := e) (b := k) (fun n f h => atomG_ok (fc := fc) he4 hsv hof k n f h) (sk T e n + 1) (-1) hp.1
          generalize someG (atomG T fc sv of e k) T e (sk T e n + 1) (-1) = r at *
          obtain ⟨a1, a2, a3, a4⟩ := h4
          have h6 := sk_ge T e r.2.1
          refine ⟨a1, ?_, ?_, ?_⟩
          · simp only [clR]; split <;> omega
          · simp only [clR]
            split
            · rename_i hf
              have := sk_in (T := T) (a4 hf)
              omega
            · omega
          · simp only [clR]
            split
            · rename_i hf
              have := sk_in (T := T) (a4 hf)
              split
              · intro _; omega
              · intro hz; exact absurd hz (nI_nm1 (by omega))
            · rename_i hf
              intro hz; exact absurd hz hf
        · have h3 := pcR_ok (T := T) (fc := fc) hsv hof (sk T e n) h2
          have h4 := h3.2.1
          exact okR_mono ⟨h3.1, by omega, h3.2.2.1, h3.2.2.2⟩ (by omega)
    · exact ⟨Or.inl rfl, Nat.le_refl _, by simp only; omega, fun _ => hn⟩
/-! the walks: a contract of atom at one depth gives every's and some's there, and atom's at the next -/
def CAt (l : Launch) (g : Gh) (q : Nat) (A : Nat → Nat) (i m tp fc : Nat → Int32) (e D : Nat) (d s : Int32) (at0 : Nat → Int32 → R3) : Prop := ∀ (n : Nat) (f : Int32), n ≤ e → Cp l g yX12_atom (Cond.code yX12_atom cX12_atom 4 (some .boolean)) D [.ref q] (wQ g q A i m tp fc n f d s) (some (.int (at0 n f).1)) (wQ g q A i m tp fc (at0 n f).2.1 (at0 n f).2.2 d s)
theorem p_every {l : Launch} {g : Gh} {q : Nat} {A : Nat → Nat} {i m tp fc T : Nat → Int32} {e b D : Nat} {d s : Int32} {at0 : Nat → Int32 → R3} (hT : TxOK (i 7) (i 8) m tp T e) (hA : CAt l g q A i m tp fc e D d s at0) (hok : ∀ n f, n ≤ e → okR e b n (at0 n f)) (hb9 : b ≤ 9) (hD : 9 ≤ D) (n : Nat) (f : Int32) (hn : n ≤ e) : Cp l g yX12_every (Cond.code yX12_every cX12_every 3 (some .boolean)) (D + 1) [.ref q] (wQ g q A i m tp fc n f d s) (some (.int (everyG at0 T e n f).1)) (wQ g q A i m tp fc (everyG at0 T e n f).2.1 (everyG at0 T e n f).2.2 d s) := by
  refine ct_of (M := mtX12_every) [some (.ref q), none, none] rfl (by decide) (Nat.le_of_ble_eq_true rfl) (fun _ h => h) (fun a => ?_)
  have he : e ≤ 400 := hT.2.1
  have K5 : ∀ (k : Nat) (v : Int32) (n : Nat) (f : Int32) (z : Option Value), e - n < k → n ≤ e + b → (f = -1 → n ≤ e) → (v = 0 ∨ v = 1) → WPs l g mtX12_every (D + 1) 0 0 (pR (some (.int (andG at0 T e k v n f).1)) (wQ g q A i m tp fc (andG at0 T e k v n f).2.1 (andG at0 T e k v n f).2.2 d s)) noX a 5 [some (.ref q), some (.int v), z] [] (wQ g q A i m tp fc n f d s) 0 0 := by
    intro k
    induction k with
    | zero => intro v n f z h; exact absurd h (by omega)
    | succ k ih =>
      intro v n f z hk hn2 hfn hv
      rw [andG]
      by_cases hf : f = -1
      · rw [if_pos hf]
        have hne := hfn hf
        have hsk := sk_in (T := T) hne
        have hskg := sk_ge T e n
        subst hf
        by_cases hp : isW T e (sk T e n) w_and
        · rw [if_pos hp]
          have h3 : sk T e n + 3 ≤ e := isW_in hp (by decide)
          have h4 := hok (sk T e n + 3) (-1) h3
          have h5 := h4.2.1
          have h6 := h4.2.2.1
          have K40 : ∀ w : Int32, w = (if ¬ v = 0 ∧ ¬ (at0 (sk T e n + 3) (-1)).1 = 0 then 1 else 0) → WPs l g mtX12_every (D + 1) 0 0 (pR (some (.int (andG at0 T e k (if ¬ v = 0 ∧ ¬ (at0 (sk T e n + 3) (-1)).1 = 0 then 1 else 0) (at0 (sk T e n + 3) (-1)).2.1 (at0 (sk T e n + 3) (-1)).2.2).1)) (wQ g q A i m tp fc (andG at0 T e k (if ¬ v = 0 ∧ ¬ (at0 (sk T e n + 3) (-1)).1 = 0 then 1 else 0) (at0 (sk T e n + 3) (-1)).2.1 (at0 (sk T e n + 3) (-1)).2.2).2.1 (andG at0 T e k (if ¬ v = 0 ∧ ¬ (at0 (sk T e n + 3) (-1)).1 = 0 then 1 else 0) (at0 (sk T e n + 3) (-1)).2.1 (at0 (sk T e n + 3) (-1)).2.2).2.2 d s)) noX a 40 [some (.ref q), some (.int v), some (.int (at0 (sk T e n + 3) (-1)).1)] [.int w] (wQ g q A i m tp fc (at0 (sk T e n + 3) (-1)).2.1 (at0 (sk T e n + 3) (-1)).2.2 d s) 0 0 := by
            intro w hw
            subst hw
            refine q_istore_n 1 41 (L' := [_, _, _]) dX12_every_40 rfl (by decide) rfl rfl ?_
            refine q_goto 5 dX12_every_41 (by decide) ?_
            exact ih _ _ _ _ (by omega) h6 h4.2.2.2 (if01 _)
          refine q_aload_n 0 6 dX12_every_5 rfl rfl rfl ?_
          refine q_getI 0 9 f_X12_22 dX12_every_6 rfl rfl rfl ?_
          refine q_iconst (-1) 10 dX12_every_9 ic_m1 rfl ?_
          refine q_icmp_ne 44 13 dX12_every_10 (by decide) rfl (fun h10 => absurd rfl h10) (fun h10 => ?_)
          refine q_aload_n 0 14 dX12_every_13 rfl rfl rfl ?_
          refine q_ldcS "and" 16 sr_X12_183 dX12_every_14 rfl ?_
          refine q_cVi 0 [0, 1, 2] [3] [1, 2, 3, 0] 19 (wr := [_]) (w1 := _) (ws' := [_, _, _, _]) (p_has sw_X12_183 (by decide) (T := T) (e := e) (n := n) hT (by omega)) m_X12_109 dX12_every_16 rfl rfl rfl rfl rfl rfl rfl rfl (by decide) (by decide) (by decide) (by decide) (Nat.le_of_ble_eq_true rfl) (by omega) (by omega) (by omega) rfl ?_
          rw [show hasB T e n w_and = 1 from if_pos hp, show hasN T e n w_and = sk T e n + 3 from if_pos hp]
          refine q_if_eq 44 22 dX12_every_19 (by decide) rfl (fun h19 => absurd h19 (by decide)) (fun h19 => ?_)
          refine q_aload_n 0 23 dX12_every_22 rfl rfl rfl ?_
          refine q_cVi 0 [0, 1, 2, 3] [] [0, 1, 2, 3] 26 (wr := []) (w1 := _) (ws' := [_, _, _, _]) (hA (sk T e n + 3) (-1) h3) m_X12_177 dX12_every_23 rfl rfl rfl rfl rfl rfl rfl rfl (by decide) (by decide) (by decide) (by decide) (Nat.le_of_ble_eq_true rfl) (by omega) (by omega) (by omega) rfl ?_
          refine q_istore_n 2 27 (L' := [_, _, _]) dX12_every_26 rfl (by decide) rfl rfl ?_
          refine q_iload_n 1 28 dX12_every_27 rfl rfl rfl ?_
          refine q_if_eq 39 31 dX12_every_28 (by decide) rfl (fun h28 => ?_) (fun h28 => ?_)
          · refine q_iconst 0 40 dX12_every_39 ic_0 rfl ?_
            exact K40 _ (by simp_all)
          · refine q_iload_n 2 32 dX12_every_31 rfl rfl rfl ?_
            refine q_if_eq 39 35 dX12_every_32 (by decide) rfl (fun h32 => ?_) (fun h32 => ?_)
            · refine q_iconst 0 40 dX12_every_39 ic_0 rfl ?_
              exact K40 _ (by simp_all)
            · refine q_iconst 1 36 dX12_every_35 ic_1 rfl ?_
              refine q_goto 40 dX12_every_36 (by decide) ?_
              exact K40 _ (by simp_all)
        · rw [if_neg hp]
          refine q_aload_n 0 6 dX12_every_5 rfl rfl rfl ?_
          refine q_getI 0 9 f_X12_22 dX12_every_6 rfl rfl rfl ?_
          refine q_iconst (-1) 10 dX12_every_9 ic_m1 rfl ?_
          refine q_icmp_ne 44 13 dX12_every_10 (by decide) rfl (fun h10 => absurd rfl h10) (fun h10 => ?_)
          refine q_aload_n 0 14 dX12_every_13 rfl rfl rfl ?_
          refine q_ldcS "and" 16 sr_X12_183 dX12_every_14 rfl ?_
          refine q_cVi 0 [0, 1, 2] [3] [1, 2, 3, 0] 19 (wr := [_]) (w1 := _) (ws' := [_, _, _, _]) (p_has sw_X12_183 (by decide) (T := T) (e := e) (n := n) hT (by omega)) m_X12_109 dX12_every_16 rfl rfl rfl rfl rfl rfl rfl rfl (by decide) (by decide) (by decide) (by decide) (Nat.le_of_ble_eq_true rfl) (by omega) (by omega) (by omega) rfl ?_
          rw [show hasB T e n w_and = 0 from if_neg hp, show hasN T e n w_and = sk T e n from if_neg hp]
          refine q_if_eq 44 22 dX12_every_19 (by decide) rfl (fun h19 => ?_) (fun h19 => absurd rfl h19)
          refine q_iload_n 1 45 dX12_every_44 rfl rfl rfl ?_
          refine q_zreturn dX12_every_45 rfl hv ?_
          exact pR.rf
      · rw [if_neg hf]
        refine q_aload_n 0 6 dX12_every_5 rfl rfl rfl ?_
        refine q_getI 0 9 f_X12_22 dX12_every_6 rfl rfl rfl ?_
        refine q_iconst (-1) 10 dX12_every_9 ic_m1 rfl ?_
        refine q_icmp_ne 44 13 dX12_every_10 (by decide) rfl (fun h10 => ?_) (fun h10 => absurd h10 hf)
        refine q_iload_n 1 45 dX12_every_44 rfl rfl rfl ?_
        refine q_zreturn dX12_every_45 rfl hv ?_
        exact pR.rf
  have h2 := hok n f hn
  refine q_aload_n 0 1 dX12_every_0 rfl rfl rfl ?_
  refine q_cVi 0 [0, 1, 2, 3] [] [0, 1, 2, 3] 4 (wr := []) (w1 := _) (ws' := [_, _, _, _]) (hA n f hn) m_X12_177 dX12_every_1 rfl rfl rfl rfl rfl rfl rfl rfl (by decide) (by decide) (by decide) (by decide) (Nat.le_of_ble_eq_true rfl) (by omega) (by omega) (by omega) rfl ?_
  refine q_istore_n 1 5 (L' := [_, _, _]) dX12_every_4 rfl (by decide) rfl rfl ?_
  exact K5 1001 _ _ _ none (by omega) h2.2.2.1 h2.2.2.2 h2.1
def CEv (l : Launch) (g : Gh) (q : Nat) (A : Nat → Nat) (i m tp fc : Nat → Int32) (e D : Nat) (d s : Int32) (ev : Nat → Int32 → R3) : Prop := ∀ (n : Nat) (f : Int32), n ≤ e → Cp l g yX12_every (Cond.code yX12_every cX12_every 3 (some .boolean)) D [.ref q] (wQ g q A i m tp fc n f d s) (some (.int (ev n f).1)) (wQ g q A i m tp fc (ev n f).2.1 (ev n f).2.2 d s)
theorem p_some {l : Launch} {g : Gh} {q : Nat} {A : Nat → Nat} {i m tp fc T : Nat → Int32} {e b D : Nat} {d s : Int32} {ev : Nat → Int32 → R3} (hT : TxOK (i 7) (i 8) m tp T e) (hE9 : CEv l g q A i m tp fc e D d s ev) (hok : ∀ n f, n ≤ e → okR e b n (ev n f)) (hb9 : b ≤ 9) (hD : 9 ≤ D) (n : Nat) (f : Int32) (hn : n ≤ e) : Cp l g yX12_some (Cond.code yX12_some cX12_some 3 (some .boolean)) (D + 1) [.ref q] (wQ g q A i m tp fc n f d s) (some (.int (orG ev T e 1001 (ev n f).1 (ev n f).2.1 (ev n f).2.2).1)) (wQ g q A i m tp fc (orG ev T e 1001 (ev n f).1 (ev n f).2.1 (ev n f).2.2).2.1 (orG ev T e 1001 (ev n f).1 (ev n f).2.1 (ev n f).2.2).2.2 d s) := by
  refine ct_of (M := mtX12_some) [some (.ref q), none, none] rfl (by decide) (Nat.le_of_ble_eq_true rfl) (fun _ h => h) (fun a => ?_)
  have he : e ≤ 400 := hT.2.1
  have K5 : ∀ (k : Nat) (v : Int32) (n : Nat) (f : Int32) (z : Option Value), e - n < k → n ≤ e + b → (f = -1 → n ≤ e) → (v = 0 ∨ v = 1) → WPs l g mtX12_some (D + 1) 0 0 (pR (some (.int (orG ev T e k v n f).1)) (wQ g q A i m tp fc (orG ev T e k v n f).2.1 (orG ev T e k v n f).2.2 d s)) noX a 5 [some (.ref q), some (.int v), z] [] (wQ g q A i m tp fc n f d s) 0 0 := by
    intro k
    induction k with
    | zero => intro v n f z h; exact absurd h (by omega)
    | succ k ih =>
      intro v n f z hk hn2 hfn hv
      rw [orG]
      by_cases hf : f = -1
      · rw [if_pos hf]
        have hne := hfn hf
        have hsk := sk_in (T := T) hne
        have hskg := sk_ge T e n
        subst hf
        by_cases hp : isW T e (sk T e n) w_or
        · rw [if_pos hp]
          have h3 : sk T e n + 2 ≤ e := isW_in hp (by decide)
          have h4 := hok (sk T e n + 2) (-1) h3
          have h5 := h4.2.1
          have h6 := h4.2.2.1
          have K40 : ∀ w : Int32, w = (if ¬ v = 0 ∨ ¬ (ev (sk T e n + 2) (-1)).1 = 0 then 1 else 0) → WPs l g mtX12_some (D + 1) 0 0 (pR (some (.int (orG ev T e k (if ¬ v = 0 ∨ ¬ (ev (sk T e n + 2) (-1)).1 = 0 then 1 else 0) (ev (sk T e n + 2) (-1)).2.1 (ev (sk T e n + 2) (-1)).2.2).1)) (wQ g q A i m tp fc (orG ev T e k (if ¬ v = 0 ∨ ¬ (ev (sk T e n + 2) (-1)).1 = 0 then 1 else 0) (ev (sk T e n + 2) (-1)).2.1 (ev (sk T e n + 2) (-1)).2.2).2.1 (orG ev T e k (if ¬ v = 0 ∨ ¬ (ev (sk T e n + 2) (-1)).1 = 0 then 1 else 0) (ev (sk T e n + 2) (-1)).2.1 (ev (sk T e n + 2) (-1)).2.2).2.2 d s)) noX a 40 [some (.ref q), some (.int v), some (.int (ev (sk T e n + 2) (-1)).1)] [.int w] (wQ g q A i m tp fc (ev (sk T e n + 2) (-1)).2.1 (ev (sk T e n + 2) (-1)).2.2 d s) 0 0 := by
            intro w hw
            subst hw
            refine q_istore_n 1 41 (L' := [_, _, _]) dX12_some_40 rfl (by decide) rfl rfl ?_
            refine q_goto 5 dX12_some_41 (by decide) ?_
            exact ih _ _ _ _ (by omega) h6 h4.2.2.2 (if01 _)
          refine q_aload_n 0 6 dX12_some_5 rfl rfl rfl ?_
          refine q_getI 0 9 f_X12_22 dX12_some_6 rfl rfl rfl ?_
          refine q_iconst (-1) 10 dX12_some_9 ic_m1 rfl ?_
          refine q_icmp_ne 44 13 dX12_some_10 (by decide) rfl (fun h10 => absurd rfl h10) (fun h10 => ?_)
          refine q_aload_n 0 14 dX12_some_13 rfl rfl rfl ?_
          refine q_ldcS "or" 16 sr_X12_188 dX12_some_14 rfl ?_
          refine q_cVi 0 [0, 1, 2] [3] [1, 2, 3, 0] 19 (wr := [_]) (w1 := _) (ws' := [_, _, _, _]) (p_has sw_X12_188 (by decide) (T := T) (e := e) (n := n) hT (by omega)) m_X12_109 dX12_some_16 rfl rfl rfl rfl rfl rfl rfl rfl (by decide) (by decide) (by decide) (by decide) (Nat.le_of_ble_eq_true rfl) (by omega) (by omega) (by omega) rfl ?_
          rw [show hasB T e n w_or = 1 from if_pos hp, show hasN T e n w_or = sk T e n + 2 from if_pos hp]
          refine q_if_eq 44 22 dX12_some_19 (by decide) rfl (fun h19 => absurd h19 (by decide)) (fun h19 => ?_)
          refine q_aload_n 0 23 dX12_some_22 rfl rfl rfl ?_
          refine q_cVi 0 [0, 1, 2, 3] [] [0, 1, 2, 3] 26 (wr := []) (w1 := _) (ws' := [_, _, _, _]) (hE9 (sk T e n + 2) (-1) h3) m_X12_185 dX12_some_23 rfl rfl rfl rfl rfl rfl rfl rfl (by decide) (by decide) (by decide) (by decide) (Nat.le_of_ble_eq_true rfl) (by omega) (by omega) (by omega) rfl ?_
          refine q_istore_n 2 27 (L' := [_, _, _]) dX12_some_26 rfl (by decide) rfl rfl ?_
          refine q_iload_n 1 28 dX12_some_27 rfl rfl rfl ?_
          refine q_if_ne 35 31 dX12_some_28 (by decide) rfl (fun h28 => ?_) (fun h28 => ?_)
          · refine q_iconst 1 36 dX12_some_35 ic_1 rfl ?_
            refine q_goto 40 dX12_some_36 (by decide) ?_
            exact K40 _ (by simp_all)
          · refine q_iload_n 2 32 dX12_some_31 rfl rfl rfl ?_
            refine q_if_eq 39 35 dX12_some_32 (by decide) rfl (fun h32 => ?_) (fun h32 => ?_)
            · refine q_iconst 0 40 dX12_some_39 ic_0 rfl ?_
              exact K40 _ (by simp_all)
            · refine q_iconst 1 36 dX12_some_35 ic_1 rfl ?_
              refine q_goto 40 dX12_some_36 (by decide) ?_
              exact K40 _ (by simp_all)
        · rw [if_neg hp]
          refine q_aload_n 0 6 dX12_some_5 rfl rfl rfl ?_
          refine q_getI 0 9 f_X12_22 dX12_some_6 rfl rfl rfl ?_
          refine q_iconst (-1) 10 dX12_some_9 ic_m1 rfl ?_
          refine q_icmp_ne 44 13 dX12_some_10 (by decide) rfl (fun h10 => absurd rfl h10) (fun h10 => ?_)
          refine q_aload_n 0 14 dX12_some_13 rfl rfl rfl ?_
          refine q_ldcS "or" 16 sr_X12_188 dX12_some_14 rfl ?_
          refine q_cVi 0 [0, 1, 2] [3] [1, 2, 3, 0] 19 (wr := [_]) (w1 := _) (ws' := [_, _, _, _]) (p_has sw_X12_188 (by decide) (T := T) (e := e) (n := n) hT (by omega)) m_X12_109 dX12_some_16 rfl rfl rfl rfl rfl rfl rfl rfl (by decide) (by decide) (by decide) (by decide) (Nat.le_of_ble_eq_true rfl) (by omega) (by omega) (by omega) rfl ?_
          rw [show hasB T e n w_or = 0 from if_neg hp, show hasN T e n w_or = sk T e n from if_neg hp]
          refine q_if_eq 44 22 dX12_some_19 (by decide) rfl (fun h19 => ?_) (fun h19 => absurd rfl h19)
          refine q_iload_n 1 45 dX12_some_44 rfl rfl rfl ?_
          refine q_zreturn dX12_some_45 rfl hv ?_
          exact pR.rf
      · rw [if_neg hf]
        refine q_aload_n 0 6 dX12_some_5 rfl rfl rfl ?_
        refine q_getI 0 9 f_X12_22 dX12_some_6 rfl rfl rfl ?_
        refine q_iconst (-1) 10 dX12_some_9 ic_m1 rfl ?_
        refine q_icmp_ne 44 13 dX12_some_10 (by decide) rfl (fun h10 => ?_) (fun h10 => absurd h10 hf)
        refine q_iload_n 1 45 dX12_some_44 rfl rfl rfl ?_
        refine q_zreturn dX12_some_45 rfl hv ?_
        exact pR.rf
  have h2 := hok n f hn
  refine q_aload_n 0 1 dX12_some_0 rfl rfl rfl ?_
  refine q_cVi 0 [0, 1, 2, 3] [] [0, 1, 2, 3] 4 (wr := []) (w1 := _) (ws' := [_, _, _, _]) (hE9 n f hn) m_X12_185 dX12_some_1 rfl rfl rfl rfl rfl rfl rfl rfl (by decide) (by decide) (by decide) (by decide) (Nat.le_of_ble_eq_true rfl) (by omega) (by omega) (by omega) rfl ?_
  refine q_istore_n 1 5 (L' := [_, _, _]) dX12_some_4 rfl (by decide) rfl rfl ?_
  exact K5 1001 _ _ _ none (by omega) h2.2.2.1 h2.2.2.2 h2.1
def CSm (l : Launch) (g : Gh) (q : Nat) (A : Nat → Nat) (i m tp fc : Nat → Int32) (e D : Nat) (d s : Int32) (sm : Nat → Int32 → R3) : Prop := ∀ (n : Nat) (f : Int32), n ≤ e → Cp l g yX12_some (Cond.code yX12_some cX12_some 3 (some .boolean)) D [.ref q] (wQ g q A i m tp fc n f d s) (some (.int (sm n f).1)) (wQ g q A i m tp fc (sm n f).2.1 (sm n f).2.2 d s)
theorem p_atom0 {l : Launch} {g : Gh} {q : Nat} {A : Nat → Nat} {i m tp fc T : Nat → Int32} {e : Nat} {s : Int32} (hT : TxOK (i 7) (i 8) m tp T e) (hsv : i 13 = 0 ∨ i 13 = 1) (hof : i 14 = 0 ∨ i 14 = 1) : CAt l g q A i m tp fc e 9 6 s (atomG T fc (i 13) (i 14) e 0) := by
  intro n f hn
  refine ct_of (M := mtX12_atom) [some (.ref q), none, none, none] rfl (by decide) (Nat.le_of_ble_eq_true rfl) (fun _ h => h) (fun a => ?_)
  have he : e ≤ 400 := hT.2.1
  have hsk := sk_in (T := T) hn
  have hss := sk_sk T e n
  rw [atomG]
  by_cases hf : f = -1
  · rw [if_pos hf]
    subst hf
    generalize hskn : sk T e n = r at *
    by_cases hw : isW T e r w_not
    · rw [if_pos hw]
      refine q_aload_n 0 1 dX12_atom_0 rfl rfl rfl ?_
      refine q_getI 0 4 f_X12_22 dX12_atom_1 rfl rfl rfl ?_
      refine q_iconst (-1) 5 dX12_atom_4 ic_m1 rfl ?_
      refine q_icmp_eq 10 8 dX12_atom_5 (by decide) rfl (fun h5 => ?_) (fun h5 => absurd rfl h5)
      refine q_aload_n 0 11 dX12_atom_10 rfl rfl rfl ?_
      refine q_cVv 0 [0, 1, 2] [3] [1, 2, 3, 0] 14 (wr := [_]) (w1 := _) (ws' := [_, _, _, _]) (p_skip (T := T) (e := e) (n := n) hT (by omega)) m_X12_90 dX12_atom_11 rfl rfl rfl rfl rfl rfl rfl rfl (by decide) (by decide) (by decide) (by decide) (Nat.le_of_ble_eq_true rfl) (by omega) (by omega) (by omega) rfl ?_
      rw [hskn]
      refine q_aload_n 0 15 dX12_atom_14 rfl rfl rfl ?_
      refine q_getI 0 18 f_X12_80 dX12_atom_15 rfl rfl rfl ?_
      refine q_istore_n 1 19 (L' := [_, _, _, _]) dX12_atom_18 rfl (by decide) rfl rfl ?_
      refine q_aload_n 0 20 dX12_atom_19 rfl rfl rfl ?_
      refine q_ldcS "not" 22 sr_X12_171 dX12_atom_20 rfl ?_
      refine q_cVi 0 [0, 1, 2] [3] [1, 2, 3, 0] 25 (wr := [_]) (w1 := _) (ws' := [_, _, _, _]) (p_has sw_X12_171 (by decide) (T := T) (e := e) (n := r) hT (by omega)) m_X12_109 dX12_atom_22 rfl rfl rfl rfl rfl rfl rfl rfl (by decide) (by decide) (by decide) (by decide) (Nat.le_of_ble_eq_true rfl) (by omega) (by omega) (by omega) rfl ?_
      rw [hasB_t hw hss, hasN_t hw hss]
      refine q_istore_n 2 26 (L' := [_, _, _, _]) dX12_atom_25 rfl (by decide) rfl rfl ?_
      refine q_iload_n 2 27 dX12_atom_26 rfl rfl rfl ?_
      refine q_if_ne 44 30 dX12_atom_27 (by decide) rfl (fun h27 => ?_) (fun h27 => absurd h27 (by decide))
      refine q_aload_n 0 45 dX12_atom_44 rfl rfl rfl ?_
      refine q_getI 0 48 f_X12_129 dX12_atom_45 rfl rfl rfl ?_
      refine q_bipush 6 50 dX12_atom_48 bc_6 rfl ?_
      refine q_icmp_ne 60 53 dX12_atom_50 (by decide) rfl (fun h50 => absurd rfl h50) (fun h50 => ?_)
      refine q_aload_n 0 54 dX12_atom_53 rfl rfl rfl ?_
      refine q_iload_n 1 55 dX12_atom_54 rfl rfl rfl ?_
      refine q_cVv 0 [0] [1, 2, 3] [3, 0, 1, 2] 58 (wr := [_, _, _]) (w1 := _) (ws' := [_, _, _, _]) p_wrong m_X12_103 dX12_atom_55 rfl rfl rfl rfl rfl rfl rfl rfl (by decide) (by decide) (by decide) (by decide) (Nat.le_of_ble_eq_true rfl) (by omega) (by omega) (by omega) rfl ?_
      refine q_iconst 0 59 dX12_atom_58 ic_0 rfl ?_
      refine q_zreturn dX12_atom_59 rfl (Or.inl rfl) ?_
      exact pR.rf
    · rw [if_neg hw]
      by_cases hp : isP T e r
      · rw [if_pos hp]
        refine q_aload_n 0 1 dX12_atom_0 rfl rfl rfl ?_
        refine q_getI 0 4 f_X12_22 dX12_atom_1 rfl rfl rfl ?_
        refine q_iconst (-1) 5 dX12_atom_4 ic_m1 rfl ?_
        refine q_icmp_eq 10 8 dX12_atom_5 (by decide) rfl (fun h5 => ?_) (fun h5 => absurd rfl h5)
        refine q_aload_n 0 11 dX12_atom_10 rfl rfl rfl ?_
        refine q_cVv 0 [0, 1, 2] [3] [1, 2, 3, 0] 14 (wr := [_]) (w1 := _) (ws' := [_, _, _, _]) (p_skip (T := T) (e := e) (n := n) hT (by omega)) m_X12_90 dX12_atom_11 rfl rfl rfl rfl rfl rfl rfl rfl (by decide) (by decide) (by decide) (by decide) (Nat.le_of_ble_eq_true rfl) (by omega) (by omega) (by omega) rfl ?_
        rw [hskn]
        refine q_aload_n 0 15 dX12_atom_14 rfl rfl rfl ?_
        refine q_getI 0 18 f_X12_80 dX12_atom_15 rfl rfl rfl ?_
        refine q_istore_n 1 19 (L' := [_, _, _, _]) dX12_atom_18 rfl (by decide) rfl rfl ?_
        refine q_aload_n 0 20 dX12_atom_19 rfl rfl rfl ?_
        refine q_ldcS "not" 22 sr_X12_171 dX12_atom_20 rfl ?_
        refine q_cVi 0 [0, 1, 2] [3] [1, 2, 3, 0] 25 (wr := [_]) (w1 := _) (ws' := [_, _, _, _]) (p_has sw_X12_171 (by decide) (T := T) (e := e) (n := r) hT (by omega)) m_X12_109 dX12_atom_22 rfl rfl rfl rfl rfl rfl rfl rfl (by decide) (by decide) (by decide) (by decide) (Nat.le_of_ble_eq_true rfl) (by omega) (by omega) (by omega) rfl ?_
        rw [hasB_f hw hss, hasN_f hw hss]
        refine q_istore_n 2 26 (L' := [_, _, _, _]) dX12_atom_25 rfl (by decide) rfl rfl ?_
        refine q_iload_n 2 27 dX12_atom_26 rfl rfl rfl ?_
        refine q_if_ne 44 30 dX12_atom_27 (by decide) rfl (fun h27 => absurd rfl h27) (fun h27 => ?_)
        refine q_aload_n 0 31 dX12_atom_30 rfl rfl rfl ?_
        refine q_bipush 40 33 dX12_atom_31 bc_40 rfl ?_
        refine q_cVi 0 [0, 1, 2] [3] [1, 2, 3, 0] 36 (wr := [_]) (w1 := _) (ws' := [_, _, _, _]) (p_isSign (T := T) (e := e) (n := r) hT (by omega)) m_X12_138 dX12_atom_33 rfl rfl rfl rfl rfl rfl rfl rfl (by decide) (by decide) (by decide) (by decide) (Nat.le_of_ble_eq_true rfl) (by omega) (by omega) (by omega) rfl ?_
        rw [hss, if_pos hp]
        refine q_if_ne 44 39 dX12_atom_36 (by decide) rfl (fun h36 => ?_) (fun h36 => absurd h36 (by decide))
        refine q_aload_n 0 45 dX12_atom_44 rfl rfl rfl ?_
        refine q_getI 0 48 f_X12_129 dX12_atom_45 rfl rfl rfl ?_
        refine q_bipush 6 50 dX12_atom_48 bc_6 rfl ?_
        refine q_icmp_ne 60 53 dX12_atom_50 (by decide) rfl (fun h50 => absurd rfl h50) (fun h50 => ?_)
        refine q_aload_n 0 54 dX12_atom_53 rfl rfl rfl ?_
        refine q_iload_n 1 55 dX12_atom_54 rfl rfl rfl ?_
        refine q_cVv 0 [0] [1, 2, 3] [3, 0, 1, 2] 58 (wr := [_, _, _]) (w1 := _) (ws' := [_, _, _, _]) p_wrong m_X12_103 dX12_atom_55 rfl rfl rfl rfl rfl rfl rfl rfl (by decide) (by decide) (by decide) (by decide) (Nat.le_of_ble_eq_true rfl) (by omega) (by omega) (by omega) rfl ?_
        refine q_iconst 0 59 dX12_atom_58 ic_0 rfl ?_
        refine q_zreturn dX12_atom_59 rfl (Or.inl rfl) ?_
        exact pR.rf
      · rw [if_neg hp]
        have hok := pcR_ok (T := T) (fc := fc) (e := e) hsv hof r hsk
        refine q_aload_n 0 1 dX12_atom_0 rfl rfl rfl ?_
        refine q_getI 0 4 f_X12_22 dX12_atom_1 rfl rfl rfl ?_
        refine q_iconst (-1) 5 dX12_atom_4 ic_m1 rfl ?_
        refine q_icmp_eq 10 8 dX12_atom_5 (by decide) rfl (fun h5 => ?_) (fun h5 => absurd rfl h5)
        refine q_aload_n 0 11 dX12_atom_10 rfl rfl rfl ?_
        refine q_cVv 0 [0, 1, 2] [3] [1, 2, 3, 0] 14 (wr := [_]) (w1 := _) (ws' := [_, _, _, _]) (p_skip (T := T) (e := e) (n := n) hT (by omega)) m_X12_90 dX12_atom_11 rfl rfl rfl rfl rfl rfl rfl rfl (by decide) (by decide) (by decide) (by decide) (Nat.le_of_ble_eq_true rfl) (by omega) (by omega) (by omega) rfl ?_
        rw [hskn]
        refine q_aload_n 0 15 dX12_atom_14 rfl rfl rfl ?_
        refine q_getI 0 18 f_X12_80 dX12_atom_15 rfl rfl rfl ?_
        refine q_istore_n 1 19 (L' := [_, _, _, _]) dX12_atom_18 rfl (by decide) rfl rfl ?_
        refine q_aload_n 0 20 dX12_atom_19 rfl rfl rfl ?_
        refine q_ldcS "not" 22 sr_X12_171 dX12_atom_20 rfl ?_
        refine q_cVi 0 [0, 1, 2] [3] [1, 2, 3, 0] 25 (wr := [_]) (w1 := _) (ws' := [_, _, _, _]) (p_has sw_X12_171 (by decide) (T := T) (e := e) (n := r) hT (by omega)) m_X12_109 dX12_atom_22 rfl rfl rfl rfl rfl rfl rfl rfl (by decide) (by decide) (by decide) (by decide) (Nat.le_of_ble_eq_true rfl) (by omega) (by omega) (by omega) rfl ?_
        rw [hasB_f hw hss, hasN_f hw hss]
        refine q_istore_n 2 26 (L' := [_, _, _, _]) dX12_atom_25 rfl (by decide) rfl rfl ?_
        refine q_iload_n 2 27 dX12_atom_26 rfl rfl rfl ?_
        refine q_if_ne 44 30 dX12_atom_27 (by decide) rfl (fun h27 => absurd rfl h27) (fun h27 => ?_)
        refine q_aload_n 0 31 dX12_atom_30 rfl rfl rfl ?_
        refine q_bipush 40 33 dX12_atom_31 bc_40 rfl ?_
        refine q_cVi 0 [0, 1, 2] [3] [1, 2, 3, 0] 36 (wr := [_]) (w1 := _) (ws' := [_, _, _, _]) (p_isSign (T := T) (e := e) (n := r) hT (by omega)) m_X12_138 dX12_atom_33 rfl rfl rfl rfl rfl rfl rfl rfl (by decide) (by decide) (by decide) (by decide) (Nat.le_of_ble_eq_true rfl) (by omega) (by omega) (by omega) rfl ?_
        rw [hss, if_neg hp]
        refine q_if_ne 44 39 dX12_atom_36 (by decide) rfl (fun h36 => absurd rfl h36) (fun h36 => ?_)
        refine q_aload_n 0 40 dX12_atom_39 rfl rfl rfl ?_
        refine q_cVi 0 [0, 1, 2, 3] [] [0, 1, 2, 3] 43 (wr := []) (w1 := _) (ws' := [_, _, _, _]) (p_plainCond (T := T) (e := e) (n := r) hT (by omega) hsv hof) m_X12_173 dX12_atom_40 rfl rfl rfl rfl rfl rfl rfl rfl (by decide) (by decide) (by decide) (by decide) (Nat.le_of_ble_eq_true rfl) (by omega) (by omega) (by omega) rfl ?_
        refine q_zreturn dX12_atom_43 rfl hok.1 ?_
        exact pR.rf
  · rw [if_neg hf]
    refine q_aload_n 0 1 dX12_atom_0 rfl rfl rfl ?_
    refine q_getI 0 4 f_X12_22 dX12_atom_1 rfl rfl rfl ?_
    refine q_iconst (-1) 5 dX12_atom_4 ic_m1 rfl ?_
    refine q_icmp_eq 10 8 dX12_atom_5 (by decide) rfl (fun h5 => absurd h5 hf) (fun h5 => ?_)
    refine q_iconst 0 9 dX12_atom_8 ic_0 rfl ?_
    refine q_zreturn dX12_atom_9 rfl (Or.inl rfl) ?_
    exact pR.rf

