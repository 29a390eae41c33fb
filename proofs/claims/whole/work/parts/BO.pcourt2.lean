/-! ===== court, all lines ===== -/
theorem suC_su (M : Sc) (k : Nat) : ∀ j, suC M k j = su M (12 * k) j
  | 0 => rfl
  | j + 1 => by rw [suC, su, suC_su M k j]
theorem su_cg {f h : Sc} {b : Nat} : ∀ j, (∀ i, i < j → f (b + i) = h (b + i)) → su f b j = su h b j
  | 0, _ => rfl
  | j + 1, hh => by rw [su, su, su_cg j (fun i hi => hh i (by omega)), hh j (by omega)]
theorem coF_f {M : Sc} {v f : Int32} (h : ¬ f = -1) : ∀ k, coF M v f k = f
  | 0 => rfl
  | k + 1 => by
    rw [coF, coF_f h k]
    unfold wr
    rw [if_neg h]
    split <;> rfl
theorem coF_1 {M : Sc} {v : Int32} : ∀ k, ((∀ j, j < k → suC M j 12 = 100) ∧ coF M v (-1) k = -1) ∨ ((¬ ∀ j, j < k → suC M j 12 = 100) ∧ coF M v (-1) k = v)
  | 0 => Or.inl ⟨fun j hj => by omega, rfl⟩
  | k + 1 => by
    rw [coF]
    by_cases h : suC M k 12 = 100
    · rw [if_pos h]
      rcases coF_1 (M := M) (v := v) k with ⟨h1, h2⟩ | ⟨h1, h2⟩
      · refine Or.inl ⟨fun j hj => ?_, h2⟩
        rcases Nat.lt_or_ge j k with h3 | h3
        · exact h1 j h3
        · rw [show j = k from by omega]; exact h
      · exact Or.inr ⟨fun z => h1 (fun j hj => z j (by omega)), h2⟩
    · rw [if_neg h]
      refine Or.inr ⟨fun z => h (z k (by omega)), ?_⟩
      rcases coF_1 (M := M) (v := v) k with ⟨h1, h2⟩ | ⟨h1, h2⟩
      · rw [h2]; rfl
      · rw [h2]; unfold wr; split <;> rfl
theorem auV_iff {f : Sc} : ∀ c p, (¬ auV f c p = 0) ↔ ∀ j, p ≤ j → j < p + c → su f (12 * j) 12 = 100
  | 0, p => ⟨fun _ j h1 h2 => by omega, fun _ => by rw [auV]; decide⟩
  | c + 1, p => by
    rw [auV]
    by_cases h : su f (12 * p) 12 = 100
    · rw [if_pos h, auV_iff c (p + 1)]
      constructor
      · intro h1 j h2 h3
        rcases Nat.eq_or_lt_of_le h2 with rfl | h4
        · exact h
        · exact h1 j h4 (by omega)
      · intro h1 j h2 h3; exact h1 j (by omega) (by omega)
    · rw [if_neg h]
      exact ⟨fun z => absurd rfl z, fun z => absurd (z p (Nat.le_refl _) (by omega)) h⟩
def SmO (m : Sc) : Prop := ∀ j, j < 16 → su m (12 * j) 12 = 100
/-- a court's text: the class's answer q, the reference's r -/
def CrA (e : Nat) (m : Sc) (i4 : Int32) (q : Int32 × Nat × Sc × Sc) (r : Nat × Int32 × Sc) : Prop :=
  CoK m r.2.2 ∧ ((q.1 = -1 ∧ coF r.2.2 (nI e) r.2.1 16 = -1 ∧ CoM r.2.2 q.2.2.1 q.2.2.2 ∧ CoV r.2.2 ∧ SmO r.2.2 ∧ q.2.2.1 4 = i4) ∨ (¬ q.1 = -1 ∧ coF r.2.2 (nI e) r.2.1 16 = q.1))
theorem CoK.tr {m M N : Sc} (h : CoK m M) (g : CoK M N) : CoK m N := fun j a b => (g j a b).trans (h j a b)
theorem ct_lines {T : Sc} {e : Nat} {L : List Tok} (he : e ≤ 400) (hB : TkB T e L) : ∀ (c n k : Nat) (m i ch : Sc), AtP T e L n k → CoM m i ch → CoV m → CrA e m (i 4) (rtC L e c k i ch) (lnG (ctR T e) T e c n m)
  | 0, n, k, m, i, ch, h, hm, hv => by
    rw [rtC, lnG]
    refine ⟨CoK.rf m, Or.inr ⟨(h.bg he).2, ?_⟩⟩
    rw [h.2.2]
    exact coF_f (h.bg he).2 _
  | c + 1, n, k, m, i, ch, h, hm, hv => by
    rw [rtC, lnG]
    have hl := ct_line he hB h.s hm hv
    generalize rlC L e k i ch = q at *
    generalize ctR T e (sk T e n) m = r at *
    obtain ⟨hk, ⟨h1, h2, h3⟩ | ⟨h1, h2, h3, h4, h5, h6⟩⟩ := hl
    · have hb : ¬ nI (tA L e q.2.1).2.1 = -1 := nI_nm1 (by omega)
      rw [if_pos h1, h2, if_neg hb]
      exact ⟨hk, Or.inr ⟨hb, coF_f hb _⟩⟩
    · rw [if_neg h1, if_pos h2]
      have t0 := h3.ty0 hB
      by_cases h0 : sk T e r.1 = e
      · rw [if_pos h0, if_pos (t0.mpr h0)]
        have e1 : (tA L e q.2.1).2.1 = e := by rw [← h3.2.2, h0]
        rw [e1]
        refine ⟨hk, ?_⟩
        dsimp only
        have hsu : ∀ j, j < 16 → su q.2.2.2 (12 * j) 12 = su r.2.2 (12 * j) 12 := fun j hj => su_cg 12 (fun i hi => h4.1 _ (by omega))
        have hau := auV_iff (f := q.2.2.2) 16 0
        rcases coF_1 (M := r.2.2) (v := nI e) 16 with ⟨g1, g2⟩ | ⟨g1, g2⟩
        · have : ¬ auV q.2.2.2 16 0 = 0 := hau.mpr (fun j _ hj => by rw [hsu j (by omega), ← suC_su]; exact g1 j (by omega))
          rw [if_neg this]
          exact Or.inl ⟨rfl, g2, h4, h5, fun j hj => by rw [← suC_su]; exact g1 j hj, h6⟩
        · have : auV q.2.2.2 16 0 = 0 := by
            rcases auV_or q.2.2.2 16 0 with h | h
            · exact h
            · exfalso
              refine g1 (fun j hj => ?_)
              rw [suC_su, ← hsu j hj]
              exact hau.mp (by rw [h]; decide) j (by omega) (by omega)
          rw [if_pos this]
          exact Or.inr ⟨nI_nm1 (by omega), g2⟩
      · rw [if_neg h0, if_neg (fun z => h0 (t0.mp z))]
        have hlt : sk T e r.1 < e := by have := sk_in (T := T) h3.1; omega
        have hs := h3.sgn hB 59 (by decide)
        rw [show (100 : Int32) + 59 = 159 by decide] at hs
        by_cases h9 : isT L e q.2.1 159
        · rw [if_pos (hs.mpr h9).2, (psB_p h9).1, (psB_p h9).2, if_neg n10]
          have := ct_lines he hB c _ _ r.2.2 q.2.2.1 q.2.2.2 (h3.sgnS hB 59 (by decide) h9) h4 h5
          rw [h6] at this
          exact ⟨hk.tr this.1, this.2⟩
        · rw [if_neg (fun z => h9 (hs.mp ⟨hlt, z⟩)), (psB_n h9).1, (psB_n h9).2, if_pos rfl]
          have hb := (h3.bg he).2
          refine ⟨hk, Or.inr ⟨hb, ?_⟩⟩
          dsimp only
          rw [h3.2.2]
          exact coF_f hb _
theorem at_0 {T : Sc} {e : Nat} {L : List Tok} (hB : TkB T e L) : AtP T e L 0 0 := ⟨by omega, by omega, hB.1.symm⟩
theorem an_court {Tc tp m di li cf : Sc} {e : Nat} (he : e ≤ 400) (hb : ∀ k, k < e → ByA (Tc k) (tp k)) (hm : CoM m li cf) (hv : CoV m) (hs : SmO m) : CrA e m (li 4) (coR Tc e di li cf) (coL tp m e) := by
  have hB : TkB tp e (toks Tc e) := TkB_toks he hb (fun _ _ => rfl)
  have h0 := at_0 hB
  have h4 : lTk di li 4 = li 4 := by unfold lTk; simp [upd_at]
  have hm2 : CoM m (lTk di li) cf := by
    obtain ⟨h1, h2, h3, h5⟩ := hm
    refine ⟨h1, ?_, ?_, ?_⟩ <;> (unfold lTk; simp [upd_at, h2, h3, h5])
  unfold coR coL rtR lnR
  rw [← h4]
  have t0 := h0.ty0 hB
  have hi := sk_in (T := tp) (e := e) (n := 0) (by omega)
  by_cases hz : sk tp e 0 < e
  · rw [if_pos hz, if_neg (fun z => by have := t0.mp z; omega)]
    exact ct_lines he hB 12 _ 0 m _ cf h0.s hm2 hv
  · rw [if_neg hz, if_pos (t0.mpr (by omega))]
    refine ⟨CoK.rf m, Or.inl ⟨rfl, ?_, hm2, hv, hs, rfl⟩⟩
    rcases coF_1 (M := m) (v := nI e) 16 with ⟨g1, g2⟩ | ⟨g1, g2⟩
    · exact g2
    · exact absurd (fun j hj => by rw [suC_su]; exact hs j hj) g1

