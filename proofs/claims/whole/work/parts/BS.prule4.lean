/-! ===== rules: what is kept of them; styles alike ===== -/
def faE (fc : Sc) (sv of : Int32) (x : Int32) : Int32 := if x = 14 then sv else if x = 15 then of else if x = 16 then fc 0 else if x = 17 then fc 1 else if x = 18 then fc 2 else if x = 19 then fc 3 else if x = 6 then fc 4 else x - 1000
theorem k_fin : ∀ v : Nat, v < 1000 → ¬ 1000 + (nI v : Int32) = 14 ∧ ¬ 1000 + (nI v : Int32) = 15 ∧ ¬ 1000 + (nI v : Int32) = 16 ∧ ¬ 1000 + (nI v : Int32) = 17 ∧ ¬ 1000 + (nI v : Int32) = 18 ∧ ¬ 1000 + (nI v : Int32) = 19 ∧ ¬ 1000 + (nI v : Int32) = 6 ∧ 1000 + (nI v : Int32) - 1000 = nI v := by decide +kernel
theorem faE_ok (fc : Sc) (sv of : Int32) : FaO (faE fc sv of) fc sv of := by
  refine ⟨rfl, rfl, rfl, rfl, rfl, rfl, rfl, fun v hv => ?_⟩
  obtain ⟨h1, h2, h3, h4, h5, h6, h7, h8⟩ := k_fin v hv
  unfold faE
  rw [if_neg h1, if_neg h2, if_neg h3, if_neg h4, if_neg h5, if_neg h6, if_neg h7, h8]
/-- a text of a rule, read by the class into Ls and at each score by the reference -/
theorem rule_eq {T : Sc} {e : Nat} {L : List Tok} (he : e ≤ 400) (hL : L.length ≤ 400) (hB : TkB T e L) :
    (¬ (rdR L e).1 = -1 ∧ ∀ (fc : Sc) (sv of : Int32), (sv = 0 ∨ sv = 1) → (of = 0 ∨ of = 1) → (ruL T fc sv of e).2.1 = (rdR L e).1) ∨
    ((rdR L e).1 = -1 ∧ (rdR L e).2.2 = flC (ruLs L e) ∧ (ruLs L e).length ≤ 12 ∧ (rdR L e).2.2.length ≤ L.length ∧ (∀ z ∈ ruLs L e, ∃ v : Nat, v ≤ 3 ∧ z.1 = nI v) ∧ ∀ (fc : Sc) (fa : Int32 → Int32) (sv of : Int32), FaO fa fc sv of → (sv = 0 ∨ sv = 1) → (of = 0 ∨ of = 1) → (ruL T fc sv of e).2.1 = -1 ∧ (ruL T fc sv of e).2.2 = pik fa (ruLs L e)) := by
  have h0 := at_0 hB
  have t0 := h0.ty0 hB
  have hi := sk_in (T := T) (e := e) (n := 0) (by omega)
  unfold rdR ruLs
  by_cases hz : (tA L e 0).1 = 0
  · have hn : ¬ sk T e 0 < e := by have := t0.mp hz; omega
    rw [if_pos hz, if_pos hz]
    refine Or.inr ⟨rfl, rfl, by simp, by simp, fun z h => absurd h (by simp), fun fc fa sv of _ _ _ => ?_⟩
    unfold ruL lnR
    rw [if_neg hn]
    exact ⟨rfl, rfl⟩
  · have hn : sk T e 0 < e := by have : ¬ sk T e 0 = e := fun z => hz (t0.mpr z); omega
    rw [if_neg hz, if_neg hz]
    have hu : ∀ fc sv of, ruL T fc sv of e = lnG (rlR T (someG (atomG T fc sv of e 6) T e) e) T e 12 (sk T e 0) (-1) := by
      intro fc sv of
      unfold ruL lnR
      rw [if_pos hn]
    rcases lines_eq he hL hB 12 _ 0 h0.s with ⟨a1, a2⟩ | ⟨a1, a2, a3, a4, a5, a6⟩
    · exact Or.inl ⟨a1, fun fc sv of h1 h2 => by rw [hu]; exact a2 fc _ sv of (-1) (faE_ok fc sv of) h1 h2⟩
    · refine Or.inr ⟨a1, a2, a3, by omega, a5, fun fc fa sv of hf h1 h2 => ?_⟩
      rw [hu]
      have := a6 fc fa sv of (-1) hf h1 h2
      rwa [if_pos rfl] at this
/-- begins grow -/
theorem bg_grow {T : Sc} {e : Nat} {L : List Tok} (hJ : TkJ T e L) : ∀ k, k < L.length → (tA L e k).2.1 < (tA L e (k + 1)).2.1 := by
  intro k hk
  obtain ⟨c1, c2, c3, c4⟩ := hJ.2.2 k hk
  rw [c4]
  have := (tkE_in T c1).1
  have := sk_ge T e (tkE T e (tA L e k).2.1)
  omega
theorem bg_far {T : Sc} {e : Nat} {L : List Tok} (hJ : TkJ T e L) : ∀ j k, k + j ≤ L.length → (tA L e k).2.1 + j ≤ (tA L e (k + j)).2.1
  | 0, k, _ => Nat.le_refl _
  | j + 1, k, h => by
    have h1 := bg_far hJ j k (by omega)
    have h2 := bg_grow hJ (k + j) (by omega)
    rw [show k + (j + 1) = k + j + 1 from rfl]
    omega
theorem rule_len {Tc : Sc} {e : Nat} (he : e ≤ 400) (h : (ruR Tc e).1 = -1) : (toks Tc e).length ≤ 400 ∧ (ruR Tc e).2.2.length < 400 := by
  have hJ := TkJ_toks Tc he
  have hend : (tA (toks Tc e) e (toks Tc e).length).2.1 = e := by rw [hJ.2.1 _ (Nat.le_refl _)]; rfl
  have h1 := bg_far hJ (toks Tc e).length 0 (by omega)
  rw [Nat.zero_add, hend] at h1
  refine ⟨by omega, ?_⟩
  unfold ruR at h ⊢
  by_cases hz : (tA (toks Tc e) e 0).1 = 0
  · unfold rdR; rw [if_pos hz]; decide
  · have hc : ∀ c k, k ≤ (toks Tc e).length → (rdC (toks Tc e) e c k).1 = -1 → (rdC (toks Tc e) e c k).2.2.length + k ≤ (toks Tc e).length ∧ ∃ c', c = c' + 1 ∧ ¬ (lnC (toks Tc e) e k).1 = 0 := by
      intro c
      induction c with
      | zero =>
        intro k hk h2
        rw [rdC] at h2
        refine absurd h2 (nI_nm1 ?_)
        have := toks_at Tc e k
        omega
      | succ c ih =>
        intro k hk h2
        have hok : okP (toks Tc e) k (lnC (toks Tc e) e k) := lnC_ok hk
        rw [rdC] at h2 ⊢
        by_cases h3 : (lnC (toks Tc e) e k).1 = 0
        · rw [if_pos h3] at h2
          refine absurd h2 (nI_nm1 ?_)
          have := toks_at Tc e (lnC (toks Tc e) e k).2.1
          omega
        · refine ⟨?_, c, rfl, h3⟩
          rw [if_neg h3] at h2 ⊢
          have l1 := hok.2.2.2 h3
          have l2 := hok.2.2.1
          by_cases h4 : (tA (toks Tc e) e (lnC (toks Tc e) e k).2.1).1 = 0
          · rw [if_pos h4]; dsimp only; omega
          · rw [if_neg h4] at h2 ⊢
            by_cases h5 : isT (toks Tc e) e (lnC (toks Tc e) e k).2.1 159
            · rw [if_pos h5] at h2 ⊢
              have := (ih ((lnC (toks Tc e) e k).2.1 + 1) h5.1 h2).1
              dsimp only
              rw [List.length_append]
              omega
            · rw [if_neg h5] at h2
              refine absurd h2 (nI_nm1 ?_)
              have := toks_at Tc e (lnC (toks Tc e) e k).2.1
              omega
    have h2 : (rdR (toks Tc e) e) = rdC (toks Tc e) e 12 0 := by unfold rdR; rw [if_neg hz]
    rw [h2] at h ⊢
    obtain ⟨g1, c', g2, g3⟩ := hc 12 0 (by omega) h
    -- the first token is the word style: five letters
    have h9 : isT (toks Tc e) e 0 9 := by
      by_cases h9 : isT (toks Tc e) e 0 9
      · exact h9
      · rw [lnC_3 h9] at g3; exact absurd rfl g3
    obtain ⟨c1, c2, c3, c4⟩ := hJ.2.2 0 h9.1
    have hty : tkT Tc e (tA (toks Tc e) e 0).2.1 = 9 := by have := h9.2; rw [c3] at this; exact this
    have hlet : ¬ rIn (Tc (tA (toks Tc e) e 0).2.1) 97 122 = 0 := by
      intro hl
      unfold tkT at hty
      rw [if_pos hl] at hty
      obtain ⟨b, hb1, hb2⟩ := and255 (Tc (tA (toks Tc e) e 0).2.1)
      have hr := (sg_rng b hb1).1
      split at hty
      · rw [hb2] at hty; rw [hty] at hr; exact absurd hr (by decide)
      · exact absurd hty (by decide)
    unfold tkT at hty
    rw [if_neg hlet] at hty
    have hsp := (wdK_iff (w := (w_style, 9)) (by decide)).mp hty
    have hE : tkE Tc e (tA (toks Tc e) e 0).2.1 = (tA (toks Tc e) e 0).2.1 + 5 := by
      unfold tkE
      rw [if_neg hlet]
      exact hsp.1
    rw [hE] at c4
    have := sk_ge Tc e ((tA (toks Tc e) e 0).2.1 + 5)
    have h7 := bg_far hJ ((toks Tc e).length - 1) 1 (by have := h9.1; omega)
    rw [show 1 + ((toks Tc e).length - 1) = (toks Tc e).length from by have := h9.1; omega, hend] at h7
    rw [Nat.zero_add] at c4
    omega
/-- a rule that is kept: its text in m, its lines -/
def RuA (m : Sc) (r : Nat) (Ls : RLs) : Prop := ∃ (e : Nat) (L : List Tok), e ≤ 400 ∧ m (210 + 401 * r) = nI e ∧ L.length ≤ 400 ∧ TkB (stT m r) e L ∧ (rdR L e).1 = -1 ∧ Ls = ruLs L e
theorem RuA.mono {m M : Sc} {r : Nat} {Ls : RLs} (h : RuA m r Ls) (hm : ∀ k, 210 + 401 * r ≤ k → k < 210 + 401 * (r + 1) → M k = m k) : RuA M r Ls := by
  obtain ⟨e, L, h1, h2, h3, h4, h5, h6⟩ := h
  refine ⟨e, L, h1, by rw [hm _ (by omega) (by omega)]; exact h2, h3, TkB.cg (Cg.of (fun k hk => ?_)) h4, h5, h6⟩
  unfold stT
  exact (hm _ (by omega) (by omega)).symm
theorem RuA.new {m tp Tc : Sc} {r e : Nat} (he : e ≤ 400) (hb : ∀ k, k < e → ByA (Tc k) (tp k)) (hr : r < 6) (h : (ruR Tc e).1 = -1) : RuA (ruM m tp r e) r (ruLs (toks Tc e) e) := by
  refine ⟨e, toks Tc e, he, ?_, (rule_len he h).1, TkB_toks he hb (fun k hk => ?_), h, rfl⟩
  · unfold ruM txP
    rw [pk_un (by omega), if_neg (by omega), pk_us]
  · unfold stT ruM txP
    rw [pk_un (by omega), if_pos (by omega)]
    congr 1
    omega
theorem ruM_o {m tp : Sc} {r e k : Nat} (he : e ≤ 400) (h1 : ¬ k = 193) (h2 : k < 210 + 401 * r ∨ 210 + 401 * (r + 1) ≤ k) : ruM m tp r e k = m k := by
  unfold ruM txP
  rw [pk_un h1, if_neg (by omega), pk_un (by omega)]
theorem RuA.st {m fc x : Sc} {r p : Nat} {Ls : RLs} {fa : Int32 → Int32} (h : RuA m r Ls) (hf : FaO fa (stX fc x p) (stS x p) (stO x)) : ∃ e, e ≤ 400 ∧ m (210 + 401 * r) = nI e ∧ (if (stR m fc x p r e).2.2 = -1 then 0 else (stR m fc x p r e).2.2) = stL fa Ls := by
  obtain ⟨e, L, h1, h2, h3, h4, h5, h6⟩ := h
  refine ⟨e, h1, h2, ?_⟩
  rcases rule_eq h1 h3 h4 with ⟨a1, _⟩ | ⟨a1, a2, a3, a4, a5, a6⟩
  · exact absurd h5 a1
  · have := (a6 (stX fc x p) fa (stS x p) (stO x) hf (stS_or x p) (stO_or x)).2
    have e1 : (stR m fc x p r e).2.2 = pik fa (ruLs L e) := this
    rw [e1, h6, stL_pik _ a5]
theorem faV_k (s : Sc) (p : Int32) {v : Nat} (hv : v < 1000) : faV s p (1000 + nI v) = nI v := by
  obtain ⟨h1, h2, h3, h4, h5, h6, h7, h8⟩ := k_fin v hv
  unfold faV
  rw [if_neg h1, if_neg h2, if_neg h3, if_neg h4, if_neg h5, if_neg h6, if_neg h7, h8]
/-- the facts of a score -/
theorem faV_ok {m s x fc : Sc} {p : Nat} (hs : SA m s x) (hx : Val x) (hp : p ≤ 1) : FaO (faV s (nI p)) (stX fc x p) (stS x p) (stO x) := by
  obtain ⟨⟨h0, h1, h2, h3, h6, h4, h5⟩, h7, h8, h9, h10⟩ := hs
  obtain ⟨_, hv, hc⟩ := hx
  have hp2 : p = 0 ∨ p = 1 := by omega
  refine ⟨?_, ?_, ?_, ?_, ?_, ?_, ?_, fun v hv => faV_k s _ hv⟩
  · show (if s 2 = nI p then 1 else 0) = _
    unfold stS; rw [h2]
  · show (if s 6 = 0 then 0 else 1) = _
    unfold stO; rw [h6]
    have : x 6 = 0 ∨ x 6 = 1 := by
      rcases hc with ⟨_, a⟩ | ⟨_, _, a⟩ | ⟨_, _, _, a⟩
      · exact Or.inl a
      · exact a
      · exact Or.inr a
    rcases this with z | z <;> rw [z] <;> decide
  · show 3 + (if nI p = 0 then s 0 else s 1) = _
    unfold stX
    rcases hp2 with rfl | rfl
    · simp [upd_at, h0, Int32.add_comm]; intro z; exact absurd (by decide) z
    · simp [upd_at, h1, Int32.add_comm]; intro z; exact absurd z (by decide)
  · show 3 + (if nI p = 0 then s 1 else s 0) = _
    unfold stX
    rcases hp2 with rfl | rfl
    · simp [upd_at, h1, Int32.add_comm]; intro z; exact absurd (by decide) z
    · simp [upd_at, h0, Int32.add_comm]; intro z; exact absurd z (by decide)
  · show (if s 3 = 0 then 10 else if s 6 = 0 ∧ ¬ s 3 = 1 then s 5 else s 4) = _
    unfold stX
    simp only [upd_at]
    simp
    rw [h3]
    by_cases hz : x 3 = 0
    · rw [if_pos hz, if_pos hz]
    · rw [if_neg hz, if_neg hz]
      have hn : ¬ (s 6 = 0 ∧ ¬ x 3 = 1) := by
        rintro ⟨a, b⟩
        rw [h6] at a
        rcases hc with ⟨c, _⟩ | ⟨c, _⟩ | ⟨_, _, _, c⟩
        · exact hz c
        · exact b c
        · rw [a] at c; exact absurd c (by decide)
      rw [if_neg hn]
      exact h4 (by rw [h3]; exact hz)
  · show s 3 = _
    unfold stX; simp [upd_at, h3]
  · show (if nI p = 0 then s 7 else s 8) = _
    unfold stX
    rcases hp2 with rfl | rfl
    · simp [upd_at, h7]; intro z; exact absurd (by decide) z
    · simp [upd_at, h8]; intro z; exact absurd z (by decide)
/-- styles alike -/
theorem StyX_of {m yf : Sc} {Rl : Nat → RLs} {num : Nat} (hn : num ≤ 6) (hy : ∀ p, p ≤ 1 → yf p = m (199 + p)) (hb : ∀ p, p ≤ 1 → yf p = -1 ∨ ∃ w : Nat, w < num ∧ yf p = nI w) (hR : ∀ w, w < num → RuA m w (Rl w)) : StyX m yf Rl := by
  intro s x hx hs p hp
  unfold rsV svV soV
  rw [← hy p hp]
  rcases hb p hp with h | ⟨w, hw, h⟩
  · rw [if_pos h, if_pos h]
  · have hne : ¬ yf p = -1 := by rw [h]; exact nI_nm1 (by omega)
    rw [if_neg hne, if_neg hne, h, nI_clamp (by omega)]
    obtain ⟨e, h1, h2, h3⟩ := (hR w hw).st (fc := fun _ => 0) (faV_ok (fc := fun _ => 0) hs hx hp)
    have eN : soN m p = w := by unfold soN; rw [← hy p hp, h, nI_clamp (by omega)]
    have eE : soE m p = e := by unfold soE; rw [eN, h2, nI_clamp (by omega)]
    unfold soR
    rw [eN, eE, h3]
theorem stH_of {m yf : Sc} {Rl : Nat → RLs} {num : Nat} (hn : num ≤ 6) (hy : ∀ p, p ≤ 1 → yf p = m (199 + p)) (hb : ∀ p, p ≤ 1 → yf p = -1 ∨ ∃ w : Nat, w < num ∧ yf p = nI w) (hR : ∀ w, w < num → RuA m w (Rl w)) {p : Nat} (hp : p ≤ 1) : stH m p := by
  rcases hb p hp with h | ⟨w, hw, h⟩
  · exact Or.inl (by rw [← hy p hp, h])
  · obtain ⟨e, L, h1, h2, _⟩ := hR w hw
    exact Or.inr ⟨w, e, by omega, h1, by rw [← hy p hp, h], h2⟩

