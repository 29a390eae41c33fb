/-! ===== rules: lines; the style at a score ===== -/
/-- the lines that were read -/
def rdLs (L : List Tok) (e : Nat) : Nat → Nat → RLs
  | 0, _ => []
  | c + 1, k => ((tA L e (k + 1)).2.2, (cdC L e (k + 2)).2.2) :: (if (tA L e (lnC L e k).2.1).1 = 0 then [] else rdLs L e c ((lnC L e k).2.1 + 1))
def ruLs (L : List Tok) (e : Nat) : RLs := if (tA L e 0).1 = 0 then [] else rdLs L e 12 0
/-- the first line that holds -/
def pik (fa : Int32 → Int32) : RLs → Int32
  | [] => -1
  | z :: Ls => if z.2.length = 0 ∨ ¬ hoB fa z.2 = 0 then z.1 else pik fa Ls
theorem hoB_ev {fa : Int32 → Int32} {c : List Int32} {v : Int32} (h : Evl fa 17 c v) (hv : v = 0 ∨ v = 1) : hoB fa c = v ∧ ¬ c.length = 0 := by
  have h1 := h [] (by decide)
  refine ⟨?_, fun z => ?_⟩
  · unfold hoB
    rw [h1]
    rcases hv with rfl | rfl <;> simp
  · rw [List.length_eq_zero_iff.mp z, hoL] at h1
    exact absurd h1 (by simp)
theorem lnC_1 {L : List Tok} {e k : Nat} (h9 : isT L e k 9) (hn : isN L e (k + 1) 0 3) : lnC L e k = if (cdC L e (k + 2)).1 = 0 then (0, (cdC L e (k + 2)).2.1, []) else (1, (cdC L e (k + 2)).2.1, (tA L e (k + 1)).2.2 :: nI (cdC L e (k + 2)).2.2.length :: (cdC L e (k + 2)).2.2) := by unfold lnC; rw [if_pos ⟨h9, hn⟩]
theorem lnC_2 {L : List Tok} {e k : Nat} (h9 : isT L e k 9) (hn : ¬ isN L e (k + 1) 0 3) : lnC L e k = (0, k + 1, []) := by unfold lnC hdK; rw [if_neg (fun z => hn z.2), if_pos h9, if_neg hn]
theorem lnC_3 {L : List Tok} {e k : Nat} (h9 : ¬ isT L e k 9) : lnC L e k = (0, k, []) := by unfold lnC hdK; rw [if_neg (fun z => h9 z.1), if_neg h9]
/-- a line: the class's f, the reference's g -/
theorem line_eq {T fc : Sc} {e n k : Nat} {L : List Tok} {fa : Int32 → Int32} {sv of s : Int32} (he : e ≤ 400) (hL : L.length ≤ 400) (hB : TkB T e L) (hf : FaO fa fc sv of) (hsv : sv = 0 ∨ sv = 1) (hof : of = 0 ∨ of = 1) (h : AtP T e L n k) :
    ((lnC L e k).1 = 0 ∧ (rlR T (someG (atomG T fc sv of e 6) T e) e n s).2.1 = nI (tA L e (lnC L e k).2.1).2.1 ∧ (tA L e (lnC L e k).2.1).2.1 ≤ e) ∨
    (¬ (lnC L e k).1 = 0 ∧ (rlR T (someG (atomG T fc sv of e 6) T e) e n s).2.1 = -1 ∧ AtP T e L (rlR T (someG (atomG T fc sv of e 6) T e) e n s).1 (lnC L e k).2.1 ∧ k + 2 ≤ (lnC L e k).2.1 ∧ (∃ v : Nat, v ≤ 3 ∧ (tA L e (k + 1)).2.2 = nI v) ∧ (lnC L e k).2.2 = (tA L e (k + 1)).2.2 :: nI (cdC L e (k + 2)).2.2.length :: (cdC L e (k + 2)).2.2 ∧
      (rlR T (someG (atomG T fc sv of e 6) T e) e n s).2.2 = if s = -1 then (if (cdC L e (k + 2)).2.2.length = 0 ∨ ¬ hoB fa (cdC L e (k + 2)).2.2 = 0 then (tA L e (k + 1)).2.2 else -1) else s) := by
  unfold rlR
  have hw := h.word hB (w_style, 9) (by decide)
  by_cases h9 : isT L e k 9
  · have h2 : AtP T e L (sk T e n + 5) (k + 1) := h.wordS hB (w_style, 9) (by decide) h9
    rw [if_pos (hw.mpr h9), h2.num hB 0 3 (by decide)]
    by_cases hn : isN L e (k + 1) 0 3
    · obtain ⟨v, v1, v2, v3, v4, v5, v6⟩ := h2.nv hB 0 3 (by decide) (by decide) hn
      have hw2 := v5.word hB (w_if, 10) (by decide)
      have e2 : k + 1 + 1 = k + 2 := rfl
      rw [e2] at v5 hw2
      rw [lnC_1 h9 hn, if_pos hn, if_pos rfl, v4]
      have hcd : okP L (k + 2) (cdC L e (k + 2)) := cdC_ok v5.2.1
      by_cases hi : isT L e (k + 2) 10
      · have h3 : AtP T e L (sk T e (figE T e (sk T e n + 5)) + 2) (k + 2 + 1) := v5.wordS hB (w_if, 10) (by decide) hi
        rw [if_pos (hw2.mpr hi)]
        have ec : cdC L e (k + 2) = anyC L e (atC L e 6) (k + 2 + 1) := by unfold cdC; rw [if_pos hi]
        have hc := cond_eq he hL hB hf hsv hof h3
        rw [← ec] at hc
        rcases hc with ⟨a1, a2, a3⟩ | ⟨a1, a2, a3, a4, a5⟩
        · rw [if_pos a1]; exact Or.inl ⟨rfl, a2, a3⟩
        · obtain ⟨b1, b2⟩ := hoB_ev a5 a4
          rw [if_neg a1]
          refine Or.inr ⟨n10, a2, a3, hcd.2.1, ⟨v, v2, v3⟩, rfl, ?_⟩
          dsimp only
          rw [b1, v3]
          by_cases hs : s = -1
          · rw [if_pos hs]
            by_cases hz : (someG (atomG T fc sv of e 6) T e (sk T e (figE T e (sk T e n + 5)) + 2) (-1)).1 = 0
            · rw [if_neg (fun z => z.2.1 hz), if_neg (fun z => z.elim b2 (fun z => z hz)), hs]
            · rw [if_pos ⟨a2, hz, hs⟩, if_pos (Or.inr hz)]
          · rw [if_neg (fun z => hs z.2.2), if_neg hs]
      · have ec : cdC L e (k + 2) = (1, k + 2, []) := by unfold cdC; rw [if_neg hi]
        rw [if_neg (fun z => hi (hw2.mp z)), ec, if_neg n10]
        refine Or.inr ⟨n10, rfl, v5.s, Nat.le_refl _, ⟨v, v2, v3⟩, rfl, ?_⟩
        dsimp only
        rw [v3, if_pos (Or.inl (by rfl))]
    · rw [lnC_2 h9 hn, if_neg hn, if_neg (h2.bg he).2]
      exact Or.inl ⟨rfl, rfl, h2.be⟩
  · rw [lnC_3 h9, if_neg (fun z => h9 (hw.mp z)), h.2.2]
    exact Or.inl ⟨rfl, rfl, h.be⟩
theorem nI_ne1 {v : Nat} (h : v ≤ 3) : ¬ (nI v : Int32) = -1 := nI_nm1 (by omega)
/-- the lines: what is read, and the style that is told -/
theorem lines_eq {T : Sc} {e : Nat} {L : List Tok} (he : e ≤ 400) (hL : L.length ≤ 400) (hB : TkB T e L) : ∀ (c n k : Nat), AtP T e L n k →
    (¬ (rdC L e c k).1 = -1 ∧ ∀ (fc : Sc) (fa : Int32 → Int32) (sv of s : Int32), FaO fa fc sv of → (sv = 0 ∨ sv = 1) → (of = 0 ∨ of = 1) → (lnG (rlR T (someG (atomG T fc sv of e 6) T e) e) T e c n s).2.1 = (rdC L e c k).1) ∨
    ((rdC L e c k).1 = -1 ∧ (rdC L e c k).2.2 = flC (rdLs L e c k) ∧ (rdLs L e c k).length ≤ c ∧ (rdC L e c k).2.2.length + k ≤ L.length ∧ (∀ z ∈ rdLs L e c k, ∃ v : Nat, v ≤ 3 ∧ z.1 = nI v) ∧ ∀ (fc : Sc) (fa : Int32 → Int32) (sv of s : Int32), FaO fa fc sv of → (sv = 0 ∨ sv = 1) → (of = 0 ∨ of = 1) → (lnG (rlR T (someG (atomG T fc sv of e 6) T e) e) T e c n s).2.1 = -1 ∧ (lnG (rlR T (someG (atomG T fc sv of e 6) T e) e) T e c n s).2.2 = if s = -1 then pik fa (rdLs L e c k) else s)
  | 0, n, k, h => by
    rw [rdC]
    refine Or.inl ⟨(h.bg he).2, fun fc fa sv of s _ _ _ => ?_⟩
    rw [lnG, h.2.2]
  | c + 1, n, k, h => by
    have hone : ∀ (fc : Sc) (fa : Int32 → Int32) (sv of s : Int32), FaO fa fc sv of → (sv = 0 ∨ sv = 1) → (of = 0 ∨ of = 1) → _ := fun fc fa sv of s hf h1 h2 => line_eq (s := s) he hL hB hf h1 h2 h.s
    have hfa : FaO (fun x => if x = 14 then 0 else if x = 15 then 0 else if x = 16 then 0 else if x = 17 then 0 else if x = 18 then 0 else if x = 19 then 0 else if x = 6 then 0 else x - 1000) (fun _ => 0) 0 0 := by
      refine ⟨rfl, rfl, rfl, rfl, rfl, rfl, rfl, ?_⟩
      decide +kernel
    have h0 := hone (fun _ => 0) _ 0 0 (-1) hfa (Or.inl rfl) (Or.inl rfl)
    have hok : okP L k (lnC L e k) := lnC_ok h.2.1
    by_cases hz : (lnC L e k).1 = 0
    · rw [rdC, if_pos hz]
      rcases h0 with ⟨a1, a2, a3⟩ | ⟨a1, _⟩
      · have hb : ¬ nI (tA L e (lnC L e k).2.1).2.1 = -1 := nI_nm1 (by omega)
        refine Or.inl ⟨hb, fun fc fa sv of s hf h1 h2 => ?_⟩
        rcases hone fc fa sv of s hf h1 h2 with ⟨b1, b2, b3⟩ | ⟨b1, _⟩
        · rw [lnG, b2, if_neg hb]
        · exact absurd hz b1
      · exact absurd hz a1
    · rcases h0 with ⟨a1, _⟩ | ⟨a1, a2, a3, a4, a5, a6, _⟩
      · exact absurd a1 hz
      · -- the place behind the line is the same whatever the facts are
        have hpl : ∀ (fc : Sc) (fa : Int32 → Int32) (sv of s : Int32), FaO fa fc sv of → (sv = 0 ∨ sv = 1) → (of = 0 ∨ of = 1) → (rlR T (someG (atomG T fc sv of e 6) T e) e (sk T e n) s).2.1 = -1 ∧ AtP T e L (rlR T (someG (atomG T fc sv of e 6) T e) e (sk T e n) s).1 (lnC L e k).2.1 ∧ (rlR T (someG (atomG T fc sv of e 6) T e) e (sk T e n) s).2.2 = if s = -1 then (if (cdC L e (k + 2)).2.2.length = 0 ∨ ¬ hoB fa (cdC L e (k + 2)).2.2 = 0 then (tA L e (k + 1)).2.2 else -1) else s := by
          intro fc fa sv of s hf h1 h2
          rcases hone fc fa sv of s hf h1 h2 with ⟨b1, _⟩ | ⟨b1, b2, b3, b4, b5, b6, b7⟩
          · exact absurd b1 hz
          · exact ⟨b2, b3, b7⟩
        obtain ⟨v, hv, ev⟩ := a5
        by_cases ht : (tA L e (lnC L e k).2.1).1 = 0
        · rw [rdC, if_neg hz, if_pos ht, rdLs, if_pos ht]
          refine Or.inr ⟨rfl, ?_, by simp, ?_, ?_, fun fc fa sv of s hf h1 h2 => ?_⟩
          · rw [flC, flC, List.append_nil]; exact a6
          · have := hok.2.2.2 hz; have := hok.2.2.1; dsimp only; omega
          · intro z hz; rw [List.mem_singleton] at hz; rw [hz]; exact ⟨v, hv, ev⟩
          · obtain ⟨b1, b2, b3⟩ := hpl fc fa sv of s hf h1 h2
            have he0 := (b2.ty0 hB).mp ht
            rw [lnG, if_pos b1, if_pos he0]
            refine ⟨rfl, ?_⟩
            dsimp only
            rw [b3, pik, pik]
        · have hnot : ∀ (fc : Sc) (fa : Int32 → Int32) (sv of s : Int32), FaO fa fc sv of → (sv = 0 ∨ sv = 1) → (of = 0 ∨ of = 1) → ¬ sk T e (rlR T (someG (atomG T fc sv of e 6) T e) e (sk T e n) s).1 = e := by
            intro fc fa sv of s hf h1 h2 z
            exact ht (((hpl fc fa sv of s hf h1 h2).2.1.ty0 hB).mpr z)
          by_cases h59 : isT L e (lnC L e k).2.1 159
          · have hstep : ∀ (fc : Sc) (fa : Int32 → Int32) (sv of s : Int32), FaO fa fc sv of → (sv = 0 ∨ sv = 1) → (of = 0 ∨ of = 1) → AtP T e L (sk T e (rlR T (someG (atomG T fc sv of e 6) T e) e (sk T e n) s).1 + 1) ((lnC L e k).2.1 + 1) ∧ T (sk T e (rlR T (someG (atomG T fc sv of e 6) T e) e (sk T e n) s).1) = 59 := by
              intro fc fa sv of s hf h1 h2
              have hq := (hpl fc fa sv of s hf h1 h2).2.1
              have hs := hq.sgn hB 59 (by decide)
              exact ⟨hq.sgnS hB 59 (by decide) h59, (hs.mpr h59).2⟩
            have ih := lines_eq he hL hB c _ _ (hstep _ _ 0 0 (-1) hfa (Or.inl rfl) (Or.inl rfl)).1
            rw [rdC, if_neg hz, if_neg ht, if_pos h59, rdLs, if_neg ht]
            rcases ih with ⟨g1, g2⟩ | ⟨g1, g2, g3, g4, g5, g6⟩
            · refine Or.inl ⟨g1, fun fc fa sv of s hf h1 h2 => ?_⟩
              have hq := hstep fc fa sv of s hf h1 h2
              rw [lnG, if_pos (hpl fc fa sv of s hf h1 h2).1, if_neg (hnot fc fa sv of s hf h1 h2), if_pos hq.2]
              rcases lines_eq he hL hB c _ _ hq.1 with ⟨_, k2⟩ | ⟨k1, _⟩
              · exact k2 fc fa sv of _ hf h1 h2
              · exact absurd k1 g1
            · refine Or.inr ⟨g1, ?_, ?_, ?_, ?_, fun fc fa sv of s hf h1 h2 => ?_⟩
              · dsimp only
                rw [flC, a6, g2]; rfl
              · rw [List.length_cons]; omega
              · have := hok.2.2.2 hz
                have := hok.2.2.1
                dsimp only
                rw [List.length_append]
                omega
              · intro z hz
                rcases List.mem_cons.mp hz with hz | hz
                · rw [hz]; exact ⟨v, hv, ev⟩
                · exact g5 z hz
              · have hq := hstep fc fa sv of s hf h1 h2
                have hp := hpl fc fa sv of s hf h1 h2
                rw [lnG, if_pos hp.1, if_neg (hnot fc fa sv of s hf h1 h2), if_pos hq.2]
                rcases lines_eq he hL hB c _ _ hq.1 with ⟨k1, _⟩ | ⟨_, _, _, _, _, k6⟩
                · exact absurd g1 k1
                · obtain ⟨j1, j2⟩ := k6 fc fa sv of _ hf h1 h2
                  refine ⟨j1, ?_⟩
                  rw [j2, hp.2.2, pik]
                  by_cases hs : s = -1
                  · rw [if_pos hs, if_pos hs]
                    by_cases hb : (cdC L e (k + 2)).2.2.length = 0 ∨ ¬ hoB fa (cdC L e (k + 2)).2.2 = 0
                    · rw [if_pos hb, if_pos hb, ev, if_neg (nI_ne1 hv)]
                    · rw [if_neg hb, if_neg hb, if_pos rfl]
                  · rw [if_neg hs, if_neg hs, if_neg hs]
          · rw [rdC, if_neg hz, if_neg ht, if_neg h59]
            have hb : ¬ nI (tA L e (lnC L e k).2.1).2.1 = -1 := (a3.bg he).2
            refine Or.inl ⟨hb, fun fc fa sv of s hf h1 h2 => ?_⟩
            have hp := hpl fc fa sv of s hf h1 h2
            have hs := hp.2.1.sgn hB 59 (by decide)
            have hlt : sk T e (rlR T (someG (atomG T fc sv of e 6) T e) e (sk T e n) s).1 < e := by
              have := sk_in (T := T) hp.2.1.1
              have := hnot fc fa sv of s hf h1 h2
              omega
            rw [lnG, if_pos hp.1, if_neg (hnot fc fa sv of s hf h1 h2), if_neg (fun z => h59 (hs.mp ⟨hlt, z⟩)), hp.2.1.2.2]
theorem stL_pik {fa : Int32 → Int32} : ∀ Ls : RLs, (∀ z ∈ Ls, ∃ v : Nat, v ≤ 3 ∧ z.1 = nI v) → stL fa Ls = if pik fa Ls = -1 then 0 else pik fa Ls
  | [], _ => by rw [stL, pik, if_pos rfl]
  | z :: Ls, h => by
    rw [stL, pik]
    by_cases hb : z.2.length = 0 ∨ ¬ hoB fa z.2 = 0
    · obtain ⟨v, hv, ev⟩ := h z (by simp)
      rw [if_pos hb, if_pos hb, ev, if_neg (nI_ne1 hv)]
    · rw [if_neg hb, if_neg hb]
      exact stL_pik Ls (fun y hy => h y (by simp [hy]))

