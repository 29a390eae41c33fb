/-! ===== the reference parses: its state is ps i n f d s: at n, fault f, deep d, says s ===== -/
def ps (i : Nat → Int32) (n : Nat) (f d s : Int32) : Nat → Int32 := upd (upd (upd (upd i 9 (nI n)) 10 f) 11 d) 15 s
theorem ps_9 (i : Nat → Int32) (n n' : Nat) (f d s : Int32) : upd (ps i n f d s) 9 (nI n') = ps i n' f d s := by
  funext j
  simp only [ps, upd]
  by_cases h1 : j = 9
  · subst h1; simp
  · by_cases h2 : j = 10
    · subst h2; simp
    · by_cases h3 : j = 11
      · subst h3; simp
      · by_cases h4 : j = 15
        · subst h4; simp
        · simp [h1, h2, h3, h4]
theorem ps_10 (i : Nat → Int32) (n : Nat) (f f' d s : Int32) : upd (ps i n f d s) 10 f' = ps i n f' d s := by
  funext j
  simp only [ps, upd]
  by_cases h2 : j = 10
  · subst h2; simp
  · by_cases h3 : j = 11
    · subst h3; simp
    · by_cases h4 : j = 15
      · subst h4; simp
      · simp [h2, h3, h4]
theorem ps_11 (i : Nat → Int32) (n : Nat) (f d d' s : Int32) : upd (ps i n f d s) 11 d' = ps i n f d' s := by
  funext j
  simp only [ps, upd]
  by_cases h3 : j = 11
  · subst h3; simp
  · by_cases h4 : j = 15
    · subst h4; simp
    · simp [h3, h4]
theorem ps_15 (i : Nat → Int32) (n : Nat) (f d s s' : Int32) : upd (ps i n f d s) 15 s' = ps i n f d s' := by
  funext j
  simp only [ps, upd]
  by_cases h4 : j = 15
  · subst h4; simp
  · simp [h4]
abbrev wP (g : Gh) (q : Nat) (A : Nat → Nat) (i m tp : Nat → Int32) (n : Nat) (f d s : Int32) : va_W := [(q, ob 12 (ps i n f d s) (rM A)), (A 1, aI g 2616 m), (A 5, aI g 400 tp)]
section MP
variable {l : Launch} {g : Gh} {q : Nat} {A : Nat → Nat} {i m tp T : Nat → Int32} {e n : Nat} {f d s : Int32}
theorem p_skip (hT : TxOK (i 7) (i 8) m tp T e) (hn2 : n < 1000) : Cp l g yX12_skip (Cond.code yX12_skip cX12_skip 1 none) 2 [.ref q] (wP g q A i m tp n f d s) none (wP g q A i m tp (sk T e n) f d s) := by
  have h := c_skip (l := l) (g := g) (q := q) (A := A) (i := ps i n f d s) (n := n) hT rfl hn2
  rw [ps_9] at h
  exact h
theorem p_isSign {c : Int32} (hT : TxOK (i 7) (i 8) m tp T e) (hn2 : n < 1000) : Cp l g yX12_isSign (Cond.code yX12_isSign cX12_isSign 2 (some .boolean)) 3 [.ref q, .int c] (wP g q A i m tp n f d s) (some (.int (if sk T e n < e ∧ T (sk T e n) = c then 1 else 0))) (wP g q A i m tp (sk T e n) f d s) := by
  have h := c_isSign (l := l) (g := g) (q := q) (A := A) (i := ps i n f d s) (n := n) (c := c) hT rfl hn2
  rw [ps_9] at h
  exact h
theorem p_has {o : String} {sq : Nat} {bs : List Int32} (hw : (o, sq, bs) ∈ sWords) (hbl : bs.length ≤ 100) (hT : TxOK (i 7) (i 8) m tp T e) (hn2 : n < 1000) : Cp l g yX12_has (Cond.code yX12_has cX12_has 4 (some .boolean)) 5 [.ref q, .ref (g.2.2.1 o sq)] (wP g q A i m tp n f d s) (some (.int (hasB T e n bs))) (wP g q A i m tp (hasN T e n bs) f d s) := by
  have h := c_has (l := l) (g := g) (q := q) (A := A) (i := ps i n f d s) (n := n) hw hbl hT rfl hn2
  rw [ps_9] at h
  exact h
/-- wrong(v) -/
def wr (f v : Int32) : Int32 := if f = -1 then v else f
theorem p_wrong {v : Int32} : Cp l g yX12_wrong (Cond.code yX12_wrong cX12_wrong 2 none) 1 [.ref q, .int v] [(q, ob 12 (ps i n f d s) (rM A))] none [(q, ob 12 (ps i n (wr f v) d s) (rM A))] := by
  have h := c_wrong (l := l) (g := g) (q := q) (A := A) (i := ps i n f d s) (v := v)
  have e : (if ps i n f d s 10 = -1 then upd (ps i n f d s) 10 v else ps i n f d s) = ps i n (wr f v) d s := by
    show (if f = -1 then _ else _) = _
    unfold wr
    split
    · rw [ps_10]
    · rfl
  rw [e] at h
  exact h
/-- up to so many figures from n on: where they end, and their number -/
def dgs (T : Nat → Int32) (e : Nat) : Nat → Nat → Int32 → Nat × Int32
  | 0, n, v => (n, v)
  | k + 1, n, v => if n < e ∧ rIn (T n) 48 57 ≠ 0 then dgs T e k (n + 1) (10 * v + T n - 48) else (n, v)
theorem dgs_ge (T : Nat → Int32) (e : Nat) : ∀ k n v, n ≤ (dgs T e k n v).1 ∧ (dgs T e k n v).1 ≤ n + k
  | 0, n, v => ⟨Nat.le_refl n, Nat.le_refl n⟩
  | k + 1, n, v => by
    rw [dgs]
    split
    · have := dgs_ge T e k (n + 1) (10 * v + T n - 48)
      omega
    · simp
theorem dgs_le (T : Nat → Int32) (e : Nat) : ∀ k n v, (dgs T e k n v).1 ≤ n ∨ (dgs T e k n v).1 ≤ e
  | 0, n, v => Or.inl (Nat.le_refl n)
  | k + 1, n, v => by
    rw [dgs]
    split
    · have := dgs_le T e k (n + 1) (10 * v + T n - 48)
      omega
    · simp
def figE (T : Nat → Int32) (e n : Nat) : Nat := (dgs T e 4 (sk T e n) 0).1
def figV (T : Nat → Int32) (e n : Nat) : Int32 := (dgs T e 4 (sk T e n) 0).2
abbrev figBad (T : Nat → Int32) (e n : Nat) (lo hi : Int32) : Prop := figE T e n = sk T e n ∨ 3 < figE T e n - sk T e n ∨ figV T e n < lo ∨ hi < figV T e n
/-- figures(lo, hi): its number, its end, its fault -/
def fgV (T : Nat → Int32) (e n : Nat) (f : Int32) : Int32 := if f = -1 then figV T e n else 0
def fgN (T : Nat → Int32) (e n : Nat) (f : Int32) : Nat := if f = -1 then figE T e n else n
def fgF (T : Nat → Int32) (e n : Nat) (f lo hi : Int32) : Int32 := if f = -1 then (if figBad T e n lo hi then nI (sk T e n) else -1) else f
theorem figE_lt (he : e ≤ 400) (hn2 : n < 1000) : figE T e n < 1000 := by
  have h1 := dgs_le T e 4 (sk T e n) 0
  have h2 := sk_le T e n
  unfold figE
  omega
end MP
theorem p_letter {l : Launch} {g : Gh} {q : Nat} {A : Nat → Nat} {i m tp T : Nat → Int32} {e n k : Nat} {f d s v : Int32} (hT : TxOK (i 7) (i 8) m tp T e) (hv : v = nI k) (hk : k < e) : Cp l g yX12_letter (Cond.code yX12_letter cX12_letter 2 (some .int)) 1 [.ref q, .int v] (wP g q A i m tp n f d s) (some (.int (T k))) (wP g q A i m tp n f d s) := c_letter (i := ps i n f d s) hT hv hk
theorem p_figures {l : Launch} {g : Gh} {q : Nat} {A : Nat → Nat} {i m tp T : Nat → Int32} {e n : Nat} {f d s lo hi : Int32} (hT : TxOK (i 7) (i 8) m tp T e) (hn2 : n < 1000) : Cp l g yX12_figures (Cond.code yX12_figures cX12_figures 5 (some .int)) 3 [.ref q, .int lo, .int hi] (wP g q A i m tp n f d s) (some (.int (fgV T e n f))) (wP g q A i m tp (fgN T e n f) (fgF T e n f lo hi) d s) := by
  refine ct_of (M := mtX12_figures) [some (.ref q), some (.int lo), some (.int hi), none, none] rfl (by decide) (Nat.le_of_ble_eq_true rfl) (fun _ h => h) (fun a => ?_)
  have he : e ≤ 400 := hT.2.1
  have hb : sk T e n < 1000 := by rcases sk_le T e n with h | h <;> omega
  by_cases hf : f = -1
  · subst hf
    have hfe := figE_lt (T := T) he hn2
    have hfg : sk T e n ≤ figE T e n := (dgs_ge T e 4 (sk T e n) 0).1
    rw [show fgV T e n (-1) = figV T e n from rfl, show fgN T e n (-1) = figE T e n from rfl, show fgF T e n (-1) lo hi = (if figBad T e n lo hi then nI (sk T e n) else -1) from rfl]
    have K93 : WPs l g mtX12_figures 3 0 0 (pR (some (.int (figV T e n))) (wP g q A i m tp (figE T e n) (if figBad T e n lo hi then nI (sk T e n) else -1) d s)) noX a 93 [some (.ref q), some (.int lo), some (.int hi), some (.int (nI (sk T e n))), some (.int (figV T e n))] [] (wP g q A i m tp (figE T e n) (-1) d s) 0 0 := by
      have esub : nI (figE T e n) - nI (sk T e n) = nI (figE T e n - sk T e n) := pk_sub hfg
      have hl1 : figE T e n < 2 ^ 31 := by omega
      have hl2 : sk T e n < 2 ^ 31 := by omega
      have hl3 : figE T e n - sk T e n < 2 ^ 31 := by omega
      have hl4 : 3 < 2 ^ 31 := by omega
      have K123 : figBad T e n lo hi → WPs l g mtX12_figures 3 0 0 (pR (some (.int (figV T e n))) (wP g q A i m tp (figE T e n) (if figBad T e n lo hi then nI (sk T e n) else -1) d s)) noX a 123 [some (.ref q), some (.int lo), some (.int hi), some (.int (nI (sk T e n))), some (.int (figV T e n))] [] (wP g q A i m tp (figE T e n) (-1) d s) 0 0 := by
        intro hbad
        rw [if_pos hbad]
        refine q_aload_n 0 124 dX12_figures_123 rfl rfl rfl ?_
        refine q_iload_n 3 125 dX12_figures_124 rfl rfl rfl ?_
        refine q_cVv 0 [0] [1, 2] [2, 0, 1] 128 (wr := [_, _]) (w1 := _) (ws' := [_, _, _]) p_wrong m_X12_103 dX12_figures_125 rfl rfl rfl rfl rfl rfl rfl rfl (by decide) (by decide) (by decide) (by decide) (Nat.le_of_ble_eq_true rfl) (by omega) (by omega) (by omega) rfl ?_
        refine q_iload 4 130 dX12_figures_128 rfl rfl ?_
        refine q_ireturn dX12_figures_130 rfl ?_
        exact pR.rf
      have K128 : ¬ figBad T e n lo hi → WPs l g mtX12_figures 3 0 0 (pR (some (.int (figV T e n))) (wP g q A i m tp (figE T e n) (if figBad T e n lo hi then nI (sk T e n) else -1) d s)) noX a 128 [some (.ref q), some (.int lo), some (.int hi), some (.int (nI (sk T e n))), some (.int (figV T e n))] [] (wP g q A i m tp (figE T e n) (-1) d s) 0 0 := by
        intro hbad
        rw [if_neg hbad]
        refine q_iload 4 130 dX12_figures_128 rfl rfl ?_
        refine q_ireturn dX12_figures_130 rfl ?_
        exact pR.rf
      refine q_aload_n 0 94 dX12_figures_93 rfl rfl rfl ?_
      refine q_getI 0 97 f_X12_80 dX12_figures_94 rfl rfl rfl ?_
      refine q_iload_n 3 98 dX12_figures_97 rfl rfl rfl ?_
      refine q_icmp_eq 123 101 dX12_figures_98 (by decide) rfl (fun hz1 => ?_) (fun hz1 => ?_)
      · first
          | exact K123 (Or.inl ((nI_eq hl1 hl2).mp hz1))
          | exact K123 (Or.inr (Or.inl ((nI_ltI hl4 hl3).mp hz2)))
          | exact K123 (Or.inr (Or.inr (Or.inl hz3)))
          | exact K123 (Or.inr (Or.inr (Or.inr (Int32.not_le.mp hz4))))
      · refine q_aload_n 0 102 dX12_figures_101 rfl rfl rfl ?_
        refine q_getI 0 105 f_X12_80 dX12_figures_102 rfl rfl rfl ?_
        refine q_iload_n 3 106 dX12_figures_105 rfl rfl rfl ?_
        refine q_isub 107 dX12_figures_106 rfl ?_
        have hz1 : ¬ figE T e n = sk T e n := fun h => hz1 (by show nI _ = _; rw [h])
        rw [show ps i (figE T e n) (-1) d s 9 - nI (sk T e n) = nI (figE T e n - sk T e n) from esub]
        refine q_iconst 3 108 dX12_figures_107 ic_3 rfl ?_
        refine q_icmp_gt 123 111 dX12_figures_108 (by decide) rfl (fun hz2 => ?_) (fun hz2 => ?_)
        · first
            | exact K123 (Or.inl ((nI_eq hl1 hl2).mp hz1))
            | exact K123 (Or.inr (Or.inl ((nI_ltI hl4 hl3).mp hz2)))
            | exact K123 (Or.inr (Or.inr (Or.inl hz3)))
            | exact K123 (Or.inr (Or.inr (Or.inr (Int32.not_le.mp hz4))))
        · refine q_iload 4 113 dX12_figures_111 rfl rfl ?_
          refine q_iload_n 1 114 dX12_figures_113 rfl rfl rfl ?_
          refine q_icmp_lt 123 117 dX12_figures_114 (by decide) rfl (fun hz3 => ?_) (fun hz3 => ?_)
          · first
              | exact K123 (Or.inl ((nI_eq hl1 hl2).mp hz1))
              | exact K123 (Or.inr (Or.inl ((nI_ltI hl4 hl3).mp hz2)))
              | exact K123 (Or.inr (Or.inr (Or.inl hz3)))
              | exact K123 (Or.inr (Or.inr (Or.inr (Int32.not_le.mp hz4))))
          · refine q_iload 4 119 dX12_figures_117 rfl rfl ?_
            refine q_iload_n 2 120 dX12_figures_119 rfl rfl rfl ?_
            refine q_icmp_le 128 123 dX12_figures_120 (by decide) rfl (fun hz4 => ?_) (fun hz4 => ?_)
            · refine K128 ?_
              rintro (h | h | h | h)
              · exact hz1 h
              · exact hz2 ((nI_ltI hl4 hl3).mpr h)
              · exact hz3 h
              · exact Int32.not_le.mpr h hz4
            · first
                | exact K123 (Or.inl ((nI_eq hl1 hl2).mp hz1))
                | exact K123 (Or.inr (Or.inl ((nI_ltI hl4 hl3).mp hz2)))
                | exact K123 (Or.inr (Or.inr (Or.inl hz3)))
                | exact K123 (Or.inr (Or.inr (Or.inr (Int32.not_le.mp hz4))))
    have K22 : ∀ (k r : Nat) (v : Int32), r + k = sk T e n + 4 → sk T e n ≤ r → r < 1000 → dgs T e k r v = (figE T e n, figV T e n) → WPs l g mtX12_figures 3 0 0 (pR (some (.int (figV T e n))) (wP g q A i m tp (figE T e n) (if figBad T e n lo hi then nI (sk T e n) else -1) d s)) noX a 22 [some (.ref q), some (.int lo), some (.int hi), some (.int (nI (sk T e n))), some (.int v)] [] (wP g q A i m tp r (-1) d s) 0 0 := by
      intro k
      induction k with
      | zero =>
        intro r v hr hle hr2 hd
        have h1 : r = figE T e n := (congrArg Prod.fst hd)
        have h2 : v = figV T e n := (congrArg Prod.snd hd)
        subst h1; subst h2
        have esub : nI (figE T e n) - nI (sk T e n) = nI 4 := by rw [pk_sub (by omega)]; congr 1; omega
        by_cases hlt : figE T e n < e
        · by_cases hdg : rIn (T (figE T e n)) 48 57 = 0
          · skip
            refine q_aload_n 0 23 dX12_figures_22 rfl rfl rfl ?_
            refine q_getI 0 26 f_X12_80 dX12_figures_23 rfl rfl rfl ?_
            refine q_aload_n 0 27 dX12_figures_26 rfl rfl rfl ?_
            refine q_getI 0 30 f_X12_83 dX12_figures_27 rfl rfl rfl ?_
            refine q_icmp_ge 93 33 dX12_figures_30 (by decide) rfl (fun h30 => absurd h30 (by show ¬ i 8 ≤ _; rw [hT.1]; exact nI_ge hlt (by omega))) (fun h30 => ?_)
            refine q_aload_n 0 34 dX12_figures_33 rfl rfl rfl ?_
            refine q_aload_n 0 35 dX12_figures_34 rfl rfl rfl ?_
            refine q_getI 0 38 f_X12_80 dX12_figures_35 rfl rfl rfl ?_
            refine q_cVi 0 [0, 1, 2] [] [0, 1, 2] 41 (wr := []) (w1 := _) (ws' := [_, _, _]) (p_letter (T := T) (e := e) (k := figE T e n) hT rfl hlt) m_X12_86 dX12_figures_38 rfl rfl rfl rfl rfl rfl rfl rfl (by decide) (by decide) (by decide) (by decide) (Nat.le_of_ble_eq_true rfl) (by omega) (by omega) (by omega) rfl ?_
            refine q_bipush 48 43 dX12_figures_41 bc_48 rfl ?_
            refine q_bipush 57 45 dX12_figures_43 bc_57 rfl ?_
            refine q_cSi [] [0, 1, 2] [0, 1, 2] 48 (wr := [_, _, _]) (w1 := _) (ws' := [_, _, _]) c_isIn m_X12_70 dX12_figures_45 rfl rfl rfl rfl rfl (by decide) (by decide) (by decide) (by decide) (Nat.le_of_ble_eq_true rfl) (by omega) (by omega) (by omega) rfl ?_
            refine q_if_eq 93 51 dX12_figures_48 (by decide) rfl (fun h48 => ?_) (fun h48 => absurd hdg h48)
            exact K93
          · skip
            refine q_aload_n 0 23 dX12_figures_22 rfl rfl rfl ?_
            refine q_getI 0 26 f_X12_80 dX12_figures_23 rfl rfl rfl ?_
            refine q_aload_n 0 27 dX12_figures_26 rfl rfl rfl ?_
            refine q_getI 0 30 f_X12_83 dX12_figures_27 rfl rfl rfl ?_
            refine q_icmp_ge 93 33 dX12_figures_30 (by decide) rfl (fun h30 => absurd h30 (by show ¬ i 8 ≤ _; rw [hT.1]; exact nI_ge hlt (by omega))) (fun h30 => ?_)
            refine q_aload_n 0 34 dX12_figures_33 rfl rfl rfl ?_
            refine q_aload_n 0 35 dX12_figures_34 rfl rfl rfl ?_
            refine q_getI 0 38 f_X12_80 dX12_figures_35 rfl rfl rfl ?_
            refine q_cVi 0 [0, 1, 2] [] [0, 1, 2] 41 (wr := []) (w1 := _) (ws' := [_, _, _]) (p_letter (T := T) (e := e) (k := figE T e n) hT rfl hlt) m_X12_86 dX12_figures_38 rfl rfl rfl rfl rfl rfl rfl rfl (by decide) (by decide) (by decide) (by decide) (Nat.le_of_ble_eq_true rfl) (by omega) (by omega) (by omega) rfl ?_
            refine q_bipush 48 43 dX12_figures_41 bc_48 rfl ?_
            refine q_bipush 57 45 dX12_figures_43 bc_57 rfl ?_
            refine q_cSi [] [0, 1, 2] [0, 1, 2] 48 (wr := [_, _, _]) (w1 := _) (ws' := [_, _, _]) c_isIn m_X12_70 dX12_figures_45 rfl rfl rfl rfl rfl (by decide) (by decide) (by decide) (by decide) (Nat.le_of_ble_eq_true rfl) (by omega) (by omega) (by omega) rfl ?_
            refine q_if_eq 93 51 dX12_figures_48 (by decide) rfl (fun h48 => absurd h48 hdg) (fun h48 => ?_)
            refine q_aload_n 0 52 dX12_figures_51 rfl rfl rfl ?_
            refine q_getI 0 55 f_X12_80 dX12_figures_52 rfl rfl rfl ?_
            refine q_iload_n 3 56 dX12_figures_55 rfl rfl rfl ?_
            refine q_isub 57 dX12_figures_56 rfl ?_
            refine q_iconst 4 58 dX12_figures_57 ic_4 rfl ?_
            refine q_icmp_ge 93 61 dX12_figures_58 (by decide) rfl (fun h58 => ?_) (fun h58 => absurd (by show 4 ≤ nI (figE T e n) - nI (sk T e n); rw [esub]; decide) h58)
            exact K93
        · skip
          refine q_aload_n 0 23 dX12_figures_22 rfl rfl rfl ?_
          refine q_getI 0 26 f_X12_80 dX12_figures_23 rfl rfl rfl ?_
          refine q_aload_n 0 27 dX12_figures_26 rfl rfl rfl ?_
          refine q_getI 0 30 f_X12_83 dX12_figures_27 rfl rfl rfl ?_
          refine q_icmp_ge 93 33 dX12_figures_30 (by decide) rfl (fun h30 => ?_) (fun h30 => absurd (by show i 8 ≤ _; rw [hT.1]; exact nI_le (by omega) (by omega)) h30)
          exact K93
      | succ k ih =>
        intro r v hr hle hr2 hd
        rw [dgs] at hd
        by_cases hlt : r < e
        · by_cases hdg : rIn (T r) 48 57 = 0
          · rw [if_neg (fun h => h.2 hdg)] at hd
            have h1 : r = figE T e n := (congrArg Prod.fst hd)
            have h2 : v = figV T e n := (congrArg Prod.snd hd)
            subst h1; subst h2
            refine q_aload_n 0 23 dX12_figures_22 rfl rfl rfl ?_
            refine q_getI 0 26 f_X12_80 dX12_figures_23 rfl rfl rfl ?_
            refine q_aload_n 0 27 dX12_figures_26 rfl rfl rfl ?_
            refine q_getI 0 30 f_X12_83 dX12_figures_27 rfl rfl rfl ?_
            refine q_icmp_ge 93 33 dX12_figures_30 (by decide) rfl (fun h30 => absurd h30 (by show ¬ i 8 ≤ _; rw [hT.1]; exact nI_ge hlt (by omega))) (fun h30 => ?_)
            refine q_aload_n 0 34 dX12_figures_33 rfl rfl rfl ?_
            refine q_aload_n 0 35 dX12_figures_34 rfl rfl rfl ?_
            refine q_getI 0 38 f_X12_80 dX12_figures_35 rfl rfl rfl ?_
            refine q_cVi 0 [0, 1, 2] [] [0, 1, 2] 41 (wr := []) (w1 := _) (ws' := [_, _, _]) (p_letter (T := T) (e := e) (k := figE T e n) hT rfl hlt) m_X12_86 dX12_figures_38 rfl rfl rfl rfl rfl rfl rfl rfl (by decide) (by decide) (by decide) (by decide) (Nat.le_of_ble_eq_true rfl) (by omega) (by omega) (by omega) rfl ?_
            refine q_bipush 48 43 dX12_figures_41 bc_48 rfl ?_
            refine q_bipush 57 45 dX12_figures_43 bc_57 rfl ?_
            refine q_cSi [] [0, 1, 2] [0, 1, 2] 48 (wr := [_, _, _]) (w1 := _) (ws' := [_, _, _]) c_isIn m_X12_70 dX12_figures_45 rfl rfl rfl rfl rfl (by decide) (by decide) (by decide) (by decide) (Nat.le_of_ble_eq_true rfl) (by omega) (by omega) (by omega) rfl ?_
            refine q_if_eq 93 51 dX12_figures_48 (by decide) rfl (fun h48 => ?_) (fun h48 => absurd hdg h48)
            exact K93
          · rw [if_pos ⟨hlt, hdg⟩] at hd
            have esub : nI r - nI (sk T e n) = nI (r - sk T e n) := pk_sub hle
            refine q_aload_n 0 23 dX12_figures_22 rfl rfl rfl ?_
            refine q_getI 0 26 f_X12_80 dX12_figures_23 rfl rfl rfl ?_
            refine q_aload_n 0 27 dX12_figures_26 rfl rfl rfl ?_
            refine q_getI 0 30 f_X12_83 dX12_figures_27 rfl rfl rfl ?_
            refine q_icmp_ge 93 33 dX12_figures_30 (by decide) rfl (fun h30 => absurd h30 (by show ¬ i 8 ≤ _; rw [hT.1]; exact nI_ge hlt (by omega))) (fun h30 => ?_)
            refine q_aload_n 0 34 dX12_figures_33 rfl rfl rfl ?_
            refine q_aload_n 0 35 dX12_figures_34 rfl rfl rfl ?_
            refine q_getI 0 38 f_X12_80 dX12_figures_35 rfl rfl rfl ?_
            refine q_cVi 0 [0, 1, 2] [] [0, 1, 2] 41 (wr := []) (w1 := _) (ws' := [_, _, _]) (p_letter (T := T) (e := e) (k := r) hT rfl hlt) m_X12_86 dX12_figures_38 rfl rfl rfl rfl rfl rfl rfl rfl (by decide) (by decide) (by decide) (by decide) (Nat.le_of_ble_eq_true rfl) (by omega) (by omega) (by omega) rfl ?_
            refine q_bipush 48 43 dX12_figures_41 bc_48 rfl ?_
            refine q_bipush 57 45 dX12_figures_43 bc_57 rfl ?_
            refine q_cSi [] [0, 1, 2] [0, 1, 2] 48 (wr := [_, _, _]) (w1 := _) (ws' := [_, _, _]) c_isIn m_X12_70 dX12_figures_45 rfl rfl rfl rfl rfl (by decide) (by decide) (by decide) (by decide) (Nat.le_of_ble_eq_true rfl) (by omega) (by omega) (by omega) rfl ?_
            refine q_if_eq 93 51 dX12_figures_48 (by decide) rfl (fun h48 => absurd h48 hdg) (fun h48 => ?_)
            refine q_aload_n 0 52 dX12_figures_51 rfl rfl rfl ?_
            refine q_getI 0 55 f_X12_80 dX12_figures_52 rfl rfl rfl ?_
            refine q_iload_n 3 56 dX12_figures_55 rfl rfl rfl ?_
            refine q_isub 57 dX12_figures_56 rfl ?_
            refine q_iconst 4 58 dX12_figures_57 ic_4 rfl ?_
            refine q_icmp_ge 93 61 dX12_figures_58 (by decide) rfl (fun h58 => absurd h58 (by show ¬ 4 ≤ nI r - nI (sk T e n); rw [esub]; exact nI_ge (a := r - sk T e n) (b := 4) (by omega) (by omega))) (fun h58 => ?_)
            refine q_bipush 10 63 dX12_figures_61 bc_10 rfl ?_
            refine q_iload 4 65 dX12_figures_63 rfl rfl ?_
            refine q_imul 66 dX12_figures_65 rfl ?_
            refine q_aload_n 0 67 dX12_figures_66 rfl rfl rfl ?_
            refine q_aload_n 0 68 dX12_figures_67 rfl rfl rfl ?_
            refine q_getI 0 71 f_X12_80 dX12_figures_68 rfl rfl rfl ?_
            refine q_cVi 0 [0, 1, 2] [] [0, 1, 2] 74 (wr := []) (w1 := _) (ws' := [_, _, _]) (p_letter (T := T) (e := e) (k := r) hT rfl hlt) m_X12_86 dX12_figures_71 rfl rfl rfl rfl rfl rfl rfl rfl (by decide) (by decide) (by decide) (by decide) (Nat.le_of_ble_eq_true rfl) (by omega) (by omega) (by omega) rfl ?_
            refine q_iadd 75 dX12_figures_74 rfl ?_
            refine q_bipush 48 77 dX12_figures_75 bc_48 rfl ?_
            refine q_isub 78 dX12_figures_77 rfl ?_
            refine q_istore 4 80 (L' := [_, _, _, _, _]) dX12_figures_78 (by decide) rfl rfl ?_
            refine q_aload_n 0 81 dX12_figures_80 rfl rfl rfl ?_
            refine q_dup 82 dX12_figures_81 rfl rfl ?_
            refine q_getI 0 85 f_X12_80 dX12_figures_82 rfl rfl rfl ?_
            refine q_iconst 1 86 dX12_figures_85 ic_1 rfl ?_
            refine q_iadd 87 dX12_figures_86 rfl ?_
            refine q_putI 0 90 (w' := [_, _, _]) f_X12_80 ft_X12_9 dX12_figures_87 rfl rfl rfl rfl ?_
            refine q_goto 22 dX12_figures_90 (by decide) ?_
            rw [show ps i r (-1) d s 9 + 1 = nI (r + 1) from nI_1 r, ps_9]
            exact ih (r + 1) _ (by omega) (by omega) (by omega) hd
        · rw [if_neg (fun h => hlt h.1)] at hd
          have h1 : r = figE T e n := (congrArg Prod.fst hd)
          have h2 : v = figV T e n := (congrArg Prod.snd hd)
          subst h1; subst h2
          refine q_aload_n 0 23 dX12_figures_22 rfl rfl rfl ?_
          refine q_getI 0 26 f_X12_80 dX12_figures_23 rfl rfl rfl ?_
          refine q_aload_n 0 27 dX12_figures_26 rfl rfl rfl ?_
          refine q_getI 0 30 f_X12_83 dX12_figures_27 rfl rfl rfl ?_
          refine q_icmp_ge 93 33 dX12_figures_30 (by decide) rfl (fun h30 => ?_) (fun h30 => absurd (by show i 8 ≤ _; rw [hT.1]; exact nI_le (by omega) (by omega)) h30)
          exact K93
    refine q_aload_n 0 1 dX12_figures_0 rfl rfl rfl ?_
    refine q_getI 0 4 f_X12_22 dX12_figures_1 rfl rfl rfl ?_
    refine q_iconst (-1) 5 dX12_figures_4 ic_m1 rfl ?_
    refine q_icmp_eq 10 8 dX12_figures_5 (by decide) rfl (fun h5 => ?_) (fun h5 => absurd rfl h5)
    refine q_aload_n 0 11 dX12_figures_10 rfl rfl rfl ?_
    refine q_cVv 0 [0, 1, 2] [] [0, 1, 2] 14 (wr := []) (w1 := _) (ws' := [_, _, _]) (p_skip (T := T) (e := e) (n := n) hT hn2) m_X12_90 dX12_figures_11 rfl rfl rfl rfl rfl rfl rfl rfl (by decide) (by decide) (by decide) (by decide) (Nat.le_of_ble_eq_true rfl) (by omega) (by omega) (by omega) rfl ?_
    refine q_aload_n 0 15 dX12_figures_14 rfl rfl rfl ?_
    refine q_getI 0 18 f_X12_80 dX12_figures_15 rfl rfl rfl ?_
    refine q_istore_n 3 19 (L' := [_, _, _, _, _]) dX12_figures_18 rfl (by decide) rfl rfl ?_
    refine q_iconst 0 20 dX12_figures_19 ic_0 rfl ?_
    refine q_istore 4 22 (L' := [_, _, _, _, _]) dX12_figures_20 (by decide) rfl rfl ?_
    exact K22 4 (sk T e n) 0 rfl (Nat.le_refl _) hb rfl
  · rw [show fgV T e n f = 0 from if_neg hf, show fgN T e n f = n from if_neg hf, show fgF T e n f lo hi = f from if_neg hf]
    refine q_aload_n 0 1 dX12_figures_0 rfl rfl rfl ?_
    refine q_getI 0 4 f_X12_22 dX12_figures_1 rfl rfl rfl ?_
    refine q_iconst (-1) 5 dX12_figures_4 ic_m1 rfl ?_
    refine q_icmp_eq 10 8 dX12_figures_5 (by decide) rfl (fun h5 => absurd h5 hf) (fun h5 => ?_)
    refine q_iconst 0 9 dX12_figures_8 ic_0 rfl ?_
    refine q_ireturn dX12_figures_9 rfl ?_
    exact pR.rf

