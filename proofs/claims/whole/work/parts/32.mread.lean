/-! ===== the reference reads: a text T of e letters, at place n ===== -/
/-- the letters: field 7 (base) -1: of the tape, else of m from there on -/
def TxOK (b7 e8 : Int32) (m tp T : Nat → Int32) (e : Nat) : Prop := e8 = nI e ∧ e ≤ 400 ∧ ((b7 = -1 ∧ ∀ k, k < e → T k = tp k) ∨ ∃ b : Nat, b7 = nI b ∧ b + 400 ≤ 2616 ∧ ∀ k, k < e → T k = m (b + k))
theorem nI_nm1 {b : Nat} (h : b < 2 ^ 31) : ¬ nI b = -1 := by
  intro e
  have := congrArg Int32.toInt e
  rw [nI_toInt h] at this
  have h2 : (-1 : Int32).toInt = -1 := by decide
  omega
theorem c_letter {l : Launch} {g : Gh} {q : Nat} {A : Nat → Nat} {i : Nat → Int32} {m tp T : Nat → Int32} {e k : Nat} {v : Int32} (hT : TxOK (i 7) (i 8) m tp T e) (hv : v = nI k) (hk : k < e) : Cp l g yX12_letter (Cond.code yX12_letter cX12_letter 2 (some .int)) 1 [.ref q, .int v] [(q, ob 12 i (rM A)), (A 1, aI g 2616 m), (A 5, aI g 400 tp)] (some (.int (T k))) [(q, ob 12 i (rM A)), (A 1, aI g 2616 m), (A 5, aI g 400 tp)] := by
  refine ct_of (M := mtX12_letter) [some (.ref q), some (.int v)] rfl (by decide) (Nat.le_of_ble_eq_true rfl) (fun _ h => h) (fun a => ?_)
  subst hv
  obtain ⟨-, he, ⟨hb, ht⟩ | ⟨b, hb, hb2, ht⟩⟩ := hT
  · rw [ht k hk]
    refine q_aload_n 0 1 dX12_letter_0 rfl rfl rfl ?_
    refine q_getI 0 4 f_X12_77 dX12_letter_1 rfl rfl rfl ?_
    refine q_iconst (-1) 5 dX12_letter_4 ic_m1 rfl ?_
    refine q_icmp_ne 17 8 dX12_letter_5 (by decide) rfl (fun h5 => absurd hb h5) (fun h5 => ?_)
    refine q_aload_n 0 9 dX12_letter_8 rfl rfl rfl ?_
    refine q_getR 0 12 f_X12_19 dX12_letter_9 rfl rfl rfl rfl ?_
    refine q_iload_n 1 13 dX12_letter_12 rfl rfl rfl ?_
    refine q_iald 2 k 14 dX12_letter_13 rfl ⟨rfl, by omega, by decide⟩ rfl ?_
    refine q_goto 28 dX12_letter_14 (by decide) ?_
    refine q_ireturn dX12_letter_28 rfl ?_
    exact pR.rf
  · rw [ht k hk]
    refine q_aload_n 0 1 dX12_letter_0 rfl rfl rfl ?_
    refine q_getI 0 4 f_X12_77 dX12_letter_1 rfl rfl rfl ?_
    refine q_iconst (-1) 5 dX12_letter_4 ic_m1 rfl ?_
    refine q_icmp_ne 17 8 dX12_letter_5 (by decide) rfl (fun h5 => ?_) (fun h5 => absurd h5 (by rw [hb]; exact nI_nm1 (by omega)))
    refine q_aload_n 0 18 dX12_letter_17 rfl rfl rfl ?_
    refine q_getR 0 21 f_X12_7 dX12_letter_18 rfl rfl rfl rfl ?_
    refine q_aload_n 0 22 dX12_letter_21 rfl rfl rfl ?_
    refine q_getI 0 25 f_X12_77 dX12_letter_22 rfl rfl rfl ?_
    refine q_iload_n 1 26 dX12_letter_25 rfl rfl rfl ?_
    refine q_iadd 27 dX12_letter_26 rfl ?_
    refine q_iald 1 (b+k) 28 dX12_letter_27 rfl ⟨by rw [hb]; exact nI_add b k, by omega, by decide⟩ rfl ?_
    refine q_ireturn dX12_letter_28 rfl ?_
    exact pR.rf
/-- behind the blanks -/
def skp (T : Nat → Int32) (e : Nat) : Nat → Nat → Nat
  | 0, n => n
  | f + 1, n => if n < e ∧ T n = 32 then skp T e f (n + 1) else n
def sk (T : Nat → Int32) (e n : Nat) : Nat := skp T e (e - n) n
theorem sk_go {T : Nat → Int32} {e n : Nat} (h : n < e) (ht : T n = 32) : sk T e n = sk T e (n + 1) := by
  unfold sk
  rw [show e - n = (e - (n + 1)) + 1 by omega, skp, if_pos ⟨h, ht⟩]
theorem sk_end {T : Nat → Int32} {e n : Nat} (h : ¬ (n < e ∧ T n = 32)) : sk T e n = n := by
  unfold sk
  cases e - n with
  | zero => rfl
  | succ f => rw [skp, if_neg h]
theorem skp_ge (T : Nat → Int32) (e : Nat) : ∀ f n, n ≤ skp T e f n
  | 0, n => Nat.le_refl n
  | f + 1, n => by
    rw [skp]
    split
    · exact Nat.le_trans (Nat.le_succ n) (skp_ge T e f (n + 1))
    · exact Nat.le_refl n
theorem skp_le (T : Nat → Int32) (e : Nat) : ∀ f n, skp T e f n ≤ n ∨ skp T e f n ≤ e
  | 0, n => Or.inl (Nat.le_refl n)
  | f + 1, n => by
    rw [skp]
    split
    · rename_i h
      rcases skp_le T e f (n + 1) with h2 | h2
      · exact Or.inr (by omega)
      · exact Or.inr h2
    · exact Or.inl (Nat.le_refl n)
theorem sk_ge (T : Nat → Int32) (e n : Nat) : n ≤ sk T e n := skp_ge T e _ n
theorem sk_le (T : Nat → Int32) (e n : Nat) : sk T e n ≤ n ∨ sk T e n ≤ e := skp_le T e _ n
theorem upd_upd (f : Nat → Int32) (k : Nat) (x y : Int32) : upd (upd f k x) k y = upd f k y := by
  funext j
  by_cases h : j = k
  · simp [upd, h]
  · simp [upd, h]
theorem upd_id (f : Nat → Int32) (k : Nat) {x : Int32} (h : f k = x) : upd f k x = f := by
  funext j
  by_cases hj : j = k
  · simp [upd, hj, h]
  · simp [upd, hj]
theorem c_skip {l : Launch} {g : Gh} {q : Nat} {A : Nat → Nat} {i : Nat → Int32} {m tp T : Nat → Int32} {e n : Nat} (hT : TxOK (i 7) (i 8) m tp T e) (hn : i 9 = nI n) (hn2 : n < 1000) : Cp l g yX12_skip (Cond.code yX12_skip cX12_skip 1 none) 2 [.ref q] [(q, ob 12 i (rM A)), (A 1, aI g 2616 m), (A 5, aI g 400 tp)] none [(q, ob 12 (upd i 9 (nI (sk T e n))) (rM A)), (A 1, aI g 2616 m), (A 5, aI g 400 tp)] := by
  refine ct_of (M := mtX12_skip) [some (.ref q)] rfl (by decide) (Nat.le_of_ble_eq_true rfl) (fun _ h => h) (fun a => ?_)
  have K : ∀ (f n : Nat), e - n ≤ f → n < 1000 → WPs l g mtX12_skip 2 0 0 (pR none [(q, ob 12 (upd i 9 (nI (sk T e n))) (rM A)), (A 1, aI g 2616 m), (A 5, aI g 400 tp)]) noX a 0 [some (.ref q)] [] [(q, ob 12 (upd i 9 (nI n)) (rM A)), (A 1, aI g 2616 m), (A 5, aI g 400 tp)] 0 0 := by
    intro f
    induction f with
    | zero =>
      intro n hf hn2
      rw [sk_end (by omega)]
      refine q_aload_n 0 1 dX12_skip_0 rfl rfl rfl ?_
      refine q_getI 0 4 f_X12_80 dX12_skip_1 rfl rfl rfl ?_
      refine q_aload_n 0 5 dX12_skip_4 rfl rfl rfl ?_
      refine q_getI 0 8 f_X12_83 dX12_skip_5 rfl rfl rfl ?_
      refine q_icmp_ge 37 11 dX12_skip_8 (by decide) rfl (fun h8 => ?_) (fun h8 => absurd (by show i 8 ≤ nI n; rw [hT.1]; exact nI_le (by omega) (by omega)) h8)
      refine q_return dX12_skip_37 rfl ?_
      exact pR.rf
    | succ f ih =>
      intro n hf hn2
      by_cases hlt : n < e
      · have he : e ≤ 400 := hT.2.1
        by_cases ht : T n = 32
        · rw [sk_go hlt ht]
          refine q_aload_n 0 1 dX12_skip_0 rfl rfl rfl ?_
          refine q_getI 0 4 f_X12_80 dX12_skip_1 rfl rfl rfl ?_
          refine q_aload_n 0 5 dX12_skip_4 rfl rfl rfl ?_
          refine q_getI 0 8 f_X12_83 dX12_skip_5 rfl rfl rfl ?_
          refine q_icmp_ge 37 11 dX12_skip_8 (by decide) rfl (fun h8 => absurd h8 (by show ¬ i 8 ≤ nI n; rw [hT.1]; exact nI_ge hlt (by omega))) (fun h8 => ?_)
          refine q_aload_n 0 12 dX12_skip_11 rfl rfl rfl ?_
          refine q_aload_n 0 13 dX12_skip_12 rfl rfl rfl ?_
          refine q_getI 0 16 f_X12_80 dX12_skip_13 rfl rfl rfl ?_
          refine q_cVi 0 [0, 1, 2] [] [0, 1, 2] 19 (wr := []) (w1 := _) (ws' := [_, _, _]) (c_letter (i := upd i 9 (nI n)) (T := T) (e := e) (k := n) hT rfl hlt) m_X12_86 dX12_skip_16 rfl rfl rfl rfl rfl rfl rfl rfl (by decide) (by decide) (by decide) (by decide) (Nat.le_of_ble_eq_true rfl) (by omega) (by omega) (by omega) rfl ?_
          refine q_bipush 32 21 dX12_skip_19 bc_32 rfl ?_
          refine q_icmp_ne 37 24 dX12_skip_21 (by decide) rfl (fun h21 => absurd ht h21) (fun h21 => ?_)
          refine q_aload_n 0 25 dX12_skip_24 rfl rfl rfl ?_
          refine q_dup 26 dX12_skip_25 rfl rfl ?_
          refine q_getI 0 29 f_X12_80 dX12_skip_26 rfl rfl rfl ?_
          refine q_iconst 1 30 dX12_skip_29 ic_1 rfl ?_
          refine q_iadd 31 dX12_skip_30 rfl ?_
          refine q_putI 0 34 (w' := [_, _, _]) f_X12_80 ft_X12_9 dX12_skip_31 rfl rfl rfl rfl ?_
          refine q_goto 0 dX12_skip_34 (by decide) ?_
          rw [upd_upd, show upd i 9 (nI n) 9 + 1 = nI (n + 1) from nI_1 n]
          exact ih (n + 1) (by omega) (by omega)
        · rw [sk_end (fun h => ht h.2)]
          refine q_aload_n 0 1 dX12_skip_0 rfl rfl rfl ?_
          refine q_getI 0 4 f_X12_80 dX12_skip_1 rfl rfl rfl ?_
          refine q_aload_n 0 5 dX12_skip_4 rfl rfl rfl ?_
          refine q_getI 0 8 f_X12_83 dX12_skip_5 rfl rfl rfl ?_
          refine q_icmp_ge 37 11 dX12_skip_8 (by decide) rfl (fun h8 => absurd h8 (by show ¬ i 8 ≤ nI n; rw [hT.1]; exact nI_ge hlt (by omega))) (fun h8 => ?_)
          refine q_aload_n 0 12 dX12_skip_11 rfl rfl rfl ?_
          refine q_aload_n 0 13 dX12_skip_12 rfl rfl rfl ?_
          refine q_getI 0 16 f_X12_80 dX12_skip_13 rfl rfl rfl ?_
          refine q_cVi 0 [0, 1, 2] [] [0, 1, 2] 19 (wr := []) (w1 := _) (ws' := [_, _, _]) (c_letter (i := upd i 9 (nI n)) (T := T) (e := e) (k := n) hT rfl hlt) m_X12_86 dX12_skip_16 rfl rfl rfl rfl rfl rfl rfl rfl (by decide) (by decide) (by decide) (by decide) (Nat.le_of_ble_eq_true rfl) (by omega) (by omega) (by omega) rfl ?_
          refine q_bipush 32 21 dX12_skip_19 bc_32 rfl ?_
          refine q_icmp_ne 37 24 dX12_skip_21 (by decide) rfl (fun h21 => ?_) (fun h21 => absurd h21 ht)
          refine q_return dX12_skip_37 rfl ?_
          exact pR.rf
      · rw [sk_end (by omega)]
        refine q_aload_n 0 1 dX12_skip_0 rfl rfl rfl ?_
        refine q_getI 0 4 f_X12_80 dX12_skip_1 rfl rfl rfl ?_
        refine q_aload_n 0 5 dX12_skip_4 rfl rfl rfl ?_
        refine q_getI 0 8 f_X12_83 dX12_skip_5 rfl rfl rfl ?_
        refine q_icmp_ge 37 11 dX12_skip_8 (by decide) rfl (fun h8 => ?_) (fun h8 => absurd (by show i 8 ≤ nI n; rw [hT.1]; exact nI_le (by omega) (by omega)) h8)
        refine q_return dX12_skip_37 rfl ?_
        exact pR.rf
  have K0 := K (e - n) n (Nat.le_refl _) hn2
  rw [upd_id i 9 hn] at K0
  exact K0
theorem c_wrong {l : Launch} {g : Gh} {q : Nat} {A : Nat → Nat} {i : Nat → Int32} {v : Int32} : Cp l g yX12_wrong (Cond.code yX12_wrong cX12_wrong 2 none) 1 [.ref q, .int v] [(q, ob 12 i (rM A))] none [(q, ob 12 (if i 10 = -1 then upd i 10 v else i) (rM A))] := by
  refine ct_of (M := mtX12_wrong) [some (.ref q), some (.int v)] rfl (by decide) (Nat.le_of_ble_eq_true rfl) (fun _ h => h) (fun a => ?_)
  refine q_aload_n 0 1 dX12_wrong_0 rfl rfl rfl ?_
  refine q_getI 0 4 f_X12_22 dX12_wrong_1 rfl rfl rfl ?_
  refine q_iconst (-1) 5 dX12_wrong_4 ic_m1 rfl ?_
  refine q_icmp_ne 13 8 dX12_wrong_5 (by decide) rfl (fun h5 => ?_) (fun h5 => ?_)
  · refine q_return dX12_wrong_13 rfl ?_
    exact pR.mk rfl (by simp_all)
  · refine q_aload_n 0 9 dX12_wrong_8 rfl rfl rfl ?_
    refine q_iload_n 1 10 dX12_wrong_9 rfl rfl rfl ?_
    refine q_putI 0 13 (w' := [_]) f_X12_22 ft_X12_10 dX12_wrong_10 rfl rfl rfl rfl ?_
    refine q_return dX12_wrong_13 rfl ?_
    exact pR.mk rfl (by simp_all)
theorem c_isSign {l : Launch} {g : Gh} {q : Nat} {A : Nat → Nat} {i : Nat → Int32} {m tp T : Nat → Int32} {e n : Nat} {c : Int32} (hT : TxOK (i 7) (i 8) m tp T e) (hn : i 9 = nI n) (hn2 : n < 1000) : Cp l g yX12_isSign (Cond.code yX12_isSign cX12_isSign 2 (some .boolean)) 3 [.ref q, .int c] [(q, ob 12 i (rM A)), (A 1, aI g 2616 m), (A 5, aI g 400 tp)] (some (.int (if sk T e n < e ∧ T (sk T e n) = c then 1 else 0))) [(q, ob 12 (upd i 9 (nI (sk T e n))) (rM A)), (A 1, aI g 2616 m), (A 5, aI g 400 tp)] := by
  refine ct_of (M := mtX12_isSign) [some (.ref q), some (.int c)] rfl (by decide) (Nat.le_of_ble_eq_true rfl) (fun _ h => h) (fun a => ?_)
  have he : e ≤ 400 := hT.2.1
  have hb : sk T e n < 1000 := by rcases sk_le T e n with h | h <;> omega
  by_cases hlt : sk T e n < e
  · by_cases ht : T (sk T e n) = c
    · rw [if_pos ⟨hlt, ht⟩]
      refine q_aload_n 0 1 dX12_isSign_0 rfl rfl rfl ?_
      refine q_cVv 0 [0, 1, 2] [] [0, 1, 2] 4 (wr := []) (w1 := _) (ws' := [_, _, _]) (c_skip (T := T) (e := e) (n := n) hT hn hn2) m_X12_90 dX12_isSign_1 rfl rfl rfl rfl rfl rfl rfl rfl (by decide) (by decide) (by decide) (by decide) (Nat.le_of_ble_eq_true rfl) (by omega) (by omega) (by omega) rfl ?_
      refine q_aload_n 0 5 dX12_isSign_4 rfl rfl rfl ?_
      refine q_getI 0 8 f_X12_80 dX12_isSign_5 rfl rfl rfl ?_
      refine q_aload_n 0 9 dX12_isSign_8 rfl rfl rfl ?_
      refine q_getI 0 12 f_X12_83 dX12_isSign_9 rfl rfl rfl ?_
      refine q_icmp_ge 31 15 dX12_isSign_12 (by decide) rfl (fun h12 => absurd h12 (by show ¬ i 8 ≤ _; rw [hT.1]; exact nI_ge hlt (by omega))) (fun h12 => ?_)
      refine q_aload_n 0 16 dX12_isSign_15 rfl rfl rfl ?_
      refine q_aload_n 0 17 dX12_isSign_16 rfl rfl rfl ?_
      refine q_getI 0 20 f_X12_80 dX12_isSign_17 rfl rfl rfl ?_
      refine q_cVi 0 [0, 1, 2] [] [0, 1, 2] 23 (wr := []) (w1 := _) (ws' := [_, _, _]) (c_letter (i := upd i 9 (nI (sk T e n))) (T := T) (e := e) (k := sk T e n) hT rfl hlt) m_X12_86 dX12_isSign_20 rfl rfl rfl rfl rfl rfl rfl rfl (by decide) (by decide) (by decide) (by decide) (Nat.le_of_ble_eq_true rfl) (by omega) (by omega) (by omega) rfl ?_
      refine q_iload_n 1 24 dX12_isSign_23 rfl rfl rfl ?_
      refine q_icmp_ne 31 27 dX12_isSign_24 (by decide) rfl (fun h24 => absurd ht h24) (fun h24 => ?_)
      refine q_iconst 1 28 dX12_isSign_27 ic_1 rfl ?_
      refine q_goto 32 dX12_isSign_28 (by decide) ?_
      refine q_zreturn dX12_isSign_32 rfl (Or.inr rfl) ?_
      exact pR.rf
    · rw [if_neg (fun h => ht h.2)]
      refine q_aload_n 0 1 dX12_isSign_0 rfl rfl rfl ?_
      refine q_cVv 0 [0, 1, 2] [] [0, 1, 2] 4 (wr := []) (w1 := _) (ws' := [_, _, _]) (c_skip (T := T) (e := e) (n := n) hT hn hn2) m_X12_90 dX12_isSign_1 rfl rfl rfl rfl rfl rfl rfl rfl (by decide) (by decide) (by decide) (by decide) (Nat.le_of_ble_eq_true rfl) (by omega) (by omega) (by omega) rfl ?_
      refine q_aload_n 0 5 dX12_isSign_4 rfl rfl rfl ?_
      refine q_getI 0 8 f_X12_80 dX12_isSign_5 rfl rfl rfl ?_
      refine q_aload_n 0 9 dX12_isSign_8 rfl rfl rfl ?_
      refine q_getI 0 12 f_X12_83 dX12_isSign_9 rfl rfl rfl ?_
      refine q_icmp_ge 31 15 dX12_isSign_12 (by decide) rfl (fun h12 => absurd h12 (by show ¬ i 8 ≤ _; rw [hT.1]; exact nI_ge hlt (by omega))) (fun h12 => ?_)
      refine q_aload_n 0 16 dX12_isSign_15 rfl rfl rfl ?_
      refine q_aload_n 0 17 dX12_isSign_16 rfl rfl rfl ?_
      refine q_getI 0 20 f_X12_80 dX12_isSign_17 rfl rfl rfl ?_
      refine q_cVi 0 [0, 1, 2] [] [0, 1, 2] 23 (wr := []) (w1 := _) (ws' := [_, _, _]) (c_letter (i := upd i 9 (nI (sk T e n))) (T := T) (e := e) (k := sk T e n) hT rfl hlt) m_X12_86 dX12_isSign_20 rfl rfl rfl rfl rfl rfl rfl rfl (by decide) (by decide) (by decide) (by decide) (Nat.le_of_ble_eq_true rfl) (by omega) (by omega) (by omega) rfl ?_
      refine q_iload_n 1 24 dX12_isSign_23 rfl rfl rfl ?_
      refine q_icmp_ne 31 27 dX12_isSign_24 (by decide) rfl (fun h24 => ?_) (fun h24 => absurd h24 ht)
      refine q_iconst 0 32 dX12_isSign_31 ic_0 rfl ?_
      refine q_zreturn dX12_isSign_32 rfl (Or.inl rfl) ?_
      exact pR.rf
  · rw [if_neg (fun h => hlt h.1)]
    refine q_aload_n 0 1 dX12_isSign_0 rfl rfl rfl ?_
    refine q_cVv 0 [0, 1, 2] [] [0, 1, 2] 4 (wr := []) (w1 := _) (ws' := [_, _, _]) (c_skip (T := T) (e := e) (n := n) hT hn hn2) m_X12_90 dX12_isSign_1 rfl rfl rfl rfl rfl rfl rfl rfl (by decide) (by decide) (by decide) (by decide) (Nat.le_of_ble_eq_true rfl) (by omega) (by omega) (by omega) rfl ?_
    refine q_aload_n 0 5 dX12_isSign_4 rfl rfl rfl ?_
    refine q_getI 0 8 f_X12_80 dX12_isSign_5 rfl rfl rfl ?_
    refine q_aload_n 0 9 dX12_isSign_8 rfl rfl rfl ?_
    refine q_getI 0 12 f_X12_83 dX12_isSign_9 rfl rfl rfl ?_
    refine q_icmp_ge 31 15 dX12_isSign_12 (by decide) rfl (fun h12 => ?_) (fun h12 => absurd (by show i 8 ≤ _; rw [hT.1]; exact nI_le (by omega) (by omega)) h12)
    refine q_iconst 0 32 dX12_isSign_31 ic_0 rfl ?_
    refine q_zreturn dX12_isSign_32 rfl (Or.inl rfl) ?_
    exact pR.rf
/-- the end of the letters a to z from n on -/
def wep (T : Nat → Int32) (e : Nat) : Nat → Nat → Nat
  | 0, n => n
  | f + 1, n => if n < e ∧ rIn (T n) 97 122 ≠ 0 then wep T e f (n + 1) else n
def we (T : Nat → Int32) (e n : Nat) : Nat := wep T e (e - n) n
theorem we_go {T : Nat → Int32} {e n : Nat} (h : n < e) (ht : ¬ rIn (T n) 97 122 = 0) : we T e n = we T e (n + 1) := by
  unfold we
  rw [show e - n = (e - (n + 1)) + 1 by omega, wep, if_pos ⟨h, ht⟩]
theorem we_end {T : Nat → Int32} {e n : Nat} (h : ¬ (n < e ∧ ¬ rIn (T n) 97 122 = 0)) : we T e n = n := by
  unfold we
  cases e - n with
  | zero => rfl
  | succ f => rw [wep, if_neg h]
theorem wep_ge (T : Nat → Int32) (e : Nat) : ∀ f n, n ≤ wep T e f n
  | 0, n => Nat.le_refl n
  | f + 1, n => by
    rw [wep]
    split
    · exact Nat.le_trans (Nat.le_succ n) (wep_ge T e f (n + 1))
    · exact Nat.le_refl n
theorem wep_le (T : Nat → Int32) (e : Nat) : ∀ f n, wep T e f n ≤ n ∨ wep T e f n ≤ e
  | 0, n => Or.inl (Nat.le_refl n)
  | f + 1, n => by
    rw [wep]
    split
    · rcases wep_le T e f (n + 1) with h2 | h2
      · exact Or.inr (by omega)
      · exact Or.inr h2
    · exact Or.inl (Nat.le_refl n)
theorem we_ge (T : Nat → Int32) (e n : Nat) : n ≤ we T e n := wep_ge T e _ n
theorem we_le (T : Nat → Int32) (e n : Nat) : we T e n ≤ n ∨ we T e n ≤ e := wep_le T e _ n
/-- the letters from n on spell bs -/
abbrev spl (T : Nat → Int32) (n : Nat) (bs : List Int32) : Prop := ∀ j, j < bs.length → T (n + j) = bs.getD j 0 &&& 255
/-- the word that begins at n is bs -/
abbrev isW (T : Nat → Int32) (e n : Nat) (bs : List Int32) : Prop := we T e n = n + bs.length ∧ spl T n bs
/-- has(w) from n on: whether, and where it stands then -/
def hasB (T : Nat → Int32) (e n : Nat) (bs : List Int32) : Int32 := if isW T e (sk T e n) bs then 1 else 0
def hasN (T : Nat → Int32) (e n : Nat) (bs : List Int32) : Nat := if isW T e (sk T e n) bs then sk T e n + bs.length else sk T e n
theorem hasB_or (T : Nat → Int32) (e n : Nat) (bs : List Int32) : hasB T e n bs = 0 ∨ hasB T e n bs = 1 := by unfold hasB; split <;> simp
theorem c_has {l : Launch} {g : Gh} {q : Nat} {A : Nat → Nat} {i : Nat → Int32} {m tp T : Nat → Int32} {e n : Nat} {o : String} {sq : Nat} {bs : List Int32} (hw : (o, sq, bs) ∈ sWords) (hbl : bs.length ≤ 100) (hT : TxOK (i 7) (i 8) m tp T e) (hn : i 9 = nI n) (hn2 : n < 1000) : Cp l g yX12_has (Cond.code yX12_has cX12_has 4 (some .boolean)) 5 [.ref q, .ref (g.2.2.1 o sq)] [(q, ob 12 i (rM A)), (A 1, aI g 2616 m), (A 5, aI g 400 tp)] (some (.int (hasB T e n bs))) [(q, ob 12 (upd i 9 (nI (hasN T e n bs))) (rM A)), (A 1, aI g 2616 m), (A 5, aI g 400 tp)] := by
  refine ct_of (M := mtX12_has) [some (.ref q), some (.ref (g.2.2.1 o sq)), none, none] rfl (by decide) (Nat.le_of_ble_eq_true rfl) (fun _ h => h) (fun a => ?_)
  have he : e ≤ 400 := hT.2.1
  have hb : sk T e n < 1000 := by rcases sk_le T e n with h | h <;> omega
  unfold hasB hasN
  generalize hsk : sk T e n = s at *
  have hwe1 := we_ge T e s
  have hwe2 : we T e s < 1000 := by rcases we_le T e s with h | h <;> omega
  have K89 : isW T e s bs → WPs l g mtX12_has 5 0 0 (pR (some (.int 1)) [(q, ob 12 (upd i 9 (nI (s + bs.length))) (rM A)), (A 1, aI g 2616 m), (A 5, aI g 400 tp)]) noX a 89 [some (.ref q), some (.ref (g.2.2.1 o sq)), some (.int (nI (we T e s))), some (.int (nI bs.length))] [] [(q, ob 12 (upd i 9 (nI s)) (rM A)), (A 1, aI g 2616 m), (A 5, aI g 400 tp)] 0 0 := by
    intro h
    rw [← h.1]
    refine q_aload_n 0 90 dX12_has_89 rfl rfl rfl ?_
    refine q_iload_n 2 91 dX12_has_90 rfl rfl rfl ?_
    refine q_putI 0 94 (w' := [_, _, _]) f_X12_80 ft_X12_9 dX12_has_91 rfl rfl rfl rfl ?_
    refine q_iconst 1 95 dX12_has_94 ic_1 rfl ?_
    refine q_zreturn dX12_has_95 rfl (Or.inr rfl) ?_
    exact pR.mk rfl (by rw [upd_upd])
  have K55 : ∀ (f j : Nat), f + j = bs.length → we T e s = s + bs.length → (∀ j', j' < j → T (s + j') = bs.getD j' 0 &&& 255) → WPs l g mtX12_has 5 0 0 (pR (some (.int (if isW T e s bs then 1 else 0))) [(q, ob 12 (upd i 9 (nI (if isW T e s bs then s + bs.length else s))) (rM A)), (A 1, aI g 2616 m), (A 5, aI g 400 tp)]) noX a 55 [some (.ref q), some (.ref (g.2.2.1 o sq)), some (.int (nI (we T e s))), some (.int (nI j))] [] [(q, ob 12 (upd i 9 (nI s)) (rM A)), (A 1, aI g 2616 m), (A 5, aI g 400 tp)] 0 0 := by
    intro f
    induction f with
    | zero =>
      intro j hj hwe hall
      obtain rfl : j = bs.length := by omega
      have hW : isW T e s bs := ⟨hwe, hall⟩
      rw [if_pos hW, if_pos hW]
      refine q_iload_n 3 56 dX12_has_55 rfl rfl rfl ?_
      refine q_aload_n 1 57 dX12_has_56 rfl rfl rfl ?_
      refine q_callVS [] [0, 1, 2] 60 (wr := [_, _, _]) (c_J0_length hw (by omega)) m_X12_93 dX12_has_57 rfl rfl hw rfl rfl rfl rfl rfl (by decide) (Nat.le_of_ble_eq_true rfl) (by omega) (by omega) (by omega) rfl (fun _ _ _ _ h => h.elim) (fun v0 w0 k' n' h => ?_)
      obtain ⟨rfl, rfl, rfl, rfl⟩ := h
      refine q_icmp_ge 89 63 dX12_has_60 (by decide) rfl (fun h60 => ?_) (fun h60 => absurd (Int32.le_refl _) h60)
      exact K89 hW
    | succ f ih =>
      intro j hj hwe hall
      have hlt : s + j < e := by
        rcases we_le T e s with h | h <;> omega
      by_cases hc : T (s + j) = bs.getD j 0 &&& 255
      · skip
        refine q_iload_n 3 56 dX12_has_55 rfl rfl rfl ?_
        refine q_aload_n 1 57 dX12_has_56 rfl rfl rfl ?_
        refine q_callVS [] [0, 1, 2] 60 (wr := [_, _, _]) (c_J0_length hw (by omega)) m_X12_93 dX12_has_57 rfl rfl hw rfl rfl rfl rfl rfl (by decide) (Nat.le_of_ble_eq_true rfl) (by omega) (by omega) (by omega) rfl (fun _ _ _ _ h => h.elim) (fun v0 w0 k' n' h => ?_)
        obtain ⟨rfl, rfl, rfl, rfl⟩ := h
        refine q_icmp_ge 89 63 dX12_has_60 (by decide) rfl (fun h60 => absurd h60 (nI_ge (by omega) (by omega))) (fun h60 => ?_)
        refine q_aload_n 0 64 dX12_has_63 rfl rfl rfl ?_
        refine q_aload_n 0 65 dX12_has_64 rfl rfl rfl ?_
        refine q_getI 0 68 f_X12_80 dX12_has_65 rfl rfl rfl ?_
        refine q_iload_n 3 69 dX12_has_68 rfl rfl rfl ?_
        refine q_iadd 70 dX12_has_69 rfl ?_
        refine q_cVi 0 [0, 1, 2] [] [0, 1, 2] 73 (wr := []) (w1 := _) (ws' := [_, _, _]) (c_letter (i := upd i 9 (nI s)) (T := T) (e := e) (k := s + j) hT (nI_add s j) hlt) m_X12_86 dX12_has_70 rfl rfl rfl rfl rfl rfl rfl rfl (by decide) (by decide) (by decide) (by decide) (Nat.le_of_ble_eq_true rfl) (by omega) (by omega) (by omega) rfl ?_
        refine q_aload_n 1 74 dX12_has_73 rfl rfl rfl ?_
        refine q_iload_n 3 75 dX12_has_74 rfl rfl rfl ?_
        refine q_callVS [] [0, 1, 2] 78 (wr := [_, _, _]) (c_J0_charAt hw (j := j) ⟨rfl, by omega, by omega⟩) m_X12_99 dX12_has_75 rfl rfl hw rfl rfl rfl rfl rfl (by decide) (Nat.le_of_ble_eq_true rfl) (by omega) (by omega) (by omega) rfl (fun _ _ _ _ h => h.elim) (fun v0 w0 k' n' h => ?_)
        obtain ⟨rfl, rfl, rfl, rfl⟩ := h
        refine q_icmp_eq 83 81 dX12_has_78 (by decide) rfl (fun h78 => ?_) (fun h78 => absurd hc h78)
        refine q_iinc 3 (nI (j + 1)) 86 (L' := [_, _, _, _]) dX12_has_83 rfl (inc1 (j)) (by decide) rfl rfl ?_
        refine q_goto 55 dX12_has_86 (by decide) ?_
        exact ih (j + 1) (by omega) hwe (fun j' hj' => by
          rcases Nat.lt_or_ge j' j with h | h
          · exact hall j' h
          · obtain rfl : j' = j := by omega
            exact hc)
      · have hW : ¬ isW T e s bs := fun h => hc (h.2 j (by omega))
        rw [if_neg hW, if_neg hW]
        refine q_iload_n 3 56 dX12_has_55 rfl rfl rfl ?_
        refine q_aload_n 1 57 dX12_has_56 rfl rfl rfl ?_
        refine q_callVS [] [0, 1, 2] 60 (wr := [_, _, _]) (c_J0_length hw (by omega)) m_X12_93 dX12_has_57 rfl rfl hw rfl rfl rfl rfl rfl (by decide) (Nat.le_of_ble_eq_true rfl) (by omega) (by omega) (by omega) rfl (fun _ _ _ _ h => h.elim) (fun v0 w0 k' n' h => ?_)
        obtain ⟨rfl, rfl, rfl, rfl⟩ := h
        refine q_icmp_ge 89 63 dX12_has_60 (by decide) rfl (fun h60 => absurd h60 (nI_ge (by omega) (by omega))) (fun h60 => ?_)
        refine q_aload_n 0 64 dX12_has_63 rfl rfl rfl ?_
        refine q_aload_n 0 65 dX12_has_64 rfl rfl rfl ?_
        refine q_getI 0 68 f_X12_80 dX12_has_65 rfl rfl rfl ?_
        refine q_iload_n 3 69 dX12_has_68 rfl rfl rfl ?_
        refine q_iadd 70 dX12_has_69 rfl ?_
        refine q_cVi 0 [0, 1, 2] [] [0, 1, 2] 73 (wr := []) (w1 := _) (ws' := [_, _, _]) (c_letter (i := upd i 9 (nI s)) (T := T) (e := e) (k := s + j) hT (nI_add s j) hlt) m_X12_86 dX12_has_70 rfl rfl rfl rfl rfl rfl rfl rfl (by decide) (by decide) (by decide) (by decide) (Nat.le_of_ble_eq_true rfl) (by omega) (by omega) (by omega) rfl ?_
        refine q_aload_n 1 74 dX12_has_73 rfl rfl rfl ?_
        refine q_iload_n 3 75 dX12_has_74 rfl rfl rfl ?_
        refine q_callVS [] [0, 1, 2] 78 (wr := [_, _, _]) (c_J0_charAt hw (j := j) ⟨rfl, by omega, by omega⟩) m_X12_99 dX12_has_75 rfl rfl hw rfl rfl rfl rfl rfl (by decide) (Nat.le_of_ble_eq_true rfl) (by omega) (by omega) (by omega) rfl (fun _ _ _ _ h => h.elim) (fun v0 w0 k' n' h => ?_)
        obtain ⟨rfl, rfl, rfl, rfl⟩ := h
        refine q_icmp_eq 83 81 dX12_has_78 (by decide) rfl (fun h78 => absurd h78 hc) (fun h78 => ?_)
        refine q_iconst 0 82 dX12_has_81 ic_0 rfl ?_
        refine q_zreturn dX12_has_82 rfl (Or.inl rfl) ?_
        exact pR.rf
  have K38 : WPs l g mtX12_has 5 0 0 (pR (some (.int (if isW T e s bs then 1 else 0))) [(q, ob 12 (upd i 9 (nI (if isW T e s bs then s + bs.length else s))) (rM A)), (A 1, aI g 2616 m), (A 5, aI g 400 tp)]) noX a 38 [some (.ref q), some (.ref (g.2.2.1 o sq)), some (.int (nI (we T e s))), none] [] [(q, ob 12 (upd i 9 (nI s)) (rM A)), (A 1, aI g 2616 m), (A 5, aI g 400 tp)] 0 0 := by
    have esub : nI (we T e s) - upd i 9 (nI s) 9 = nI (we T e s - s) := pk_sub hwe1
    by_cases hlen : we T e s = s + bs.length
    · skip
      refine q_iload_n 2 39 dX12_has_38 rfl rfl rfl ?_
      refine q_aload_n 0 40 dX12_has_39 rfl rfl rfl ?_
      refine q_getI 0 43 f_X12_80 dX12_has_40 rfl rfl rfl ?_
      refine q_isub 44 dX12_has_43 rfl ?_
      rw [esub]
      refine q_aload_n 1 45 dX12_has_44 rfl rfl rfl ?_
      refine q_callVS [] [0, 1, 2] 48 (wr := [_, _, _]) (c_J0_length hw (by omega)) m_X12_93 dX12_has_45 rfl rfl hw rfl rfl rfl rfl rfl (by decide) (Nat.le_of_ble_eq_true rfl) (by omega) (by omega) (by omega) rfl (fun _ _ _ _ h => h.elim) (fun v0 w0 k' n' h => ?_)
      obtain ⟨rfl, rfl, rfl, rfl⟩ := h
      refine q_icmp_eq 53 51 dX12_has_48 (by decide) rfl (fun h48 => ?_) (fun h48 => absurd (by congr 1; omega) h48)
      refine q_iconst 0 54 dX12_has_53 ic_0 rfl ?_
      refine q_istore_n 3 55 (L' := [_, _, _, _]) dX12_has_54 rfl (by decide) rfl rfl ?_
      exact K55 bs.length 0 (by omega) hlen (fun j' h => absurd h (by omega))
    · have hW : ¬ isW T e s bs := fun h => hlen h.1
      rw [if_neg hW, if_neg hW]
      refine q_iload_n 2 39 dX12_has_38 rfl rfl rfl ?_
      refine q_aload_n 0 40 dX12_has_39 rfl rfl rfl ?_
      refine q_getI 0 43 f_X12_80 dX12_has_40 rfl rfl rfl ?_
      refine q_isub 44 dX12_has_43 rfl ?_
      rw [esub]
      refine q_aload_n 1 45 dX12_has_44 rfl rfl rfl ?_
      refine q_callVS [] [0, 1, 2] 48 (wr := [_, _, _]) (c_J0_length hw (by omega)) m_X12_93 dX12_has_45 rfl rfl hw rfl rfl rfl rfl rfl (by decide) (Nat.le_of_ble_eq_true rfl) (by omega) (by omega) (by omega) rfl (fun _ _ _ _ h => h.elim) (fun v0 w0 k' n' h => ?_)
      obtain ⟨rfl, rfl, rfl, rfl⟩ := h
      refine q_icmp_eq 53 51 dX12_has_48 (by decide) rfl (fun h48 => absurd h48 (fun h => hlen (by have := (nI_eq (by omega) (by omega)).mp h; omega))) (fun h48 => ?_)
      refine q_iconst 0 52 dX12_has_51 ic_0 rfl ?_
      refine q_zreturn dX12_has_52 rfl (Or.inl rfl) ?_
      exact pR.rf
  have K38r : ∀ r, we T e s = r → WPs l g mtX12_has 5 0 0 (pR (some (.int (if isW T e s bs then 1 else 0))) [(q, ob 12 (upd i 9 (nI (if isW T e s bs then s + bs.length else s))) (rM A)), (A 1, aI g 2616 m), (A 5, aI g 400 tp)]) noX a 38 [some (.ref q), some (.ref (g.2.2.1 o sq)), some (.int (nI r)), none] [] [(q, ob 12 (upd i 9 (nI s)) (rM A)), (A 1, aI g 2616 m), (A 5, aI g 400 tp)] 0 0 := by
    intro r hr
    subst hr
    exact K38
  have K9 : ∀ (f r : Nat), e - r ≤ f → r < 1000 → we T e r = we T e s → WPs l g mtX12_has 5 0 0 (pR (some (.int (if isW T e s bs then 1 else 0))) [(q, ob 12 (upd i 9 (nI (if isW T e s bs then s + bs.length else s))) (rM A)), (A 1, aI g 2616 m), (A 5, aI g 400 tp)]) noX a 9 [some (.ref q), some (.ref (g.2.2.1 o sq)), some (.int (nI r)), none] [] [(q, ob 12 (upd i 9 (nI s)) (rM A)), (A 1, aI g 2616 m), (A 5, aI g 400 tp)] 0 0 := by
    intro f
    induction f with
    | zero =>
      intro r hf hr hwr
      have hwr2 : we T e r = r := we_end (by omega)
      refine q_iload_n 2 10 dX12_has_9 rfl rfl rfl ?_
      refine q_aload_n 0 11 dX12_has_10 rfl rfl rfl ?_
      refine q_getI 0 14 f_X12_83 dX12_has_11 rfl rfl rfl ?_
      refine q_icmp_ge 38 17 dX12_has_14 (by decide) rfl (fun h14 => ?_) (fun h14 => absurd (by show i 8 ≤ _; rw [hT.1]; exact nI_le (by omega) (by omega)) h14)
      exact K38r r (hwr.symm.trans hwr2)
    | succ f ih =>
      intro r hf hr hwr
      by_cases hlt : r < e
      · by_cases ht : rIn (T r) 97 122 = 0
        · have hwr2 : we T e r = r := we_end (fun h => h.2 ht)
          refine q_iload_n 2 10 dX12_has_9 rfl rfl rfl ?_
          refine q_aload_n 0 11 dX12_has_10 rfl rfl rfl ?_
          refine q_getI 0 14 f_X12_83 dX12_has_11 rfl rfl rfl ?_
          refine q_icmp_ge 38 17 dX12_has_14 (by decide) rfl (fun h14 => absurd h14 (by show ¬ i 8 ≤ _; rw [hT.1]; exact nI_ge hlt (by omega))) (fun h14 => ?_)
          refine q_aload_n 0 18 dX12_has_17 rfl rfl rfl ?_
          refine q_iload_n 2 19 dX12_has_18 rfl rfl rfl ?_
          refine q_cVi 0 [0, 1, 2] [] [0, 1, 2] 22 (wr := []) (w1 := _) (ws' := [_, _, _]) (c_letter (i := upd i 9 (nI s)) (T := T) (e := e) (k := r) hT rfl hlt) m_X12_86 dX12_has_19 rfl rfl rfl rfl rfl rfl rfl rfl (by decide) (by decide) (by decide) (by decide) (Nat.le_of_ble_eq_true rfl) (by omega) (by omega) (by omega) rfl ?_
          refine q_bipush 97 24 dX12_has_22 bc_97 rfl ?_
          refine q_bipush 122 26 dX12_has_24 bc_122 rfl ?_
          refine q_cSi [] [0, 1, 2] [0, 1, 2] 29 (wr := [_, _, _]) (w1 := _) (ws' := [_, _, _]) c_isIn m_X12_70 dX12_has_26 rfl rfl rfl rfl rfl (by decide) (by decide) (by decide) (by decide) (Nat.le_of_ble_eq_true rfl) (by omega) (by omega) (by omega) rfl ?_
          refine q_if_eq 38 32 dX12_has_29 (by decide) rfl (fun h29 => ?_) (fun h29 => absurd ht h29)
          exact K38r r (hwr.symm.trans hwr2)
        · skip
          refine q_iload_n 2 10 dX12_has_9 rfl rfl rfl ?_
          refine q_aload_n 0 11 dX12_has_10 rfl rfl rfl ?_
          refine q_getI 0 14 f_X12_83 dX12_has_11 rfl rfl rfl ?_
          refine q_icmp_ge 38 17 dX12_has_14 (by decide) rfl (fun h14 => absurd h14 (by show ¬ i 8 ≤ _; rw [hT.1]; exact nI_ge hlt (by omega))) (fun h14 => ?_)
          refine q_aload_n 0 18 dX12_has_17 rfl rfl rfl ?_
          refine q_iload_n 2 19 dX12_has_18 rfl rfl rfl ?_
          refine q_cVi 0 [0, 1, 2] [] [0, 1, 2] 22 (wr := []) (w1 := _) (ws' := [_, _, _]) (c_letter (i := upd i 9 (nI s)) (T := T) (e := e) (k := r) hT rfl hlt) m_X12_86 dX12_has_19 rfl rfl rfl rfl rfl rfl rfl rfl (by decide) (by decide) (by decide) (by decide) (Nat.le_of_ble_eq_true rfl) (by omega) (by omega) (by omega) rfl ?_
          refine q_bipush 97 24 dX12_has_22 bc_97 rfl ?_
          refine q_bipush 122 26 dX12_has_24 bc_122 rfl ?_
          refine q_cSi [] [0, 1, 2] [0, 1, 2] 29 (wr := [_, _, _]) (w1 := _) (ws' := [_, _, _]) c_isIn m_X12_70 dX12_has_26 rfl rfl rfl rfl rfl (by decide) (by decide) (by decide) (by decide) (Nat.le_of_ble_eq_true rfl) (by omega) (by omega) (by omega) rfl ?_
          refine q_if_eq 38 32 dX12_has_29 (by decide) rfl (fun h29 => absurd h29 ht) (fun h29 => ?_)
          refine q_iinc 2 (nI (r + 1)) 35 (L' := [_, _, _, _]) dX12_has_32 rfl (inc1 (r)) (by decide) rfl rfl ?_
          refine q_goto 9 dX12_has_35 (by decide) ?_
          exact ih (r + 1) (by omega) (by omega) (by rw [← hwr, we_go hlt ht])
      · have hwr2 : we T e r = r := we_end (fun h => hlt h.1)
        refine q_iload_n 2 10 dX12_has_9 rfl rfl rfl ?_
        refine q_aload_n 0 11 dX12_has_10 rfl rfl rfl ?_
        refine q_getI 0 14 f_X12_83 dX12_has_11 rfl rfl rfl ?_
        refine q_icmp_ge 38 17 dX12_has_14 (by decide) rfl (fun h14 => ?_) (fun h14 => absurd (by show i 8 ≤ _; rw [hT.1]; exact nI_le (by omega) (by omega)) h14)
        exact K38r r (hwr.symm.trans hwr2)
  refine q_aload_n 0 1 dX12_has_0 rfl rfl rfl ?_
  refine q_cVv 0 [0, 1, 2] [] [0, 1, 2] 4 (wr := []) (w1 := _) (ws' := [_, _, _]) (c_skip (T := T) (e := e) (n := n) hT hn hn2) m_X12_90 dX12_has_1 rfl rfl rfl rfl rfl rfl rfl rfl (by decide) (by decide) (by decide) (by decide) (Nat.le_of_ble_eq_true rfl) (by omega) (by omega) (by omega) rfl ?_
  rw [hsk]
  refine q_aload_n 0 5 dX12_has_4 rfl rfl rfl ?_
  refine q_getI 0 8 f_X12_80 dX12_has_5 rfl rfl rfl ?_
  refine q_istore_n 2 9 (L' := [_, _, _, _]) dX12_has_8 rfl (by decide) rfl rfl ?_
  exact K9 (e - s) s (Nat.le_refl _) hb rfl

