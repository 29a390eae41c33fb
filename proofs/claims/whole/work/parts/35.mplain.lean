/-! ===== sum, plainCond ===== -/
theorem ptN_le (T : Nat → Int32) (e n : Nat) (f : Int32) : ptN T e n f ≤ n ∨ ptN T e n f ≤ e := by
  unfold ptN
  have h1 := sk_le T e n
  split
  · split
    · have h2 := dgs_le T e 4 (sk T e (sk T e n)) 0
      rw [sk_sk] at h2
      unfold figE
      rw [sk_sk]
      omega
    · split
      · exact h1
      · rename_i h5
        have key : ∀ bs : List Int32, isW T e (sk T e n) bs → 0 < bs.length → sk T e n + bs.length ≤ e := by
          intro bs hw hl
          rcases isW_le hw with h | h
          · omega
          · exact h
        refine Or.inr ?_
        unfold pK at h5 ⊢
        by_cases h0 : isW T e (sk T e n) w_mine
        · rw [if_pos h0]; exact key _ h0 (by decide)
        · rw [if_neg h0] at h5 ⊢
          by_cases h1 : isW T e (sk T e n) w_his
          · rw [if_pos h1]; exact key _ h1 (by decide)
          · rw [if_neg h1] at h5 ⊢
            by_cases h2 : isW T e (sk T e n) w_line
            · rw [if_pos h2]; exact key _ h2 (by decide)
            · rw [if_neg h2] at h5 ⊢
              by_cases h3 : isW T e (sk T e n) w_chases
              · rw [if_pos h3]; exact key _ h3 (by decide)
              · rw [if_neg h3] at h5 ⊢
                by_cases h4 : isW T e (sk T e n) w_games
                · rw [if_pos h4]; exact key _ h4 (by decide)
                · rw [if_neg h4] at h5
                  exact absurd rfl h5
  · exact Or.inl (Nat.le_refl _)
theorem ptN_ge (T : Nat → Int32) (e n : Nat) (f : Int32) : n ≤ ptN T e n f := by
  unfold ptN
  have h1 := sk_ge T e n
  split
  · split
    · have h2 := (dgs_ge T e 4 (sk T e (sk T e n)) 0).1
      rw [sk_sk] at h2
      unfold figE
      rw [sk_sk]
      omega
    · split <;> omega
  · exact Nat.le_refl _
/-- sum's loop: number, place, fault -/
def sumG (T fc : Nat → Int32) (e : Nat) : Nat → Int32 → Nat → Int32 → Int32 × Nat × Int32
  | 0, v, n, f => (v, n, f)
  | k + 1, v, n, f => if f = -1 then (if sk T e n < e ∧ T (sk T e n) = 43 then sumG T fc e k (v + ptV T fc e (sk T e n + 1) (-1)) (ptN T e (sk T e n + 1) (-1)) (ptF T e (sk T e n + 1) (-1)) else (v, sk T e n, f)) else (v, n, f)
def smR (T fc : Nat → Int32) (e n : Nat) (f : Int32) : Int32 × Nat × Int32 := sumG T fc e 1001 (ptV T fc e n f) (ptN T e n f) (ptF T e n f)
theorem sumG_le (T fc : Nat → Int32) (e : Nat) : ∀ k v n f, (sumG T fc e k v n f).2.1 ≤ n ∨ (sumG T fc e k v n f).2.1 ≤ e
  | 0, v, n, f => Or.inl (Nat.le_refl n)
  | k + 1, v, n, f => by
    rw [sumG]
    have h1 := sk_le T e n
    split
    · split
      · rename_i hh
        have h2 := sumG_le T fc e k (v + ptV T fc e (sk T e n + 1) (-1)) (ptN T e (sk T e n + 1) (-1)) (ptF T e (sk T e n + 1) (-1))
        have h3 := ptN_le T e (sk T e n + 1) (-1)
        omega
      · exact h1
    · exact Or.inl (Nat.le_refl n)
theorem smR_le (T fc : Nat → Int32) (e n : Nat) (f : Int32) : (smR T fc e n f).2.1 ≤ n ∨ (smR T fc e n f).2.1 ≤ e := by
  have h1 := sumG_le T fc e 1001 (ptV T fc e n f) (ptN T e n f) (ptF T e n f)
  have h2 := ptN_le T e n f
  unfold smR
  omega
theorem p_sum {l : Launch} {g : Gh} {q : Nat} {A : Nat → Nat} {i m tp fc T : Nat → Int32} {e n : Nat} {f d s : Int32} (hT : TxOK (i 7) (i 8) m tp T e) (hn2 : n < 1000) : Cp l g yX12_sum (Cond.code yX12_sum cX12_sum 2 (some .int)) 7 [.ref q] (wQ g q A i m tp fc n f d s) (some (.int (smR T fc e n f).1)) (wQ g q A i m tp fc (smR T fc e n f).2.1 (smR T fc e n f).2.2 d s) := by
  refine ct_of (M := mtX12_sum) [some (.ref q), none] rfl (by decide) (Nat.le_of_ble_eq_true rfl) (fun _ h => h) (fun a => ?_)
  have he : e ≤ 400 := hT.2.1
  have K5 : ∀ (k : Nat) (v : Int32) (n : Nat) (f : Int32), e - n < k → n < 1000 → WPs l g mtX12_sum 7 0 0 (pR (some (.int (sumG T fc e k v n f).1)) (wQ g q A i m tp fc (sumG T fc e k v n f).2.1 (sumG T fc e k v n f).2.2 d s)) noX a 5 [some (.ref q), some (.int v)] [] (wQ g q A i m tp fc n f d s) 0 0 := by
    intro k
    induction k with
    | zero => intro v n f h; exact absurd h (by omega)
    | succ k ih =>
      intro v n f hk hn2
      have hb : sk T e n < 1000 := by rcases sk_le T e n with h | h <;> omega
      rw [sumG]
      by_cases hf : f = -1
      · rw [if_pos hf]
        subst hf
        by_cases hp : sk T e n < e ∧ T (sk T e n) = 43
        · rw [if_pos hp]
          have h3 := ptN_le T e (sk T e n + 1) (-1)
          have h4 := ptN_ge T e (sk T e n + 1) (-1)
          have h5 := sk_ge T e n
          refine q_aload_n 0 6 dX12_sum_5 rfl rfl rfl ?_
          refine q_getI 0 9 f_X12_22 dX12_sum_6 rfl rfl rfl ?_
          refine q_iconst (-1) 10 dX12_sum_9 ic_m1 rfl ?_
          refine q_icmp_ne 42 13 dX12_sum_10 (by decide) rfl (fun h10 => absurd rfl h10) (fun h10 => ?_)
          refine q_aload_n 0 14 dX12_sum_13 rfl rfl rfl ?_
          refine q_bipush 43 16 dX12_sum_14 bc_43 rfl ?_
          refine q_cVi 0 [0, 1, 2] [3] [1, 2, 3, 0] 19 (wr := [_]) (w1 := _) (ws' := [_, _, _, _]) (p_isSign (T := T) (e := e) (n := n) hT hn2) m_X12_138 dX12_sum_16 rfl rfl rfl rfl rfl rfl rfl rfl (by decide) (by decide) (by decide) (by decide) (Nat.le_of_ble_eq_true rfl) (by omega) (by omega) (by omega) rfl ?_
          rw [if_pos hp]
          refine q_if_eq 42 22 dX12_sum_19 (by decide) rfl (fun h19 => absurd h19 (by decide)) (fun h19 => ?_)
          refine q_aload_n 0 23 dX12_sum_22 rfl rfl rfl ?_
          refine q_dup 24 dX12_sum_23 rfl rfl ?_
          refine q_getI 0 27 f_X12_80 dX12_sum_24 rfl rfl rfl ?_
          refine q_iconst 1 28 dX12_sum_27 ic_1 rfl ?_
          refine q_iadd 29 dX12_sum_28 rfl ?_
          refine q_putI 0 32 (w' := [_, _, _, _]) f_X12_80 ft_X12_9 dX12_sum_29 rfl rfl rfl rfl ?_
          rw [show ps i (sk T e n) (-1) d s 9 + 1 = nI (sk T e n + 1) from nI_1 _, ps_9]
          refine q_iload_n 1 33 dX12_sum_32 rfl rfl rfl ?_
          refine q_aload_n 0 34 dX12_sum_33 rfl rfl rfl ?_
          refine q_cVi 0 [0, 1, 2, 3] [] [0, 1, 2, 3] 37 (wr := []) (w1 := _) (ws' := [_, _, _, _]) (p_part (T := T) (e := e) (n := sk T e n + 1) hT (by omega)) m_X12_154 dX12_sum_34 rfl rfl rfl rfl rfl rfl rfl rfl (by decide) (by decide) (by decide) (by decide) (Nat.le_of_ble_eq_true rfl) (by omega) (by omega) (by omega) rfl ?_
          refine q_iadd 38 dX12_sum_37 rfl ?_
          refine q_istore_n 1 39 (L' := [_, _]) dX12_sum_38 rfl (by decide) rfl rfl ?_
          refine q_goto 5 dX12_sum_39 (by decide) ?_
          exact ih _ _ _ (by omega) (by omega)
        · rw [if_neg hp]
          refine q_aload_n 0 6 dX12_sum_5 rfl rfl rfl ?_
          refine q_getI 0 9 f_X12_22 dX12_sum_6 rfl rfl rfl ?_
          refine q_iconst (-1) 10 dX12_sum_9 ic_m1 rfl ?_
          refine q_icmp_ne 42 13 dX12_sum_10 (by decide) rfl (fun h10 => absurd rfl h10) (fun h10 => ?_)
          refine q_aload_n 0 14 dX12_sum_13 rfl rfl rfl ?_
          refine q_bipush 43 16 dX12_sum_14 bc_43 rfl ?_
          refine q_cVi 0 [0, 1, 2] [3] [1, 2, 3, 0] 19 (wr := [_]) (w1 := _) (ws' := [_, _, _, _]) (p_isSign (T := T) (e := e) (n := n) hT hn2) m_X12_138 dX12_sum_16 rfl rfl rfl rfl rfl rfl rfl rfl (by decide) (by decide) (by decide) (by decide) (Nat.le_of_ble_eq_true rfl) (by omega) (by omega) (by omega) rfl ?_
          rw [if_neg hp]
          refine q_if_eq 42 22 dX12_sum_19 (by decide) rfl (fun h19 => ?_) (fun h19 => absurd rfl h19)
          refine q_iload_n 1 43 dX12_sum_42 rfl rfl rfl ?_
          refine q_ireturn dX12_sum_43 rfl ?_
          exact pR.rf
      · rw [if_neg hf]
        refine q_aload_n 0 6 dX12_sum_5 rfl rfl rfl ?_
        refine q_getI 0 9 f_X12_22 dX12_sum_6 rfl rfl rfl ?_
        refine q_iconst (-1) 10 dX12_sum_9 ic_m1 rfl ?_
        refine q_icmp_ne 42 13 dX12_sum_10 (by decide) rfl (fun h10 => ?_) (fun h10 => absurd h10 hf)
        refine q_iload_n 1 43 dX12_sum_42 rfl rfl rfl ?_
        refine q_ireturn dX12_sum_43 rfl ?_
        exact pR.rf
  have h2 := ptN_le T e n f
  refine q_aload_n 0 1 dX12_sum_0 rfl rfl rfl ?_
  refine q_cVi 0 [0, 1, 2, 3] [] [0, 1, 2, 3] 4 (wr := []) (w1 := _) (ws' := [_, _, _, _]) (p_part (T := T) (e := e) (n := n) hT hn2) m_X12_154 dX12_sum_1 rfl rfl rfl rfl rfl rfl rfl rfl (by decide) (by decide) (by decide) (by decide) (Nat.le_of_ble_eq_true rfl) (by omega) (by omega) (by omega) rfl ?_
  refine q_istore_n 1 5 (L' := [_, _]) dX12_sum_4 rfl (by decide) rfl rfl ?_
  exact K5 1001 _ _ _ (by omega) (by omega)
/-- plainCond: value, place, fault (sv, of: serving, off) -/
def pcR (T fc : Nat → Int32) (sv of : Int32) (e n : Nat) : Int32 × Nat × Int32 :=
  if isW T e (sk T e n) w_serving then (sv, sk T e n + 7, -1) else if isW T e (sk T e n) w_off then (of, sk T e n + 3, -1) else
  if (smR T fc e (sk T e n) (-1)).2.2 = -1 then
    (if sk T e (smR T fc e (sk T e n) (-1)).2.1 < e ∧ T (sk T e (smR T fc e (sk T e n) (-1)).2.1) = 60 then
      (if (smR T fc e (sk T e n) (-1)).1 < (smR T fc e (sk T e (smR T fc e (sk T e n) (-1)).2.1 + 1) (-1)).1 then 1 else 0, (smR T fc e (sk T e (smR T fc e (sk T e n) (-1)).2.1 + 1) (-1)).2)
    else if sk T e (smR T fc e (sk T e n) (-1)).2.1 < e ∧ T (sk T e (smR T fc e (sk T e n) (-1)).2.1) = 62 then
      (if (smR T fc e (sk T e (smR T fc e (sk T e n) (-1)).2.1 + 1) (-1)).1 < (smR T fc e (sk T e n) (-1)).1 then 1 else 0, (smR T fc e (sk T e (smR T fc e (sk T e n) (-1)).2.1 + 1) (-1)).2)
    else (0, sk T e (smR T fc e (sk T e n) (-1)).2.1, nI (sk T e (smR T fc e (sk T e n) (-1)).2.1)))
  else (0, (smR T fc e (sk T e n) (-1)).2)
theorem p_plainCond {l : Launch} {g : Gh} {q : Nat} {A : Nat → Nat} {i m tp fc T : Nat → Int32} {e n : Nat} {d s : Int32} (hT : TxOK (i 7) (i 8) m tp T e) (hn2 : n < 1000) (hsv : i 13 = 0 ∨ i 13 = 1) (hof : i 14 = 0 ∨ i 14 = 1) : Cp l g yX12_plainCond (Cond.code yX12_plainCond cX12_plainCond 4 (some .boolean)) 8 [.ref q] (wQ g q A i m tp fc n (-1) d s) (some (.int (pcR T fc (i 13) (i 14) e n).1)) (wQ g q A i m tp fc (pcR T fc (i 13) (i 14) e n).2.1 (pcR T fc (i 13) (i 14) e n).2.2 d s) := by
  refine ct_of (M := mtX12_plainCond) [some (.ref q), none, none, none] rfl (by decide) (Nat.le_of_ble_eq_true rfl) (fun _ h => h) (fun a => ?_)
  have he : e ≤ 400 := hT.2.1
  have hb : sk T e n < 1000 := by rcases sk_le T e n with h | h <;> omega
  have hss := sk_sk T e n
  unfold pcR
  by_cases h0 : isW T e (sk T e n) w_serving
  · rw [if_pos h0]
    refine q_aload_n 0 1 dX12_plainCond_0 rfl rfl rfl ?_
    refine q_ldcS "serving" 3 sr_X12_157 dX12_plainCond_1 rfl ?_
    refine q_cVi 0 [0, 1, 2] [3] [1, 2, 3, 0] 6 (wr := [_]) (w1 := _) (ws' := [_, _, _, _]) (p_has sw_X12_157 (by decide) (T := T) (e := e) (n := n) hT hn2) m_X12_109 dX12_plainCond_3 rfl rfl rfl rfl rfl rfl rfl rfl (by decide) (by decide) (by decide) (by decide) (Nat.le_of_ble_eq_true rfl) (by omega) (by omega) (by omega) rfl ?_
    rw [show hasB T e n w_serving = 1 from if_pos h0, show hasN T e n w_serving = sk T e n + 7 from if_pos h0]
    refine q_if_eq 14 9 dX12_plainCond_6 (by decide) rfl (fun h6 => absurd h6 (by decide)) (fun h6 => ?_)
    refine q_aload_n 0 10 dX12_plainCond_9 rfl rfl rfl ?_
    refine q_getI 0 13 f_X12_159 dX12_plainCond_10 rfl rfl rfl ?_
    refine q_zreturn dX12_plainCond_13 rfl hsv ?_
    exact pR.rf
  · rw [if_neg h0]
    by_cases h1 : isW T e (sk T e n) w_off
    · rw [if_pos h1]
      refine q_aload_n 0 1 dX12_plainCond_0 rfl rfl rfl ?_
      refine q_ldcS "serving" 3 sr_X12_157 dX12_plainCond_1 rfl ?_
      refine q_cVi 0 [0, 1, 2] [3] [1, 2, 3, 0] 6 (wr := [_]) (w1 := _) (ws' := [_, _, _, _]) (p_has sw_X12_157 (by decide) (T := T) (e := e) (n := n) hT hn2) m_X12_109 dX12_plainCond_3 rfl rfl rfl rfl rfl rfl rfl rfl (by decide) (by decide) (by decide) (by decide) (Nat.le_of_ble_eq_true rfl) (by omega) (by omega) (by omega) rfl ?_
      rw [show hasB T e n w_serving = 0 from if_neg h0, show hasN T e n w_serving = sk T e n from if_neg h0]
      refine q_if_eq 14 9 dX12_plainCond_6 (by decide) rfl (fun h6 => ?_) (fun h6 => absurd rfl h6)
      refine q_aload_n 0 15 dX12_plainCond_14 rfl rfl rfl ?_
      refine q_ldcS "off" 17 sr_X12_163 dX12_plainCond_15 rfl ?_
      refine q_cVi 0 [0, 1, 2] [3] [1, 2, 3, 0] 20 (wr := [_]) (w1 := _) (ws' := [_, _, _, _]) (p_has sw_X12_163 (by decide) (T := T) (e := e) (n := sk T e n) hT hb) m_X12_109 dX12_plainCond_17 rfl rfl rfl rfl rfl rfl rfl rfl (by decide) (by decide) (by decide) (by decide) (Nat.le_of_ble_eq_true rfl) (by omega) (by omega) (by omega) rfl ?_
      rw [hasB_t h1 hss, hasN_t h1 hss]
      refine q_if_eq 28 23 dX12_plainCond_20 (by decide) rfl (fun h20 => absurd h20 (by decide)) (fun h20 => ?_)
      refine q_aload_n 0 24 dX12_plainCond_23 rfl rfl rfl ?_
      refine q_getI 0 27 f_X12_165 dX12_plainCond_24 rfl rfl rfl ?_
      refine q_zreturn dX12_plainCond_27 rfl hof ?_
      exact pR.rf
    · rw [if_neg h1]
      have hs1 := smR_le T fc e (sk T e n) (-1)
      generalize hr1 : smR T fc e (sk T e n) (-1) = r1 at *
      obtain ⟨v1, n1, f1⟩ := r1
      dsimp only at hs1 ⊢
      have hn1 : n1 < 1000 := by omega
      have hn1s : sk T e n1 < 1000 := by rcases sk_le T e n1 with h | h <;> omega
      have hss1 := sk_sk T e n1
      by_cases hf : f1 = -1
      · subst hf
        rw [if_pos rfl]
        by_cases hlt : sk T e n1 < e ∧ T (sk T e n1) = 60
        · rw [if_pos hlt]
          have hs2 := smR_le T fc e (sk T e n1 + 1) (-1)
          refine q_aload_n 0 1 dX12_plainCond_0 rfl rfl rfl ?_
          refine q_ldcS "serving" 3 sr_X12_157 dX12_plainCond_1 rfl ?_
          refine q_cVi 0 [0, 1, 2] [3] [1, 2, 3, 0] 6 (wr := [_]) (w1 := _) (ws' := [_, _, _, _]) (p_has sw_X12_157 (by decide) (T := T) (e := e) (n := n) hT hn2) m_X12_109 dX12_plainCond_3 rfl rfl rfl rfl rfl rfl rfl rfl (by decide) (by decide) (by decide) (by decide) (Nat.le_of_ble_eq_true rfl) (by omega) (by omega) (by omega) rfl ?_
          rw [show hasB T e n w_serving = 0 from if_neg h0, show hasN T e n w_serving = sk T e n from if_neg h0]
          refine q_if_eq 14 9 dX12_plainCond_6 (by decide) rfl (fun h6 => ?_) (fun h6 => absurd rfl h6)
          refine q_aload_n 0 15 dX12_plainCond_14 rfl rfl rfl ?_
          refine q_ldcS "off" 17 sr_X12_163 dX12_plainCond_15 rfl ?_
          refine q_cVi 0 [0, 1, 2] [3] [1, 2, 3, 0] 20 (wr := [_]) (w1 := _) (ws' := [_, _, _, _]) (p_has sw_X12_163 (by decide) (T := T) (e := e) (n := sk T e n) hT hb) m_X12_109 dX12_plainCond_17 rfl rfl rfl rfl rfl rfl rfl rfl (by decide) (by decide) (by decide) (by decide) (Nat.le_of_ble_eq_true rfl) (by omega) (by omega) (by omega) rfl ?_
          rw [hasB_f h1 hss, hasN_f h1 hss]
          refine q_if_eq 28 23 dX12_plainCond_20 (by decide) rfl (fun h20 => ?_) (fun h20 => absurd rfl h20)
          refine q_aload_n 0 29 dX12_plainCond_28 rfl rfl rfl ?_
          refine q_cVi 0 [0, 1, 2, 3] [] [0, 1, 2, 3] 32 (wr := []) (w1 := _) (ws' := [_, _, _, _]) (p_sum (T := T) (e := e) (n := sk T e n) hT hb) m_X12_168 dX12_plainCond_29 rfl rfl rfl rfl rfl rfl rfl rfl (by decide) (by decide) (by decide) (by decide) (Nat.le_of_ble_eq_true rfl) (by omega) (by omega) (by omega) rfl ?_
          rw [hr1]
          refine q_istore_n 1 33 (L' := [_, _, _, _]) dX12_plainCond_32 rfl (by decide) rfl rfl ?_
          refine q_aload_n 0 34 dX12_plainCond_33 rfl rfl rfl ?_
          refine q_getI 0 37 f_X12_22 dX12_plainCond_34 rfl rfl rfl ?_
          refine q_iconst (-1) 38 dX12_plainCond_37 ic_m1 rfl ?_
          refine q_icmp_eq 43 41 dX12_plainCond_38 (by decide) rfl (fun h38 => ?_) (fun h38 => absurd rfl h38)
          refine q_aload_n 0 44 dX12_plainCond_43 rfl rfl rfl ?_
          refine q_bipush 60 46 dX12_plainCond_44 bc_60 rfl ?_
          refine q_cVi 0 [0, 1, 2] [3] [1, 2, 3, 0] 49 (wr := [_]) (w1 := _) (ws' := [_, _, _, _]) (p_isSign (T := T) (e := e) (n := n1) hT hn1) m_X12_138 dX12_plainCond_46 rfl rfl rfl rfl rfl rfl rfl rfl (by decide) (by decide) (by decide) (by decide) (Nat.le_of_ble_eq_true rfl) (by omega) (by omega) (by omega) rfl ?_
          rw [if_pos hlt]
          refine q_istore_n 2 50 (L' := [_, _, _, _]) dX12_plainCond_49 rfl (by decide) rfl rfl ?_
          refine q_iload_n 2 51 dX12_plainCond_50 rfl rfl rfl ?_
          refine q_if_ne 73 54 dX12_plainCond_51 (by decide) rfl (fun h51 => ?_) (fun h51 => absurd h51 (by decide))
          refine q_aload_n 0 74 dX12_plainCond_73 rfl rfl rfl ?_
          refine q_dup 75 dX12_plainCond_74 rfl rfl ?_
          refine q_getI 0 78 f_X12_80 dX12_plainCond_75 rfl rfl rfl ?_
          refine q_iconst 1 79 dX12_plainCond_78 ic_1 rfl ?_
          refine q_iadd 80 dX12_plainCond_79 rfl ?_
          refine q_putI 0 83 (w' := [_, _, _, _]) f_X12_80 ft_X12_9 dX12_plainCond_80 rfl rfl rfl rfl ?_
          rw [show ps i (sk T e n1) (-1) d s 9 + 1 = nI (sk T e n1 + 1) from nI_1 _, ps_9]
          refine q_aload_n 0 84 dX12_plainCond_83 rfl rfl rfl ?_
          refine q_cVi 0 [0, 1, 2, 3] [] [0, 1, 2, 3] 87 (wr := []) (w1 := _) (ws' := [_, _, _, _]) (p_sum (T := T) (e := e) (n := sk T e n1 + 1) hT (by omega)) m_X12_168 dX12_plainCond_84 rfl rfl rfl rfl rfl rfl rfl rfl (by decide) (by decide) (by decide) (by decide) (Nat.le_of_ble_eq_true rfl) (by omega) (by omega) (by omega) rfl ?_
          refine q_istore_n 3 88 (L' := [_, _, _, _]) dX12_plainCond_87 rfl (by decide) rfl rfl ?_
          refine q_iload_n 2 89 dX12_plainCond_88 rfl rfl rfl ?_
          refine q_if_eq 105 92 dX12_plainCond_89 (by decide) rfl (fun h89 => absurd h89 (by decide)) (fun h89 => ?_)
          refine q_iload_n 1 93 dX12_plainCond_92 rfl rfl rfl ?_
          refine q_iload_n 3 94 dX12_plainCond_93 rfl rfl rfl ?_
          refine q_icmp_ge 101 97 dX12_plainCond_94 (by decide) rfl (fun hcmp => ?_) (fun hcmp => ?_)
          · refine q_iconst 0 102 dX12_plainCond_101 ic_0 rfl ?_
            refine q_goto 115 dX12_plainCond_102 (by decide) ?_
            refine q_zreturn dX12_plainCond_115 rfl (Or.inl rfl) ?_
            first
              | exact pR.mk (by rw [if_neg (Int32.not_lt.mpr hcmp)]) rfl
              | exact pR.mk (by rw [if_pos (Int32.not_le.mp hcmp)]) rfl
          · refine q_iconst 1 98 dX12_plainCond_97 ic_1 rfl ?_
            refine q_goto 115 dX12_plainCond_98 (by decide) ?_
            refine q_zreturn dX12_plainCond_115 rfl (Or.inr rfl) ?_
            first
              | exact pR.mk (by rw [if_neg (Int32.not_lt.mpr hcmp)]) rfl
              | exact pR.mk (by rw [if_pos (Int32.not_le.mp hcmp)]) rfl
        · rw [if_neg hlt]
          by_cases hgt : sk T e n1 < e ∧ T (sk T e n1) = 62
          · rw [if_pos hgt]
            have hs2 := smR_le T fc e (sk T e n1 + 1) (-1)
            refine q_aload_n 0 1 dX12_plainCond_0 rfl rfl rfl ?_
            refine q_ldcS "serving" 3 sr_X12_157 dX12_plainCond_1 rfl ?_
            refine q_cVi 0 [0, 1, 2] [3] [1, 2, 3, 0] 6 (wr := [_]) (w1 := _) (ws' := [_, _, _, _]) (p_has sw_X12_157 (by decide) (T := T) (e := e) (n := n) hT hn2) m_X12_109 dX12_plainCond_3 rfl rfl rfl rfl rfl rfl rfl rfl (by decide) (by decide) (by decide) (by decide) (Nat.le_of_ble_eq_true rfl) (by omega) (by omega) (by omega) rfl ?_
            rw [show hasB T e n w_serving = 0 from if_neg h0, show hasN T e n w_serving = sk T e n from if_neg h0]
            refine q_if_eq 14 9 dX12_plainCond_6 (by decide) rfl (fun h6 => ?_) (fun h6 => absurd rfl h6)
            refine q_aload_n 0 15 dX12_plainCond_14 rfl rfl rfl ?_
            refine q_ldcS "off" 17 sr_X12_163 dX12_plainCond_15 rfl ?_
            refine q_cVi 0 [0, 1, 2] [3] [1, 2, 3, 0] 20 (wr := [_]) (w1 := _) (ws' := [_, _, _, _]) (p_has sw_X12_163 (by decide) (T := T) (e := e) (n := sk T e n) hT hb) m_X12_109 dX12_plainCond_17 rfl rfl rfl rfl rfl rfl rfl rfl (by decide) (by decide) (by decide) (by decide) (Nat.le_of_ble_eq_true rfl) (by omega) (by omega) (by omega) rfl ?_
            rw [hasB_f h1 hss, hasN_f h1 hss]
            refine q_if_eq 28 23 dX12_plainCond_20 (by decide) rfl (fun h20 => ?_) (fun h20 => absurd rfl h20)
            refine q_aload_n 0 29 dX12_plainCond_28 rfl rfl rfl ?_
            refine q_cVi 0 [0, 1, 2, 3] [] [0, 1, 2, 3] 32 (wr := []) (w1 := _) (ws' := [_, _, _, _]) (p_sum (T := T) (e := e) (n := sk T e n) hT hb) m_X12_168 dX12_plainCond_29 rfl rfl rfl rfl rfl rfl rfl rfl (by decide) (by decide) (by decide) (by decide) (Nat.le_of_ble_eq_true rfl) (by omega) (by omega) (by omega) rfl ?_
            rw [hr1]
            refine q_istore_n 1 33 (L' := [_, _, _, _]) dX12_plainCond_32 rfl (by decide) rfl rfl ?_
            refine q_aload_n 0 34 dX12_plainCond_33 rfl rfl rfl ?_
            refine q_getI 0 37 f_X12_22 dX12_plainCond_34 rfl rfl rfl ?_
            refine q_iconst (-1) 38 dX12_plainCond_37 ic_m1 rfl ?_
            refine q_icmp_eq 43 41 dX12_plainCond_38 (by decide) rfl (fun h38 => ?_) (fun h38 => absurd rfl h38)
            refine q_aload_n 0 44 dX12_plainCond_43 rfl rfl rfl ?_
            refine q_bipush 60 46 dX12_plainCond_44 bc_60 rfl ?_
            refine q_cVi 0 [0, 1, 2] [3] [1, 2, 3, 0] 49 (wr := [_]) (w1 := _) (ws' := [_, _, _, _]) (p_isSign (T := T) (e := e) (n := n1) hT hn1) m_X12_138 dX12_plainCond_46 rfl rfl rfl rfl rfl rfl rfl rfl (by decide) (by decide) (by decide) (by decide) (Nat.le_of_ble_eq_true rfl) (by omega) (by omega) (by omega) rfl ?_
            rw [if_neg hlt]
            refine q_istore_n 2 50 (L' := [_, _, _, _]) dX12_plainCond_49 rfl (by decide) rfl rfl ?_
            refine q_iload_n 2 51 dX12_plainCond_50 rfl rfl rfl ?_
            refine q_if_ne 73 54 dX12_plainCond_51 (by decide) rfl (fun h51 => absurd rfl h51) (fun h51 => ?_)
            refine q_aload_n 0 55 dX12_plainCond_54 rfl rfl rfl ?_
            refine q_bipush 62 57 dX12_plainCond_55 bc_62 rfl ?_
            refine q_cVi 0 [0, 1, 2] [3] [1, 2, 3, 0] 60 (wr := [_]) (w1 := _) (ws' := [_, _, _, _]) (p_isSign (T := T) (e := e) (n := sk T e n1) hT hn1s) m_X12_138 dX12_plainCond_57 rfl rfl rfl rfl rfl rfl rfl rfl (by decide) (by decide) (by decide) (by decide) (Nat.le_of_ble_eq_true rfl) (by omega) (by omega) (by omega) rfl ?_
            rw [hss1, if_pos hgt]
            refine q_if_ne 73 63 dX12_plainCond_60 (by decide) rfl (fun h60 => ?_) (fun h60 => absurd h60 (by decide))
            refine q_aload_n 0 74 dX12_plainCond_73 rfl rfl rfl ?_
            refine q_dup 75 dX12_plainCond_74 rfl rfl ?_
            refine q_getI 0 78 f_X12_80 dX12_plainCond_75 rfl rfl rfl ?_
            refine q_iconst 1 79 dX12_plainCond_78 ic_1 rfl ?_
            refine q_iadd 80 dX12_plainCond_79 rfl ?_
            refine q_putI 0 83 (w' := [_, _, _, _]) f_X12_80 ft_X12_9 dX12_plainCond_80 rfl rfl rfl rfl ?_
            rw [show ps i (sk T e n1) (-1) d s 9 + 1 = nI (sk T e n1 + 1) from nI_1 _, ps_9]
            refine q_aload_n 0 84 dX12_plainCond_83 rfl rfl rfl ?_
            refine q_cVi 0 [0, 1, 2, 3] [] [0, 1, 2, 3] 87 (wr := []) (w1 := _) (ws' := [_, _, _, _]) (p_sum (T := T) (e := e) (n := sk T e n1 + 1) hT (by omega)) m_X12_168 dX12_plainCond_84 rfl rfl rfl rfl rfl rfl rfl rfl (by decide) (by decide) (by decide) (by decide) (Nat.le_of_ble_eq_true rfl) (by omega) (by omega) (by omega) rfl ?_
            refine q_istore_n 3 88 (L' := [_, _, _, _]) dX12_plainCond_87 rfl (by decide) rfl rfl ?_
            refine q_iload_n 2 89 dX12_plainCond_88 rfl rfl rfl ?_
            refine q_if_eq 105 92 dX12_plainCond_89 (by decide) rfl (fun h89 => ?_) (fun h89 => absurd rfl h89)
            refine q_iload_n 1 106 dX12_plainCond_105 rfl rfl rfl ?_
            refine q_iload_n 3 107 dX12_plainCond_106 rfl rfl rfl ?_
            refine q_icmp_le 114 110 dX12_plainCond_107 (by decide) rfl (fun hcmp => ?_) (fun hcmp => ?_)
            · refine q_iconst 0 115 dX12_plainCond_114 ic_0 rfl ?_
              refine q_zreturn dX12_plainCond_115 rfl (Or.inl rfl) ?_
              first
                | exact pR.mk (by rw [if_neg (Int32.not_lt.mpr hcmp)]) rfl
                | exact pR.mk (by rw [if_pos (Int32.not_le.mp hcmp)]) rfl
            · refine q_iconst 1 111 dX12_plainCond_110 ic_1 rfl ?_
              refine q_goto 115 dX12_plainCond_111 (by decide) ?_
              refine q_zreturn dX12_plainCond_115 rfl (Or.inr rfl) ?_
              first
                | exact pR.mk (by rw [if_neg (Int32.not_lt.mpr hcmp)]) rfl
                | exact pR.mk (by rw [if_pos (Int32.not_le.mp hcmp)]) rfl
          · rw [if_neg hgt]
            refine q_aload_n 0 1 dX12_plainCond_0 rfl rfl rfl ?_
            refine q_ldcS "serving" 3 sr_X12_157 dX12_plainCond_1 rfl ?_
            refine q_cVi 0 [0, 1, 2] [3] [1, 2, 3, 0] 6 (wr := [_]) (w1 := _) (ws' := [_, _, _, _]) (p_has sw_X12_157 (by decide) (T := T) (e := e) (n := n) hT hn2) m_X12_109 dX12_plainCond_3 rfl rfl rfl rfl rfl rfl rfl rfl (by decide) (by decide) (by decide) (by decide) (Nat.le_of_ble_eq_true rfl) (by omega) (by omega) (by omega) rfl ?_
            rw [show hasB T e n w_serving = 0 from if_neg h0, show hasN T e n w_serving = sk T e n from if_neg h0]
            refine q_if_eq 14 9 dX12_plainCond_6 (by decide) rfl (fun h6 => ?_) (fun h6 => absurd rfl h6)
            refine q_aload_n 0 15 dX12_plainCond_14 rfl rfl rfl ?_
            refine q_ldcS "off" 17 sr_X12_163 dX12_plainCond_15 rfl ?_
            refine q_cVi 0 [0, 1, 2] [3] [1, 2, 3, 0] 20 (wr := [_]) (w1 := _) (ws' := [_, _, _, _]) (p_has sw_X12_163 (by decide) (T := T) (e := e) (n := sk T e n) hT hb) m_X12_109 dX12_plainCond_17 rfl rfl rfl rfl rfl rfl rfl rfl (by decide) (by decide) (by decide) (by decide) (Nat.le_of_ble_eq_true rfl) (by omega) (by omega) (by omega) rfl ?_
            rw [hasB_f h1 hss, hasN_f h1 hss]
            refine q_if_eq 28 23 dX12_plainCond_20 (by decide) rfl (fun h20 => ?_) (fun h20 => absurd rfl h20)
            refine q_aload_n 0 29 dX12_plainCond_28 rfl rfl rfl ?_
            refine q_cVi 0 [0, 1, 2, 3] [] [0, 1, 2, 3] 32 (wr := []) (w1 := _) (ws' := [_, _, _, _]) (p_sum (T := T) (e := e) (n := sk T e n) hT hb) m_X12_168 dX12_plainCond_29 rfl rfl rfl rfl rfl rfl rfl rfl (by decide) (by decide) (by decide) (by decide) (Nat.le_of_ble_eq_true rfl) (by omega) (by omega) (by omega) rfl ?_
            rw [hr1]
            refine q_istore_n 1 33 (L' := [_, _, _, _]) dX12_plainCond_32 rfl (by decide) rfl rfl ?_
            refine q_aload_n 0 34 dX12_plainCond_33 rfl rfl rfl ?_
            refine q_getI 0 37 f_X12_22 dX12_plainCond_34 rfl rfl rfl ?_
            refine q_iconst (-1) 38 dX12_plainCond_37 ic_m1 rfl ?_
            refine q_icmp_eq 43 41 dX12_plainCond_38 (by decide) rfl (fun h38 => ?_) (fun h38 => absurd rfl h38)
            refine q_aload_n 0 44 dX12_plainCond_43 rfl rfl rfl ?_
            refine q_bipush 60 46 dX12_plainCond_44 bc_60 rfl ?_
            refine q_cVi 0 [0, 1, 2] [3] [1, 2, 3, 0] 49 (wr := [_]) (w1 := _) (ws' := [_, _, _, _]) (p_isSign (T := T) (e := e) (n := n1) hT hn1) m_X12_138 dX12_plainCond_46 rfl rfl rfl rfl rfl rfl rfl rfl (by decide) (by decide) (by decide) (by decide) (Nat.le_of_ble_eq_true rfl) (by omega) (by omega) (by omega) rfl ?_
            rw [if_neg hlt]
            refine q_istore_n 2 50 (L' := [_, _, _, _]) dX12_plainCond_49 rfl (by decide) rfl rfl ?_
            refine q_iload_n 2 51 dX12_plainCond_50 rfl rfl rfl ?_
            refine q_if_ne 73 54 dX12_plainCond_51 (by decide) rfl (fun h51 => absurd rfl h51) (fun h51 => ?_)
            refine q_aload_n 0 55 dX12_plainCond_54 rfl rfl rfl ?_
            refine q_bipush 62 57 dX12_plainCond_55 bc_62 rfl ?_
            refine q_cVi 0 [0, 1, 2] [3] [1, 2, 3, 0] 60 (wr := [_]) (w1 := _) (ws' := [_, _, _, _]) (p_isSign (T := T) (e := e) (n := sk T e n1) hT hn1s) m_X12_138 dX12_plainCond_57 rfl rfl rfl rfl rfl rfl rfl rfl (by decide) (by decide) (by decide) (by decide) (Nat.le_of_ble_eq_true rfl) (by omega) (by omega) (by omega) rfl ?_
            rw [hss1, if_neg hgt]
            refine q_if_ne 73 63 dX12_plainCond_60 (by decide) rfl (fun h60 => absurd rfl h60) (fun h60 => ?_)
            refine q_aload_n 0 64 dX12_plainCond_63 rfl rfl rfl ?_
            refine q_aload_n 0 65 dX12_plainCond_64 rfl rfl rfl ?_
            refine q_getI 0 68 f_X12_80 dX12_plainCond_65 rfl rfl rfl ?_
            refine q_cVv 0 [0] [1, 2, 3] [3, 0, 1, 2] 71 (wr := [_, _, _]) (w1 := _) (ws' := [_, _, _, _]) p_wrong m_X12_103 dX12_plainCond_68 rfl rfl rfl rfl rfl rfl rfl rfl (by decide) (by decide) (by decide) (by decide) (Nat.le_of_ble_eq_true rfl) (by omega) (by omega) (by omega) rfl ?_
            refine q_iconst 0 72 dX12_plainCond_71 ic_0 rfl ?_
            refine q_zreturn dX12_plainCond_72 rfl (Or.inl rfl) ?_
            exact pR.rf
      · rw [if_neg hf]
        refine q_aload_n 0 1 dX12_plainCond_0 rfl rfl rfl ?_
        refine q_ldcS "serving" 3 sr_X12_157 dX12_plainCond_1 rfl ?_
        refine q_cVi 0 [0, 1, 2] [3] [1, 2, 3, 0] 6 (wr := [_]) (w1 := _) (ws' := [_, _, _, _]) (p_has sw_X12_157 (by decide) (T := T) (e := e) (n := n) hT hn2) m_X12_109 dX12_plainCond_3 rfl rfl rfl rfl rfl rfl rfl rfl (by decide) (by decide) (by decide) (by decide) (Nat.le_of_ble_eq_true rfl) (by omega) (by omega) (by omega) rfl ?_
        rw [show hasB T e n w_serving = 0 from if_neg h0, show hasN T e n w_serving = sk T e n from if_neg h0]
        refine q_if_eq 14 9 dX12_plainCond_6 (by decide) rfl (fun h6 => ?_) (fun h6 => absurd rfl h6)
        refine q_aload_n 0 15 dX12_plainCond_14 rfl rfl rfl ?_
        refine q_ldcS "off" 17 sr_X12_163 dX12_plainCond_15 rfl ?_
        refine q_cVi 0 [0, 1, 2] [3] [1, 2, 3, 0] 20 (wr := [_]) (w1 := _) (ws' := [_, _, _, _]) (p_has sw_X12_163 (by decide) (T := T) (e := e) (n := sk T e n) hT hb) m_X12_109 dX12_plainCond_17 rfl rfl rfl rfl rfl rfl rfl rfl (by decide) (by decide) (by decide) (by decide) (Nat.le_of_ble_eq_true rfl) (by omega) (by omega) (by omega) rfl ?_
        rw [hasB_f h1 hss, hasN_f h1 hss]
        refine q_if_eq 28 23 dX12_plainCond_20 (by decide) rfl (fun h20 => ?_) (fun h20 => absurd rfl h20)
        refine q_aload_n 0 29 dX12_plainCond_28 rfl rfl rfl ?_
        refine q_cVi 0 [0, 1, 2, 3] [] [0, 1, 2, 3] 32 (wr := []) (w1 := _) (ws' := [_, _, _, _]) (p_sum (T := T) (e := e) (n := sk T e n) hT hb) m_X12_168 dX12_plainCond_29 rfl rfl rfl rfl rfl rfl rfl rfl (by decide) (by decide) (by decide) (by decide) (Nat.le_of_ble_eq_true rfl) (by omega) (by omega) (by omega) rfl ?_
        rw [hr1]
        refine q_istore_n 1 33 (L' := [_, _, _, _]) dX12_plainCond_32 rfl (by decide) rfl rfl ?_
        refine q_aload_n 0 34 dX12_plainCond_33 rfl rfl rfl ?_
        refine q_getI 0 37 f_X12_22 dX12_plainCond_34 rfl rfl rfl ?_
        refine q_iconst (-1) 38 dX12_plainCond_37 ic_m1 rfl ?_
        refine q_icmp_eq 43 41 dX12_plainCond_38 (by decide) rfl (fun h38 => absurd h38 hf) (fun h38 => ?_)
        refine q_iconst 0 42 dX12_plainCond_41 ic_0 rfl ?_
        refine q_zreturn dX12_plainCond_42 rfl (Or.inl rfl) ?_
        exact pR.rf

