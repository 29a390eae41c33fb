/-! ===== Laws: a text of the court, over things ===== -/
theorem pn_yes {L : List Tok} {e k : Nat} {lo hi : Int32} (h : isN L e k lo hi) : pnV L e k lo hi = (tA L e k).2.2 ∧ pnK L e k lo hi = k + 1 := ⟨if_pos h, if_pos h⟩
theorem pn_no {L : List Tok} {e k : Nat} {lo hi : Int32} (h : ¬ isN L e k lo hi) : pnV L e k lo hi = -1 ∧ pnK L e k lo hi = k := ⟨if_neg h, if_neg h⟩
theorem pn_is {L : List Tok} {e k : Nat} {lo hi : Int32} (h : ¬ pnV L e k lo hi = -1) : isN L e k lo hi := Classical.byContradiction fun h2 => h (if_neg h2)
theorem pn_nat {L : List Tok} {e k h : Nat} (hh : h < 2 ^ 31) (hv : ¬ pnV L e k 0 (nI h) = -1) : ∃ v : Nat, v ≤ h ∧ pnV L e k 0 (nI h) = nI v := by
  have h1 := pn_is hv
  rw [(pn_yes h1).1]
  exact nat_to (Int32.not_lt.mp h1.2.1) h1.2.2 hh
theorem ps_yes {L : List Tok} {e k : Nat} {v : Int32} (h : ¬ psB L e k v = 0) : isT L e k v := Classical.byContradiction fun h2 => h (if_neg h2)
theorem ps_no {L : List Tok} {e k : Nat} {v : Int32} (h : psB L e k v = 0) : ¬ isT L e k v := fun h2 => absurd (((if_pos h2).symm.trans h) : (1 : Int32) = 0) (by decide)
/-- readOutcome: which, and where -/
def roR (L : List Tok) (e k : Nat) : Int32 × Nat :=
  if psB L e k 3 = 0 then (if psB L e (psK L e k 3) 4 = 0 then (if psB L e (psK L e (psK L e k 3) 4) 5 = 0 then (-1, psK L e (psK L e (psK L e k 3) 4) 5)
    else (if pnV L e (psK L e (psK L e (psK L e k 3) 4) 5) 0 9 = -1 then -1 else 2 + pnV L e (psK L e (psK L e (psK L e k 3) 4) 5) 0 9, pnK L e (psK L e (psK L e (psK L e k 3) 4) 5) 0 9))
  else (1, psK L e (psK L e k 3) 4)) else (0, psK L e k 3)
theorem c_X0_readOutcome {l : Launch} {g : Gh} {q t b n x e k : Nat} {j th be nu : Sc} {L : List Tok} (hR : RepT L e j th be nu) (hk : k ≤ L.length) : Cp l g yX0_readOutcome (Cond.code yX0_readOutcome cX0_readOutcome 2 (some .int)) 2 [.ref q] [(q, ob 7 (upd j 6 (nI k)) (rS t b n x)), (t, aI g 401 th), (b, aI g 401 be), (n, aI g 401 nu)] (some (.int (roR L e k).1)) [(q, ob 7 (upd j 6 (nI (roR L e k).2)) (rS t b n x)), (t, aI g 401 th), (b, aI g 401 be), (n, aI g 401 nu)] := by
  refine ct_of (M := mtX0_readOutcome) [some (.ref q), none] rfl (by decide) (Nat.le_of_ble_eq_true rfl) (fun _ h => h) (fun a => ?_)
  unfold roR
  refine q_aload_n 0 1 dX0_readOutcome_0 rfl rfl rfl ?_
  refine q_iconst 3 2 dX0_readOutcome_1 ic_3 rfl ?_
  refine q_cVi 0 [0, 1, 2, 3] [] [0, 1, 2, 3] 5 (wr := []) (w1 := _) (ws' := [_, _, _, _]) (c_X7_passes hR hk) m_X0_51 dX0_readOutcome_2 rfl rfl rfl rfl rfl rfl rfl rfl (by decide) (by decide) (by decide) (by decide) (Nat.le_of_ble_eq_true rfl) (by omega) (by omega) (by omega) rfl ?_
  refine q_if_eq 10 8 dX0_readOutcome_5 (by decide) rfl (fun h1 => ?_) (fun h1 => ?_)
  · refine q_aload_n 0 11 dX0_readOutcome_10 rfl rfl rfl ?_
    refine q_iconst 4 12 dX0_readOutcome_11 ic_4 rfl ?_
    refine q_cVi 0 [0, 1, 2, 3] [] [0, 1, 2, 3] 15 (wr := []) (w1 := _) (ws' := [_, _, _, _]) (c_X7_passes hR (psK_le hk)) m_X0_51 dX0_readOutcome_12 rfl rfl rfl rfl rfl rfl rfl rfl (by decide) (by decide) (by decide) (by decide) (Nat.le_of_ble_eq_true rfl) (by omega) (by omega) (by omega) rfl ?_
    refine q_if_eq 20 18 dX0_readOutcome_15 (by decide) rfl (fun h2 => ?_) (fun h2 => ?_)
    · refine q_aload_n 0 21 dX0_readOutcome_20 rfl rfl rfl ?_
      refine q_iconst 5 22 dX0_readOutcome_21 ic_5 rfl ?_
      refine q_cVi 0 [0, 1, 2, 3] [] [0, 1, 2, 3] 25 (wr := []) (w1 := _) (ws' := [_, _, _, _]) (c_X7_passes hR (psK_le (psK_le hk))) m_X0_51 dX0_readOutcome_22 rfl rfl rfl rfl rfl rfl rfl rfl (by decide) (by decide) (by decide) (by decide) (Nat.le_of_ble_eq_true rfl) (by omega) (by omega) (by omega) rfl ?_
      refine q_if_ne 30 28 dX0_readOutcome_25 (by decide) rfl (fun h3 => ?_) (fun h3 => ?_)
      · refine q_aload_n 0 31 dX0_readOutcome_30 rfl rfl rfl ?_
        refine q_iconst 0 32 dX0_readOutcome_31 ic_0 rfl ?_
        refine q_bipush 9 34 dX0_readOutcome_32 bc_9 rfl ?_
        refine q_cVi 0 [0, 1, 2, 3] [] [0, 1, 2, 3] 37 (wr := []) (w1 := _) (ws' := [_, _, _, _]) (c_X7_passNumber hR (psK_le (psK_le (psK_le hk)))) m_X0_58 dX0_readOutcome_34 rfl rfl rfl rfl rfl rfl rfl rfl (by decide) (by decide) (by decide) (by decide) (Nat.le_of_ble_eq_true rfl) (by omega) (by omega) (by omega) rfl ?_
        refine q_istore_n 1 38 (L' := [_, _]) dX0_readOutcome_37 rfl (by decide) rfl rfl ?_
        refine q_iload_n 1 39 dX0_readOutcome_38 rfl rfl rfl ?_
        refine q_iconst (-1) 40 dX0_readOutcome_39 ic_m1 rfl ?_
        refine q_icmp_ne 47 43 dX0_readOutcome_40 (by decide) rfl (fun h4 => ?_) (fun h4 => ?_)
        · refine q_iconst 2 48 dX0_readOutcome_47 ic_2 rfl ?_
          refine q_iload_n 1 49 dX0_readOutcome_48 rfl rfl rfl ?_
          refine q_iadd 50 dX0_readOutcome_49 rfl ?_
          refine q_ireturn dX0_readOutcome_50 rfl ?_
          first
            | (rw [if_neg h1]; exact pR.rf)
            | (rw [if_pos h1, if_neg h2]; exact pR.rf)
            | (rw [if_pos h1, if_pos h2, if_pos h3]; exact pR.rf)
            | (rw [if_pos h1, if_pos h2, if_neg h3, if_pos h4]; exact pR.rf)
            | (rw [if_pos h1, if_pos h2, if_neg h3, if_neg h4]; exact pR.rf)
        · refine q_iconst (-1) 44 dX0_readOutcome_43 ic_m1 rfl ?_
          refine q_goto 50 dX0_readOutcome_44 (by decide) ?_
          refine q_ireturn dX0_readOutcome_50 rfl ?_
          first
            | (rw [if_neg h1]; exact pR.rf)
            | (rw [if_pos h1, if_neg h2]; exact pR.rf)
            | (rw [if_pos h1, if_pos h2, if_pos h3]; exact pR.rf)
            | (rw [if_pos h1, if_pos h2, if_neg h3, if_pos h4]; exact pR.rf)
            | (rw [if_pos h1, if_pos h2, if_neg h3, if_neg h4]; exact pR.rf)
      · refine q_iconst (-1) 29 dX0_readOutcome_28 ic_m1 rfl ?_
        refine q_ireturn dX0_readOutcome_29 rfl ?_
        first
          | (rw [if_neg h1]; exact pR.rf)
          | (rw [if_pos h1, if_neg h2]; exact pR.rf)
          | (rw [if_pos h1, if_pos h2, if_pos h3]; exact pR.rf)
          | (rw [if_pos h1, if_pos h2, if_neg h3, if_pos h4]; exact pR.rf)
          | (rw [if_pos h1, if_pos h2, if_neg h3, if_neg h4]; exact pR.rf)
    · refine q_iconst 1 19 dX0_readOutcome_18 ic_1 rfl ?_
      refine q_ireturn dX0_readOutcome_19 rfl ?_
      first
        | (rw [if_neg h1]; exact pR.rf)
        | (rw [if_pos h1, if_neg h2]; exact pR.rf)
        | (rw [if_pos h1, if_pos h2, if_pos h3]; exact pR.rf)
        | (rw [if_pos h1, if_pos h2, if_neg h3, if_pos h4]; exact pR.rf)
        | (rw [if_pos h1, if_pos h2, if_neg h3, if_neg h4]; exact pR.rf)
  · refine q_iconst 0 9 dX0_readOutcome_8 ic_0 rfl ?_
    refine q_ireturn dX0_readOutcome_9 rfl ?_
    first
      | (rw [if_neg h1]; exact pR.rf)
      | (rw [if_pos h1, if_neg h2]; exact pR.rf)
      | (rw [if_pos h1, if_pos h2, if_pos h3]; exact pR.rf)
      | (rw [if_pos h1, if_pos h2, if_neg h3, if_pos h4]; exact pR.rf)
      | (rw [if_pos h1, if_pos h2, if_neg h3, if_neg h4]; exact pR.rf)
theorem roR_le {L : List Tok} {e k : Nat} (hk : k ≤ L.length) : (roR L e k).2 ≤ L.length := by
  unfold roR
  have h1 := psK_le (e := e) (v := 3) hk
  have h2 := psK_le (e := e) (v := 4) h1
  have h3 := psK_le (e := e) (v := 5) h2
  have h4 := pnK_le (e := e) (lo := 0) (hi := 9) h3
  split
  · split
    · split
      · exact h3
      · exact h4
    · exact h2
  · exact h1
theorem roR_nat {L : List Tok} {e k : Nat} (h : ¬ (roR L e k).1 = -1) : ∃ o : Nat, o ≤ 11 ∧ (roR L e k).1 = nI o := by
  unfold roR at *
  by_cases h1 : psB L e k 3 = 0
  · rw [if_pos h1] at *
    by_cases h2 : psB L e (psK L e k 3) 4 = 0
    · rw [if_pos h2] at *
      by_cases h3 : psB L e (psK L e (psK L e k 3) 4) 5 = 0
      · rw [if_pos h3] at h; exact absurd rfl h
      · rw [if_neg h3] at *
        by_cases h4 : pnV L e (psK L e (psK L e (psK L e k 3) 4) 5) 0 9 = -1
        · dsimp only at h
          rw [if_pos h4] at h; exact absurd rfl h
        · dsimp only
          rw [if_neg h4]
          obtain ⟨v, hv, e1⟩ := pn_nat (h := 9) (by decide) h4
          have e1 : pnV L e (psK L e (psK L e (psK L e k 3) 4) 5) 0 9 = nI v := e1
          exact ⟨2 + v, by omega, by rw [e1]; exact nI_add 2 v⟩
    · rw [if_neg h2]; exact ⟨1, by decide, rfl⟩
  · rw [if_neg h1]; exact ⟨0, by decide, rfl⟩
/-- readRally: whether, where, and the chances -/
def rrR (L : List Tok) (e k : Nat) (ch : Sc) : Int32 × Nat × Sc :=
  let v1 := pnV L e k 0 3; let k1 := pnK L e k 0 3
  if v1 = -1 then (0, k1, ch) else
  let v2 := pnV L e k1 0 3; let k2 := pnK L e k1 0 3
  if v2 = -1 then (0, k2, ch) else
  let r3 := roR L e k2
  if r3.1 = -1 then (0, r3.2, ch) else
  let v4 := pnV L e r3.2 0 100; let k4 := pnK L e r3.2 0 100
  if v4 = -1 then (0, k4, ch) else (1, k4, upd ch (12 * (4 * v1.toNatClampNeg + v2.toNatClampNeg) + r3.1.toNatClampNeg) v4)
theorem ix_chr (s h w : Nat) : (nI s * 4 + nI h) * 12 + nI w = nI (12 * (4 * s + h) + w) := by
  rw [show (4 : Int32) = nI 4 from by decide, show (12 : Int32) = nI 12 from by decide, pk_mul, nI_add, pk_mul, nI_add]
  congr 1
  omega
theorem c_X0_readRally {l : Launch} {g : Gh} {ql c q t b n x e k : Nat} {i ch j th be nu : Sc} {L : List Tok} (hR : RepT L e j th be nu) (hk : k ≤ L.length) : Cp l g yX0_readRally (Cond.code yX0_readRally cX0_readRally 6 (some .boolean)) 3 [.ref ql, .ref q] [(ql, ob 0 i (rL c)), (c, aI g 192 ch), (q, ob 7 (upd j 6 (nI k)) (rS t b n x)), (t, aI g 401 th), (b, aI g 401 be), (n, aI g 401 nu)] (some (.int (rrR L e k ch).1)) [(ql, ob 0 i (rL c)), (c, aI g 192 (rrR L e k ch).2.2), (q, ob 7 (upd j 6 (nI (rrR L e k ch).2.1)) (rS t b n x)), (t, aI g 401 th), (b, aI g 401 be), (n, aI g 401 nu)] := by
  refine ct_of (M := mtX0_readRally) [some (.ref ql), some (.ref q), none, none, none, none] rfl (by decide) (Nat.le_of_ble_eq_true rfl) (fun _ h => h) (fun a => ?_)
  unfold rrR
  dsimp only
  have hk1 := pnK_le (e := e) (lo := 0) (hi := 3) hk
  have hn1 := fun h => pn_nat (L := L) (e := e) (k := k) (h := 3) (by decide) h
  generalize hv1 : pnV L e k 0 3 = v1 at *
  have hc1 := fun (i1 : Sc) => c_X7_passNumber (l := l) (g := g) (q := q) (t := t) (b := b) (n := n) (x := x) (k := k) (lo := 0) (hi := 3) hR hk
  rw [hv1] at hc1
  generalize pnK L e k 0 3 = k1 at *
  by_cases g1 : v1 = -1
  · rw [if_pos g1]
    refine q_aload_n 1 1 dX0_readRally_0 rfl rfl rfl ?_
    refine q_iconst 0 2 dX0_readRally_1 ic_0 rfl ?_
    refine q_iconst 3 3 dX0_readRally_2 ic_3 rfl ?_
    refine q_cVi 2 [2, 3, 4, 5] [0, 1] [0, 1, 2, 3, 4, 5] 6 (wr := [_, _]) (w1 := _) (ws' := [_, _, _, _, _, _]) (hc1 i) m_X0_58 dX0_readRally_3 rfl rfl rfl rfl rfl rfl rfl rfl (by decide) (by decide) (by decide) (by decide) (Nat.le_of_ble_eq_true rfl) (by omega) (by omega) (by omega) rfl ?_
    refine q_istore_n 2 7 (L' := [_, _, _, _, _, _]) dX0_readRally_6 rfl (by decide) rfl rfl ?_
    refine q_iload_n 2 8 dX0_readRally_7 rfl rfl rfl ?_
    refine q_iconst (-1) 9 dX0_readRally_8 ic_m1 rfl ?_
    refine q_icmp_ne 14 12 dX0_readRally_9 (by decide) rfl (fun h9 => absurd g1 h9) (fun h9 => ?_)
    refine q_iconst 0 13 dX0_readRally_12 ic_0 rfl ?_
    refine q_zreturn dX0_readRally_13 rfl (Or.inl rfl) ?_
    exact pR.rf
  · rw [if_neg g1]
    obtain ⟨s1, hs1, es1⟩ := hn1 (by show ¬ pnV L e k 0 3 = -1; rw [hv1]; exact g1)
    have es1 : v1 = nI s1 := hv1.symm.trans es1
    have hk2 := pnK_le (e := e) (lo := 0) (hi := 3) hk1
    have hn2 := fun h => pn_nat (L := L) (e := e) (k := k1) (h := 3) (by decide) h
    generalize hv2 : pnV L e k1 0 3 = v2 at *
    have hc2 := fun (i1 : Sc) => c_X7_passNumber (l := l) (g := g) (q := q) (t := t) (b := b) (n := n) (x := x) (k := k1) (lo := 0) (hi := 3) hR hk1
    rw [hv2] at hc2
    generalize pnK L e k1 0 3 = k2 at *
    by_cases g2 : v2 = -1
    · rw [if_pos g2]
      refine q_aload_n 1 1 dX0_readRally_0 rfl rfl rfl ?_
      refine q_iconst 0 2 dX0_readRally_1 ic_0 rfl ?_
      refine q_iconst 3 3 dX0_readRally_2 ic_3 rfl ?_
      refine q_cVi 2 [2, 3, 4, 5] [0, 1] [0, 1, 2, 3, 4, 5] 6 (wr := [_, _]) (w1 := _) (ws' := [_, _, _, _, _, _]) (hc1 i) m_X0_58 dX0_readRally_3 rfl rfl rfl rfl rfl rfl rfl rfl (by decide) (by decide) (by decide) (by decide) (Nat.le_of_ble_eq_true rfl) (by omega) (by omega) (by omega) rfl ?_
      refine q_istore_n 2 7 (L' := [_, _, _, _, _, _]) dX0_readRally_6 rfl (by decide) rfl rfl ?_
      refine q_iload_n 2 8 dX0_readRally_7 rfl rfl rfl ?_
      refine q_iconst (-1) 9 dX0_readRally_8 ic_m1 rfl ?_
      refine q_icmp_ne 14 12 dX0_readRally_9 (by decide) rfl (fun h9 => ?_) (fun h9 => absurd h9 g1)
      refine q_aload_n 1 15 dX0_readRally_14 rfl rfl rfl ?_
      refine q_iconst 0 16 dX0_readRally_15 ic_0 rfl ?_
      refine q_iconst 3 17 dX0_readRally_16 ic_3 rfl ?_
      refine q_cVi 2 [2, 3, 4, 5] [0, 1] [0, 1, 2, 3, 4, 5] 20 (wr := [_, _]) (w1 := _) (ws' := [_, _, _, _, _, _]) (hc2 i) m_X0_58 dX0_readRally_17 rfl rfl rfl rfl rfl rfl rfl rfl (by decide) (by decide) (by decide) (by decide) (Nat.le_of_ble_eq_true rfl) (by omega) (by omega) (by omega) rfl ?_
      refine q_istore_n 3 21 (L' := [_, _, _, _, _, _]) dX0_readRally_20 rfl (by decide) rfl rfl ?_
      refine q_iload_n 3 22 dX0_readRally_21 rfl rfl rfl ?_
      refine q_iconst (-1) 23 dX0_readRally_22 ic_m1 rfl ?_
      refine q_icmp_ne 28 26 dX0_readRally_23 (by decide) rfl (fun h23 => absurd g2 h23) (fun h23 => ?_)
      refine q_iconst 0 27 dX0_readRally_26 ic_0 rfl ?_
      refine q_zreturn dX0_readRally_27 rfl (Or.inl rfl) ?_
      exact pR.rf
    · rw [if_neg g2]
      obtain ⟨s2, hs2, es2⟩ := hn2 (by show ¬ pnV L e k1 0 3 = -1; rw [hv2]; exact g2)
      have es2 : v2 = nI s2 := hv2.symm.trans es2
      have hk3 := roR_le (e := e) hk2
      have hn3 := roR_nat (L := L) (e := e) (k := k2)
      have hc3 := c_X0_readOutcome (l := l) (g := g) (q := q) (t := t) (b := b) (n := n) (x := x) (k := k2) hR hk2
      generalize roR L e k2 = r3 at *
      obtain ⟨v3, k3⟩ := r3
      dsimp only at hk3 hn3 hc3 ⊢
      by_cases g3 : v3 = -1
      · rw [if_pos g3]
        refine q_aload_n 1 1 dX0_readRally_0 rfl rfl rfl ?_
        refine q_iconst 0 2 dX0_readRally_1 ic_0 rfl ?_
        refine q_iconst 3 3 dX0_readRally_2 ic_3 rfl ?_
        refine q_cVi 2 [2, 3, 4, 5] [0, 1] [0, 1, 2, 3, 4, 5] 6 (wr := [_, _]) (w1 := _) (ws' := [_, _, _, _, _, _]) (hc1 i) m_X0_58 dX0_readRally_3 rfl rfl rfl rfl rfl rfl rfl rfl (by decide) (by decide) (by decide) (by decide) (Nat.le_of_ble_eq_true rfl) (by omega) (by omega) (by omega) rfl ?_
        refine q_istore_n 2 7 (L' := [_, _, _, _, _, _]) dX0_readRally_6 rfl (by decide) rfl rfl ?_
        refine q_iload_n 2 8 dX0_readRally_7 rfl rfl rfl ?_
        refine q_iconst (-1) 9 dX0_readRally_8 ic_m1 rfl ?_
        refine q_icmp_ne 14 12 dX0_readRally_9 (by decide) rfl (fun h9 => ?_) (fun h9 => absurd h9 g1)
        refine q_aload_n 1 15 dX0_readRally_14 rfl rfl rfl ?_
        refine q_iconst 0 16 dX0_readRally_15 ic_0 rfl ?_
        refine q_iconst 3 17 dX0_readRally_16 ic_3 rfl ?_
        refine q_cVi 2 [2, 3, 4, 5] [0, 1] [0, 1, 2, 3, 4, 5] 20 (wr := [_, _]) (w1 := _) (ws' := [_, _, _, _, _, _]) (hc2 i) m_X0_58 dX0_readRally_17 rfl rfl rfl rfl rfl rfl rfl rfl (by decide) (by decide) (by decide) (by decide) (Nat.le_of_ble_eq_true rfl) (by omega) (by omega) (by omega) rfl ?_
        refine q_istore_n 3 21 (L' := [_, _, _, _, _, _]) dX0_readRally_20 rfl (by decide) rfl rfl ?_
        refine q_iload_n 3 22 dX0_readRally_21 rfl rfl rfl ?_
        refine q_iconst (-1) 23 dX0_readRally_22 ic_m1 rfl ?_
        refine q_icmp_ne 28 26 dX0_readRally_23 (by decide) rfl (fun h23 => ?_) (fun h23 => absurd h23 g2)
        refine q_aload_n 1 29 dX0_readRally_28 rfl rfl rfl ?_
        refine q_cSi [2, 3, 4, 5] [0, 1] [0, 1, 2, 3, 4, 5] 32 (wr := [_, _]) (w1 := _) (ws' := [_, _, _, _, _, _]) hc3 m_X0_62 dX0_readRally_29 rfl rfl rfl rfl rfl (by decide) (by decide) (by decide) (by decide) (Nat.le_of_ble_eq_true rfl) (by omega) (by omega) (by omega) rfl ?_
        refine q_istore 4 34 (L' := [_, _, _, _, _, _]) dX0_readRally_32 (by decide) rfl rfl ?_
        refine q_iload 4 36 dX0_readRally_34 rfl rfl ?_
        refine q_iconst (-1) 37 dX0_readRally_36 ic_m1 rfl ?_
        refine q_icmp_ne 42 40 dX0_readRally_37 (by decide) rfl (fun h37 => absurd g3 h37) (fun h37 => ?_)
        refine q_iconst 0 41 dX0_readRally_40 ic_0 rfl ?_
        refine q_zreturn dX0_readRally_41 rfl (Or.inl rfl) ?_
        exact pR.rf
      · rw [if_neg g3]
        obtain ⟨s3, hs3, es3⟩ := hn3 g3
        generalize hv4 : pnV L e k3 0 100 = v4 at *
        have hc4 := fun (i1 : Sc) => c_X7_passNumber (l := l) (g := g) (q := q) (t := t) (b := b) (n := n) (x := x) (k := k3) (lo := 0) (hi := 100) hR hk3
        rw [hv4] at hc4
        generalize pnK L e k3 0 100 = k4 at *
        have hb1 : 12 * (4 * s1 + s2) + s3 < 192 := by omega
        have hix : (v1 * 4 + v2) * 12 + v3 = nI (12 * (4 * s1 + s2) + s3) := by rw [es1, es2, es3, ix_chr]
        rw [es1, es2, es3, nI_clamp (by omega), nI_clamp (by omega), nI_clamp (by omega)]
        generalize 12 * (4 * s1 + s2) + s3 = kx at *
        by_cases g4 : v4 = -1
        · rw [if_pos g4]
          refine q_aload_n 1 1 dX0_readRally_0 rfl rfl rfl ?_
          refine q_iconst 0 2 dX0_readRally_1 ic_0 rfl ?_
          refine q_iconst 3 3 dX0_readRally_2 ic_3 rfl ?_
          refine q_cVi 2 [2, 3, 4, 5] [0, 1] [0, 1, 2, 3, 4, 5] 6 (wr := [_, _]) (w1 := _) (ws' := [_, _, _, _, _, _]) (hc1 i) m_X0_58 dX0_readRally_3 rfl rfl rfl rfl rfl rfl rfl rfl (by decide) (by decide) (by decide) (by decide) (Nat.le_of_ble_eq_true rfl) (by omega) (by omega) (by omega) rfl ?_
          refine q_istore_n 2 7 (L' := [_, _, _, _, _, _]) dX0_readRally_6 rfl (by decide) rfl rfl ?_
          refine q_iload_n 2 8 dX0_readRally_7 rfl rfl rfl ?_
          refine q_iconst (-1) 9 dX0_readRally_8 ic_m1 rfl ?_
          refine q_icmp_ne 14 12 dX0_readRally_9 (by decide) rfl (fun h9 => ?_) (fun h9 => absurd h9 g1)
          refine q_aload_n 1 15 dX0_readRally_14 rfl rfl rfl ?_
          refine q_iconst 0 16 dX0_readRally_15 ic_0 rfl ?_
          refine q_iconst 3 17 dX0_readRally_16 ic_3 rfl ?_
          refine q_cVi 2 [2, 3, 4, 5] [0, 1] [0, 1, 2, 3, 4, 5] 20 (wr := [_, _]) (w1 := _) (ws' := [_, _, _, _, _, _]) (hc2 i) m_X0_58 dX0_readRally_17 rfl rfl rfl rfl rfl rfl rfl rfl (by decide) (by decide) (by decide) (by decide) (Nat.le_of_ble_eq_true rfl) (by omega) (by omega) (by omega) rfl ?_
          refine q_istore_n 3 21 (L' := [_, _, _, _, _, _]) dX0_readRally_20 rfl (by decide) rfl rfl ?_
          refine q_iload_n 3 22 dX0_readRally_21 rfl rfl rfl ?_
          refine q_iconst (-1) 23 dX0_readRally_22 ic_m1 rfl ?_
          refine q_icmp_ne 28 26 dX0_readRally_23 (by decide) rfl (fun h23 => ?_) (fun h23 => absurd h23 g2)
          refine q_aload_n 1 29 dX0_readRally_28 rfl rfl rfl ?_
          refine q_cSi [2, 3, 4, 5] [0, 1] [0, 1, 2, 3, 4, 5] 32 (wr := [_, _]) (w1 := _) (ws' := [_, _, _, _, _, _]) hc3 m_X0_62 dX0_readRally_29 rfl rfl rfl rfl rfl (by decide) (by decide) (by decide) (by decide) (Nat.le_of_ble_eq_true rfl) (by omega) (by omega) (by omega) rfl ?_
          refine q_istore 4 34 (L' := [_, _, _, _, _, _]) dX0_readRally_32 (by decide) rfl rfl ?_
          refine q_iload 4 36 dX0_readRally_34 rfl rfl ?_
          refine q_iconst (-1) 37 dX0_readRally_36 ic_m1 rfl ?_
          refine q_icmp_ne 42 40 dX0_readRally_37 (by decide) rfl (fun h37 => ?_) (fun h37 => absurd h37 g3)
          refine q_aload_n 1 43 dX0_readRally_42 rfl rfl rfl ?_
          refine q_iconst 0 44 dX0_readRally_43 ic_0 rfl ?_
          refine q_bipush 100 46 dX0_readRally_44 bc_100 rfl ?_
          refine q_cVi 2 [2, 3, 4, 5] [0, 1] [0, 1, 2, 3, 4, 5] 49 (wr := [_, _]) (w1 := _) (ws' := [_, _, _, _, _, _]) (hc4 i) m_X0_58 dX0_readRally_46 rfl rfl rfl rfl rfl rfl rfl rfl (by decide) (by decide) (by decide) (by decide) (Nat.le_of_ble_eq_true rfl) (by omega) (by omega) (by omega) rfl ?_
          refine q_istore 5 51 (L' := [_, _, _, _, _, _]) dX0_readRally_49 (by decide) rfl rfl ?_
          refine q_iload 5 53 dX0_readRally_51 rfl rfl ?_
          refine q_iconst (-1) 54 dX0_readRally_53 ic_m1 rfl ?_
          refine q_icmp_ne 59 57 dX0_readRally_54 (by decide) rfl (fun h54 => absurd g4 h54) (fun h54 => ?_)
          refine q_iconst 0 58 dX0_readRally_57 ic_0 rfl ?_
          refine q_zreturn dX0_readRally_58 rfl (Or.inl rfl) ?_
          exact pR.rf
        · rw [if_neg g4]
          refine q_aload_n 1 1 dX0_readRally_0 rfl rfl rfl ?_
          refine q_iconst 0 2 dX0_readRally_1 ic_0 rfl ?_
          refine q_iconst 3 3 dX0_readRally_2 ic_3 rfl ?_
          refine q_cVi 2 [2, 3, 4, 5] [0, 1] [0, 1, 2, 3, 4, 5] 6 (wr := [_, _]) (w1 := _) (ws' := [_, _, _, _, _, _]) (hc1 i) m_X0_58 dX0_readRally_3 rfl rfl rfl rfl rfl rfl rfl rfl (by decide) (by decide) (by decide) (by decide) (Nat.le_of_ble_eq_true rfl) (by omega) (by omega) (by omega) rfl ?_
          refine q_istore_n 2 7 (L' := [_, _, _, _, _, _]) dX0_readRally_6 rfl (by decide) rfl rfl ?_
          refine q_iload_n 2 8 dX0_readRally_7 rfl rfl rfl ?_
          refine q_iconst (-1) 9 dX0_readRally_8 ic_m1 rfl ?_
          refine q_icmp_ne 14 12 dX0_readRally_9 (by decide) rfl (fun h9 => ?_) (fun h9 => absurd h9 g1)
          refine q_aload_n 1 15 dX0_readRally_14 rfl rfl rfl ?_
          refine q_iconst 0 16 dX0_readRally_15 ic_0 rfl ?_
          refine q_iconst 3 17 dX0_readRally_16 ic_3 rfl ?_
          refine q_cVi 2 [2, 3, 4, 5] [0, 1] [0, 1, 2, 3, 4, 5] 20 (wr := [_, _]) (w1 := _) (ws' := [_, _, _, _, _, _]) (hc2 i) m_X0_58 dX0_readRally_17 rfl rfl rfl rfl rfl rfl rfl rfl (by decide) (by decide) (by decide) (by decide) (Nat.le_of_ble_eq_true rfl) (by omega) (by omega) (by omega) rfl ?_
          refine q_istore_n 3 21 (L' := [_, _, _, _, _, _]) dX0_readRally_20 rfl (by decide) rfl rfl ?_
          refine q_iload_n 3 22 dX0_readRally_21 rfl rfl rfl ?_
          refine q_iconst (-1) 23 dX0_readRally_22 ic_m1 rfl ?_
          refine q_icmp_ne 28 26 dX0_readRally_23 (by decide) rfl (fun h23 => ?_) (fun h23 => absurd h23 g2)
          refine q_aload_n 1 29 dX0_readRally_28 rfl rfl rfl ?_
          refine q_cSi [2, 3, 4, 5] [0, 1] [0, 1, 2, 3, 4, 5] 32 (wr := [_, _]) (w1 := _) (ws' := [_, _, _, _, _, _]) hc3 m_X0_62 dX0_readRally_29 rfl rfl rfl rfl rfl (by decide) (by decide) (by decide) (by decide) (Nat.le_of_ble_eq_true rfl) (by omega) (by omega) (by omega) rfl ?_
          refine q_istore 4 34 (L' := [_, _, _, _, _, _]) dX0_readRally_32 (by decide) rfl rfl ?_
          refine q_iload 4 36 dX0_readRally_34 rfl rfl ?_
          refine q_iconst (-1) 37 dX0_readRally_36 ic_m1 rfl ?_
          refine q_icmp_ne 42 40 dX0_readRally_37 (by decide) rfl (fun h37 => ?_) (fun h37 => absurd h37 g3)
          refine q_aload_n 1 43 dX0_readRally_42 rfl rfl rfl ?_
          refine q_iconst 0 44 dX0_readRally_43 ic_0 rfl ?_
          refine q_bipush 100 46 dX0_readRally_44 bc_100 rfl ?_
          refine q_cVi 2 [2, 3, 4, 5] [0, 1] [0, 1, 2, 3, 4, 5] 49 (wr := [_, _]) (w1 := _) (ws' := [_, _, _, _, _, _]) (hc4 i) m_X0_58 dX0_readRally_46 rfl rfl rfl rfl rfl rfl rfl rfl (by decide) (by decide) (by decide) (by decide) (Nat.le_of_ble_eq_true rfl) (by omega) (by omega) (by omega) rfl ?_
          refine q_istore 5 51 (L' := [_, _, _, _, _, _]) dX0_readRally_49 (by decide) rfl rfl ?_
          refine q_iload 5 53 dX0_readRally_51 rfl rfl ?_
          refine q_iconst (-1) 54 dX0_readRally_53 ic_m1 rfl ?_
          refine q_icmp_ne 59 57 dX0_readRally_54 (by decide) rfl (fun h54 => ?_) (fun h54 => absurd h54 g4)
          refine q_aload_n 0 60 dX0_readRally_59 rfl rfl rfl ?_
          refine q_getR 0 63 f_X0_9 dX0_readRally_60 rfl rfl rfl rfl ?_
          refine q_iload_n 2 64 dX0_readRally_63 rfl rfl rfl ?_
          refine q_iconst 4 65 dX0_readRally_64 ic_4 rfl ?_
          refine q_imul 66 dX0_readRally_65 rfl ?_
          refine q_iload_n 3 67 dX0_readRally_66 rfl rfl rfl ?_
          refine q_iadd 68 dX0_readRally_67 rfl ?_
          refine q_bipush 12 70 dX0_readRally_68 bc_12 rfl ?_
          refine q_imul 71 dX0_readRally_70 rfl ?_
          refine q_iload 4 73 dX0_readRally_71 rfl rfl ?_
          refine q_iadd 74 dX0_readRally_73 rfl ?_
          refine q_iload 5 76 dX0_readRally_74 rfl rfl ?_
          refine q_iast 1 kx 77 (w' := [_, _, _, _, _, _]) dX0_readRally_76 rfl ⟨hix, by omega, by decide⟩ rfl rfl ?_
          refine q_iconst 1 78 dX0_readRally_77 ic_1 rfl ?_
          refine q_zreturn dX0_readRally_78 rfl (Or.inr rfl) ?_
          exact pR.rf
theorem rrR_or (L : List Tok) (e k : Nat) (ch : Sc) : (rrR L e k ch).1 = 0 ∨ (rrR L e k ch).1 = 1 := by
  unfold rrR
  dsimp only
  split
  · exact Or.inl rfl
  · split
    · exact Or.inl rfl
    · split
      · exact Or.inl rfl
      · split
        · exact Or.inl rfl
        · exact Or.inr rfl
theorem rrR_le {L : List Tok} {e k : Nat} {ch : Sc} (hk : k ≤ L.length) : (rrR L e k ch).2.1 ≤ L.length := by
  unfold rrR
  dsimp only
  have h1 := pnK_le (e := e) (lo := 0) (hi := 3) hk
  have h2 := pnK_le (e := e) (lo := 0) (hi := 3) h1
  have h3 := roR_le (e := e) h2
  have h4 := pnK_le (e := e) (lo := 0) (hi := 100) h3
  split
  · exact h1
  · split
    · exact h2
    · split
      · exact h3
      · split
        · exact h4
        · exact h4
/-- readLine: whether, where, the laws' ints, the chances -/
def rlC (L : List Tok) (e k : Nat) (i ch : Sc) : Int32 × Nat × Sc × Sc :=
  let k1 := psK L e k 2
  if psB L e k 2 = 0 then
    let k2 := psK L e k1 6
    if psB L e k1 6 = 0 then
      let k3 := psK L e k2 7
      if psB L e k2 7 = 0 then
        let k4 := psK L e k3 8
        if psB L e k3 8 = 0 then (0, k4, i, ch)
        else (if pnV L e k4 0 1 = -1 then 0 else 1, pnK L e k4 0 1, upd i 3 (pnV L e k4 0 1), ch)
      else (if pnV L e k3 0 2 = -1 then 0 else 1, pnK L e k3 0 2, upd i 2 (pnV L e k3 0 2), ch)
    else (if pnV L e k2 1 6 = -1 then 0 else 1, pnK L e k2 1 6, upd i 1 (pnV L e k2 1 6), ch)
  else ((rrR L e k1 ch).1, (rrR L e k1 ch).2.1, i, (rrR L e k1 ch).2.2)
theorem c_X0_readLine {l : Launch} {g : Gh} {ql c q t b n x e k : Nat} {i ch j th be nu : Sc} {L : List Tok} (hR : RepT L e j th be nu) (hk : k ≤ L.length) : Cp l g yX0_readLine (Cond.code yX0_readLine cX0_readLine 2 (some .boolean)) 4 [.ref ql, .ref q] [(ql, ob 0 i (rL c)), (c, aI g 192 ch), (q, ob 7 (upd j 6 (nI k)) (rS t b n x)), (t, aI g 401 th), (b, aI g 401 be), (n, aI g 401 nu)] (some (.int (rlC L e k i ch).1)) [(ql, ob 0 (rlC L e k i ch).2.2.1 (rL c)), (c, aI g 192 (rlC L e k i ch).2.2.2), (q, ob 7 (upd j 6 (nI (rlC L e k i ch).2.1)) (rS t b n x)), (t, aI g 401 th), (b, aI g 401 be), (n, aI g 401 nu)] := by
  refine ct_of (M := mtX0_readLine) [some (.ref ql), some (.ref q)] rfl (by decide) (Nat.le_of_ble_eq_true rfl) (fun _ h => h) (fun a => ?_)
  unfold rlC
  dsimp only
  have hk1 := psK_le (e := e) (v := 2) hk
  have hk2 := psK_le (e := e) (v := 6) hk1
  have hk3 := psK_le (e := e) (v := 7) hk2
  have hk4 := psK_le (e := e) (v := 8) hk3
  refine q_aload_n 1 1 dX0_readLine_0 rfl rfl rfl ?_
  refine q_iconst 2 2 dX0_readLine_1 ic_2 rfl ?_
  refine q_cVi 2 [2, 3, 4, 5] [0, 1] [0, 1, 2, 3, 4, 5] 5 (wr := [_, _]) (w1 := _) (ws' := [_, _, _, _, _, _]) (c_X7_passes hR hk) m_X0_51 dX0_readLine_2 rfl rfl rfl rfl rfl rfl rfl rfl (by decide) (by decide) (by decide) (by decide) (Nat.le_of_ble_eq_true rfl) (by omega) (by omega) (by omega) rfl ?_
  refine q_if_eq 14 8 dX0_readLine_5 (by decide) rfl (fun h1 => ?_) (fun h1 => ?_)
  · refine q_aload_n 1 15 dX0_readLine_14 rfl rfl rfl ?_
    refine q_bipush 6 17 dX0_readLine_15 bc_6 rfl ?_
    refine q_cVi 2 [2, 3, 4, 5] [0, 1] [0, 1, 2, 3, 4, 5] 20 (wr := [_, _]) (w1 := _) (ws' := [_, _, _, _, _, _]) (c_X7_passes hR hk1) m_X0_51 dX0_readLine_17 rfl rfl rfl rfl rfl rfl rfl rfl (by decide) (by decide) (by decide) (by decide) (Nat.le_of_ble_eq_true rfl) (by omega) (by omega) (by omega) rfl ?_
    refine q_if_eq 48 23 dX0_readLine_20 (by decide) rfl (fun h2 => ?_) (fun h2 => ?_)
    · refine q_aload_n 1 49 dX0_readLine_48 rfl rfl rfl ?_
      refine q_bipush 7 51 dX0_readLine_49 bc_7 rfl ?_
      refine q_cVi 2 [2, 3, 4, 5] [0, 1] [0, 1, 2, 3, 4, 5] 54 (wr := [_, _]) (w1 := _) (ws' := [_, _, _, _, _, _]) (c_X7_passes hR hk2) m_X0_51 dX0_readLine_51 rfl rfl rfl rfl rfl rfl rfl rfl (by decide) (by decide) (by decide) (by decide) (Nat.le_of_ble_eq_true rfl) (by omega) (by omega) (by omega) rfl ?_
      refine q_if_eq 81 57 dX0_readLine_54 (by decide) rfl (fun h3 => ?_) (fun h3 => ?_)
      · refine q_aload_n 1 82 dX0_readLine_81 rfl rfl rfl ?_
        refine q_bipush 8 84 dX0_readLine_82 bc_8 rfl ?_
        refine q_cVi 2 [2, 3, 4, 5] [0, 1] [0, 1, 2, 3, 4, 5] 87 (wr := [_, _]) (w1 := _) (ws' := [_, _, _, _, _, _]) (c_X7_passes hR hk3) m_X0_51 dX0_readLine_84 rfl rfl rfl rfl rfl rfl rfl rfl (by decide) (by decide) (by decide) (by decide) (Nat.le_of_ble_eq_true rfl) (by omega) (by omega) (by omega) rfl ?_
        refine q_if_eq 114 90 dX0_readLine_87 (by decide) rfl (fun h4 => ?_) (fun h4 => ?_)
        · refine q_iconst 0 115 dX0_readLine_114 ic_0 rfl ?_
          refine q_zreturn dX0_readLine_115 rfl (Or.inl rfl) ?_
          first
            | (rw [if_neg h1]; exact pR.rf)
            | (rw [if_pos h1, if_neg h2, if_pos (show pnV L e _ 1 6 = -1 from g2)]; exact pR.rf)
            | (rw [if_pos h1, if_neg h2, if_neg (show ¬ pnV L e _ 1 6 = -1 from g2)]; exact pR.rf)
            | (rw [if_pos h1, if_pos h2, if_neg h3, if_pos (show pnV L e _ 0 2 = -1 from g3)]; exact pR.rf)
            | (rw [if_pos h1, if_pos h2, if_neg h3, if_neg (show ¬ pnV L e _ 0 2 = -1 from g3)]; exact pR.rf)
            | (rw [if_pos h1, if_pos h2, if_pos h3, if_neg h4, if_pos (show pnV L e _ 0 1 = -1 from g4)]; exact pR.rf)
            | (rw [if_pos h1, if_pos h2, if_pos h3, if_neg h4, if_neg (show ¬ pnV L e _ 0 1 = -1 from g4)]; exact pR.rf)
            | (rw [if_pos h1, if_pos h2, if_pos h3, if_pos h4]; exact pR.rf)
        · refine q_aload_n 0 91 dX0_readLine_90 rfl rfl rfl ?_
          refine q_aload_n 1 92 dX0_readLine_91 rfl rfl rfl ?_
          refine q_iconst 0 93 dX0_readLine_92 ic_0 rfl ?_
          refine q_iconst 1 94 dX0_readLine_93 ic_1 rfl ?_
          refine q_cVi 2 [2, 3, 4, 5] [0, 1] [0, 1, 2, 3, 4, 5] 97 (wr := [_, _]) (w1 := _) (ws' := [_, _, _, _, _, _]) (c_X7_passNumber hR hk4) m_X0_58 dX0_readLine_94 rfl rfl rfl rfl rfl rfl rfl rfl (by decide) (by decide) (by decide) (by decide) (Nat.le_of_ble_eq_true rfl) (by omega) (by omega) (by omega) rfl ?_
          refine q_putI 0 100 (w' := [_, _, _, _, _, _]) f_X0_28 ft_X0_3 dX0_readLine_97 rfl rfl rfl rfl ?_
          refine q_aload_n 0 101 dX0_readLine_100 rfl rfl rfl ?_
          refine q_getI 0 104 f_X0_28 dX0_readLine_101 rfl rfl rfl ?_
          refine q_iconst (-1) 105 dX0_readLine_104 ic_m1 rfl ?_
          refine q_icmp_eq 112 108 dX0_readLine_105 (by decide) rfl (fun g4 => ?_) (fun g4 => ?_)
          · refine q_iconst 0 113 dX0_readLine_112 ic_0 rfl ?_
            refine q_zreturn dX0_readLine_113 rfl (Or.inl rfl) ?_
            first
              | (rw [if_neg h1]; exact pR.rf)
              | (rw [if_pos h1, if_neg h2, if_pos (show pnV L e _ 1 6 = -1 from g2)]; exact pR.rf)
              | (rw [if_pos h1, if_neg h2, if_neg (show ¬ pnV L e _ 1 6 = -1 from g2)]; exact pR.rf)
              | (rw [if_pos h1, if_pos h2, if_neg h3, if_pos (show pnV L e _ 0 2 = -1 from g3)]; exact pR.rf)
              | (rw [if_pos h1, if_pos h2, if_neg h3, if_neg (show ¬ pnV L e _ 0 2 = -1 from g3)]; exact pR.rf)
              | (rw [if_pos h1, if_pos h2, if_pos h3, if_neg h4, if_pos (show pnV L e _ 0 1 = -1 from g4)]; exact pR.rf)
              | (rw [if_pos h1, if_pos h2, if_pos h3, if_neg h4, if_neg (show ¬ pnV L e _ 0 1 = -1 from g4)]; exact pR.rf)
              | (rw [if_pos h1, if_pos h2, if_pos h3, if_pos h4]; exact pR.rf)
          · refine q_iconst 1 109 dX0_readLine_108 ic_1 rfl ?_
            refine q_goto 113 dX0_readLine_109 (by decide) ?_
            refine q_zreturn dX0_readLine_113 rfl (Or.inr rfl) ?_
            first
              | (rw [if_neg h1]; exact pR.rf)
              | (rw [if_pos h1, if_neg h2, if_pos (show pnV L e _ 1 6 = -1 from g2)]; exact pR.rf)
              | (rw [if_pos h1, if_neg h2, if_neg (show ¬ pnV L e _ 1 6 = -1 from g2)]; exact pR.rf)
              | (rw [if_pos h1, if_pos h2, if_neg h3, if_pos (show pnV L e _ 0 2 = -1 from g3)]; exact pR.rf)
              | (rw [if_pos h1, if_pos h2, if_neg h3, if_neg (show ¬ pnV L e _ 0 2 = -1 from g3)]; exact pR.rf)
              | (rw [if_pos h1, if_pos h2, if_pos h3, if_neg h4, if_pos (show pnV L e _ 0 1 = -1 from g4)]; exact pR.rf)
              | (rw [if_pos h1, if_pos h2, if_pos h3, if_neg h4, if_neg (show ¬ pnV L e _ 0 1 = -1 from g4)]; exact pR.rf)
              | (rw [if_pos h1, if_pos h2, if_pos h3, if_pos h4]; exact pR.rf)
      · refine q_aload_n 0 58 dX0_readLine_57 rfl rfl rfl ?_
        refine q_aload_n 1 59 dX0_readLine_58 rfl rfl rfl ?_
        refine q_iconst 0 60 dX0_readLine_59 ic_0 rfl ?_
        refine q_iconst 2 61 dX0_readLine_60 ic_2 rfl ?_
        refine q_cVi 2 [2, 3, 4, 5] [0, 1] [0, 1, 2, 3, 4, 5] 64 (wr := [_, _]) (w1 := _) (ws' := [_, _, _, _, _, _]) (c_X7_passNumber hR hk3) m_X0_58 dX0_readLine_61 rfl rfl rfl rfl rfl rfl rfl rfl (by decide) (by decide) (by decide) (by decide) (Nat.le_of_ble_eq_true rfl) (by omega) (by omega) (by omega) rfl ?_
        refine q_putI 0 67 (w' := [_, _, _, _, _, _]) f_X0_25 ft_X0_2 dX0_readLine_64 rfl rfl rfl rfl ?_
        refine q_aload_n 0 68 dX0_readLine_67 rfl rfl rfl ?_
        refine q_getI 0 71 f_X0_25 dX0_readLine_68 rfl rfl rfl ?_
        refine q_iconst (-1) 72 dX0_readLine_71 ic_m1 rfl ?_
        refine q_icmp_eq 79 75 dX0_readLine_72 (by decide) rfl (fun g3 => ?_) (fun g3 => ?_)
        · refine q_iconst 0 80 dX0_readLine_79 ic_0 rfl ?_
          refine q_zreturn dX0_readLine_80 rfl (Or.inl rfl) ?_
          first
            | (rw [if_neg h1]; exact pR.rf)
            | (rw [if_pos h1, if_neg h2, if_pos (show pnV L e _ 1 6 = -1 from g2)]; exact pR.rf)
            | (rw [if_pos h1, if_neg h2, if_neg (show ¬ pnV L e _ 1 6 = -1 from g2)]; exact pR.rf)
            | (rw [if_pos h1, if_pos h2, if_neg h3, if_pos (show pnV L e _ 0 2 = -1 from g3)]; exact pR.rf)
            | (rw [if_pos h1, if_pos h2, if_neg h3, if_neg (show ¬ pnV L e _ 0 2 = -1 from g3)]; exact pR.rf)
            | (rw [if_pos h1, if_pos h2, if_pos h3, if_neg h4, if_pos (show pnV L e _ 0 1 = -1 from g4)]; exact pR.rf)
            | (rw [if_pos h1, if_pos h2, if_pos h3, if_neg h4, if_neg (show ¬ pnV L e _ 0 1 = -1 from g4)]; exact pR.rf)
            | (rw [if_pos h1, if_pos h2, if_pos h3, if_pos h4]; exact pR.rf)
        · refine q_iconst 1 76 dX0_readLine_75 ic_1 rfl ?_
          refine q_goto 80 dX0_readLine_76 (by decide) ?_
          refine q_zreturn dX0_readLine_80 rfl (Or.inr rfl) ?_
          first
            | (rw [if_neg h1]; exact pR.rf)
            | (rw [if_pos h1, if_neg h2, if_pos (show pnV L e _ 1 6 = -1 from g2)]; exact pR.rf)
            | (rw [if_pos h1, if_neg h2, if_neg (show ¬ pnV L e _ 1 6 = -1 from g2)]; exact pR.rf)
            | (rw [if_pos h1, if_pos h2, if_neg h3, if_pos (show pnV L e _ 0 2 = -1 from g3)]; exact pR.rf)
            | (rw [if_pos h1, if_pos h2, if_neg h3, if_neg (show ¬ pnV L e _ 0 2 = -1 from g3)]; exact pR.rf)
            | (rw [if_pos h1, if_pos h2, if_pos h3, if_neg h4, if_pos (show pnV L e _ 0 1 = -1 from g4)]; exact pR.rf)
            | (rw [if_pos h1, if_pos h2, if_pos h3, if_neg h4, if_neg (show ¬ pnV L e _ 0 1 = -1 from g4)]; exact pR.rf)
            | (rw [if_pos h1, if_pos h2, if_pos h3, if_pos h4]; exact pR.rf)
    · refine q_aload_n 0 24 dX0_readLine_23 rfl rfl rfl ?_
      refine q_aload_n 1 25 dX0_readLine_24 rfl rfl rfl ?_
      refine q_iconst 1 26 dX0_readLine_25 ic_1 rfl ?_
      refine q_bipush 6 28 dX0_readLine_26 bc_6 rfl ?_
      refine q_cVi 2 [2, 3, 4, 5] [0, 1] [0, 1, 2, 3, 4, 5] 31 (wr := [_, _]) (w1 := _) (ws' := [_, _, _, _, _, _]) (c_X7_passNumber hR hk2) m_X0_58 dX0_readLine_28 rfl rfl rfl rfl rfl rfl rfl rfl (by decide) (by decide) (by decide) (by decide) (Nat.le_of_ble_eq_true rfl) (by omega) (by omega) (by omega) rfl ?_
      refine q_putI 0 34 (w' := [_, _, _, _, _, _]) f_X0_15 ft_X0_1 dX0_readLine_31 rfl rfl rfl rfl ?_
      refine q_aload_n 0 35 dX0_readLine_34 rfl rfl rfl ?_
      refine q_getI 0 38 f_X0_15 dX0_readLine_35 rfl rfl rfl ?_
      refine q_iconst (-1) 39 dX0_readLine_38 ic_m1 rfl ?_
      refine q_icmp_eq 46 42 dX0_readLine_39 (by decide) rfl (fun g2 => ?_) (fun g2 => ?_)
      · refine q_iconst 0 47 dX0_readLine_46 ic_0 rfl ?_
        refine q_zreturn dX0_readLine_47 rfl (Or.inl rfl) ?_
        first
          | (rw [if_neg h1]; exact pR.rf)
          | (rw [if_pos h1, if_neg h2, if_pos (show pnV L e _ 1 6 = -1 from g2)]; exact pR.rf)
          | (rw [if_pos h1, if_neg h2, if_neg (show ¬ pnV L e _ 1 6 = -1 from g2)]; exact pR.rf)
          | (rw [if_pos h1, if_pos h2, if_neg h3, if_pos (show pnV L e _ 0 2 = -1 from g3)]; exact pR.rf)
          | (rw [if_pos h1, if_pos h2, if_neg h3, if_neg (show ¬ pnV L e _ 0 2 = -1 from g3)]; exact pR.rf)
          | (rw [if_pos h1, if_pos h2, if_pos h3, if_neg h4, if_pos (show pnV L e _ 0 1 = -1 from g4)]; exact pR.rf)
          | (rw [if_pos h1, if_pos h2, if_pos h3, if_neg h4, if_neg (show ¬ pnV L e _ 0 1 = -1 from g4)]; exact pR.rf)
          | (rw [if_pos h1, if_pos h2, if_pos h3, if_pos h4]; exact pR.rf)
      · refine q_iconst 1 43 dX0_readLine_42 ic_1 rfl ?_
        refine q_goto 47 dX0_readLine_43 (by decide) ?_
        refine q_zreturn dX0_readLine_47 rfl (Or.inr rfl) ?_
        first
          | (rw [if_neg h1]; exact pR.rf)
          | (rw [if_pos h1, if_neg h2, if_pos (show pnV L e _ 1 6 = -1 from g2)]; exact pR.rf)
          | (rw [if_pos h1, if_neg h2, if_neg (show ¬ pnV L e _ 1 6 = -1 from g2)]; exact pR.rf)
          | (rw [if_pos h1, if_pos h2, if_neg h3, if_pos (show pnV L e _ 0 2 = -1 from g3)]; exact pR.rf)
          | (rw [if_pos h1, if_pos h2, if_neg h3, if_neg (show ¬ pnV L e _ 0 2 = -1 from g3)]; exact pR.rf)
          | (rw [if_pos h1, if_pos h2, if_pos h3, if_neg h4, if_pos (show pnV L e _ 0 1 = -1 from g4)]; exact pR.rf)
          | (rw [if_pos h1, if_pos h2, if_pos h3, if_neg h4, if_neg (show ¬ pnV L e _ 0 1 = -1 from g4)]; exact pR.rf)
          | (rw [if_pos h1, if_pos h2, if_pos h3, if_pos h4]; exact pR.rf)
  · refine q_aload_n 0 9 dX0_readLine_8 rfl rfl rfl ?_
    refine q_aload_n 1 10 dX0_readLine_9 rfl rfl rfl ?_
    refine q_cVi 0 [0, 1, 2, 3, 4, 5] [] [0, 1, 2, 3, 4, 5] 13 (wr := []) (w1 := _) (ws' := [_, _, _, _, _, _]) (c_X0_readRally hR hk1) m_X0_55 dX0_readLine_10 rfl rfl rfl rfl rfl rfl rfl rfl (by decide) (by decide) (by decide) (by decide) (Nat.le_of_ble_eq_true rfl) (by omega) (by omega) (by omega) rfl ?_
    refine q_zreturn dX0_readLine_13 rfl (rrR_or _ _ _ _) ?_
    first
      | (rw [if_neg h1]; exact pR.rf)
      | (rw [if_pos h1, if_neg h2, if_pos (show pnV L e _ 1 6 = -1 from g2)]; exact pR.rf)
      | (rw [if_pos h1, if_neg h2, if_neg (show ¬ pnV L e _ 1 6 = -1 from g2)]; exact pR.rf)
      | (rw [if_pos h1, if_pos h2, if_neg h3, if_pos (show pnV L e _ 0 2 = -1 from g3)]; exact pR.rf)
      | (rw [if_pos h1, if_pos h2, if_neg h3, if_neg (show ¬ pnV L e _ 0 2 = -1 from g3)]; exact pR.rf)
      | (rw [if_pos h1, if_pos h2, if_pos h3, if_neg h4, if_pos (show pnV L e _ 0 1 = -1 from g4)]; exact pR.rf)
      | (rw [if_pos h1, if_pos h2, if_pos h3, if_neg h4, if_neg (show ¬ pnV L e _ 0 1 = -1 from g4)]; exact pR.rf)
      | (rw [if_pos h1, if_pos h2, if_pos h3, if_pos h4]; exact pR.rf)
theorem rlC_le {L : List Tok} {e k : Nat} {i ch : Sc} (hk : k ≤ L.length) : (rlC L e k i ch).2.1 ≤ L.length := by
  unfold rlC
  dsimp only
  have hk1 := psK_le (e := e) (v := 2) hk
  have hk2 := psK_le (e := e) (v := 6) hk1
  have hk3 := psK_le (e := e) (v := 7) hk2
  have hk4 := psK_le (e := e) (v := 8) hk3
  split
  · split
    · split
      · split
        · exact hk4
        · exact pnK_le hk4
      · exact pnK_le hk3
    · exact pnK_le hk2
  · exact rrR_le hk1
/-- readText's lines: what is wrong (a place, or -1), where, ints, chances -/
def rtC (L : List Tok) (e : Nat) : Nat → Nat → Sc → Sc → Int32 × Nat × Sc × Sc
  | 0, k, i, ch => (nI (tA L e k).2.1, k, i, ch)
  | c + 1, k, i, ch =>
    let r := rlC L e k i ch
    if r.1 = 0 then (nI (tA L e r.2.1).2.1, r.2) else
    if (tA L e r.2.1).1 = 0 then (if auV r.2.2.2 16 0 = 0 then nI (tA L e r.2.1).2.1 else -1, r.2) else
    if psB L e r.2.1 159 = 0 then (nI (tA L e (psK L e r.2.1 159)).2.1, psK L e r.2.1 159, r.2.2) else rtC L e c (psK L e r.2.1 159) r.2.2.1 r.2.2.2
def rtR (L : List Tok) (e : Nat) (i ch : Sc) : Int32 × Nat × Sc × Sc := if (tA L e 0).1 = 0 then (-1, 0, i, ch) else rtC L e 12 0 i ch
theorem c_X0_readText {l : Launch} {g : Gh} {ql c q t b n x e k : Nat} {i ch j th be nu : Sc} {L : List Tok} (hR : RepT L e j th be nu) : Cp l g yX0_readText (Cond.code yX0_readText cX0_readText 3 (some .int)) 5 [.ref ql, .ref q] [(ql, ob 0 i (rL c)), (c, aI g 192 ch), (q, ob 7 (upd j 6 (nI 0)) (rS t b n x)), (t, aI g 401 th), (b, aI g 401 be), (n, aI g 401 nu)] (some (.int (rtR L e i ch).1)) [(ql, ob 0 (rtR L e i ch).2.2.1 (rL c)), (c, aI g 192 (rtR L e i ch).2.2.2), (q, ob 7 (upd j 6 (nI (rtR L e i ch).2.1)) (rS t b n x)), (t, aI g 401 th), (b, aI g 401 be), (n, aI g 401 nu)] := by
  refine ct_of (M := mtX0_readText) [some (.ref ql), some (.ref q), none] rfl (by decide) (Nat.le_of_ble_eq_true rfl) (fun _ h => h) (fun a => ?_)
  have K11 : ∀ (cc m : Nat), cc + m = 12 → ∀ (k : Nat) (i ch : Sc) (R : Int32 × Nat × Sc × Sc), k ≤ L.length → rtC L e cc k i ch = R → WPs l g mtX0_readText 5 0 0 (pR (some (.int R.1)) [(ql, ob 0 R.2.2.1 (rL c)), (c, aI g 192 R.2.2.2), (q, ob 7 (upd j 6 (nI R.2.1)) (rS t b n x)), (t, aI g 401 th), (b, aI g 401 be), (n, aI g 401 nu)]) noX a 11 [some (.ref ql), some (.ref q), some (.int (nI m))] [] [(ql, ob 0 i (rL c)), (c, aI g 192 ch), (q, ob 7 (upd j 6 (nI k)) (rS t b n x)), (t, aI g 401 th), (b, aI g 401 be), (n, aI g 401 nu)] 0 0 := by
    intro cc
    induction cc with
    | zero =>
      intro m hm k i ch R hk hr
      obtain rfl : m = 12 := by omega
      subst hr
      have hge : (12 : Int32) ≤ nI 12 := by decide
      rw [rtC]
      dsimp only
      refine q_iload_n 2 12 dX0_readText_11 rfl rfl rfl ?_
      refine q_bipush 12 14 dX0_readText_12 bc_12 rfl ?_
      refine q_icmp_ge 74 17 dX0_readText_14 (by decide) rfl (fun h14 => ?_) (fun h14 => absurd hge h14)
      refine q_aload_n 1 75 dX0_readText_74 rfl rfl rfl ?_
      refine q_cVi 2 [2, 3, 4, 5] [0, 1] [0, 1, 2, 3, 4, 5] 78 (wr := [_, _]) (w1 := _) (ws' := [_, _, _, _, _, _]) (c_X7_place hR hk) m_X0_44 dX0_readText_75 rfl rfl rfl rfl rfl rfl rfl rfl (by decide) (by decide) (by decide) (by decide) (Nat.le_of_ble_eq_true rfl) (by omega) (by omega) (by omega) rfl ?_
      refine q_ireturn dX0_readText_78 rfl ?_
      exact pR.rf
    | succ cc ih =>
      intro m hm k i ch R hk hr
      have hlt : ¬ (12 : Int32) ≤ nI m := nI_ge (b := 12) (by omega) (by decide)
      rw [rtC] at hr
      try dsimp only at hr
      have hc1 := c_X0_readLine (l := l) (g := g) (ql := ql) (c := c) (q := q) (t := t) (b := b) (n := n) (x := x) (i := i) (ch := ch) hR hk
      have hk1 := rlC_le (e := e) (i := i) (ch := ch) hk
      generalize rlC L e k i ch = r at *
      obtain ⟨ok, k1, i1, ch1⟩ := r
      dsimp only at hr hc1 hk1
      have hk2 := psK_le (e := e) (v := 159) hk1
      have K30 : ¬ ok = 0 → WPs l g mtX0_readText 5 0 0 (pR (some (.int R.1)) [(ql, ob 0 R.2.2.1 (rL c)), (c, aI g 192 R.2.2.2), (q, ob 7 (upd j 6 (nI R.2.1)) (rS t b n x)), (t, aI g 401 th), (b, aI g 401 be), (n, aI g 401 nu)]) noX a 30 [some (.ref ql), some (.ref q), some (.int (nI m))] [] [(ql, ob 0 i1 (rL c)), (c, aI g 192 ch1), (q, ob 7 (upd j 6 (nI k1)) (rS t b n x)), (t, aI g 401 th), (b, aI g 401 be), (n, aI g 401 nu)] 0 0 := by
        intro hok
        rw [if_neg hok] at hr
        by_cases h2 : (tA L e k1).1 = 0
        · rw [if_pos h2] at hr
          subst hr
          dsimp only
          clear ih hc1
          refine q_aload_n 1 31 dX0_readText_30 rfl rfl rfl ?_
          refine q_cVi 2 [2, 3, 4, 5] [0, 1] [0, 1, 2, 3, 4, 5] 34 (wr := [_, _]) (w1 := _) (ws' := [_, _, _, _, _, _]) (c_X7_thing hR hk1) m_X0_34 dX0_readText_31 rfl rfl rfl rfl rfl rfl rfl rfl (by decide) (by decide) (by decide) (by decide) (Nat.le_of_ble_eq_true rfl) (by omega) (by omega) (by omega) rfl ?_
          refine q_if_ne 53 37 dX0_readText_34 (by decide) rfl (fun h34 => absurd h2 h34) (fun h34 => ?_)
          refine q_aload_n 0 38 dX0_readText_37 rfl rfl rfl ?_
          refine q_cVi 0 [0, 1] [2, 3, 4, 5] [4, 5, 0, 1, 2, 3] 41 (wr := [_, _, _, _]) (w1 := _) (ws' := [_, _, _, _, _, _]) c_X0_addUp m_X0_47 dX0_readText_38 rfl rfl rfl rfl rfl rfl rfl rfl (by decide) (by decide) (by decide) (by decide) (Nat.le_of_ble_eq_true rfl) (by omega) (by omega) (by omega) rfl ?_
          refine q_if_eq 48 44 dX0_readText_41 (by decide) rfl (fun h3 => ?_) (fun h3 => ?_)
          · refine q_aload_n 1 49 dX0_readText_48 rfl rfl rfl ?_
            refine q_cVi 2 [2, 3, 4, 5] [0, 1] [0, 1, 2, 3, 4, 5] 52 (wr := [_, _]) (w1 := _) (ws' := [_, _, _, _, _, _]) (c_X7_place hR hk1) m_X0_44 dX0_readText_49 rfl rfl rfl rfl rfl rfl rfl rfl (by decide) (by decide) (by decide) (by decide) (Nat.le_of_ble_eq_true rfl) (by omega) (by omega) (by omega) rfl ?_
            refine q_ireturn dX0_readText_52 rfl ?_
            first
              | (rw [if_pos h3]; exact pR.rf)
              | (rw [if_neg h3]; exact pR.rf)
          · refine q_iconst (-1) 45 dX0_readText_44 ic_m1 rfl ?_
            refine q_goto 52 dX0_readText_45 (by decide) ?_
            refine q_ireturn dX0_readText_52 rfl ?_
            first
              | (rw [if_pos h3]; exact pR.rf)
              | (rw [if_neg h3]; exact pR.rf)
        · rw [if_neg h2] at hr
          by_cases h3 : psB L e k1 159 = 0
          · rw [if_pos h3] at hr
            subst hr
            dsimp only
            clear ih hc1
            refine q_aload_n 1 31 dX0_readText_30 rfl rfl rfl ?_
            refine q_cVi 2 [2, 3, 4, 5] [0, 1] [0, 1, 2, 3, 4, 5] 34 (wr := [_, _]) (w1 := _) (ws' := [_, _, _, _, _, _]) (c_X7_thing hR hk1) m_X0_34 dX0_readText_31 rfl rfl rfl rfl rfl rfl rfl rfl (by decide) (by decide) (by decide) (by decide) (Nat.le_of_ble_eq_true rfl) (by omega) (by omega) (by omega) rfl ?_
            refine q_if_ne 53 37 dX0_readText_34 (by decide) rfl (fun h34 => ?_) (fun h34 => absurd h34 h2)
            refine q_aload_n 1 54 dX0_readText_53 rfl rfl rfl ?_
            refine q_sipush 159 57 dX0_readText_54 sc_159 rfl ?_
            refine q_cVi 2 [2, 3, 4, 5] [0, 1] [0, 1, 2, 3, 4, 5] 60 (wr := [_, _]) (w1 := _) (ws' := [_, _, _, _, _, _]) (c_X7_passes hR hk1) m_X0_51 dX0_readText_57 rfl rfl rfl rfl rfl rfl rfl rfl (by decide) (by decide) (by decide) (by decide) (Nat.le_of_ble_eq_true rfl) (by omega) (by omega) (by omega) rfl ?_
            refine q_if_ne 68 63 dX0_readText_60 (by decide) rfl (fun h60 => absurd h3 h60) (fun h60 => ?_)
            refine q_aload_n 1 64 dX0_readText_63 rfl rfl rfl ?_
            refine q_cVi 2 [2, 3, 4, 5] [0, 1] [0, 1, 2, 3, 4, 5] 67 (wr := [_, _]) (w1 := _) (ws' := [_, _, _, _, _, _]) (c_X7_place hR hk2) m_X0_44 dX0_readText_64 rfl rfl rfl rfl rfl rfl rfl rfl (by decide) (by decide) (by decide) (by decide) (Nat.le_of_ble_eq_true rfl) (by omega) (by omega) (by omega) rfl ?_
            refine q_ireturn dX0_readText_67 rfl ?_
            exact pR.rf
          · rw [if_neg h3] at hr
            have K1 := ih (m + 1) (by omega) _ i1 ch1 R hk2 hr
            clear ih hc1
            refine q_aload_n 1 31 dX0_readText_30 rfl rfl rfl ?_
            refine q_cVi 2 [2, 3, 4, 5] [0, 1] [0, 1, 2, 3, 4, 5] 34 (wr := [_, _]) (w1 := _) (ws' := [_, _, _, _, _, _]) (c_X7_thing hR hk1) m_X0_34 dX0_readText_31 rfl rfl rfl rfl rfl rfl rfl rfl (by decide) (by decide) (by decide) (by decide) (Nat.le_of_ble_eq_true rfl) (by omega) (by omega) (by omega) rfl ?_
            refine q_if_ne 53 37 dX0_readText_34 (by decide) rfl (fun h34 => ?_) (fun h34 => absurd h34 h2)
            refine q_aload_n 1 54 dX0_readText_53 rfl rfl rfl ?_
            refine q_sipush 159 57 dX0_readText_54 sc_159 rfl ?_
            refine q_cVi 2 [2, 3, 4, 5] [0, 1] [0, 1, 2, 3, 4, 5] 60 (wr := [_, _]) (w1 := _) (ws' := [_, _, _, _, _, _]) (c_X7_passes hR hk1) m_X0_51 dX0_readText_57 rfl rfl rfl rfl rfl rfl rfl rfl (by decide) (by decide) (by decide) (by decide) (Nat.le_of_ble_eq_true rfl) (by omega) (by omega) (by omega) rfl ?_
            refine q_if_ne 68 63 dX0_readText_60 (by decide) rfl (fun h60 => ?_) (fun h60 => absurd h60 h3)
            refine q_iinc 2 (nI (m + 1)) 71 (L' := [_, _, _]) dX0_readText_68 rfl (inc1 (m)) (by decide) rfl rfl ?_
            refine q_goto 11 dX0_readText_71 (by decide) ?_
            exact K1
      clear ih
      by_cases hok : ok = 0
      · rw [if_pos hok] at hr
        subst hr
        dsimp only
        refine q_iload_n 2 12 dX0_readText_11 rfl rfl rfl ?_
        refine q_bipush 12 14 dX0_readText_12 bc_12 rfl ?_
        refine q_icmp_ge 74 17 dX0_readText_14 (by decide) rfl (fun h14 => absurd h14 hlt) (fun h14 => ?_)
        refine q_aload_n 0 18 dX0_readText_17 rfl rfl rfl ?_
        refine q_aload_n 1 19 dX0_readText_18 rfl rfl rfl ?_
        refine q_cVi 0 [0, 1, 2, 3, 4, 5] [] [0, 1, 2, 3, 4, 5] 22 (wr := []) (w1 := _) (ws' := [_, _, _, _, _, _]) hc1 m_X0_40 dX0_readText_19 rfl rfl rfl rfl rfl rfl rfl rfl (by decide) (by decide) (by decide) (by decide) (Nat.le_of_ble_eq_true rfl) (by omega) (by omega) (by omega) rfl ?_
        refine q_if_ne 30 25 dX0_readText_22 (by decide) rfl (fun h22 => absurd hok h22) (fun h22 => ?_)
        refine q_aload_n 1 26 dX0_readText_25 rfl rfl rfl ?_
        refine q_cVi 2 [2, 3, 4, 5] [0, 1] [0, 1, 2, 3, 4, 5] 29 (wr := [_, _]) (w1 := _) (ws' := [_, _, _, _, _, _]) (c_X7_place hR hk1) m_X0_44 dX0_readText_26 rfl rfl rfl rfl rfl rfl rfl rfl (by decide) (by decide) (by decide) (by decide) (Nat.le_of_ble_eq_true rfl) (by omega) (by omega) (by omega) rfl ?_
        refine q_ireturn dX0_readText_29 rfl ?_
        exact pR.rf
      · have K1 := K30 hok
        refine q_iload_n 2 12 dX0_readText_11 rfl rfl rfl ?_
        refine q_bipush 12 14 dX0_readText_12 bc_12 rfl ?_
        refine q_icmp_ge 74 17 dX0_readText_14 (by decide) rfl (fun h14 => absurd h14 hlt) (fun h14 => ?_)
        refine q_aload_n 0 18 dX0_readText_17 rfl rfl rfl ?_
        refine q_aload_n 1 19 dX0_readText_18 rfl rfl rfl ?_
        refine q_cVi 0 [0, 1, 2, 3, 4, 5] [] [0, 1, 2, 3, 4, 5] 22 (wr := []) (w1 := _) (ws' := [_, _, _, _, _, _]) hc1 m_X0_40 dX0_readText_19 rfl rfl rfl rfl rfl rfl rfl rfl (by decide) (by decide) (by decide) (by decide) (Nat.le_of_ble_eq_true rfl) (by omega) (by omega) (by omega) rfl ?_
        refine q_if_ne 30 25 dX0_readText_22 (by decide) rfl (fun h22 => ?_) (fun h22 => absurd h22 hok)
        exact K1
  unfold rtR
  by_cases h0 : (tA L e 0).1 = 0
  · rw [if_pos h0]
    refine q_aload_n 1 1 dX0_readText_0 rfl rfl rfl ?_
    refine q_cVi 2 [2, 3, 4, 5] [0, 1] [0, 1, 2, 3, 4, 5] 4 (wr := [_, _]) (w1 := _) (ws' := [_, _, _, _, _, _]) (c_X7_thing hR (Nat.zero_le _)) m_X0_34 dX0_readText_1 rfl rfl rfl rfl rfl rfl rfl rfl (by decide) (by decide) (by decide) (by decide) (Nat.le_of_ble_eq_true rfl) (by omega) (by omega) (by omega) rfl ?_
    refine q_if_ne 9 7 dX0_readText_4 (by decide) rfl (fun h4 => absurd h0 h4) (fun h4 => ?_)
    refine q_iconst (-1) 8 dX0_readText_7 ic_m1 rfl ?_
    refine q_ireturn dX0_readText_8 rfl ?_
    exact pR.rf
  · rw [if_neg h0]
    have K1 := K11 12 0 rfl 0 i ch _ (Nat.zero_le _) rfl
    refine q_aload_n 1 1 dX0_readText_0 rfl rfl rfl ?_
    refine q_cVi 2 [2, 3, 4, 5] [0, 1] [0, 1, 2, 3, 4, 5] 4 (wr := [_, _]) (w1 := _) (ws' := [_, _, _, _, _, _]) (c_X7_thing hR (Nat.zero_le _)) m_X0_34 dX0_readText_1 rfl rfl rfl rfl rfl rfl rfl rfl (by decide) (by decide) (by decide) (by decide) (Nat.le_of_ble_eq_true rfl) (by omega) (by omega) (by omega) rfl ?_
    refine q_if_ne 9 7 dX0_readText_4 (by decide) rfl (fun h4 => ?_) (fun h4 => absurd h4 h0)
    refine q_iconst 0 10 dX0_readText_9 ic_0 rfl ?_
    refine q_istore_n 2 11 (L' := [_, _, _]) dX0_readText_10 rfl (by decide) rfl rfl ?_
    exact K1

