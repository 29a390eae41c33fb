/-! ===== Odds: rows ===== -/
abbrev RwS : Type := Nat × Nat × Nat × Sc × Sc
def rs2 (r : Nat → Nat) (a b : Nat) : Nat → Nat := fun k => if k = 13 then a else if k = 14 then b else r k
def rs4 (r : Nat → Nat) (a b c d : Nat) : Nat → Nat := fun k => if k = 13 then a else if k = 14 then b else if k = 15 then c else if k = 16 then d else r k
theorem rs2_self (r : Nat → Nat) : rs2 r (r 13) (r 14) = r := by
  funext k
  unfold rs2
  by_cases h : k = 13
  · rw [if_pos h, h]
  · rw [if_neg h]
    by_cases h2 : k = 14
    · rw [if_pos h2, h2]
    · rw [if_neg h2]
def rwC (Nv N : Nat) : Nat := if Nv < N + 5 then 2 else 0
def rwS (Nv N : Nat) : Nat := if Nv < N + 5 then 2 * (N + 5) else 0
/-- a row's room after makeRows, and what it took -/
def rwO (Nv N Nv' k n : Nat) : Prop := Nv' = (if Nv < N + 5 then N + 5 else Nv) ∧ k = rwC Nv N ∧ n = rwS Nv N
theorem c_X2_makeRows0 {l : Launch} {g : Gh} {q ke ta N Nv : Nat} {r : Nat → Nat} {i ip kf uf vf : Sc} (ht : i 11 = -1) (hN : N ≤ 2 ^ 22) (hv : Nv < 2 ^ 30) : Cn l g yX2_makeRows (Cond.code yX2_makeRows cX2_makeRows 2 none) 2 (rwC Nv N) (rwS Nv N) [.ref q] [(q, ob 2 i (rO r)), (r 0, ob 3 ip (rPl ke ta)), (ke, aI g N kf), ((r 13), aI g Nv uf), ((r 14), aI g Nv vf)] (fun _ : RwS => none) (fun z : RwS => [(q, ob 2 i (rO (rs2 r z.1 z.2.1))), (r 0, ob 3 ip (rPl ke ta)), (ke, aI g N kf), (z.1, aI g z.2.2.1 z.2.2.2.1), (z.2.1, aI g z.2.2.1 z.2.2.2.2)]) (fun z k n => rwO Nv N z.2.2.1 k n) := by
  refine ct_of (M := mtX2_makeRows) [some (.ref q), none] rfl (by decide) (Nat.le_of_ble_eq_true rfl) (fun _ h => h) (fun a => ?_)
  have e5 : (4 : Int32) + nI N + 1 = nI (N + 5) := by rw [show (4 : Int32) = nI 4 by decide, nI_add, nI_1]; congr 1; omega
  by_cases hg : Nv < N + 5
  · have hlt : ¬ nI (N + 5) ≤ nI Nv := nI_ge hg (by omega)
    have hO : rwO Nv N (N + 5) (0 + 1 + 1) (0 + (N + 5) + (N + 5)) := ⟨(if_pos hg).symm, (if_pos hg).symm, by rw [show rwS Nv N = 2 * (N + 5) from if_pos hg]; omega⟩
    rw [show rwC Nv N = 2 from if_pos hg, show rwS Nv N = 2 * (N + 5) from if_pos hg]
    generalize hn : N + 5 = M5 at *
    refine q_iconst 4 1 dX2_makeRows_0 ic_4 rfl ?_
    refine q_aload_n 0 2 dX2_makeRows_1 rfl rfl rfl ?_
    refine q_getR 0 5 f_X2_12 dX2_makeRows_2 rfl rfl rfl rfl ?_
    refine q_cVi 1 [1, 2] [0, 3, 4] [0, 3, 4, 1, 2] 8 (wr := [_, _, _]) (w1 := _) (ws' := [_, _, _, _, _]) c_X3_room m_X2_191 dX2_makeRows_5 rfl rfl rfl rfl rfl rfl rfl rfl (by decide) (by decide) (by decide) (by decide) (Nat.le_of_ble_eq_true rfl) (by omega) (by omega) (by omega) rfl ?_
    refine q_iadd 9 dX2_makeRows_8 rfl ?_
    refine q_iconst 1 10 dX2_makeRows_9 ic_1 rfl ?_
    refine q_iadd 11 dX2_makeRows_10 rfl ?_
    rw [e5]
    refine q_istore_n 1 12 (L' := [_, _]) dX2_makeRows_11 rfl (by decide) rfl rfl ?_
    refine q_aload_n 0 13 dX2_makeRows_12 rfl rfl rfl ?_
    refine q_getR 0 16 f_X2_47 dX2_makeRows_13 rfl rfl rfl rfl ?_
    refine q_alenI 4 _ 17 dX2_makeRows_16 rfl rfl rfl ?_
    refine q_iload_n 1 18 dX2_makeRows_17 rfl rfl rfl ?_
    refine q_icmp_ge 35 21 dX2_makeRows_18 (by decide) rfl (fun h18 => absurd h18 hlt) (fun h18 => ?_)
    refine q_aload_n 0 22 dX2_makeRows_21 rfl rfl rfl ?_
    refine q_iload_n 1 23 dX2_makeRows_22 rfl rfl rfl ?_
    refine q_newI 25 dX2_makeRows_23 rfl (by omega) (by omega) (by omega) rfl (fun q23 => ?_)
    refine q_putR 0 28 (w' := [_, _, _, _, _, _]) (r' := [_, _, _, _, _, _, _, _, _, _, _, _, _, _, _, _, _]) f_X2_47 ft_X2_14 dX2_makeRows_25 rfl rfl (Nat.le_of_ble_eq_true rfl) rfl rfl rfl rfl rfl ?_
    refine q_aload_n 0 29 dX2_makeRows_28 rfl rfl rfl ?_
    refine q_iload_n 1 30 dX2_makeRows_29 rfl rfl rfl ?_
    refine q_newI 32 dX2_makeRows_30 rfl (by omega) (by omega) (by omega) rfl (fun q30 => ?_)
    refine q_putR 0 35 (w' := [_, _, _, _, _, _, _]) (r' := [_, _, _, _, _, _, _, _, _, _, _, _, _, _, _, _, _]) f_X2_44 ft_X2_13 dX2_makeRows_32 rfl rfl (Nat.le_of_ble_eq_true rfl) rfl rfl rfl rfl rfl ?_
    refine q_aload_n 0 36 dX2_makeRows_35 rfl rfl rfl ?_
    refine q_getI 0 39 f_X2_64 dX2_makeRows_36 rfl rfl rfl ?_
    refine q_iconst (-1) 40 dX2_makeRows_39 ic_m1 rfl ?_
    refine q_icmp_eq 66 43 dX2_makeRows_40 (by decide) rfl (fun h40 => ?_) (fun h40 => absurd ht h40)
    refine q_sub (ws' := [_, _, _, _, _]) [0, 1, 2, 6, 5] rfl rfl ?_
    refine q_return dX2_makeRows_66 rfl ?_
    exact pX.mk (q30, q23, M5, (fun _ => 0), (fun _ => 0)) hO rfl rfl
  · have hge : nI (N + 5) ≤ nI Nv := nI_le (by omega) (by omega)
    have hO : rwO Nv N Nv 0 0 := ⟨(if_neg hg).symm, (if_neg hg).symm, (if_neg hg).symm⟩
    refine q_iconst 4 1 dX2_makeRows_0 ic_4 rfl ?_
    refine q_aload_n 0 2 dX2_makeRows_1 rfl rfl rfl ?_
    refine q_getR 0 5 f_X2_12 dX2_makeRows_2 rfl rfl rfl rfl ?_
    refine q_cVi 1 [1, 2] [0, 3, 4] [0, 3, 4, 1, 2] 8 (wr := [_, _, _]) (w1 := _) (ws' := [_, _, _, _, _]) c_X3_room m_X2_191 dX2_makeRows_5 rfl rfl rfl rfl rfl rfl rfl rfl (by decide) (by decide) (by decide) (by decide) (Nat.le_of_ble_eq_true rfl) (by omega) (by omega) (by omega) rfl ?_
    refine q_iadd 9 dX2_makeRows_8 rfl ?_
    refine q_iconst 1 10 dX2_makeRows_9 ic_1 rfl ?_
    refine q_iadd 11 dX2_makeRows_10 rfl ?_
    rw [e5]
    refine q_istore_n 1 12 (L' := [_, _]) dX2_makeRows_11 rfl (by decide) rfl rfl ?_
    refine q_aload_n 0 13 dX2_makeRows_12 rfl rfl rfl ?_
    refine q_getR 0 16 f_X2_47 dX2_makeRows_13 rfl rfl rfl rfl ?_
    refine q_alenI 4 _ 17 dX2_makeRows_16 rfl rfl rfl ?_
    refine q_iload_n 1 18 dX2_makeRows_17 rfl rfl rfl ?_
    refine q_icmp_ge 35 21 dX2_makeRows_18 (by decide) rfl (fun h18 => ?_) (fun h18 => absurd hge h18)
    refine q_aload_n 0 36 dX2_makeRows_35 rfl rfl rfl ?_
    refine q_getI 0 39 f_X2_64 dX2_makeRows_36 rfl rfl rfl ?_
    refine q_iconst (-1) 40 dX2_makeRows_39 ic_m1 rfl ?_
    refine q_icmp_eq 66 43 dX2_makeRows_40 (by decide) rfl (fun h40 => ?_) (fun h40 => absurd ht h40)
    refine q_return dX2_makeRows_66 rfl ?_
    exact pX.mk (r 13, r 14, Nv, uf, vf) hO rfl (by rw [rs2_self])
theorem rs4_self (r : Nat → Nat) (a b : Nat) : rs4 r a b (r 15) (r 16) = rs2 r a b := by
  funext k
  unfold rs4 rs2
  by_cases h3 : k = 15
  · subst h3; rfl
  · by_cases h4 : k = 16
    · subst h4; rfl
    · rw [if_neg h3, if_neg h4]
theorem c_X2_makeRows1 {l : Launch} {g : Gh} {q ke ta N Nv Ns : Nat} {r : Nat → Nat} {i ip kf uf vf us vs : Sc} (ht : ¬ i 11 = -1) (hN : N ≤ 2 ^ 22) (hv : Nv < 2 ^ 30) (hs : Ns < 2 ^ 30) : Cn l g yX2_makeRows (Cond.code yX2_makeRows cX2_makeRows 2 none) 2 (rwC Nv N + rwC Ns N) (rwS Nv N + rwS Ns N) [.ref q] [(q, ob 2 i (rO r)), (r 0, ob 3 ip (rPl ke ta)), (ke, aI g N kf), ((r 13), aI g Nv uf), ((r 14), aI g Nv vf), ((r 15), aI g Ns us), ((r 16), aI g Ns vs)] (fun _ : RwS × RwS => none) (fun z : RwS × RwS => [(q, ob 2 i (rO (rs4 r z.1.1 z.1.2.1 z.2.1 z.2.2.1))), (r 0, ob 3 ip (rPl ke ta)), (ke, aI g N kf), (z.1.1, aI g z.1.2.2.1 z.1.2.2.2.1), (z.1.2.1, aI g z.1.2.2.1 z.1.2.2.2.2), (z.2.1, aI g z.2.2.2.1 z.2.2.2.2.1), (z.2.2.1, aI g z.2.2.2.1 z.2.2.2.2.2)]) (fun z k n => ∃ k1 n1 k2 n2, rwO Nv N z.1.2.2.1 k1 n1 ∧ rwO Ns N z.2.2.2.1 k2 n2 ∧ k = k1 + k2 ∧ n = n1 + n2) := by
  refine ct_of (M := mtX2_makeRows) [some (.ref q), none] rfl (by decide) (Nat.le_of_ble_eq_true rfl) (fun _ h => h) (fun a => ?_)
  have e5 : (4 : Int32) + nI N + 1 = nI (N + 5) := by rw [show (4 : Int32) = nI 4 by decide, nI_add, nI_1]; congr 1; omega
  have K35 : ∀ (a1 b1 N2 kk nn : Nat) (u1 v1 : Sc), rwO Nv N N2 kk nn → kk = rwC Nv N → nn = rwS Nv N → WPs l g mtX2_makeRows 2 (rwC Nv N + rwC Ns N) (rwS Nv N + rwS Ns N) (pX (fun _ : RwS × RwS => none) (fun z : RwS × RwS => [(q, ob 2 i (rO (rs4 r z.1.1 z.1.2.1 z.2.1 z.2.2.1))), (r 0, ob 3 ip (rPl ke ta)), (ke, aI g N kf), (z.1.1, aI g z.1.2.2.1 z.1.2.2.2.1), (z.1.2.1, aI g z.1.2.2.1 z.1.2.2.2.2), (z.2.1, aI g z.2.2.2.1 z.2.2.2.2.1), (z.2.2.1, aI g z.2.2.2.1 z.2.2.2.2.2)]) (fun z k n => ∃ k1 n1 k2 n2, rwO Nv N z.1.2.2.1 k1 n1 ∧ rwO Ns N z.2.2.2.1 k2 n2 ∧ k = k1 + k2 ∧ n = n1 + n2)) noX a 35 [some (.ref q), some (.int (nI (N + 5)))] [] [(q, ob 2 i (rO (rs2 r a1 b1))), (r 0, ob 3 ip (rPl ke ta)), (ke, aI g N kf), (a1, aI g N2 u1), (b1, aI g N2 v1), ((r 15), aI g Ns us), ((r 16), aI g Ns vs)] kk nn := by
    intro a1 b1 N2 kk nn u1 v1 hO1 hk hn
    by_cases hg : Ns < N + 5
    · have hlt : ¬ nI (N + 5) ≤ nI Ns := nI_ge hg (by omega)
      have c2 : rwC Ns N = 2 := if_pos hg
      have s2 : rwS Ns N = 2 * (N + 5) := if_pos hg
      have hO : rwO Ns N (N + 5) 2 (2 * (N + 5)) := ⟨(if_pos hg).symm, (if_pos hg).symm, (if_pos hg).symm⟩
      generalize hn5 : N + 5 = N5 at *
      refine q_aload_n 0 36 dX2_makeRows_35 rfl rfl rfl ?_
      refine q_getI 0 39 f_X2_64 dX2_makeRows_36 rfl rfl rfl ?_
      refine q_iconst (-1) 40 dX2_makeRows_39 ic_m1 rfl ?_
      refine q_icmp_eq 66 43 dX2_makeRows_40 (by decide) rfl (fun h40 => absurd h40 ht) (fun h40 => ?_)
      refine q_aload_n 0 44 dX2_makeRows_43 rfl rfl rfl ?_
      refine q_getR 0 47 f_X2_53 dX2_makeRows_44 rfl rfl rfl rfl ?_
      refine q_alenI 6 _ 48 dX2_makeRows_47 rfl rfl rfl ?_
      refine q_iload_n 1 49 dX2_makeRows_48 rfl rfl rfl ?_
      refine q_icmp_ge 66 52 dX2_makeRows_49 (by decide) rfl (fun h49 => absurd h49 hlt) (fun h49 => ?_)
      refine q_aload_n 0 53 dX2_makeRows_52 rfl rfl rfl ?_
      refine q_iload_n 1 54 dX2_makeRows_53 rfl rfl rfl ?_
      refine q_newI 56 dX2_makeRows_54 rfl (by omega) (by omega) (by omega) rfl (fun q54 => ?_)
      refine q_putR 0 59 (w' := [_, _, _, _, _, _, _, _]) (r' := [_, _, _, _, _, _, _, _, _, _, _, _, _, _, _, _, _]) f_X2_53 ft_X2_16 dX2_makeRows_56 rfl rfl (Nat.le_of_ble_eq_true rfl) rfl rfl rfl rfl rfl ?_
      refine q_aload_n 0 60 dX2_makeRows_59 rfl rfl rfl ?_
      refine q_iload_n 1 61 dX2_makeRows_60 rfl rfl rfl ?_
      refine q_newI 63 dX2_makeRows_61 rfl (by omega) (by omega) (by omega) rfl (fun q61 => ?_)
      refine q_putR 0 66 (w' := [_, _, _, _, _, _, _, _, _]) (r' := [_, _, _, _, _, _, _, _, _, _, _, _, _, _, _, _, _]) f_X2_50 ft_X2_15 dX2_makeRows_63 rfl rfl (Nat.le_of_ble_eq_true rfl) rfl rfl rfl rfl rfl ?_
      refine q_sub (ws' := [_, _, _, _, _, _, _]) [0, 1, 2, 3, 4, 8, 7] rfl rfl ?_
      refine q_return dX2_makeRows_66 rfl ?_
      exact pX.mk ((a1, b1, N2, u1, v1), (q61, q54, N5, (fun _ => 0), (fun _ => 0))) ⟨_, _, _, _, hO1, hO, by omega, by omega⟩ rfl rfl
    · have hge : nI (N + 5) ≤ nI Ns := nI_le (by omega) (by omega)
      have hO : rwO Ns N Ns 0 0 := ⟨(if_neg hg).symm, (if_neg hg).symm, (if_neg hg).symm⟩
      refine q_aload_n 0 36 dX2_makeRows_35 rfl rfl rfl ?_
      refine q_getI 0 39 f_X2_64 dX2_makeRows_36 rfl rfl rfl ?_
      refine q_iconst (-1) 40 dX2_makeRows_39 ic_m1 rfl ?_
      refine q_icmp_eq 66 43 dX2_makeRows_40 (by decide) rfl (fun h40 => absurd h40 ht) (fun h40 => ?_)
      refine q_aload_n 0 44 dX2_makeRows_43 rfl rfl rfl ?_
      refine q_getR 0 47 f_X2_53 dX2_makeRows_44 rfl rfl rfl rfl ?_
      refine q_alenI 6 _ 48 dX2_makeRows_47 rfl rfl rfl ?_
      refine q_iload_n 1 49 dX2_makeRows_48 rfl rfl rfl ?_
      refine q_icmp_ge 66 52 dX2_makeRows_49 (by decide) rfl (fun h49 => ?_) (fun h49 => absurd hge h49)
      refine q_return dX2_makeRows_66 rfl ?_
      exact pX.mk ((a1, b1, N2, u1, v1), (r 15, r 16, Ns, us, vs)) ⟨_, _, _, _, hO1, hO, rfl, rfl⟩ rfl (by rw [rs4_self])
  by_cases hg : Nv < N + 5
  · have hlt : ¬ nI (N + 5) ≤ nI Nv := nI_ge hg (by omega)
    have c2 : rwC Nv N = 2 := if_pos hg
    have s2 : rwS Nv N = 2 * (N + 5) := if_pos hg
    have hO : rwO Nv N (N + 5) (0 + 1 + 1) (0 + (N + 5) + (N + 5)) := ⟨(if_pos hg).symm, (if_pos hg).symm, by rw [show rwS Nv N = 2 * (N + 5) from if_pos hg]; omega⟩
    generalize hn : N + 5 = N5 at *
    refine q_iconst 4 1 dX2_makeRows_0 ic_4 rfl ?_
    refine q_aload_n 0 2 dX2_makeRows_1 rfl rfl rfl ?_
    refine q_getR 0 5 f_X2_12 dX2_makeRows_2 rfl rfl rfl rfl ?_
    refine q_cVi 1 [1, 2] [0, 3, 4, 5, 6] [0, 5, 6, 1, 2, 3, 4] 8 (wr := [_, _, _, _, _]) (w1 := _) (ws' := [_, _, _, _, _, _, _]) c_X3_room m_X2_191 dX2_makeRows_5 rfl rfl rfl rfl rfl rfl rfl rfl (by decide) (by decide) (by decide) (by decide) (Nat.le_of_ble_eq_true rfl) (by omega) (by omega) (by omega) rfl ?_
    refine q_iadd 9 dX2_makeRows_8 rfl ?_
    refine q_iconst 1 10 dX2_makeRows_9 ic_1 rfl ?_
    refine q_iadd 11 dX2_makeRows_10 rfl ?_
    rw [e5]
    refine q_istore_n 1 12 (L' := [_, _]) dX2_makeRows_11 rfl (by decide) rfl rfl ?_
    refine q_aload_n 0 13 dX2_makeRows_12 rfl rfl rfl ?_
    refine q_getR 0 16 f_X2_47 dX2_makeRows_13 rfl rfl rfl rfl ?_
    refine q_alenI 4 _ 17 dX2_makeRows_16 rfl rfl rfl ?_
    refine q_iload_n 1 18 dX2_makeRows_17 rfl rfl rfl ?_
    refine q_icmp_ge 35 21 dX2_makeRows_18 (by decide) rfl (fun h18 => absurd h18 hlt) (fun h18 => ?_)
    refine q_aload_n 0 22 dX2_makeRows_21 rfl rfl rfl ?_
    refine q_iload_n 1 23 dX2_makeRows_22 rfl rfl rfl ?_
    refine q_newI 25 dX2_makeRows_23 rfl (by omega) (by omega) (by omega) rfl (fun q23 => ?_)
    refine q_putR 0 28 (w' := [_, _, _, _, _, _, _, _]) (r' := [_, _, _, _, _, _, _, _, _, _, _, _, _, _, _, _, _]) f_X2_47 ft_X2_14 dX2_makeRows_25 rfl rfl (Nat.le_of_ble_eq_true rfl) rfl rfl rfl rfl rfl ?_
    refine q_aload_n 0 29 dX2_makeRows_28 rfl rfl rfl ?_
    refine q_iload_n 1 30 dX2_makeRows_29 rfl rfl rfl ?_
    refine q_newI 32 dX2_makeRows_30 rfl (by omega) (by omega) (by omega) rfl (fun q30 => ?_)
    refine q_putR 0 35 (w' := [_, _, _, _, _, _, _, _, _]) (r' := [_, _, _, _, _, _, _, _, _, _, _, _, _, _, _, _, _]) f_X2_44 ft_X2_13 dX2_makeRows_32 rfl rfl (Nat.le_of_ble_eq_true rfl) rfl rfl rfl rfl rfl ?_
    refine q_sub (ws' := [_, _, _, _, _, _, _]) [0, 1, 2, 8, 7, 5, 6] rfl rfl ?_
    exact K35 _ _ _ _ _ _ _ hO (by omega) (by omega)
  · have hge : nI (N + 5) ≤ nI Nv := nI_le (by omega) (by omega)
    have hO : rwO Nv N Nv 0 0 := ⟨(if_neg hg).symm, (if_neg hg).symm, (if_neg hg).symm⟩
    have K1 := K35 (r 13) (r 14) Nv 0 0 uf vf hO (if_neg hg).symm (if_neg hg).symm
    rw [rs2_self] at K1
    refine q_iconst 4 1 dX2_makeRows_0 ic_4 rfl ?_
    refine q_aload_n 0 2 dX2_makeRows_1 rfl rfl rfl ?_
    refine q_getR 0 5 f_X2_12 dX2_makeRows_2 rfl rfl rfl rfl ?_
    refine q_cVi 1 [1, 2] [0, 3, 4, 5, 6] [0, 5, 6, 1, 2, 3, 4] 8 (wr := [_, _, _, _, _]) (w1 := _) (ws' := [_, _, _, _, _, _, _]) c_X3_room m_X2_191 dX2_makeRows_5 rfl rfl rfl rfl rfl rfl rfl rfl (by decide) (by decide) (by decide) (by decide) (Nat.le_of_ble_eq_true rfl) (by omega) (by omega) (by omega) rfl ?_
    refine q_iadd 9 dX2_makeRows_8 rfl ?_
    refine q_iconst 1 10 dX2_makeRows_9 ic_1 rfl ?_
    refine q_iadd 11 dX2_makeRows_10 rfl ?_
    rw [e5]
    refine q_istore_n 1 12 (L' := [_, _]) dX2_makeRows_11 rfl (by decide) rfl rfl ?_
    refine q_aload_n 0 13 dX2_makeRows_12 rfl rfl rfl ?_
    refine q_getR 0 16 f_X2_47 dX2_makeRows_13 rfl rfl rfl rfl ?_
    refine q_alenI 4 _ 17 dX2_makeRows_16 rfl rfl rfl ?_
    refine q_iload_n 1 18 dX2_makeRows_17 rfl rfl rfl ?_
    refine q_icmp_ge 35 21 dX2_makeRows_18 (by decide) rfl (fun h18 => ?_) (fun h18 => absurd hge h18)
    exact K1

