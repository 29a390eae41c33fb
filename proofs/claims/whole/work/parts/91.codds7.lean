/-! ===== Odds: room, entries ===== -/
abbrev ArS : Type := Nat × Nat × Sc
def rs5 (r : Nat → Nat) (a : Nat) : Nat → Nat := fun k => if k = 5 then a else r k
def rs56 (r : Nat → Nat) (a b : Nat) : Nat → Nat := fun k => if k = 5 then a else if k = 6 then b else r k
def rs7 (r : Nat → Nat) (a : Nat) : Nat → Nat := fun k => if k = 7 then a else r k
theorem rs5_self (r : Nat → Nat) : rs5 r (r 5) = r := by
  funext k; unfold rs5
  by_cases h : k = 5
  · rw [if_pos h, h]
  · rw [if_neg h]
theorem rs7_self (r : Nat → Nat) : rs7 r (r 7) = r := by
  funext k; unfold rs7
  by_cases h : k = 7
  · rw [if_pos h, h]
  · rw [if_neg h]
theorem rs56_self (r : Nat → Nat) (a : Nat) : rs56 r a (r 6) = rs5 r a := by
  funext k; unfold rs56 rs5
  by_cases h : k = 5
  · rw [if_pos h, if_pos h]
  · rw [if_neg h, if_neg h]
    by_cases h2 : k = 6
    · rw [if_pos h2, h2]
    · rw [if_neg h2]
def roC (Nb N : Nat) : Nat := if Nb < N + 5 then 1 else 0
def roS (Nb N : Nat) : Nat := if Nb < N + 5 then N + 5 else 0
/-- the room of a row that keeps what it has -/
def roO (Nb N : Nat) (bf : Sc) (z : ArS) (k n : Nat) : Prop := z.2.1 = (if Nb < N + 5 then N + 5 else Nb) ∧ (∀ p, p < Nb → z.2.2 p = bf p) ∧ k = roC Nb N ∧ n = roS Nb N
theorem c_X2_makeRoom0 {l : Launch} {g : Gh} {q ke ta N Nb : Nat} {r : Nat → Nat} {i ip kf bf : Sc} (ht : i 11 = -1) (hN : N ≤ 2 ^ 22) (hb : Nb < 2 ^ 30) : Cn l g yX2_makeRoom (Cond.code yX2_makeRoom cX2_makeRoom 2 none) 3 (roC Nb N) (roS Nb N) [.ref q] [(q, ob 2 i (rO r)), (r 0, ob 3 ip (rPl ke ta)), (ke, aI g N kf), ((r 5), aI g Nb bf)] (fun _ : ArS => none) (fun z : ArS => [(q, ob 2 i (rO (rs5 r z.1))), (r 0, ob 3 ip (rPl ke ta)), (ke, aI g N kf), (z.1, aI g z.2.1 z.2.2)]) (fun z k n => roO Nb N bf z k n) := by
  refine ct_of (M := mtX2_makeRoom) [some (.ref q), none] rfl (by decide) (Nat.le_of_ble_eq_true rfl) (fun _ h => h) (fun a => ?_)
  have e5 : (4 : Int32) + nI N + 1 = nI (N + 5) := by rw [show (4 : Int32) = nI 4 by decide, nI_add, nI_1]; congr 1; omega
  by_cases hg : Nb < N + 5
  · have hlt : ¬ nI (N + 5) ≤ nI Nb := nI_ge hg (by omega)
    have c1 : roC Nb N = 1 := if_pos hg
    have c2 : roS Nb N = N + 5 := if_pos hg
    have c3 : (if Nb < N + 5 then N + 5 else Nb) = N + 5 := if_pos hg
    refine q_iconst 4 1 dX2_makeRoom_0 ic_4 rfl ?_
    refine q_aload_n 0 2 dX2_makeRoom_1 rfl rfl rfl ?_
    refine q_getR 0 5 f_X2_12 dX2_makeRoom_2 rfl rfl rfl rfl ?_
    refine q_cVi 1 [1, 2] [0, 3] [0, 2, 3, 1] 8 (wr := [_, _]) (w1 := _) (ws' := [_, _, _, _]) c_X3_room m_X2_191 dX2_makeRoom_5 rfl rfl rfl rfl rfl rfl rfl rfl (by decide) (by decide) (by decide) (by decide) (Nat.le_of_ble_eq_true rfl) (by omega) (by omega) (by omega) rfl ?_
    refine q_iadd 9 dX2_makeRoom_8 rfl ?_
    refine q_iconst 1 10 dX2_makeRoom_9 ic_1 rfl ?_
    refine q_iadd 11 dX2_makeRoom_10 rfl ?_
    rw [e5]
    refine q_istore_n 1 12 (L' := [_, _]) dX2_makeRoom_11 rfl (by decide) rfl rfl ?_
    refine q_aload_n 0 13 dX2_makeRoom_12 rfl rfl rfl ?_
    refine q_getR 0 16 f_X2_35 dX2_makeRoom_13 rfl rfl rfl rfl ?_
    refine q_alenI 3 _ 17 dX2_makeRoom_16 rfl rfl rfl ?_
    refine q_iload_n 1 18 dX2_makeRoom_17 rfl rfl rfl ?_
    refine q_icmp_ge 33 21 dX2_makeRoom_18 (by decide) rfl (fun h18 => absurd h18 hlt) (fun h18 => ?_)
    refine q_aload_n 0 22 dX2_makeRoom_21 rfl rfl rfl ?_
    refine q_aload_n 0 23 dX2_makeRoom_22 rfl rfl rfl ?_
    refine q_getR 0 26 f_X2_35 dX2_makeRoom_23 rfl rfl rfl rfl ?_
    refine q_iload_n 1 27 dX2_makeRoom_26 rfl rfl rfl ?_
    refine q_ySr [3] [0, 1, 2] [0, 1, 2, 3, 4] 30 (wr := [_, _, _]) (w1 := _) (ws' := fun _ => [_, _, _, _, _]) (c_copyI (n := Nb) (N := N + 5) (by omega) (by omega) (by omega)) m_X2_185 dX2_makeRoom_27 rfl rfl rfl rfl (fun _ => rfl) (by decide) (by decide) (by decide) (by decide) (Nat.le_of_ble_eq_true rfl) (by omega) (by omega) (by omega) rfl (fun q927 k27 n27 hx27 => ?_)
    refine q_putR 0 33 (w' := [_, _, _, _, _]) (r' := [_, _, _, _, _, _, _, _, _, _, _, _, _, _, _, _, _]) f_X2_35 ft_X2_5 dX2_makeRoom_30 rfl rfl (Nat.le_of_ble_eq_true rfl) rfl rfl rfl rfl rfl ?_
    refine q_aload_n 0 34 dX2_makeRoom_33 rfl rfl rfl ?_
    refine q_getI 0 37 f_X2_64 dX2_makeRoom_34 rfl rfl rfl ?_
    refine q_iconst (-1) 38 dX2_makeRoom_37 ic_m1 rfl ?_
    refine q_icmp_eq 62 41 dX2_makeRoom_38 (by decide) rfl (fun h38 => ?_) (fun h38 => absurd ht h38)
    refine q_sub (ws' := [_, _, _, _]) [0, 1, 2, 4] rfl rfl ?_
    refine q_return dX2_makeRoom_62 rfl ?_
    exact pX.mk (q927, N + 5, ext bf Nb (N + 5)) ⟨c3.symm, fun p hp => ext_lt bf hp (by omega), by omega, by omega⟩ rfl rfl
  · have hge : nI (N + 5) ≤ nI Nb := nI_le (by omega) (by omega)
    refine q_iconst 4 1 dX2_makeRoom_0 ic_4 rfl ?_
    refine q_aload_n 0 2 dX2_makeRoom_1 rfl rfl rfl ?_
    refine q_getR 0 5 f_X2_12 dX2_makeRoom_2 rfl rfl rfl rfl ?_
    refine q_cVi 1 [1, 2] [0, 3] [0, 2, 3, 1] 8 (wr := [_, _]) (w1 := _) (ws' := [_, _, _, _]) c_X3_room m_X2_191 dX2_makeRoom_5 rfl rfl rfl rfl rfl rfl rfl rfl (by decide) (by decide) (by decide) (by decide) (Nat.le_of_ble_eq_true rfl) (by omega) (by omega) (by omega) rfl ?_
    refine q_iadd 9 dX2_makeRoom_8 rfl ?_
    refine q_iconst 1 10 dX2_makeRoom_9 ic_1 rfl ?_
    refine q_iadd 11 dX2_makeRoom_10 rfl ?_
    rw [e5]
    refine q_istore_n 1 12 (L' := [_, _]) dX2_makeRoom_11 rfl (by decide) rfl rfl ?_
    refine q_aload_n 0 13 dX2_makeRoom_12 rfl rfl rfl ?_
    refine q_getR 0 16 f_X2_35 dX2_makeRoom_13 rfl rfl rfl rfl ?_
    refine q_alenI 3 _ 17 dX2_makeRoom_16 rfl rfl rfl ?_
    refine q_iload_n 1 18 dX2_makeRoom_17 rfl rfl rfl ?_
    refine q_icmp_ge 33 21 dX2_makeRoom_18 (by decide) rfl (fun h18 => ?_) (fun h18 => absurd hge h18)
    refine q_aload_n 0 34 dX2_makeRoom_33 rfl rfl rfl ?_
    refine q_getI 0 37 f_X2_64 dX2_makeRoom_34 rfl rfl rfl ?_
    refine q_iconst (-1) 38 dX2_makeRoom_37 ic_m1 rfl ?_
    refine q_icmp_eq 62 41 dX2_makeRoom_38 (by decide) rfl (fun h38 => ?_) (fun h38 => absurd ht h38)
    refine q_return dX2_makeRoom_62 rfl ?_
    exact pX.mk (r 5, Nb, bf) ⟨(if_neg hg).symm, fun _ _ => rfl, (if_neg hg).symm, (if_neg hg).symm⟩ rfl (by rw [rs5_self])
theorem c_X2_makeRoom1 {l : Launch} {g : Gh} {q ke ta N Nb Nt : Nat} {r : Nat → Nat} {i ip kf bf tf : Sc} (ht : ¬ i 11 = -1) (hN : N ≤ 2 ^ 22) (hb : Nb < 2 ^ 30) (hnt : Nt < 2 ^ 30) : Cn l g yX2_makeRoom (Cond.code yX2_makeRoom cX2_makeRoom 2 none) 3 (roC Nb N + roC Nt N) (roS Nb N + roS Nt N) [.ref q] [(q, ob 2 i (rO r)), (r 0, ob 3 ip (rPl ke ta)), (ke, aI g N kf), ((r 5), aI g Nb bf), ((r 6), aI g Nt tf)] (fun _ : ArS × ArS => none) (fun z : ArS × ArS => [(q, ob 2 i (rO (rs56 r z.1.1 z.2.1))), (r 0, ob 3 ip (rPl ke ta)), (ke, aI g N kf), (z.1.1, aI g z.1.2.1 z.1.2.2), (z.2.1, aI g z.2.2.1 z.2.2.2)]) (fun z k n => ∃ k1 n1 k2 n2, roO Nb N bf z.1 k1 n1 ∧ roO Nt N tf z.2 k2 n2 ∧ k = k1 + k2 ∧ n = n1 + n2) := by
  refine ct_of (M := mtX2_makeRoom) [some (.ref q), none] rfl (by decide) (Nat.le_of_ble_eq_true rfl) (fun _ h => h) (fun a => ?_)
  have e5 : (4 : Int32) + nI N + 1 = nI (N + 5) := by rw [show (4 : Int32) = nI 4 by decide, nI_add, nI_1]; congr 1; omega
  have K33 : ∀ (a1 N1 kk nn : Nat) (b1 : Sc), roO Nb N bf (a1, N1, b1) kk nn → WPs l g mtX2_makeRoom 3 (roC Nb N + roC Nt N) (roS Nb N + roS Nt N) (pX (fun _ : ArS × ArS => none) (fun z : ArS × ArS => [(q, ob 2 i (rO (rs56 r z.1.1 z.2.1))), (r 0, ob 3 ip (rPl ke ta)), (ke, aI g N kf), (z.1.1, aI g z.1.2.1 z.1.2.2), (z.2.1, aI g z.2.2.1 z.2.2.2)]) (fun z k n => ∃ k1 n1 k2 n2, roO Nb N bf z.1 k1 n1 ∧ roO Nt N tf z.2 k2 n2 ∧ k = k1 + k2 ∧ n = n1 + n2)) noX a 33 [some (.ref q), some (.int (nI (N + 5)))] [] [(q, ob 2 i (rO (rs5 r a1))), (r 0, ob 3 ip (rPl ke ta)), (ke, aI g N kf), (a1, aI g N1 b1), ((r 6), aI g Nt tf)] kk nn := by
    intro a1 N1 kk nn b1 hO1
    have hkn := hO1.2.2
    by_cases hg : Nt < N + 5
    · have hlt : ¬ nI (N + 5) ≤ nI Nt := nI_ge hg (by omega)
      have c1 : roC Nt N = 1 := if_pos hg
      have c2 : roS Nt N = N + 5 := if_pos hg
      have c3 : (if Nt < N + 5 then N + 5 else Nt) = N + 5 := if_pos hg
      refine q_aload_n 0 34 dX2_makeRoom_33 rfl rfl rfl ?_
      refine q_getI 0 37 f_X2_64 dX2_makeRoom_34 rfl rfl rfl ?_
      refine q_iconst (-1) 38 dX2_makeRoom_37 ic_m1 rfl ?_
      refine q_icmp_eq 62 41 dX2_makeRoom_38 (by decide) rfl (fun h38 => absurd h38 ht) (fun h38 => ?_)
      refine q_aload_n 0 42 dX2_makeRoom_41 rfl rfl rfl ?_
      refine q_getR 0 45 f_X2_38 dX2_makeRoom_42 rfl rfl rfl rfl ?_
      refine q_alenI 4 _ 46 dX2_makeRoom_45 rfl rfl rfl ?_
      refine q_iload_n 1 47 dX2_makeRoom_46 rfl rfl rfl ?_
      refine q_icmp_ge 62 50 dX2_makeRoom_47 (by decide) rfl (fun h47 => absurd h47 hlt) (fun h47 => ?_)
      refine q_aload_n 0 51 dX2_makeRoom_50 rfl rfl rfl ?_
      refine q_aload_n 0 52 dX2_makeRoom_51 rfl rfl rfl ?_
      refine q_getR 0 55 f_X2_38 dX2_makeRoom_52 rfl rfl rfl rfl ?_
      refine q_iload_n 1 56 dX2_makeRoom_55 rfl rfl rfl ?_
      refine q_ySr [4] [0, 1, 2, 3] [0, 1, 2, 3, 4, 5] 59 (wr := [_, _, _, _]) (w1 := _) (ws' := fun _ => [_, _, _, _, _, _]) (c_copyI (n := Nt) (N := N + 5) (by omega) (by omega) (by omega)) m_X2_185 dX2_makeRoom_56 rfl rfl rfl rfl (fun _ => rfl) (by decide) (by decide) (by decide) (by decide) (Nat.le_of_ble_eq_true rfl) (by omega) (by omega) (by omega) rfl (fun q956 k56 n56 hx56 => ?_)
      refine q_putR 0 62 (w' := [_, _, _, _, _, _]) (r' := [_, _, _, _, _, _, _, _, _, _, _, _, _, _, _, _, _]) f_X2_38 ft_X2_6 dX2_makeRoom_59 rfl rfl (Nat.le_of_ble_eq_true rfl) rfl rfl rfl rfl rfl ?_
      refine q_sub (ws' := [_, _, _, _, _]) [0, 1, 2, 3, 5] rfl rfl ?_
      refine q_return dX2_makeRoom_62 rfl ?_
      exact pX.mk ((a1, N1, b1), (q956, N + 5, ext tf Nt (N + 5))) ⟨kk, nn, 1, N + 5, hO1, ⟨c3.symm, fun p hp => ext_lt tf hp (by omega), c1.symm, c2.symm⟩, by omega, by omega⟩ rfl rfl
    · have hge : nI (N + 5) ≤ nI Nt := nI_le (by omega) (by omega)
      refine q_aload_n 0 34 dX2_makeRoom_33 rfl rfl rfl ?_
      refine q_getI 0 37 f_X2_64 dX2_makeRoom_34 rfl rfl rfl ?_
      refine q_iconst (-1) 38 dX2_makeRoom_37 ic_m1 rfl ?_
      refine q_icmp_eq 62 41 dX2_makeRoom_38 (by decide) rfl (fun h38 => absurd h38 ht) (fun h38 => ?_)
      refine q_aload_n 0 42 dX2_makeRoom_41 rfl rfl rfl ?_
      refine q_getR 0 45 f_X2_38 dX2_makeRoom_42 rfl rfl rfl rfl ?_
      refine q_alenI 4 _ 46 dX2_makeRoom_45 rfl rfl rfl ?_
      refine q_iload_n 1 47 dX2_makeRoom_46 rfl rfl rfl ?_
      refine q_icmp_ge 62 50 dX2_makeRoom_47 (by decide) rfl (fun h47 => ?_) (fun h47 => absurd hge h47)
      refine q_return dX2_makeRoom_62 rfl ?_
      exact pX.mk ((a1, N1, b1), (r 6, Nt, tf)) ⟨kk, nn, 0, 0, hO1, ⟨(if_neg hg).symm, fun _ _ => rfl, (if_neg hg).symm, (if_neg hg).symm⟩, rfl, rfl⟩ rfl (by rw [rs56_self])
  by_cases hg : Nb < N + 5
  · have hlt : ¬ nI (N + 5) ≤ nI Nb := nI_ge hg (by omega)
    have c1 : roC Nb N = 1 := if_pos hg
    have c2 : roS Nb N = N + 5 := if_pos hg
    have c3 : (if Nb < N + 5 then N + 5 else Nb) = N + 5 := if_pos hg
    refine q_iconst 4 1 dX2_makeRoom_0 ic_4 rfl ?_
    refine q_aload_n 0 2 dX2_makeRoom_1 rfl rfl rfl ?_
    refine q_getR 0 5 f_X2_12 dX2_makeRoom_2 rfl rfl rfl rfl ?_
    refine q_cVi 1 [1, 2] [0, 3, 4] [0, 3, 4, 1, 2] 8 (wr := [_, _, _]) (w1 := _) (ws' := [_, _, _, _, _]) c_X3_room m_X2_191 dX2_makeRoom_5 rfl rfl rfl rfl rfl rfl rfl rfl (by decide) (by decide) (by decide) (by decide) (Nat.le_of_ble_eq_true rfl) (by omega) (by omega) (by omega) rfl ?_
    refine q_iadd 9 dX2_makeRoom_8 rfl ?_
    refine q_iconst 1 10 dX2_makeRoom_9 ic_1 rfl ?_
    refine q_iadd 11 dX2_makeRoom_10 rfl ?_
    rw [e5]
    refine q_istore_n 1 12 (L' := [_, _]) dX2_makeRoom_11 rfl (by decide) rfl rfl ?_
    refine q_aload_n 0 13 dX2_makeRoom_12 rfl rfl rfl ?_
    refine q_getR 0 16 f_X2_35 dX2_makeRoom_13 rfl rfl rfl rfl ?_
    refine q_alenI 3 _ 17 dX2_makeRoom_16 rfl rfl rfl ?_
    refine q_iload_n 1 18 dX2_makeRoom_17 rfl rfl rfl ?_
    refine q_icmp_ge 33 21 dX2_makeRoom_18 (by decide) rfl (fun h18 => absurd h18 hlt) (fun h18 => ?_)
    refine q_aload_n 0 22 dX2_makeRoom_21 rfl rfl rfl ?_
    refine q_aload_n 0 23 dX2_makeRoom_22 rfl rfl rfl ?_
    refine q_getR 0 26 f_X2_35 dX2_makeRoom_23 rfl rfl rfl rfl ?_
    refine q_iload_n 1 27 dX2_makeRoom_26 rfl rfl rfl ?_
    refine q_ySr [3] [0, 1, 2, 4] [0, 1, 2, 4, 3, 5] 30 (wr := [_, _, _, _]) (w1 := _) (ws' := fun _ => [_, _, _, _, _, _]) (c_copyI (n := Nb) (N := N + 5) (by omega) (by omega) (by omega)) m_X2_185 dX2_makeRoom_27 rfl rfl rfl rfl (fun _ => rfl) (by decide) (by decide) (by decide) (by decide) (Nat.le_of_ble_eq_true rfl) (by omega) (by omega) (by omega) rfl (fun q927 k27 n27 hx27 => ?_)
    refine q_putR 0 33 (w' := [_, _, _, _, _, _]) (r' := [_, _, _, _, _, _, _, _, _, _, _, _, _, _, _, _, _]) f_X2_35 ft_X2_5 dX2_makeRoom_30 rfl rfl (Nat.le_of_ble_eq_true rfl) rfl rfl rfl rfl rfl ?_
    refine q_sub (ws' := [_, _, _, _, _]) [0, 1, 2, 5, 4] rfl rfl ?_
    exact K33 q927 (N + 5) _ _ _ ⟨c3.symm, fun p hp => ext_lt bf hp (by omega), by omega, by omega⟩
  · have hge : nI (N + 5) ≤ nI Nb := nI_le (by omega) (by omega)
    have K1 := K33 (r 5) Nb 0 0 bf ⟨(if_neg hg).symm, fun _ _ => rfl, (if_neg hg).symm, (if_neg hg).symm⟩
    rw [rs5_self] at K1
    refine q_iconst 4 1 dX2_makeRoom_0 ic_4 rfl ?_
    refine q_aload_n 0 2 dX2_makeRoom_1 rfl rfl rfl ?_
    refine q_getR 0 5 f_X2_12 dX2_makeRoom_2 rfl rfl rfl rfl ?_
    refine q_cVi 1 [1, 2] [0, 3, 4] [0, 3, 4, 1, 2] 8 (wr := [_, _, _]) (w1 := _) (ws' := [_, _, _, _, _]) c_X3_room m_X2_191 dX2_makeRoom_5 rfl rfl rfl rfl rfl rfl rfl rfl (by decide) (by decide) (by decide) (by decide) (Nat.le_of_ble_eq_true rfl) (by omega) (by omega) (by omega) rfl ?_
    refine q_iadd 9 dX2_makeRoom_8 rfl ?_
    refine q_iconst 1 10 dX2_makeRoom_9 ic_1 rfl ?_
    refine q_iadd 11 dX2_makeRoom_10 rfl ?_
    rw [e5]
    refine q_istore_n 1 12 (L' := [_, _]) dX2_makeRoom_11 rfl (by decide) rfl rfl ?_
    refine q_aload_n 0 13 dX2_makeRoom_12 rfl rfl rfl ?_
    refine q_getR 0 16 f_X2_35 dX2_makeRoom_13 rfl rfl rfl rfl ?_
    refine q_alenI 3 _ 17 dX2_makeRoom_16 rfl rfl rfl ?_
    refine q_iload_n 1 18 dX2_makeRoom_17 rfl rfl rfl ?_
    refine q_icmp_ge 33 21 dX2_makeRoom_18 (by decide) rfl (fun h18 => ?_) (fun h18 => absurd hge h18)
    exact K1
/-- has an outcome any weight -/
def mcV (wf : Sc) (o : Nat) : Nat → Nat → Int32
  | 0, _ => 0
  | f + 1, c => if wf (o * 4 + c) ≤ 0 then mcV wf o f (c + 1) else 1
theorem mcV_or (wf : Sc) (o : Nat) : ∀ f c, mcV wf o f c = 0 ∨ mcV wf o f c = 1
  | 0, _ => Or.inl rfl
  | f + 1, c => by
    unfold mcV
    by_cases h : wf (o * 4 + c) ≤ 0
    · rw [if_pos h]; exact mcV_or wf o f (c + 1)
    · rw [if_neg h]; exact Or.inr rfl
theorem c_X2_mayCome {l : Launch} {g : Gh} {q ch o : Nat} {r : Nat → Nat} {i wf : Sc} (hi : i 9 = nI ch) (hch : ch ≤ 4) (ho : o < 12) : Cp l g yX2_mayCome (Cond.code yX2_mayCome cX2_mayCome 3 (some .boolean)) 1 [.ref q, .int (nI o)] [(q, ob 2 i (rO r)), (r 3, aI g 48 wf)] (some (.int (mcV wf o ch 0))) [(q, ob 2 i (rO r)), (r 3, aI g 48 wf)] := by
  refine ct_of (M := mtX2_mayCome) [some (.ref q), some (.int (nI o)), none] rfl (by decide) (Nat.le_of_ble_eq_true rfl) (fun _ h => h) (fun a => ?_)
  have K2 : ∀ (f c : Nat), f + c = ch → WPs l g mtX2_mayCome 1 0 0 (pR (some (.int (mcV wf o f c))) [(q, ob 2 i (rO r)), (r 3, aI g 48 wf)]) noX a 2 [some (.ref q), some (.int (nI o)), some (.int (nI c))] [] [(q, ob 2 i (rO r)), (r 3, aI g 48 wf)] 0 0 := by
    intro f
    induction f with
    | zero =>
      intro c hc
      obtain rfl : c = ch := by omega
      have hge : i 9 ≤ nI c := by rw [hi]; exact Int32.le_refl _
      refine q_iload_n 2 3 dX2_mayCome_2 rfl rfl rfl ?_
      refine q_aload_n 0 4 dX2_mayCome_3 rfl rfl rfl ?_
      refine q_getI 0 7 f_X2_67 dX2_mayCome_4 rfl rfl rfl ?_
      refine q_icmp_ge 31 10 dX2_mayCome_7 (by decide) rfl (fun h7 => ?_) (fun h7 => absurd hge h7)
      refine q_iconst 0 32 dX2_mayCome_31 ic_0 rfl ?_
      refine q_zreturn dX2_mayCome_32 rfl (Or.inl rfl) ?_
      exact pR.rf
    | succ f ih =>
      intro c hc
      have hlt : ¬ i 9 ≤ nI c := by rw [hi]; exact nI_ge (by omega) (by omega)
      have K1 := ih (c + 1) (by omega)
      clear ih
      have ei : nI o * 4 + nI c = nI (o * 4 + c) := by rw [show (4 : Int32) = nI 4 by decide, pk_mul, nI_add]
      unfold mcV
      generalize hj : o * 4 + c = j at *
      by_cases hw : wf j ≤ 0
      · rw [if_pos hw]
        refine q_iload_n 2 3 dX2_mayCome_2 rfl rfl rfl ?_
        refine q_aload_n 0 4 dX2_mayCome_3 rfl rfl rfl ?_
        refine q_getI 0 7 f_X2_67 dX2_mayCome_4 rfl rfl rfl ?_
        refine q_icmp_ge 31 10 dX2_mayCome_7 (by decide) rfl (fun h7 => absurd h7 hlt) (fun h7 => ?_)
        refine q_aload_n 0 11 dX2_mayCome_10 rfl rfl rfl ?_
        refine q_getR 0 14 f_X2_28 dX2_mayCome_11 rfl rfl rfl rfl ?_
        refine q_iload_n 1 15 dX2_mayCome_14 rfl rfl rfl ?_
        refine q_iconst 4 16 dX2_mayCome_15 ic_4 rfl ?_
        refine q_imul 17 dX2_mayCome_16 rfl ?_
        refine q_iload_n 2 18 dX2_mayCome_17 rfl rfl rfl ?_
        refine q_iadd 19 dX2_mayCome_18 rfl ?_
        refine q_iald 1 j 20 dX2_mayCome_19 rfl ⟨ei, by omega, by decide⟩ rfl ?_
        refine q_if_le 25 23 dX2_mayCome_20 (by decide) rfl (fun h20 => ?_) (fun h20 => absurd hw h20)
        refine q_iinc 2 (nI (c + 1)) 28 (L' := [_, _, _]) dX2_mayCome_25 rfl (inc1 (c)) (by decide) rfl rfl ?_
        refine q_goto 2 dX2_mayCome_28 (by decide) ?_
        exact K1
      · rw [if_neg hw]
        refine q_iload_n 2 3 dX2_mayCome_2 rfl rfl rfl ?_
        refine q_aload_n 0 4 dX2_mayCome_3 rfl rfl rfl ?_
        refine q_getI 0 7 f_X2_67 dX2_mayCome_4 rfl rfl rfl ?_
        refine q_icmp_ge 31 10 dX2_mayCome_7 (by decide) rfl (fun h7 => absurd h7 hlt) (fun h7 => ?_)
        refine q_aload_n 0 11 dX2_mayCome_10 rfl rfl rfl ?_
        refine q_getR 0 14 f_X2_28 dX2_mayCome_11 rfl rfl rfl rfl ?_
        refine q_iload_n 1 15 dX2_mayCome_14 rfl rfl rfl ?_
        refine q_iconst 4 16 dX2_mayCome_15 ic_4 rfl ?_
        refine q_imul 17 dX2_mayCome_16 rfl ?_
        refine q_iload_n 2 18 dX2_mayCome_17 rfl rfl rfl ?_
        refine q_iadd 19 dX2_mayCome_18 rfl ?_
        refine q_iald 1 j 20 dX2_mayCome_19 rfl ⟨ei, by omega, by decide⟩ rfl ?_
        refine q_if_le 25 23 dX2_mayCome_20 (by decide) rfl (fun h20 => absurd h20 hw) (fun h20 => ?_)
        refine q_iconst 1 24 dX2_mayCome_23 ic_1 rfl ?_
        refine q_zreturn dX2_mayCome_24 rfl (by decide) ?_
        exact pR.rf
  have K1 := K2 ch 0 rfl
  clear K2
  refine q_iconst 0 1 dX2_mayCome_0 ic_0 rfl ?_
  refine q_istore_n 2 2 (L' := [_, _, _]) dX2_mayCome_1 rfl (by decide) rfl rfl ?_
  exact K1
/-- the pool with one entry more -/
def RoX (u ch o zz : Nat) (wf pf pf' : Sc) : Prop := (∀ p, p < u → pf' p = pf p) ∧ pf' u = nI zz ∧ ∀ c, c < ch → pf' (u + 1 + c) = wf (o * 4 + c)
def poC (Np u : Nat) : Nat := if Np < u then 1 else 0
def poS (Np u : Nat) : Nat := if Np < u then Np * 2 else 0
theorem c_X2_write {l : Launch} {g : Gh} {q ch o zz u Np : Nat} {r : Nat → Nat} {i wf pf : Sc} (hi : i 9 = nI ch) (hch : ch ≤ 4) (ho : o < 12) (hu : i 8 = nI u) (huN : u ≤ Np) (hN1 : 128 ≤ Np) (hN2 : Np ≤ 30000000) : Cn l g yX2_write (Cond.code yX2_write cX2_write 4 none) 3 (poC Np (u + 1 + ch)) (poS Np (u + 1 + ch)) [.ref q, .int (nI o), .int (nI zz)] [(q, ob 2 i (rO r)), (r 3, aI g 48 wf), ((r 7), aI g Np pf)] (fun _ : ArS => none) (fun z : ArS => [(q, ob 2 (upd i 8 (nI (u + 1 + ch))) (rO (rs7 r z.1))), (r 3, aI g 48 wf), (z.1, aI g z.2.1 z.2.2)]) (fun z k n => RoX u ch o zz wf pf z.2.2 ∧ z.2.1 = (if Np < u + 1 + ch then Np * 2 else Np) ∧ 128 * k + Np ≤ z.2.1 ∧ n + 2 * Np = 2 * z.2.1) := by
  refine ct_of (M := mtX2_write) [some (.ref q), some (.int (nI o)), some (.int (nI zz)), none] rfl (by decide) (Nat.le_of_ble_eq_true rfl) (fun _ h => h) (fun a => ?_)
  have e9 : nI u + 1 + i 9 = nI (u + 1 + ch) := by rw [hi, nI_1, nI_add]
  have K37 : ∀ (a1 N1 kk nn : Nat) (p1 : Sc), u + 1 + ch ≤ N1 → N1 ≤ 60000000 → (∀ p, p < u → p1 p = pf p) → N1 = (if Np < u + 1 + ch then Np * 2 else Np) → 128 * kk + Np ≤ N1 → nn + 2 * Np = 2 * N1 → WPs l g mtX2_write 3 (poC Np (u + 1 + ch)) (poS Np (u + 1 + ch)) (pX (fun _ : ArS => none) (fun z : ArS => [(q, ob 2 (upd i 8 (nI (u + 1 + ch))) (rO (rs7 r z.1))), (r 3, aI g 48 wf), (z.1, aI g z.2.1 z.2.2)]) (fun z k n => RoX u ch o zz wf pf z.2.2 ∧ z.2.1 = (if Np < u + 1 + ch then Np * 2 else Np) ∧ 128 * k + Np ≤ z.2.1 ∧ n + 2 * Np = 2 * z.2.1)) noX a 37 [some (.ref q), some (.int (nI o)), some (.int (nI zz)), none] [] [(q, ob 2 i (rO (rs7 r a1))), (r 3, aI g 48 wf), (a1, aI g N1 p1)] kk nn := by
    intro a1 N1 kk nn p1 hN3 hN4 hp1 hN5 hkk hnn
    have K56 : ∀ (f c : Nat) (p2 : Sc), f + c = ch → (∀ p, p < u → p2 p = pf p) → p2 u = nI zz → (∀ d, d < c → p2 (u + 1 + d) = wf (o * 4 + d)) → WPs l g mtX2_write 3 (poC Np (u + 1 + ch)) (poS Np (u + 1 + ch)) (pX (fun _ : ArS => none) (fun z : ArS => [(q, ob 2 (upd i 8 (nI (u + 1 + ch))) (rO (rs7 r z.1))), (r 3, aI g 48 wf), (z.1, aI g z.2.1 z.2.2)]) (fun z k n => RoX u ch o zz wf pf z.2.2 ∧ z.2.1 = (if Np < u + 1 + ch then Np * 2 else Np) ∧ 128 * k + Np ≤ z.2.1 ∧ n + 2 * Np = 2 * z.2.1)) noX a 56 [some (.ref q), some (.int (nI o)), some (.int (nI zz)), some (.int (nI c))] [] [(q, ob 2 (upd i 8 (nI (u + 1 + c))) (rO (rs7 r a1))), (r 3, aI g 48 wf), (a1, aI g N1 p2)] kk nn := by
      intro f
      induction f with
      | zero =>
        intro c p2 hc h1 h2 h3
        obtain rfl : c = ch := by omega
        have hge : upd i 8 (nI (u + 1 + c)) 9 ≤ nI c := by rw [pk_un (by decide), hi]; exact Int32.le_refl _
        refine q_iload_n 3 57 dX2_write_56 rfl rfl rfl ?_
        refine q_aload_n 0 58 dX2_write_57 rfl rfl rfl ?_
        refine q_getI 0 61 f_X2_67 dX2_write_58 rfl rfl rfl ?_
        refine q_icmp_ge 96 64 dX2_write_61 (by decide) rfl (fun h61 => ?_) (fun h61 => absurd hge h61)
        refine q_return dX2_write_96 rfl ?_
        exact pX.mk (a1, N1, p2) ⟨⟨h1, h2, h3⟩, hN5, hkk, hnn⟩ rfl rfl
      | succ f ih =>
        intro c p2 hc h1 h2 h3
        have hlt : ¬ upd i 8 (nI (u + 1 + c)) 9 ≤ nI c := by rw [pk_un (by decide), hi]; exact nI_ge (by omega) (by omega)
        have K1 := ih (c + 1) (upd p2 (u + 1 + c) (wf (o * 4 + c))) (by omega) (fun p hp => by rw [pk_un (by omega)]; exact h1 p hp) (by rw [pk_un (by omega)]; exact h2) (fun d hd => by
          by_cases e : d = c
          · rw [e, pk_us]
          · rw [pk_un (by omega)]; exact h3 d (by omega))
        clear ih
        have ei : nI o * 4 + nI c = nI (o * 4 + c) := by rw [show (4 : Int32) = nI 4 by decide, pk_mul, nI_add]
        rw [show u + 1 + (c + 1) = u + 1 + c + 1 from rfl] at K1
        generalize hj : o * 4 + c = j at *
        generalize hw : u + 1 + c = w at *
        have e8 : upd i 8 (nI w) 8 = nI w := pk_us
        refine q_iload_n 3 57 dX2_write_56 rfl rfl rfl ?_
        refine q_aload_n 0 58 dX2_write_57 rfl rfl rfl ?_
        refine q_getI 0 61 f_X2_67 dX2_write_58 rfl rfl rfl ?_
        refine q_icmp_ge 96 64 dX2_write_61 (by decide) rfl (fun h61 => absurd h61 hlt) (fun h61 => ?_)
        refine q_aload_n 0 65 dX2_write_64 rfl rfl rfl ?_
        refine q_getR 0 68 f_X2_41 dX2_write_65 rfl rfl rfl rfl ?_
        refine q_aload_n 0 69 dX2_write_68 rfl rfl rfl ?_
        refine q_dup 70 dX2_write_69 rfl rfl ?_
        refine q_getI 0 73 f_X2_70 dX2_write_70 rfl rfl rfl ?_
        refine q_dup_x1 74 dX2_write_73 rfl rfl rfl ?_
        refine q_iconst 1 75 dX2_write_74 ic_1 rfl ?_
        rw [e8]
        refine q_iadd 76 dX2_write_75 rfl ?_
        rw [nI_1]
        refine q_putI 0 79 (w' := [_, _, _]) f_X2_70 ft_X2_8 dX2_write_76 rfl rfl rfl rfl ?_
        rw [upd_upd]
        refine q_aload_n 0 80 dX2_write_79 rfl rfl rfl ?_
        refine q_getR 0 83 f_X2_28 dX2_write_80 rfl rfl rfl rfl ?_
        refine q_iload_n 1 84 dX2_write_83 rfl rfl rfl ?_
        refine q_iconst 4 85 dX2_write_84 ic_4 rfl ?_
        refine q_imul 86 dX2_write_85 rfl ?_
        refine q_iload_n 3 87 dX2_write_86 rfl rfl rfl ?_
        refine q_iadd 88 dX2_write_87 rfl ?_
        refine q_iald 1 j 89 dX2_write_88 rfl ⟨ei, by omega, by decide⟩ rfl ?_
        refine q_iast 2 w 90 (w' := [_, _, _]) dX2_write_89 rfl ⟨rfl, by omega, by omega⟩ rfl rfl ?_
        refine q_iinc 3 (nI (c + 1)) 93 (L' := [_, _, _, _]) dX2_write_90 rfl (inc1 (c)) (by decide) rfl rfl ?_
        refine q_goto 56 dX2_write_93 (by decide) ?_
        exact K1
    have K1 := K56 ch 0 (upd p1 u (nI zz)) rfl (fun p hp => by rw [pk_un (by omega)]; exact hp1 p hp) pk_us (fun d hd => absurd hd (Nat.not_lt_zero _))
    clear K56
    rw [Nat.add_zero] at K1
    refine q_aload_n 0 38 dX2_write_37 rfl rfl rfl ?_
    refine q_getR 0 41 f_X2_41 dX2_write_38 rfl rfl rfl rfl ?_
    refine q_aload_n 0 42 dX2_write_41 rfl rfl rfl ?_
    refine q_dup 43 dX2_write_42 rfl rfl ?_
    refine q_getI 0 46 f_X2_70 dX2_write_43 rfl rfl rfl ?_
    refine q_dup_x1 47 dX2_write_46 rfl rfl rfl ?_
    refine q_iconst 1 48 dX2_write_47 ic_1 rfl ?_
    rw [hu]
    refine q_iadd 49 dX2_write_48 rfl ?_
    rw [nI_1]
    refine q_putI 0 52 (w' := [_, _, _]) f_X2_70 ft_X2_8 dX2_write_49 rfl rfl rfl rfl ?_
    refine q_iload_n 2 53 dX2_write_52 rfl rfl rfl ?_
    refine q_iast 2 u 54 (w' := [_, _, _]) dX2_write_53 rfl ⟨rfl, by omega, by omega⟩ rfl rfl ?_
    refine q_iconst 0 55 dX2_write_54 ic_0 rfl ?_
    refine q_istore_n 3 56 (L' := [_, _, _, _]) dX2_write_55 rfl (by decide) rfl rfl ?_
    exact K1
  by_cases hg : Np < u + 1 + ch
  · have hgt : ¬ nI (u + 1 + ch) ≤ nI Np := nI_ge hg (by omega)
    have c1 : poC Np (u + 1 + ch) = 1 := if_pos hg
    have c2 : poS Np (u + 1 + ch) = Np * 2 := if_pos hg
    have c3 : (if Np < u + 1 + ch then Np * 2 else Np) = Np * 2 := if_pos hg
    have e2 : nI Np * 2 = nI (Np * 2) := by rw [show (2 : Int32) = nI 2 by decide, pk_mul]
    refine q_aload_n 0 1 dX2_write_0 rfl rfl rfl ?_
    refine q_getI 0 4 f_X2_70 dX2_write_1 rfl rfl rfl ?_
    refine q_iconst 1 5 dX2_write_4 ic_1 rfl ?_
    rw [hu]
    refine q_iadd 6 dX2_write_5 rfl ?_
    refine q_aload_n 0 7 dX2_write_6 rfl rfl rfl ?_
    refine q_getI 0 10 f_X2_67 dX2_write_7 rfl rfl rfl ?_
    refine q_iadd 11 dX2_write_10 rfl ?_
    rw [e9]
    refine q_aload_n 0 12 dX2_write_11 rfl rfl rfl ?_
    refine q_getR 0 15 f_X2_41 dX2_write_12 rfl rfl rfl rfl ?_
    refine q_alenI 2 _ 16 dX2_write_15 rfl rfl rfl ?_
    refine q_icmp_le 37 19 dX2_write_16 (by decide) rfl (fun h16 => absurd h16 hgt) (fun h16 => ?_)
    refine q_aload_n 0 20 dX2_write_19 rfl rfl rfl ?_
    refine q_aload_n 0 21 dX2_write_20 rfl rfl rfl ?_
    refine q_getR 0 24 f_X2_41 dX2_write_21 rfl rfl rfl rfl ?_
    refine q_aload_n 0 25 dX2_write_24 rfl rfl rfl ?_
    refine q_getR 0 28 f_X2_41 dX2_write_25 rfl rfl rfl rfl ?_
    refine q_alenI 2 _ 29 dX2_write_28 rfl rfl rfl ?_
    refine q_iconst 2 30 dX2_write_29 ic_2 rfl ?_
    refine q_imul 31 dX2_write_30 rfl ?_
    rw [e2]
    refine q_ySr [2] [0, 1] [0, 1, 2, 3] 34 (wr := [_, _]) (w1 := _) (ws' := fun _ => [_, _, _, _]) (c_copyI (n := Np) (N := Np * 2) (by omega) (by omega) (by omega)) m_X2_185 dX2_write_31 rfl rfl rfl rfl (fun _ => rfl) (by decide) (by decide) (by decide) (by decide) (Nat.le_of_ble_eq_true rfl) (by omega) (by omega) (by omega) rfl (fun q931 k31 n31 hx31 => ?_)
    refine q_putR 0 37 (w' := [_, _, _, _]) (r' := [_, _, _, _, _, _, _, _, _, _, _, _, _, _, _, _, _]) f_X2_41 ft_X2_7 dX2_write_34 rfl rfl (Nat.le_of_ble_eq_true rfl) rfl rfl rfl rfl rfl ?_
    refine q_sub (ws' := [_, _, _]) [0, 1, 3] rfl rfl ?_
    exact K37 q931 (Np * 2) _ _ _ (by omega) (by omega) (fun p hp => ext_lt pf (by omega) (by omega)) c3.symm (by omega) (by omega)
  · have hle : nI (u + 1 + ch) ≤ nI Np := nI_le (by omega) (by omega)
    have K1 := K37 (r 7) Np 0 0 pf (by omega) (by omega) (fun _ _ => rfl) (if_neg hg).symm (by omega) (by omega)
    rw [rs7_self] at K1
    refine q_aload_n 0 1 dX2_write_0 rfl rfl rfl ?_
    refine q_getI 0 4 f_X2_70 dX2_write_1 rfl rfl rfl ?_
    refine q_iconst 1 5 dX2_write_4 ic_1 rfl ?_
    rw [hu]
    refine q_iadd 6 dX2_write_5 rfl ?_
    refine q_aload_n 0 7 dX2_write_6 rfl rfl rfl ?_
    refine q_getI 0 10 f_X2_67 dX2_write_7 rfl rfl rfl ?_
    refine q_iadd 11 dX2_write_10 rfl ?_
    rw [e9]
    refine q_aload_n 0 12 dX2_write_11 rfl rfl rfl ?_
    refine q_getR 0 15 f_X2_41 dX2_write_12 rfl rfl rfl rfl ?_
    refine q_alenI 2 _ 16 dX2_write_15 rfl rfl rfl ?_
    refine q_icmp_le 37 19 dX2_write_16 (by decide) rfl (fun h16 => ?_) (fun h16 => absurd hle h16)
    exact K1

