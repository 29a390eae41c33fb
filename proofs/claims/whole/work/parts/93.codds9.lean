/-! ===== Odds: room by a potential ===== -/
def RmO (Nb : Nat) : Prop := Nb ≤ 16389 ∧ (Nb = 32 ∨ ∃ m, Nb = 16 * 2 ^ m + 5)
theorem rm_step {Nb N m : Nat} (h : RmO Nb) (hN : N = 16 * 2 ^ m) (hlt : Nb < N + 5) : N + 5 ≤ 16 * (N + 5 - Nb) := by
  have h1 : 1 ≤ 2 ^ m := Nat.one_le_two_pow
  rcases h.2 with h | ⟨m0, h⟩
  · generalize 2 ^ m = t at *; omega
  · have h2 : 2 ^ m0 < 2 ^ m := by omega
    have h3 : m0 < m := (Nat.pow_lt_pow_iff_right (by decide)).mp h2
    have h4 : 2 ^ (m0 + 1) ≤ 2 ^ m := Nat.pow_le_pow_right (by decide) h3
    rw [Nat.pow_succ] at h4
    generalize 2 ^ m = t at *
    generalize 2 ^ m0 = t0 at *
    omega
/-- it keeps what it has -/
def roK (Nb : Nat) (bf : Sc) (z : ArS) : Prop := RmO z.2.1 ∧ Nb ≤ z.2.1 ∧ ∀ p, p < Nb → z.2.2 p = bf p
def roG (Nb N : Nat) (bf : Sc) (z : ArS) : Prop := roK Nb bf z ∧ N + 5 ≤ z.2.1
theorem c_X2_makeRoom {l : Launch} {g : Gh} {q ke ta N Nb Nt m : Nat} {r : Nat → Nat} {i ip kf bf tf : Sc} (hN : N ≤ 16384) (hm : N = 16 * 2 ^ m) (hb : RmO Nb) (hnt : RmO Nt) : Cn l g yX2_makeRoom (Cond.code yX2_makeRoom cX2_makeRoom 2 none) 3 ((16389 - Nb) + (16389 - Nt)) (16 * (16389 - Nb) + 16 * (16389 - Nt)) [.ref q] [(q, ob 2 i (rO r)), (r 0, ob 3 ip (rPl ke ta)), (ke, aI g N kf), ((r 5), aI g Nb bf), ((r 6), aI g Nt tf)] (fun _ : ArS × ArS => none) (fun z : ArS × ArS => [(q, ob 2 i (rO (rs56 r z.1.1 z.2.1))), (r 0, ob 3 ip (rPl ke ta)), (ke, aI g N kf), (z.1.1, aI g z.1.2.1 z.1.2.2), (z.2.1, aI g z.2.2.1 z.2.2.2)]) (fun z k n => roG Nb N bf z.1 ∧ (¬ i 11 = -1 → N + 5 ≤ z.2.2.1) ∧ roK Nt tf z.2 ∧ k + Nb + Nt ≤ z.1.2.1 + z.2.2.1 ∧ n + 16 * Nb + 16 * Nt ≤ 16 * z.1.2.1 + 16 * z.2.2.1) := by
  refine ct_of (M := mtX2_makeRoom) [some (.ref q), none] rfl (by decide) (Nat.le_of_ble_eq_true rfl) (fun _ h => h) (fun a => ?_)
  have e5 : (4 : Int32) + nI N + 1 = nI (N + 5) := by rw [show (4 : Int32) = nI 4 by decide, nI_add, nI_1]; congr 1; omega
  have hbb := hb.1
  have htt := hnt.1
  have hRm : RmO (N + 5) := ⟨by omega, Or.inr ⟨m, by omega⟩⟩
  have K33 : ∀ (a1 N1 kk nn : Nat) (b1 : Sc), roG Nb N bf (a1, N1, b1) → kk + Nb ≤ N1 → nn + 16 * Nb ≤ 16 * N1 → WPs l g mtX2_makeRoom 3 ((16389 - Nb) + (16389 - Nt)) (16 * (16389 - Nb) + 16 * (16389 - Nt)) (pX (fun _ : ArS × ArS => none) (fun z : ArS × ArS => [(q, ob 2 i (rO (rs56 r z.1.1 z.2.1))), (r 0, ob 3 ip (rPl ke ta)), (ke, aI g N kf), (z.1.1, aI g z.1.2.1 z.1.2.2), (z.2.1, aI g z.2.2.1 z.2.2.2)]) (fun z k n => roG Nb N bf z.1 ∧ (¬ i 11 = -1 → N + 5 ≤ z.2.2.1) ∧ roK Nt tf z.2 ∧ k + Nb + Nt ≤ z.1.2.1 + z.2.2.1 ∧ n + 16 * Nb + 16 * Nt ≤ 16 * z.1.2.1 + 16 * z.2.2.1)) noX a 33 [some (.ref q), some (.int (nI (N + 5)))] [] [(q, ob 2 i (rO (rs5 r a1))), (r 0, ob 3 ip (rPl ke ta)), (ke, aI g N kf), (a1, aI g N1 b1), ((r 6), aI g Nt tf)] kk nn := by
    intro a1 N1 kk nn b1 hO1 hkk hnn
    have hN1 : N1 ≤ 16389 := hO1.1.1.1
    by_cases ht : i 11 = -1
    · have hN2 := hN1
      refine q_aload_n 0 34 dX2_makeRoom_33 rfl rfl rfl ?_
      refine q_getI 0 37 f_X2_64 dX2_makeRoom_34 rfl rfl rfl ?_
      refine q_iconst (-1) 38 dX2_makeRoom_37 ic_m1 rfl ?_
      refine q_icmp_eq 62 41 dX2_makeRoom_38 (by decide) rfl (fun h38 => ?_) (fun h38 => absurd ht h38)
      refine q_return dX2_makeRoom_62 rfl ?_
      exact pX.mk ((a1, N1, b1), (r 6, Nt, tf)) ⟨hO1, fun h => absurd ht h, ⟨hnt, Nat.le_refl _, fun _ _ => rfl⟩, by show kk + Nb + Nt ≤ N1 + Nt; omega, by show nn + 16 * Nb + 16 * Nt ≤ 16 * N1 + 16 * Nt; omega⟩ rfl (by rw [rs56_self])
    · by_cases hg : Nt < N + 5
      · have hlt : ¬ nI (N + 5) ≤ nI Nt := nI_ge hg (by omega)
        have hst := rm_step hnt hm hg
        refine q_aload_n 0 34 dX2_makeRoom_33 rfl rfl rfl ?_
        refine q_getI 0 37 f_X2_64 dX2_makeRoom_34 rfl rfl rfl ?_
        refine q_iconst (-1) 38 dX2_makeRoom_37 ic_m1 rfl ?_
        refine q_icmp_eq 62 41 dX2_makeRoom_38 (by decide) rfl (fun h38 => absurd h38 ht) (fun h38 => ?_)
        refine q_aload_n 0 42 dX2_makeRoom_41 rfl rfl rfl ?_
        refine q_getR 0 45 f_X2_38 dX2_makeRoom_42 rfl rfl rfl rfl ?_
        refine q_alenI 4 _ 46 dX2_makeRoom_45 rfl rfl rfl ?_
        refine q_iload_n 1 47 dX2_makeRoom_46 rfl rfl rfl ?_
        refine q_icmp_ge 62 50 dX2_makeRoom_47 (by decide) rfl (fun h47 => absurd h47 hlt) (fun h47 => ?_)
        refine q_aload_n 0 51 dX2_makeRoom_50 rfl rfl rfl ?_
        refine q_aload_n 0 52 dX2_makeRoom_51 rfl rfl rfl ?_
        refine q_getR 0 55 f_X2_38 dX2_makeRoom_52 rfl rfl rfl rfl ?_
        refine q_iload_n 1 56 dX2_makeRoom_55 rfl rfl rfl ?_
        refine q_ySr [4] [0, 1, 2, 3] [0, 1, 2, 3, 4, 5] 59 (wr := [_, _, _, _]) (w1 := _) (ws' := fun _ => [_, _, _, _, _, _]) (c_copyI (n := Nt) (N := N + 5) (by omega) (by omega) (by omega)) m_X2_185 dX2_makeRoom_56 rfl rfl rfl rfl (fun _ => rfl) (by decide) (by decide) (by decide) (by decide) (Nat.le_of_ble_eq_true rfl) (by omega) (by omega) (by omega) rfl (fun q956 k56 n56 hx56 => ?_)
        refine q_putR 0 62 (w' := [_, _, _, _, _, _]) (r' := [_, _, _, _, _, _, _, _, _, _, _, _, _, _, _, _, _]) f_X2_38 ft_X2_6 dX2_makeRoom_59 rfl rfl (Nat.le_of_ble_eq_true rfl) rfl rfl rfl rfl rfl ?_
        refine q_sub (ws' := [_, _, _, _, _]) [0, 1, 2, 3, 5] rfl rfl ?_
        refine q_return dX2_makeRoom_62 rfl ?_
        exact pX.mk ((a1, N1, b1), (q956, N + 5, ext tf Nt (N + 5))) ⟨hO1, fun _ => Nat.le_refl _, ⟨hRm, by show Nt ≤ N + 5; omega, fun p hp => ext_lt tf hp (by omega)⟩, by obtain ⟨e1, e2⟩ := hx56; show _ + Nb + Nt ≤ N1 + (N + 5); omega, by obtain ⟨e1, e2⟩ := hx56; show _ + 16 * Nb + 16 * Nt ≤ 16 * N1 + 16 * (N + 5); omega⟩ rfl rfl
      · have hge : nI (N + 5) ≤ nI Nt := nI_le (by omega) (by omega)
        refine q_aload_n 0 34 dX2_makeRoom_33 rfl rfl rfl ?_
        refine q_getI 0 37 f_X2_64 dX2_makeRoom_34 rfl rfl rfl ?_
        refine q_iconst (-1) 38 dX2_makeRoom_37 ic_m1 rfl ?_
        refine q_icmp_eq 62 41 dX2_makeRoom_38 (by decide) rfl (fun h38 => absurd h38 ht) (fun h38 => ?_)
        refine q_aload_n 0 42 dX2_makeRoom_41 rfl rfl rfl ?_
        refine q_getR 0 45 f_X2_38 dX2_makeRoom_42 rfl rfl rfl rfl ?_
        refine q_alenI 4 _ 46 dX2_makeRoom_45 rfl rfl rfl ?_
        refine q_iload_n 1 47 dX2_makeRoom_46 rfl rfl rfl ?_
        refine q_icmp_ge 62 50 dX2_makeRoom_47 (by decide) rfl (fun h47 => ?_) (fun h47 => absurd hge h47)
        refine q_return dX2_makeRoom_62 rfl ?_
        exact pX.mk ((a1, N1, b1), (r 6, Nt, tf)) ⟨hO1, fun _ => by show N + 5 ≤ Nt; omega, ⟨hnt, Nat.le_refl _, fun _ _ => rfl⟩, by show kk + Nb + Nt ≤ N1 + Nt; omega, by show nn + 16 * Nb + 16 * Nt ≤ 16 * N1 + 16 * Nt; omega⟩ rfl (by rw [rs56_self])
  by_cases hg : Nb < N + 5
  · have hlt : ¬ nI (N + 5) ≤ nI Nb := nI_ge hg (by omega)
    have hst := rm_step hb hm hg
    refine q_iconst 4 1 dX2_makeRoom_0 ic_4 rfl ?_
    refine q_aload_n 0 2 dX2_makeRoom_1 rfl rfl rfl ?_
    refine q_getR 0 5 f_X2_12 dX2_makeRoom_2 rfl rfl rfl rfl ?_
    refine q_cVi 1 [1, 2] [0, 3, 4] [0, 3, 4, 1, 2] 8 (wr := [_, _, _]) (w1 := _) (ws' := [_, _, _, _, _]) c_X3_room m_X2_191 dX2_makeRoom_5 rfl rfl rfl rfl rfl rfl rfl rfl (by decide) (by decide) (by decide) (by decide) (Nat.le_of_ble_eq_true rfl) (by omega) (by omega) (by omega) rfl ?_
    refine q_iadd 9 dX2_makeRoom_8 rfl ?_
    refine q_iconst 1 10 dX2_makeRoom_9 ic_1 rfl ?_
    refine q_iadd 11 dX2_makeRoom_10 rfl ?_
    rw [e5]
    refine q_istore_n 1 12 (L' := [_, _]) dX2_makeRoom_11 rfl (by decide) rfl rfl ?_
    refine q_aload_n 0 13 dX2_makeRoom_12 rfl rfl rfl ?_
    refine q_getR 0 16 f_X2_35 dX2_makeRoom_13 rfl rfl rfl rfl ?_
    refine q_alenI 3 _ 17 dX2_makeRoom_16 rfl rfl rfl ?_
    refine q_iload_n 1 18 dX2_makeRoom_17 rfl rfl rfl ?_
    refine q_icmp_ge 33 21 dX2_makeRoom_18 (by decide) rfl (fun h18 => absurd h18 hlt) (fun h18 => ?_)
    refine q_aload_n 0 22 dX2_makeRoom_21 rfl rfl rfl ?_
    refine q_aload_n 0 23 dX2_makeRoom_22 rfl rfl rfl ?_
    refine q_getR 0 26 f_X2_35 dX2_makeRoom_23 rfl rfl rfl rfl ?_
    refine q_iload_n 1 27 dX2_makeRoom_26 rfl rfl rfl ?_
    refine q_ySr [3] [0, 1, 2, 4] [0, 1, 2, 4, 3, 5] 30 (wr := [_, _, _, _]) (w1 := _) (ws' := fun _ => [_, _, _, _, _, _]) (c_copyI (n := Nb) (N := N + 5) (by omega) (by omega) (by omega)) m_X2_185 dX2_makeRoom_27 rfl rfl rfl rfl (fun _ => rfl) (by decide) (by decide) (by decide) (by decide) (Nat.le_of_ble_eq_true rfl) (by omega) (by omega) (by omega) rfl (fun q927 k27 n27 hx27 => ?_)
    refine q_putR 0 33 (w' := [_, _, _, _, _, _]) (r' := [_, _, _, _, _, _, _, _, _, _, _, _, _, _, _, _, _]) f_X2_35 ft_X2_5 dX2_makeRoom_30 rfl rfl (Nat.le_of_ble_eq_true rfl) rfl rfl rfl rfl rfl ?_
    refine q_sub (ws' := [_, _, _, _, _]) [0, 1, 2, 5, 4] rfl rfl ?_
    obtain ⟨e1, e2⟩ := hx27
    exact K33 q927 (N + 5) _ _ _ ⟨⟨hRm, by show Nb ≤ N + 5; omega, fun p hp => ext_lt bf hp (by omega)⟩, Nat.le_refl _⟩ (by omega) (by omega)
  · have hge : nI (N + 5) ≤ nI Nb := nI_le (by omega) (by omega)
    have K1 := K33 (r 5) Nb 0 0 bf ⟨⟨hb, Nat.le_refl _, fun _ _ => rfl⟩, by show N + 5 ≤ Nb; omega⟩ (by omega) (by omega)
    rw [rs5_self] at K1
    refine q_iconst 4 1 dX2_makeRoom_0 ic_4 rfl ?_
    refine q_aload_n 0 2 dX2_makeRoom_1 rfl rfl rfl ?_
    refine q_getR 0 5 f_X2_12 dX2_makeRoom_2 rfl rfl rfl rfl ?_
    refine q_cVi 1 [1, 2] [0, 3, 4] [0, 3, 4, 1, 2] 8 (wr := [_, _, _]) (w1 := _) (ws' := [_, _, _, _, _]) c_X3_room m_X2_191 dX2_makeRoom_5 rfl rfl rfl rfl rfl rfl rfl rfl (by decide) (by decide) (by decide) (by decide) (Nat.le_of_ble_eq_true rfl) (by omega) (by omega) (by omega) rfl ?_
    refine q_iadd 9 dX2_makeRoom_8 rfl ?_
    refine q_iconst 1 10 dX2_makeRoom_9 ic_1 rfl ?_
    refine q_iadd 11 dX2_makeRoom_10 rfl ?_
    rw [e5]
    refine q_istore_n 1 12 (L' := [_, _]) dX2_makeRoom_11 rfl (by decide) rfl rfl ?_
    refine q_aload_n 0 13 dX2_makeRoom_12 rfl rfl rfl ?_
    refine q_getR 0 16 f_X2_35 dX2_makeRoom_13 rfl rfl rfl rfl ?_
    refine q_alenI 3 _ 17 dX2_makeRoom_16 rfl rfl rfl ?_
    refine q_iload_n 1 18 dX2_makeRoom_17 rfl rfl rfl ?_
    refine q_icmp_ge 33 21 dX2_makeRoom_18 (by decide) rfl (fun h18 => ?_) (fun h18 => absurd hge h18)
    exact K1

