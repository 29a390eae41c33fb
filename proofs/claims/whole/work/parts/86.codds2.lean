/-! ===== Odds: levels ===== -/
def swp (r : Nat → Nat) (a b : Nat) : Nat → Nat := fun k => if k = a then r b else if k = b then r a else r k
theorem c_X2_weighLevel0 {l : Launch} {g : Gh} {q Nb Np Nv ch u : Nat} {r : Nat → Nat} {i bf pf uf vf : Sc} {E : Nat → List (Nat × Sc)} (hi : i 9 = nI ch) (hch : ch ≤ 4) (hb : Nb < 2 ^ 30) (hp : Np < 2 ^ 30) (hv : Nv < 2 ^ 30) (hu4 : 4 ≤ u) (huv : u ≤ Nv) (hE : ∀ p, 4 ≤ p → p < u → EnO ch Nb Np Nv bf pf (E p) p) (ht : i 11 = -1) : Cp l g yX2_weighLevel (Cond.code yX2_weighLevel cX2_weighLevel 4 none) 3 [.ref q, .int (nI u)] [(q, ob 2 i (rO r)), (r 5, aI g Nb bf), (r 7, aI g Np pf), (r 13, aI g Nv uf), (r 14, aI g Nv vf)] none [(q, ob 2 i (rO r)), (r 5, aI g Nb bf), (r 7, aI g Np pf), (r 13, aI g Nv uf), (r 14, aI g Nv (cpA vf (fun p => moV uf (E p) ch) 4 u))] := by
  refine ct_of (M := mtX2_weighLevel) [some (.ref q), some (.int (nI u)), none, none] rfl (by decide) (Nat.le_of_ble_eq_true rfl) (fun _ h => h) (fun a => ?_)
  have K2 : ∀ (c p : Nat), c + p = u → 4 ≤ p → WPs l g mtX2_weighLevel 3 0 0 (pR none [(q, ob 2 i (rO r)), (r 5, aI g Nb bf), (r 7, aI g Np pf), (r 13, aI g Nv uf), (r 14, aI g Nv (cpA vf (fun p => moV uf (E p) ch) 4 u))]) noX a 2 [some (.ref q), some (.int (nI u)), some (.int (nI p)), none] [] [(q, ob 2 i (rO r)), (r 5, aI g Nb bf), (r 7, aI g Np pf), (r 13, aI g Nv uf), (r 14, aI g Nv (cpA vf (fun p => moV uf (E p) ch) 4 p))] 0 0 := by
    intro c
    induction c with
    | zero =>
      intro p hpu _
      obtain rfl : p = u := by omega
      refine q_iload_n 2 3 dX2_weighLevel_2 rfl rfl rfl ?_
      refine q_iload_n 1 4 dX2_weighLevel_3 rfl rfl rfl ?_
      refine q_icmp_ge 28 7 dX2_weighLevel_4 (by decide) rfl (fun h4 => ?_) (fun h4 => absurd (Int32.le_refl _) h4)
      refine q_aload_n 0 29 dX2_weighLevel_28 rfl rfl rfl ?_
      refine q_getI 0 32 f_X2_64 dX2_weighLevel_29 rfl rfl rfl ?_
      refine q_iconst (-1) 33 dX2_weighLevel_32 ic_m1 rfl ?_
      refine q_icmp_ne 37 36 dX2_weighLevel_33 (by decide) rfl (fun h33 => absurd ht h33) (fun h33 => ?_)
      refine q_return dX2_weighLevel_36 rfl ?_
      exact pR.rf
    | succ c ih =>
      intro p hpu hp4
      have hlt : ¬ nI u ≤ nI p := nI_ge (by omega) (by omega)
      have K1 := ih (p + 1) (by omega) (by omega)
      clear ih
      rw [← cpA_s vf (fun p => moV uf (E p) ch) hp4] at K1
      refine q_iload_n 2 3 dX2_weighLevel_2 rfl rfl rfl ?_
      refine q_iload_n 1 4 dX2_weighLevel_3 rfl rfl rfl ?_
      refine q_icmp_ge 28 7 dX2_weighLevel_4 (by decide) rfl (fun h4 => absurd h4 hlt) (fun h4 => ?_)
      refine q_aload_n 0 8 dX2_weighLevel_7 rfl rfl rfl ?_
      refine q_getR 0 11 f_X2_47 dX2_weighLevel_8 rfl rfl rfl rfl ?_
      refine q_iload_n 2 12 dX2_weighLevel_11 rfl rfl rfl ?_
      refine q_aload_n 0 13 dX2_weighLevel_12 rfl rfl rfl ?_
      refine q_iload_n 2 14 dX2_weighLevel_13 rfl rfl rfl ?_
      refine q_aload_n 0 15 dX2_weighLevel_14 rfl rfl rfl ?_
      refine q_getR 0 18 f_X2_44 dX2_weighLevel_15 rfl rfl rfl rfl ?_
      refine q_cVi 0 [0, 1, 2, 3] [4] [1, 2, 3, 4, 0] 21 (wr := [_]) (w1 := _) (ws' := [_, _, _, _, _]) (c_X2_most hi hch hb hp hv (hE p hp4 (by omega))) m_X2_205 dX2_weighLevel_18 rfl rfl rfl rfl rfl rfl rfl rfl (by decide) (by decide) (by decide) (by decide) (Nat.le_of_ble_eq_true rfl) (by omega) (by omega) (by omega) rfl ?_
      refine q_iast 4 p 22 (w' := [_, _, _, _, _]) dX2_weighLevel_21 rfl ⟨rfl, by omega, by omega⟩ rfl rfl ?_
      refine q_iinc 2 (nI (p + 1)) 25 (L' := [_, _, _, _]) dX2_weighLevel_22 rfl (inc1 (p)) (by decide) rfl rfl ?_
      refine q_goto 2 dX2_weighLevel_25 (by decide) ?_
      exact K1
  have K1 := K2 (u - 4) 4 (by omega) (by omega)
  rw [cpA_0] at K1
  clear K2
  refine q_iconst 4 1 dX2_weighLevel_0 ic_4 rfl ?_
  refine q_istore_n 2 2 (L' := [_, _, _, _]) dX2_weighLevel_1 rfl (by decide) rfl rfl ?_
  exact K1
theorem c_X2_weighLevel1 {l : Launch} {g : Gh} {q Nb Np Nv Nt Ns ch u : Nat} {r : Nat → Nat} {i bf pf uf vf tf us vs : Sc} {E : Nat → List (Nat × Sc)} {tk : Nat → Nat} (hi : i 9 = nI ch) (hch : ch ≤ 4) (hb : Nb < 2 ^ 30) (hp : Np < 2 ^ 30) (hv : Nv < 2 ^ 30) (hu4 : 4 ≤ u) (huv : u ≤ Nv) (hE : ∀ p, 4 ≤ p → p < u → EnO ch Nb Np Nv bf pf (E p) p) (ht : ¬ i 11 = -1) (hs : Ns < 2 ^ 30) (hus : u ≤ Ns) (hES : ∀ p, 4 ≤ p → p < u → EnO ch Nb Np Ns bf pf (E p) p) (hnt : Nt < 2 ^ 30) (hut : u ≤ Nt) (htk : ∀ p, 4 ≤ p → p < u → tf p = nI (tk p) ∧ tk p < Nv) : Cp l g yX2_weighLevel (Cond.code yX2_weighLevel cX2_weighLevel 4 none) 3 [.ref q, .int (nI u)] [(q, ob 2 i (rO r)), (r 5, aI g Nb bf), (r 7, aI g Np pf), (r 13, aI g Nv uf), (r 14, aI g Nv vf), (r 6, aI g Nt tf), (r 15, aI g Ns us), (r 16, aI g Ns vs)] none [(q, ob 2 i (rO (swp r 15 16))), (r 5, aI g Nb bf), (r 7, aI g Np pf), (r 13, aI g Nv uf), (r 14, aI g Nv (cpA vf (fun p => moV uf (E p) ch) 4 u)), (r 6, aI g Nt tf), (r 15, aI g Ns (cpA us (fun p => iMax (moV vs (E p) ch) ((cpA vf (fun p => moV uf (E p) ch) 4 u) (tk p))) 4 u)), (r 16, aI g Ns vs)] := by
  refine ct_of (M := mtX2_weighLevel) [some (.ref q), some (.int (nI u)), none, none] rfl (by decide) (Nat.le_of_ble_eq_true rfl) (fun _ h => h) (fun a => ?_)
  have K57 : ∀ (v1 : Sc) (c p : Nat), c + p = u → 4 ≤ p → WPs l g mtX2_weighLevel 3 0 0 (pR none [(q, ob 2 i (rO (swp r 15 16))), (r 5, aI g Nb bf), (r 7, aI g Np pf), (r 13, aI g Nv uf), (r 14, aI g Nv v1), (r 6, aI g Nt tf), (r 15, aI g Ns (cpA us (fun p => iMax (moV vs (E p) ch) (v1 (tk p))) 4 u)), (r 16, aI g Ns vs)]) noX a 57 [some (.ref q), some (.int (nI u)), some (.ref (r 15)), some (.int (nI p))] [] [(q, ob 2 i (rO (swp r 15 16))), (r 5, aI g Nb bf), (r 7, aI g Np pf), (r 13, aI g Nv uf), (r 14, aI g Nv v1), (r 6, aI g Nt tf), (r 15, aI g Ns (cpA us (fun p => iMax (moV vs (E p) ch) (v1 (tk p))) 4 p)), (r 16, aI g Ns vs)] 0 0 := by
    intro v1 c
    induction c with
    | zero =>
      intro p hpu _
      obtain rfl : p = u := by omega
      refine q_iload_n 3 58 dX2_weighLevel_57 rfl rfl rfl ?_
      refine q_iload_n 1 59 dX2_weighLevel_58 rfl rfl rfl ?_
      refine q_icmp_ge 97 62 dX2_weighLevel_59 (by decide) rfl (fun h59 => ?_) (fun h59 => absurd (Int32.le_refl _) h59)
      refine q_return dX2_weighLevel_97 rfl ?_
      exact pR.rf
    | succ c ih =>
      intro p hpu hp4
      have hlt : ¬ nI u ≤ nI p := nI_ge (by omega) (by omega)
      have K1 := ih (p + 1) (by omega) (by omega)
      clear ih
      rw [← cpA_s us (fun p => iMax (moV vs (E p) ch) (v1 (tk p))) hp4] at K1
      obtain ⟨t1, t2⟩ := htk p hp4 (by omega)
      generalize tk p = t at *
      refine q_iload_n 3 58 dX2_weighLevel_57 rfl rfl rfl ?_
      refine q_iload_n 1 59 dX2_weighLevel_58 rfl rfl rfl ?_
      refine q_icmp_ge 97 62 dX2_weighLevel_59 (by decide) rfl (fun h59 => absurd h59 hlt) (fun h59 => ?_)
      refine q_aload_n 0 63 dX2_weighLevel_62 rfl rfl rfl ?_
      refine q_getR 0 66 f_X2_53 dX2_weighLevel_63 rfl rfl rfl rfl ?_
      refine q_iload_n 3 67 dX2_weighLevel_66 rfl rfl rfl ?_
      refine q_aload_n 0 68 dX2_weighLevel_67 rfl rfl rfl ?_
      refine q_iload_n 3 69 dX2_weighLevel_68 rfl rfl rfl ?_
      refine q_aload_n 0 70 dX2_weighLevel_69 rfl rfl rfl ?_
      refine q_getR 0 73 f_X2_50 dX2_weighLevel_70 rfl rfl rfl rfl ?_
      refine q_cVi 0 [0, 1, 2, 7] [3, 4, 5, 6] [4, 5, 6, 0, 1, 2, 3, 7] 76 (wr := [_, _, _, _]) (w1 := _) (ws' := [_, _, _, _, _, _, _, _]) (c_X2_most (r := swp r 15 16) (rw := r 16) hi hch hb hp hs (hES p hp4 (by omega))) m_X2_205 dX2_weighLevel_73 rfl rfl rfl rfl rfl rfl rfl rfl (by decide) (by decide) (by decide) (by decide) (Nat.le_of_ble_eq_true rfl) (by omega) (by omega) (by omega) rfl ?_
      refine q_aload_n 0 77 dX2_weighLevel_76 rfl rfl rfl ?_
      refine q_getR 0 80 f_X2_47 dX2_weighLevel_77 rfl rfl rfl rfl ?_
      refine q_aload_n 0 81 dX2_weighLevel_80 rfl rfl rfl ?_
      refine q_getR 0 84 f_X2_38 dX2_weighLevel_81 rfl rfl rfl rfl ?_
      refine q_iload_n 3 85 dX2_weighLevel_84 rfl rfl rfl ?_
      refine q_iald 5 p 86 dX2_weighLevel_85 rfl ⟨rfl, by omega, by omega⟩ rfl ?_
      rw [t1]
      refine q_iald 4 t 87 dX2_weighLevel_86 rfl ⟨rfl, by omega, by omega⟩ rfl ?_
      refine q_mmax 90 mm_X2_209 dX2_weighLevel_87 (Nat.le_of_ble_eq_true rfl) (by omega) (by omega) (by omega) rfl ?_
      refine q_iast 6 p 91 (w' := [_, _, _, _, _, _, _, _]) dX2_weighLevel_90 rfl ⟨rfl, by omega, by omega⟩ rfl rfl ?_
      refine q_iinc 3 (nI (p + 1)) 94 (L' := [_, _, _, _]) dX2_weighLevel_91 rfl (inc1 (p)) (by decide) rfl rfl ?_
      refine q_goto 57 dX2_weighLevel_94 (by decide) ?_
      exact K1
  have K2 : ∀ (c p : Nat), c + p = u → 4 ≤ p → WPs l g mtX2_weighLevel 3 0 0 (pR none [(q, ob 2 i (rO (swp r 15 16))), (r 5, aI g Nb bf), (r 7, aI g Np pf), (r 13, aI g Nv uf), (r 14, aI g Nv (cpA vf (fun p => moV uf (E p) ch) 4 u)), (r 6, aI g Nt tf), (r 15, aI g Ns (cpA us (fun p => iMax (moV vs (E p) ch) ((cpA vf (fun p => moV uf (E p) ch) 4 u) (tk p))) 4 u)), (r 16, aI g Ns vs)]) noX a 2 [some (.ref q), some (.int (nI u)), some (.int (nI p)), none] [] [(q, ob 2 i (rO r)), (r 5, aI g Nb bf), (r 7, aI g Np pf), (r 13, aI g Nv uf), (r 14, aI g Nv (cpA vf (fun p => moV uf (E p) ch) 4 p)), (r 6, aI g Nt tf), (r 15, aI g Ns us), (r 16, aI g Ns vs)] 0 0 := by
    intro c
    induction c with
    | zero =>
      intro p hpu _
      obtain rfl : p = u := by omega
      have K1 := K57 (cpA vf (fun p => moV uf (E p) ch) 4 p) (p - 4) 4 (by omega) (by omega)
      rw [cpA_0] at K1
      clear K57
      refine q_iload_n 2 3 dX2_weighLevel_2 rfl rfl rfl ?_
      refine q_iload_n 1 4 dX2_weighLevel_3 rfl rfl rfl ?_
      refine q_icmp_ge 28 7 dX2_weighLevel_4 (by decide) rfl (fun h4 => ?_) (fun h4 => absurd (Int32.le_refl _) h4)
      refine q_aload_n 0 29 dX2_weighLevel_28 rfl rfl rfl ?_
      refine q_getI 0 32 f_X2_64 dX2_weighLevel_29 rfl rfl rfl ?_
      refine q_iconst (-1) 33 dX2_weighLevel_32 ic_m1 rfl ?_
      refine q_icmp_ne 37 36 dX2_weighLevel_33 (by decide) rfl (fun h33 => ?_) (fun h33 => absurd h33 ht)
      refine q_aload_n 0 38 dX2_weighLevel_37 rfl rfl rfl ?_
      refine q_getR 0 41 f_X2_50 dX2_weighLevel_38 rfl rfl rfl rfl ?_
      refine q_astore_n 2 42 (L' := [_, _, _, _]) dX2_weighLevel_41 rfl (by decide) rfl rfl ?_
      refine q_aload_n 0 43 dX2_weighLevel_42 rfl rfl rfl ?_
      refine q_aload_n 0 44 dX2_weighLevel_43 rfl rfl rfl ?_
      refine q_getR 0 47 f_X2_53 dX2_weighLevel_44 rfl rfl rfl rfl ?_
      refine q_putR 0 50 (w' := [_, _, _, _, _, _, _, _]) (r' := [_, _, _, _, _, _, _, _, _, _, _, _, _, _, _, _, _]) f_X2_50 ft_X2_15 dX2_weighLevel_47 rfl rfl (Nat.le_of_ble_eq_true rfl) rfl rfl rfl rfl rfl ?_
      refine q_aload_n 0 51 dX2_weighLevel_50 rfl rfl rfl ?_
      refine q_aload_n 2 52 dX2_weighLevel_51 rfl rfl rfl ?_
      refine q_putR 0 55 (w' := [_, _, _, _, _, _, _, _]) (r' := [_, _, _, _, _, _, _, _, _, _, _, _, _, _, _, _, _]) f_X2_53 ft_X2_16 dX2_weighLevel_52 rfl rfl (Nat.le_of_ble_eq_true rfl) rfl rfl rfl rfl rfl ?_
      refine q_iconst 4 56 dX2_weighLevel_55 ic_4 rfl ?_
      refine q_istore_n 3 57 (L' := [_, _, _, _]) dX2_weighLevel_56 rfl (by decide) rfl rfl ?_
      exact K1
    | succ c ih =>
      intro p hpu hp4
      have hlt : ¬ nI u ≤ nI p := nI_ge (by omega) (by omega)
      have K1 := ih (p + 1) (by omega) (by omega)
      clear ih
      rw [← cpA_s vf (fun p => moV uf (E p) ch) hp4] at K1
      refine q_iload_n 2 3 dX2_weighLevel_2 rfl rfl rfl ?_
      refine q_iload_n 1 4 dX2_weighLevel_3 rfl rfl rfl ?_
      refine q_icmp_ge 28 7 dX2_weighLevel_4 (by decide) rfl (fun h4 => absurd h4 hlt) (fun h4 => ?_)
      refine q_aload_n 0 8 dX2_weighLevel_7 rfl rfl rfl ?_
      refine q_getR 0 11 f_X2_47 dX2_weighLevel_8 rfl rfl rfl rfl ?_
      refine q_iload_n 2 12 dX2_weighLevel_11 rfl rfl rfl ?_
      refine q_aload_n 0 13 dX2_weighLevel_12 rfl rfl rfl ?_
      refine q_iload_n 2 14 dX2_weighLevel_13 rfl rfl rfl ?_
      refine q_aload_n 0 15 dX2_weighLevel_14 rfl rfl rfl ?_
      refine q_getR 0 18 f_X2_44 dX2_weighLevel_15 rfl rfl rfl rfl ?_
      refine q_cVi 0 [0, 1, 2, 3] [4, 5, 6, 7] [4, 5, 6, 7, 0, 1, 2, 3] 21 (wr := [_, _, _, _]) (w1 := _) (ws' := [_, _, _, _, _, _, _, _]) (c_X2_most hi hch hb hp hv (hE p hp4 (by omega))) m_X2_205 dX2_weighLevel_18 rfl rfl rfl rfl rfl rfl rfl rfl (by decide) (by decide) (by decide) (by decide) (Nat.le_of_ble_eq_true rfl) (by omega) (by omega) (by omega) rfl ?_
      refine q_iast 4 p 22 (w' := [_, _, _, _, _, _, _, _]) dX2_weighLevel_21 rfl ⟨rfl, by omega, by omega⟩ rfl rfl ?_
      refine q_iinc 2 (nI (p + 1)) 25 (L' := [_, _, _, _]) dX2_weighLevel_22 rfl (inc1 (p)) (by decide) rfl rfl ?_
      refine q_goto 2 dX2_weighLevel_25 (by decide) ?_
      exact K1
  have K1 := K2 (u - 4) 4 (by omega) (by omega)
  rw [cpA_0] at K1
  clear K2
  refine q_iconst 4 1 dX2_weighLevel_0 ic_4 rfl ?_
  refine q_istore_n 2 2 (L' := [_, _, _, _]) dX2_weighLevel_1 rfl (by decide) rfl rfl ?_
  exact K1

