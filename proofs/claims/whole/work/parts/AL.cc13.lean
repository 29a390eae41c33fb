/-! ===== ChaseCourt: freshOdds newGame waysOf ===== -/
abbrev OdT : Type := ((Nat → Nat) × Sc × PlS × Sc × Sc × Sc × Sc) × (Nat × Sc) × (Nat × Sc) × (Nat × Sc) × (Nat × Sc × Sc) × (Nat × Sc × Sc)
/-- rooms of an Odds at rest -/
def OdR (P : PlS) (Nb Nt Np Nv Ns : Nat) : Prop := PlO P ∧ plN P ≤ 16384 ∧ RmO Nb ∧ RmO Nt ∧ PoO Np ∧ RmO Nv ∧ RmO Ns
abbrev odK (P : PlS) (Nb Nt Np Nv Ns : Nat) : Nat := plN P + Nb + Nt + Np / 128 + Nv + Ns
abbrev odS (P : PlS) (Nb Nt Np Nv Ns : Nat) : Nat := 10 * plN P + 16 * Nb + 16 * Nt + 2 * Np + 32 * Nv + 32 * Ns
abbrev odKM : Nat := 16384 + 16389 + 16389 + 8192 + 16389 + 16389
abbrev odSM : Nat := 10 * 16384 + 16 * 16389 + 16 * 16389 + 2 * 1048576 + 32 * 16389 + 32 * 16389
theorem rw_pot {Nv N m N2 k n : Nat} (h : RmO Nv) (hN : N = 16 * 2 ^ m) (hN2 : N ≤ 16384) (ho : rwO Nv N N2 k n) : RmO N2 ∧ Nv ≤ N2 ∧ k + Nv ≤ N2 ∧ n + 32 * Nv ≤ 32 * N2 ∧ N + 5 ≤ N2 ∧ k ≤ 2 := by
  obtain ⟨o1, o2, o3⟩ := ho
  unfold rwC at o2
  unfold rwS at o3
  by_cases hlt : Nv < N + 5
  · rw [if_pos hlt] at o1 o2 o3
    have := rm_step h hN hlt
    have h16 : 1 ≤ 2 ^ m := Nat.one_le_two_pow
    rw [o1]
    refine ⟨⟨by omega, Or.inr ⟨m, by omega⟩⟩, by omega, by omega, by omega, by omega, by omega⟩
  · rw [if_neg hlt] at o1 o2 o3
    rw [o1]
    exact ⟨h, by omega, by omega, by omega, by omega, by omega⟩
theorem rw_max {Nv N : Nat} (h : RmO Nv) (hN2 : N ≤ 16384) : rwC Nv N ≤ 16389 - Nv ∧ True := by
  unfold rwC
  by_cases hlt : Nv < N + 5
  · rw [if_pos hlt]
    have := h.1
    rcases h.2 with e | ⟨m, e⟩
    · exact ⟨by omega, trivial⟩
    · refine ⟨?_, trivial⟩
      have h16 : 1 ≤ 2 ^ m := Nat.one_le_two_pow
      have hm : m ≤ 9 := by
        refine Classical.byContradiction fun hc => ?_
        have : 2 ^ 10 ≤ 2 ^ m := Nat.pow_le_pow_right (by decide) (by omega)
        omega
      have : 2 ^ m ≤ 2 ^ 9 := Nat.pow_le_pow_right (by decide) hm
      omega
  · rw [if_neg hlt]; exact ⟨by omega, trivial⟩
theorem rw_maxS {Nv N m : Nat} (h : RmO Nv) (hN : N = 16 * 2 ^ m) (hN2 : N ≤ 16384) : rwS Nv N ≤ 32 * (16389 - Nv) := by
  unfold rwS
  by_cases hlt : Nv < N + 5
  · rw [if_pos hlt]
    have := rm_step h hN hlt
    omega
  · rw [if_neg hlt]; omega
def oiW (i : Sc) (wc wt : Int32) : Sc := upd (upd (upd i 10 wc) 11 wt) 9 (if wc = -1 then 1 else 4)
def wyC (x : Int32) : Int32 := if x = 0 then 3 else 12
theorem c_X11_waysOf {l : Launch} {g : Gh} {x : Int32} : Cp l g yX11_waysOf (Cond.code yX11_waysOf cX11_waysOf 1 (some .int)) 0 [.int x] [] (some (.int (wyC x))) [] := by
  refine ct_of (M := mtX11_waysOf) [some (.int x)] rfl (by decide) (Nat.le_of_ble_eq_true rfl) (fun _ h => h) (fun a => ?_)
  unfold wyC
  by_cases ha : x = 0
  · rw [if_pos ha]
    refine q_iload_n 0 1 dX11_waysOf_0 rfl rfl rfl ?_
    refine q_if_ne 8 4 dX11_waysOf_1 (by decide) rfl (fun h1 => absurd ha h1) (fun h1 => ?_)
    refine q_iconst 3 5 dX11_waysOf_4 ic_3 rfl ?_
    refine q_goto 10 dX11_waysOf_5 (by decide) ?_
    refine q_ireturn dX11_waysOf_10 rfl ?_
    exact pR.rf
  · rw [if_neg ha]
    refine q_iload_n 0 1 dX11_waysOf_0 rfl rfl rfl ?_
    refine q_if_ne 8 4 dX11_waysOf_1 (by decide) rfl (fun h1 => ?_) (fun h1 => absurd h1 ha)
    refine q_bipush 12 10 dX11_waysOf_8 bc_12 rfl ?_
    refine q_ireturn dX11_waysOf_10 rfl ?_
    exact pR.rf
def ngS (s : Sc) (v : Int32) : Sc := sRestart s (-(s 9)) (s 10) v
theorem c_X11_newGame {l : Launch} {g : Gh} {q tq sd la ru so : Nat} {i tr s : Sc} {x : Int32} {t0 t1 t2 t5 t6 t7 t8 : Option Nat} (h6 : s 6 = 0 ∨ s 6 = 1) : Cp l g yX11_newGame (Cond.code yX11_newGame cX11_newGame 2 (some (.object RX8))) 2 [.ref q, .int x] [(q, ob 11 i [t0, t1, t2, some sd, some tq, t5, t6, t7, t8, none, none]), (sd, ob 10 (fun _ => 0) (rD la ru so)), (tq, ob 8 tr []), (so, ob 8 s [])] (some (.ref tq)) [(q, ob 11 i [t0, t1, t2, some sd, some tq, t5, t6, t7, t8, none, none]), (sd, ob 10 (fun _ => 0) (rD la ru so)), (tq, ob 8 (ngS s x) []), (so, ob 8 s [])] := by
  refine ct_of (M := mtX11_newGame) [some (.ref q), some (.int x)] rfl (by decide) (Nat.le_of_ble_eq_true rfl) (fun _ h => h) (fun a => ?_)
  refine q_aload_n 0 1 dX11_newGame_0 rfl rfl rfl ?_
  refine q_getR 0 4 f_X11_37 dX11_newGame_1 rfl rfl rfl rfl ?_
  refine q_aload_n 0 5 dX11_newGame_4 rfl rfl rfl ?_
  refine q_getR 0 8 f_X11_30 dX11_newGame_5 rfl rfl rfl rfl ?_
  refine q_getR 1 11 f_X11_138 dX11_newGame_8 rfl rfl rfl rfl ?_
  refine q_cVv 2 [2, 3] [0, 1] [0, 1, 2, 3] 14 (wr := [_, _]) (w1 := _) (ws' := [_, _, _, _]) (c_X8_takeFrom h6) m_X11_228 dX11_newGame_11 rfl rfl rfl rfl rfl rfl rfl rfl (by decide) (by decide) (by decide) (by decide) (Nat.le_of_ble_eq_true rfl) (by omega) (by omega) (by omega) rfl ?_
  refine q_aload_n 0 15 dX11_newGame_14 rfl rfl rfl ?_
  refine q_getR 0 18 f_X11_37 dX11_newGame_15 rfl rfl rfl rfl ?_
  refine q_aload_n 0 19 dX11_newGame_18 rfl rfl rfl ?_
  refine q_getR 0 22 f_X11_37 dX11_newGame_19 rfl rfl rfl rfl ?_
  refine q_getI 2 25 f_X11_161 dX11_newGame_22 rfl rfl rfl ?_
  refine q_ineg 26 dX11_newGame_25 rfl ?_
  refine q_aload_n 0 27 dX11_newGame_26 rfl rfl rfl ?_
  refine q_getR 0 30 f_X11_37 dX11_newGame_27 rfl rfl rfl rfl ?_
  refine q_getI 2 33 f_X11_164 dX11_newGame_30 rfl rfl rfl ?_
  refine q_iload_n 1 34 dX11_newGame_33 rfl rfl rfl ?_
  refine q_cVv 2 [2] [0, 1, 3] [0, 1, 3, 2] 37 (wr := [_, _, _]) (w1 := _) (ws' := [_, _, _, _]) c_X8_restart m_X11_147 dX11_newGame_34 rfl rfl rfl rfl rfl rfl rfl rfl (by decide) (by decide) (by decide) (by decide) (Nat.le_of_ble_eq_true rfl) (by omega) (by omega) (by omega) rfl ?_
  refine q_aload_n 0 38 dX11_newGame_37 rfl rfl rfl ?_
  refine q_getR 0 41 f_X11_37 dX11_newGame_38 rfl rfl rfl rfl ?_
  refine q_areturn dX11_newGame_41 rfl (Or.inl ⟨_, rfl⟩) ?_
  exact pR.rf
theorem c_X11_freshOdds1 {l : Launch} {g : Gh} {q sd la ru so : Nat} {i s : Sc} {wc wt : Int32} {oq : Nat} {r : Nat → Nat} {oi sf sb wf ef bf tf pf uf vf us vs : Sc} {Nb Nt Np Nv Ns : Nat} {P : PlS} {t0 t1 t2 t4 t5 t7 t8 : Option Nat} (hP : PlO P) (h6 : s 6 = 0 ∨ s 6 = 1) : Cp l g yX11_freshOdds (Cond.code yX11_freshOdds cX11_freshOdds 3 (some (.object RX2))) 4 [.ref q, .int wc, .int wt] [(q, ob 11 i [t0, t1, t2, some sd, t4, t5, some oq, t7, t8, none, none]), (sd, ob 10 (fun _ => 0) (rD la ru so)), (so, ob 8 s []), (oq, ob 2 oi (rO12 r (some sd))), ((r 0), ob 3 (plI P) (rPl (plKe P) (plTa P))), (plKe P, aI g (plN P) (plKf P)), (plTa P, aI g (4 * plN P) (plTb P)), ((r 1), ob 8 sf []), ((r 2), ob 8 sb []), ((r 3), aI g 48 wf), ((r 4), aI g 31 ef), ((r 5), aI g Nb bf), ((r 6), aI g Nt tf), ((r 7), aI g Np pf), ((r 13), aI g Nv uf), ((r 14), aI g Nv vf), ((r 15), aI g Ns us), ((r 16), aI g Ns vs)] (some (.ref oq)) [(q, ob 11 i [t0, t1, t2, some sd, t4, t5, some oq, t7, t8, none, none]), (sd, ob 10 (fun _ => 0) (rD la ru so)), (so, ob 8 s []), (oq, ob 2 (upd (oiW oi wc wt) 8 (nI 0)) (rO (rs12 r sd))), ((r 0), ob 3 (plI (plC P)) (rPl (plKe (plC P)) (plTa (plC P)))), (plKe (plC P), aI g (plN (plC P)) (plKf (plC P))), (plTa (plC P), aI g (4 * plN (plC P)) (plTb (plC P))), ((r 1), ob 8 s []), ((r 2), ob 8 sb []), ((r 3), aI g 48 wf), ((r 4), aI g 31 ef), ((r 5), aI g Nb bf), ((r 6), aI g Nt tf), ((r 7), aI g Np pf), ((r 13), aI g Nv uf), ((r 14), aI g Nv vf), ((r 15), aI g Ns us), ((r 16), aI g Ns vs)] := by
  refine ct_of (M := mtX11_freshOdds) [some (.ref q), some (.int wc), some (.int wt)] rfl (by decide) (Nat.le_of_ble_eq_true rfl) (fun _ h => h) (fun a => ?_)
  have e8 : upd (upd (upd (upd oi 10 wc) 11 wt) 9 (if wc = -1 then 1 else 4)) 8 0 = upd (oiW oi wc wt) 8 (nI 0) := rfl
  refine q_aload_n 0 1 dX11_freshOdds_0 rfl rfl rfl ?_
  refine q_getR 0 4 f_X11_341 dX11_freshOdds_1 rfl rfl rfl rfl ?_
  refine q_ifnonnull 18 dX11_freshOdds_4 (by decide) ?_
  refine q_aload_n 0 19 dX11_freshOdds_18 rfl rfl rfl ?_
  refine q_getR 0 22 f_X11_341 dX11_freshOdds_19 rfl rfl rfl rfl ?_
  refine q_aload_n 0 23 dX11_freshOdds_22 rfl rfl rfl ?_
  refine q_getR 0 26 f_X11_30 dX11_freshOdds_23 rfl rfl rfl rfl ?_
  refine q_iload_n 1 27 dX11_freshOdds_26 rfl rfl rfl ?_
  refine q_iload_n 2 28 dX11_freshOdds_27 rfl rfl rfl ?_
  refine q_cVv 3 [3, 4, 5, 6, 7, 1, 2] [0, 8, 9, 10, 11, 12, 13, 14, 15, 16, 17] [0, 16, 17, 11, 12, 13, 14, 15, 1, 2, 3, 4, 5, 6, 7, 8, 9, 10] 31 (wr := [_, _, _, _, _, _, _, _, _, _, _]) (w1 := _) (ws' := [_, _, _, _, _, _, _, _, _, _, _, _, _, _, _, _, _, _]) (c_X2_open (r := r) hP h6) m_X11_346 dX11_freshOdds_28 rfl rfl rfl rfl rfl rfl rfl rfl (by decide) (by decide) (by decide) (by decide) (Nat.le_of_ble_eq_true rfl) (by omega) (by omega) (by omega) rfl ?_
  rw [e8]
  refine q_aload_n 0 32 dX11_freshOdds_31 rfl rfl rfl ?_
  refine q_getR 0 35 f_X11_341 dX11_freshOdds_32 rfl rfl rfl rfl ?_
  refine q_areturn dX11_freshOdds_35 rfl (Or.inl ⟨_, rfl⟩) ?_
  exact pR.rf
theorem c_X11_freshOdds0 {l : Launch} {g : Gh} {q sd la ru so : Nat} {i s : Sc} {wc wt : Int32} {t0 t1 t2 t4 t5 t7 t8 : Option Nat} (h6 : s 6 = 0 ∨ s 6 = 1) : Cn l g yX11_freshOdds (Cond.code yX11_freshOdds cX11_freshOdds 3 (some (.object RX2))) 4 15 521 [.ref q, .int wc, .int wt] [(q, ob 11 i [t0, t1, t2, some sd, t4, t5, none, t7, t8, none, none]), (sd, ob 10 (fun _ => 0) (rD la ru so)), (so, ob 8 s [])] (fun z : Nat × (Nat → Nat) × Nat × Nat => some (.ref z.1)) (fun z : Nat × (Nat → Nat) × Nat × Nat => [(q, ob 11 i [t0, t1, t2, some sd, t4, t5, some z.1, t7, t8, none, none]), (sd, ob 10 (fun _ => 0) (rD la ru so)), (so, ob 8 s []), (z.1, ob 2 (upd (oiW (fun _ => 0) wc wt) 8 (nI 0)) (rO (rs12 z.2.1 sd))), ((z.2.1 0), ob 3 (plI (plC (pl0 z.2.2.1 z.2.2.2))) (rPl (plKe (plC (pl0 z.2.2.1 z.2.2.2))) (plTa (plC (pl0 z.2.2.1 z.2.2.2))))), (plKe (plC (pl0 z.2.2.1 z.2.2.2)), aI g (plN (plC (pl0 z.2.2.1 z.2.2.2))) (plKf (plC (pl0 z.2.2.1 z.2.2.2)))), (plTa (plC (pl0 z.2.2.1 z.2.2.2)), aI g (4 * plN (plC (pl0 z.2.2.1 z.2.2.2))) (plTb (plC (pl0 z.2.2.1 z.2.2.2)))), ((z.2.1 1), ob 8 s []), ((z.2.1 2), ob 8 (fun _ => 0) []), ((z.2.1 3), aI g 48 (fun _ => 0)), ((z.2.1 4), aI g 31 (fun _ => 0)), ((z.2.1 5), aI g 32 (fun _ => 0)), ((z.2.1 6), aI g 32 (fun _ => 0)), ((z.2.1 7), aI g 128 (fun _ => 0)), ((z.2.1 13), aI g 32 (fun _ => 0)), ((z.2.1 14), aI g 32 (fun _ => 0)), ((z.2.1 15), aI g 32 (fun _ => 0)), ((z.2.1 16), aI g 32 (fun _ => 0))]) (fun _ k n => k = 15 ∧ n = 521) := by
  refine ct_of (M := mtX11_freshOdds) [some (.ref q), some (.int wc), some (.int wt)] rfl (by decide) (Nat.le_of_ble_eq_true rfl) (fun _ h => h) (fun a => ?_)
  have e8 : upd (upd (upd (upd (fun _ => 0) 10 wc) 11 wt) 9 (if wc = -1 then 1 else 4)) 8 0 = upd (oiW (fun _ => 0) wc wt) 8 (nI 0) := rfl
  refine q_aload_n 0 1 dX11_freshOdds_0 rfl rfl rfl ?_
  refine q_getN 0 4 f_X11_341 dX11_freshOdds_1 rfl rfl rfl rfl ?_
  refine q_ifnonnullN 7 dX11_freshOdds_4 rfl ?_
  refine q_aload_n 0 8 dX11_freshOdds_7 rfl rfl rfl ?_
  refine q_new (N := 17) 11 n_X11_196 rfl dX11_freshOdds_8 (by omega) (by omega) rfl (fun q8 => ?_)
  refine q_dup 12 dX11_freshOdds_11 rfl rfl ?_
  refine q_yIv [3] [0, 1, 2] [0, 1, 2, 3, 4, 5, 6, 7, 8, 9, 10, 11, 12, 13, 14, 15, 16, 17] 15 (wr := [_, _, _]) (w1 := _) (ws' := fun _ => [_, _, _, _, _, _, _, _, _, _, _, _, _, _, _, _, _, _]) c_X2_init m_X11_345 dX11_freshOdds_12 rfl rfl rfl rfl (fun _ => rfl) (by decide) (by decide) (by decide) (by decide) (Nat.le_of_ble_eq_true rfl) (by omega) (by omega) (by omega) rfl (fun z12 k12 n12 hx12 => ?_)
  obtain ⟨r12, ke12, ta12⟩ := z12
  dsimp only at hx12 ⊢
  refine q_putR 0 18 (w' := [_, _, _, _, _, _, _, _, _, _, _, _, _, _, _, _, _, _]) (r' := [_, _, _, _, _, _, _, _, _, _, _]) f_X11_341 ft_X11_6 dX11_freshOdds_15 rfl rfl (Nat.le_of_ble_eq_true rfl) rfl rfl rfl rfl rfl ?_
  refine q_aload_n 0 19 dX11_freshOdds_18 rfl rfl rfl ?_
  refine q_getR 0 22 f_X11_341 dX11_freshOdds_19 rfl rfl rfl rfl ?_
  refine q_aload_n 0 23 dX11_freshOdds_22 rfl rfl rfl ?_
  refine q_getR 0 26 f_X11_30 dX11_freshOdds_23 rfl rfl rfl rfl ?_
  refine q_iload_n 1 27 dX11_freshOdds_26 rfl rfl rfl ?_
  refine q_iload_n 2 28 dX11_freshOdds_27 rfl rfl rfl ?_
  refine q_cVv 3 [3, 4, 5, 6, 7, 1, 2] [0, 8, 9, 10, 11, 12, 13, 14, 15, 16, 17] [0, 16, 17, 11, 12, 13, 14, 15, 1, 2, 3, 4, 5, 6, 7, 8, 9, 10] 31 (wr := [_, _, _, _, _, _, _, _, _, _, _]) (w1 := _) (ws' := [_, _, _, _, _, _, _, _, _, _, _, _, _, _, _, _, _, _]) (c_X2_open (r := r12) (P := pl0 ke12 ta12) (pl0_O _ _) h6) m_X11_346 dX11_freshOdds_28 rfl rfl rfl rfl rfl rfl rfl rfl (by decide) (by decide) (by decide) (by decide) (Nat.le_of_ble_eq_true rfl) (by omega) (by omega) (by omega) rfl ?_
  rw [e8]; obtain ⟨ka, na⟩ := hx12
  refine q_aload_n 0 32 dX11_freshOdds_31 rfl rfl rfl ?_
  refine q_getR 0 35 f_X11_341 dX11_freshOdds_32 rfl rfl rfl rfl ?_
  refine q_areturn dX11_freshOdds_35 rfl (Or.inl ⟨_, rfl⟩) ?_
  exact pX.mk (q8, r12, ke12, ta12) ⟨by omega, by omega⟩ rfl rfl

