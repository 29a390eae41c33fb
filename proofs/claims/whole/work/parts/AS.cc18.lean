/-! ===== ChaseCourt.even ===== -/
def vnT (tr s : Sc) : Nat → Sc
  | 0 => tr
  | i + 1 => sRestart (vnT tr s i) (-(nI i / 4)) (nI i - nI i / 4 * 4) (s 2)
def vnI (v : Nat → Int32) (x : Int32) (sm : Nat) : Nat → Nat → Option Nat
  | 0, _ => none
  | f + 1, gv => if x * 1000 < iAbs (v ((sm - gv) * 4 + gv) - 500000000) then vnI v x sm f (gv + 1) else some (10 * (sm - gv) + gv)
def vnO (v : Nat → Int32) (x : Int32) : Nat → Nat → Int32
  | 0, _ => -1
  | f + 1, sm => match vnI v x sm (min 3 sm + 1 - (sm - 3)) (sm - 3) with
    | some r => nI r
    | none => vnO v x f (sm + 1)
theorem ev_least : ∀ sm, sm < 7 → iMax 0 (nI sm - 3) = nI (sm - 3) := by decide +kernel
theorem ev_most : ∀ sm, sm < 7 → iMin 3 (nI sm) = nI (min 3 sm) := by decide +kernel
theorem w_evenC {l : Launch} {g : Gh} {q sd la ru so cc b0 al tq num : Nat} {i s li cf ri yf tr : Sc} {af : Nat → Option Nat} {PL : List RuR} {Rl : Nat → RLs} {t0 t1 t2 t5 t7 t8 : Option Nat} {oq : Nat} {r : Nat → Nat} {sb wf ef bf tf pf uf vf us vs : Sc} {Nb Nt Np Nv Ns : Nat} {P : PlS} {i2 : Sc} {rc rs d kk0 nn0 n : Nat} {post : Pst} {px : Pxc} {a : Act} {GK : Int32 → Prop} {x : Int32} {F : Nat → Int32 → Int32} {W : Nat → Int32 → Nat → Int32} (hi9 : i2 9 = nI 1) (hi10 : i2 10 = -1) (hi11 : i2 11 = -1) (hgs : ∀ i, i < 16 → gkC GK (vnT tr s (i + 1))) (hS : SpH GK s li cf yf Rl (-1) 1) (hSt : ∀ i, StH GK s li cf yf Rl (-1) 1 (wyC 0) (F i) (W i)) (hF0 : ∀ k, F 0 k = 0) (hF : ∀ i k, GK k → F (i + 1) k = moW (W i k) 1) (hd : 12 ≤ d) (hPB : PlB P) (hK : plK P = []) (hbR : RmO Nb) (hnt : RmO Nt) (hpo : PoO Np) (hvR : RmO Nv) (hsR : RmO Ns) (hri : ri 2 = nI num) (hRs : ∀ Q, SaP PL Q → RsO num yf af Q Rl) (hn : n ≤ 30) (hrc : kk0 + 1 + (odKM - odK P Nb Nt Np Nv Ns) ≤ rc) (hrs : nn0 + 16 + (odSM - odS P Nb Nt Np Nv Ns) ≤ rs) (K : ∀ (z : OdT) (PL9 : List RuR) (k m : Nat), OdG z → SaP PL PL9 → k + odK P Nb Nt Np Nv Ns ≤ kk0 + 1 + ozK z → m + odS P Nb Nt Np Nv Ns ≤ nn0 + 16 + ozS z → post (some (.int (vnO (fun i => F n (sCode (vnT tr s (i + 1)))) x 7 0))) ([(q, ob 11 i [t0, t1, t2, some sd, some tq, t5, some oq, t7, t8, none, none]), (sd, ob 10 (fun _ => 0) (rD la ru so)), (la, ob 0 li (rL cc)), (cc, aI g 192 cf), (ru, ob 6 ri (rQ b0 al)), (b0, aI g 2 yf), (al, aR g 6 af), (so, ob 8 s []), (tq, ob 8 (vnT tr s 16) []), (oq, ob 2 z.1.2.1 (rO12 z.1.1 (some sd))), ((z.1.1 0), ob 3 (plI z.1.2.2.1) (rPl (plKe z.1.2.2.1) (plTa z.1.2.2.1))), (plKe z.1.2.2.1, aI g (plN z.1.2.2.1) (plKf z.1.2.2.1)), (plTa z.1.2.2.1, aI g (4 * plN z.1.2.2.1) (plTb z.1.2.2.1)), ((z.1.1 1), ob 8 z.1.2.2.2.1 []), ((z.1.1 2), ob 8 z.1.2.2.2.2.1 []), ((z.1.1 3), aI g 48 z.1.2.2.2.2.2.1), ((z.1.1 4), aI g 31 z.1.2.2.2.2.2.2), ((z.1.1 5), aI g z.2.1.1 z.2.1.2), ((z.1.1 6), aI g z.2.2.1.1 z.2.2.1.2), ((z.1.1 7), aI g z.2.2.2.1.1 z.2.2.2.1.2), ((z.1.1 13), aI g z.2.2.2.2.1.1 z.2.2.2.2.1.2.1), ((z.1.1 14), aI g z.2.2.2.2.1.1 z.2.2.2.2.1.2.2), ((z.1.1 15), aI g z.2.2.2.2.2.1 z.2.2.2.2.2.2.1), ((z.1.1 16), aI g z.2.2.2.2.2.1 z.2.2.2.2.2.2.2)] ++ plW g PL9) k m) : WPs l g mtX11_even d rc rs post px a 30 [some (.ref q), some (.int (nI n)), some (.int x), none, none, none, none, none, none, none, none] [.ref oq] ([(q, ob 11 i [t0, t1, t2, some sd, some tq, t5, some oq, t7, t8, none, none]), (sd, ob 10 (fun _ => 0) (rD la ru so)), (la, ob 0 li (rL cc)), (cc, aI g 192 cf), (ru, ob 6 ri (rQ b0 al)), (b0, aI g 2 yf), (al, aR g 6 af), (so, ob 8 s []), (tq, ob 8 tr []), (oq, ob 2 (upd i2 8 (nI 0)) (rO (rs12 r sd))), ((r 0), ob 3 (plI P) (rPl (plKe P) (plTa P))), (plKe P, aI g (plN P) (plKf P)), (plTa P, aI g (4 * plN P) (plTb P)), ((r 1), ob 8 s []), ((r 2), ob 8 sb []), ((r 3), aI g 48 wf), ((r 4), aI g 31 ef), ((r 5), aI g Nb bf), ((r 6), aI g Nt tf), ((r 7), aI g Np pf), ((r 13), aI g Nv uf), ((r 14), aI g Nv vf), ((r 15), aI g Ns us), ((r 16), aI g Ns vs)] ++ plW g PL) kk0 nn0 := by
  have hPN := hPB.2.1
  have hb9 := hbR.1
  have hn9 := hnt.1
  have hp9 := hpo.1
  have hv9 := hvR.1
  have hs9 := hsR.1
  have hrc : kk0 + 1 + (16384 + 16389 + 16389 + 8192 + 16389 + 16389 - (plN P + Nb + Nt + Np / 128 + Nv + Ns)) ≤ rc := hrc
  have hrs : nn0 + 16 + (10 * 16384 + 16 * 16389 + 16 * 16389 + 2 * 1048576 + 32 * 16389 + 32 * 16389 - (10 * plN P + 16 * Nb + 16 * Nt + 2 * Np + 32 * Nv + 32 * Ns)) ≤ rs := hrs
  have K92 : ∀ (P2 : PlS) (pa : Nat) (pfE : Sc) (jx : Nat → Nat) (kk nn : Nat) (L5 : Option Value), PlB P2 → (∀ k ∈ plK P2, GK k) → (∀ i, i < 16 → pfE i = nI (4 + jx i) ∧ jx i < (plK P2).length ∧ kAt (plK P2) (jx i) = sCode (vnT tr s (i + 1))) → kk + (plN P + Nb + Nt + Np / 128 + Nv + Ns) ≤ kk0 + 1 + (plN P2 + Nb + Nt + Np / 128 + Nv + Ns) → nn + (10 * plN P + 16 * Nb + 16 * Nt + 2 * Np + 32 * Nv + 32 * Ns) ≤ nn0 + 16 + (10 * plN P2 + 16 * Nb + 16 * Nt + 2 * Np + 32 * Nv + 32 * Ns) → WPs l g mtX11_even d rc rs post px a 92 [some (.ref q), some (.int (nI n)), some (.int x), some (.ref oq), some (.ref pa), L5, none, none, none, none, none] [] ([(q, ob 11 i [t0, t1, t2, some sd, some tq, t5, some oq, t7, t8, none, none]), (sd, ob 10 (fun _ => 0) (rD la ru so)), (la, ob 0 li (rL cc)), (cc, aI g 192 cf), (ru, ob 6 ri (rQ b0 al)), (b0, aI g 2 yf), (al, aR g 6 af), (so, ob 8 s []), (tq, ob 8 (vnT tr s 16) []), (oq, ob 2 (upd i2 8 (nI 0)) (rO (rs12 r sd))), ((r 0), ob 3 (plI P2) (rPl (plKe P2) (plTa P2))), (plKe P2, aI g (plN P2) (plKf P2)), (plTa P2, aI g (4 * plN P2) (plTb P2)), ((r 1), ob 8 s []), ((r 2), ob 8 sb []), ((r 3), aI g 48 wf), ((r 4), aI g 31 ef), ((r 5), aI g Nb bf), ((r 6), aI g Nt tf), ((r 7), aI g Np pf), ((r 13), aI g Nv uf), ((r 14), aI g Nv vf), ((r 15), aI g Ns us), ((r 16), aI g Ns vs), (pa, aI g 16 pfE)] ++ plW g PL) kk nn := by
    intro P2 pa pfE jx kk nn L5 hP2 hG2 hpf hkk hnn
    have hP2N := hP2.2.1
    refine q_aload_n 3 93 dX11_even_92 rfl rfl rfl ?_
    refine q_iload_n 1 94 dX11_even_93 rfl rfl rfl ?_
    refine q_uyVv 9 [9, 10, 11, 12, 13, 14, 15, 17, 18, 19, 1, 2, 3, 4, 5, 6, 16] [0, 7, 8, 20, 21, 22, 23, 24] [0, 18, 19, 20, 21, 22, 23, 1, 2, 8, 9, 10, 11, 12, 13, 14, 24, 15, 16, 17, 3, 4, 5, 6, 7] 97 (wr := [_, _, _, _, _, _, _, _]) (w1 := _) (ws' := fun _ => [_, _, _, _, _, _, _, _, _, _, _, _, _, _, _, _, _, _, _, _, _, _, _, _, _]) (c_X2_spreadAll (r := (rs12 r sd)) (a5 := r 5) (a6 := r 6) (a7 := r 7) (s0 := s) (Rl := Rl) (GK := GK) (num := num) hi9 (Or.inl ⟨hi10, rfl⟩) hn hP2 hG2 hbR hnt hpo hri hRs ⟨rfl, rfl, rfl, rfl⟩ (by rw [hi10]; exact hS) (fun h => absurd hi11 h)) m_X11_201 dX11_even_94 rfl rfl rfl rfl rfl rfl rfl (fun _ => rfl) (by decide) (by decide) (by decide) (by decide) (Nat.le_of_ble_eq_true rfl) (by omega) (by omega) (by omega) rfl (fun z94 k94 n94 hx94 => ?_)
    obtain ⟨⟨⟨a594, Nb94, bf94⟩, ⟨a694, Nt94, tf94⟩, ⟨a794, Np94, pf94⟩⟩, P94, u94, ⟨sf94, sb94, wf94, ef94⟩, PL94⟩ := z94
    dsimp only at hx94 ⊢
    skip
    obtain ⟨hz, hz2, hz3⟩ := hx94
    rw [hi10, hi11] at hz
    obtain ⟨U, um, hU, hum, hrun⟩ := od_run hz
    have hz1 := hz
    obtain ⟨⟨hPB3, _, _⟩, ⟨hb3, _⟩, ⟨ht3, _⟩, ⟨hp3, _⟩, _, hsp, _⟩ := hz1
    dsimp only at hPB3 hb3 ht3 hp3 hsp hz2 hz3 hU hum
    have hP3N := hPB3.2.1
    obtain ⟨mm, hmm, hNm⟩ := hPB3.1.2.2.2
    have hKN := hPB3.1.2.1.1
    have hb39 := hb3.1
    have ht39 := ht3.1
    have hp39 := hp3.1
    have hw1 := (rw_max hvR hP3N).1
    have hw2 := rw_maxS hvR hNm hP3N
    obtain ⟨E, hE, hval⟩ := hrun (wyC 0) F W hSt hF0 hF
    dsimp only at hE hval
    have h11 : upd i2 8 (nI u94) 11 = -1 := by rw [pk_un (by decide)]; exact hi11
    have h9 : upd i2 8 (nI u94) 9 = nI 1 := by rw [pk_un (by decide)]; exact hi9
    refine q_aload_n 3 98 dX11_even_97 rfl rfl rfl ?_
    refine q_iload_n 1 99 dX11_even_98 rfl rfl rfl ?_
    refine q_iconst 0 100 dX11_even_99 ic_0 rfl ?_
    refine q_tcSi [] [0, 1, 2, 3, 4, 5, 6, 7, 8, 9, 10, 11, 12, 13, 14, 15, 16, 17, 18, 19, 20, 21, 22, 23, 24] [0, 1, 2, 3, 4, 5, 6, 7, 8, 9, 10, 11, 12, 13, 14, 15, 16, 17, 18, 19, 20, 21, 22, 23, 24] 103 (wr := [_, _, _, _, _, _, _, _, _, _, _, _, _, _, _, _, _, _, _, _, _, _, _, _, _]) (w1 := _) (ws' := [_, _, _, _, _, _, _, _, _, _, _, _, _, _, _, _, _, _, _, _, _, _, _, _, _]) c_X11_waysOf m_X11_204 dX11_even_100 rfl rfl rfl rfl rfl (by decide) (by decide) (by decide) (by decide) (Nat.le_of_ble_eq_true rfl) (by omega) (by omega) (by omega) rfl ?_
    refine q_tyVv 9 [9, 10, 11, 20, 21, 17, 19, 16] [0, 1, 2, 3, 4, 5, 6, 7, 8, 12, 13, 14, 15, 18, 22, 23, 24] [0, 1, 2, 3, 4, 5, 6, 7, 8, 17, 18, 19, 9, 10, 11, 12, 24, 22, 13, 23, 20, 21, 14, 15, 16] 106 (wr := [_, _, _, _, _, _, _, _, _, _, _, _, _, _, _, _, _]) (w1 := _) (ws' := fun _ => [_, _, _, _, _, _, _, _, _, _, _, _, _, _, _, _, _, _, _, _, _, _, _, _, _]) (c_X2_weighAll0 (r := rs567 (rs12 r sd) a594 a694 a794) (sz := (plK P94).length) (E := E) (U := U) (um := um) h11 h9 (by decide) (by omega) (by omega) (by omega) (by omega) hPB3.1.1 hKN hn hU hum hE) m_X11_207 dX11_even_103 rfl rfl rfl rfl rfl rfl rfl (fun _ => rfl) (by decide) (by decide) (by decide) (by decide) (Nat.le_of_ble_eq_true rfl) (by omega) (by omega) (by omega) rfl (fun z103 k103 n103 hx103 => ?_)
    obtain ⟨a103, b103, m103, uf103, vf103⟩ := z103
    dsimp only at hx103 ⊢
    skip
    obtain ⟨hro, u1, v1, huv⟩ := hx103
    obtain ⟨q1, q2, q3, q4, q5, _⟩ := rw_pot hvR hNm hP3N hro
    have hq9 := q1.1
    obtain ⟨L9, hL9⟩ := hz.1.2.1
    have hL9 : plK P94 = plK P2 ++ L9 := hL9
    have hvv : ∀ i, i < 16 → vf103 (4 + jx i) = F n (sCode (vnT tr s (i + 1))) ∧ 4 + jx i < m103 := by
      intro i hi
      obtain ⟨a1, a2, a3⟩ := hpf i hi
      have h1 := (hval u1 v1 (jx i) a2).1
      rw [← huv, a3] at h1
      refine ⟨h1, ?_⟩
      have : (plK P2).length ≤ (plK P94).length := by rw [hL9, List.length_append]; omega
      omega
    have k2 := fun k m h1 h2 => K (((rs2 (rs567 (rs12 r sd) a594 a694 a794) a103 b103), upd i2 8 (nI u94), P94, sf94, sb94, wf94, ef94), (Nb94, bf94), (Nt94, tf94), (Np94, pf94), (m103, uf103, vf103), (Ns, us, vs)) PL94 k m ⟨hPB3.1, hP3N, hb3, ht3, hp3, q1, hsR⟩ hsp h1 h2
    have hk9 : kk + k94 + k103 + (plN P + Nb + Nt + Np / 128 + Nv + Ns) ≤ kk0 + 1 + (plN P94 + Nb94 + Nt94 + Np94 / 128 + m103 + Ns) := by omega
    have hn9 : nn + n94 + n103 + (10 * plN P + 16 * Nb + 16 * Nt + 2 * Np + 32 * Nv + 32 * Ns) ≤ nn0 + 16 + (10 * plN P94 + 16 * Nb94 + 16 * Nt94 + 2 * Np94 + 32 * m103 + 32 * Ns) := by omega
    have k3 := k2 _ _ hk9 hn9
    clear K k2
    generalize kk + k94 + k103 = kE at *
    generalize nn + n94 + n103 = nE at *
    have K109 : ∀ (c sm : Nat) (L6 L7 L8 L9 L10 : Option Value), c + sm = 7 → vnO (fun i => F n (sCode (vnT tr s (i + 1)))) x 7 0 = vnO (fun i => F n (sCode (vnT tr s (i + 1)))) x c sm → WPs l g mtX11_even d rc rs post px a 109 [some (.ref q), some (.int (nI n)), some (.int x), some (.ref oq), some (.ref pa), some (.int (nI sm)), L6, L7, L8, L9, L10] [] ([(q, ob 11 i [t0, t1, t2, some sd, some tq, t5, some oq, t7, t8, none, none]), (sd, ob 10 (fun _ => 0) (rD la ru so)), (la, ob 0 li (rL cc)), (cc, aI g 192 cf), (ru, ob 6 ri (rQ b0 al)), (b0, aI g 2 yf), (al, aR g 6 af), (so, ob 8 s []), (tq, ob 8 (vnT tr s 16) []), (oq, ob 2 (upd i2 8 (nI u94)) (rO (rs2 (rs567 (rs12 r sd) a594 a694 a794) a103 b103))), ((r 0), ob 3 (plI P94) (rPl (plKe P94) (plTa P94))), (plKe P94, aI g (plN P94) (plKf P94)), (plTa P94, aI g (4 * plN P94) (plTb P94)), ((r 1), ob 8 sf94 []), ((r 2), ob 8 sb94 []), ((r 3), aI g 48 wf94), ((r 4), aI g 31 ef94), (a594, aI g Nb94 bf94), (a694, aI g Nt94 tf94), (a794, aI g Np94 pf94), (a103, aI g m103 uf103), (b103, aI g m103 vf103), ((r 15), aI g Ns us), ((r 16), aI g Ns vs), (pa, aI g 16 pfE)] ++ plW g PL94) kE nE := by
      intro c
      induction c with
      | zero =>
        intro sm L6 L7 L8 L9 L10 hc he
        obtain rfl : sm = 7 := by omega
        rw [he] at k3
        refine q_iload 5 111 dX11_even_109 rfl rfl ?_
        refine q_bipush 6 113 dX11_even_111 bc_6 rfl ?_
        refine q_icmp_gt 206 116 dX11_even_113 (by decide) rfl (fun h113 => ?_) (fun h113 => absurd (by decide) h113)
        refine q_iconst (-1) 207 dX11_even_206 ic_m1 rfl ?_
        refine q_tsub (ws' := [_, _, _, _, _, _, _, _, _, _, _, _, _, _, _, _, _, _, _, _, _, _, _, _]) [0, 1, 2, 3, 4, 5, 6, 7, 8, 9, 10, 11, 12, 13, 14, 15, 16, 17, 18, 19, 20, 21, 22, 23] (by decide) rfl ?_
        refine q_ireturn dX11_even_207 rfl ?_
        exact k3
      | succ c ih =>
        intro sm L6 L7 L8 L9 L10 hc he
        have el := ev_least sm (by omega)
        have em := ev_most sm (by omega)
        have hng : ¬ (6 : Int32) < nI sm := by rw [show (6 : Int32) = nI 6 by decide]; exact nI_nlt (by omega) (by decide)
        have hmin : min 3 sm ≤ 3 := Nat.min_le_left _ _
        have hmin2 : min 3 sm ≤ sm := Nat.min_le_right _ _
        have hmin3 : min 3 sm = 3 ∨ min 3 sm = sm := by omega
        have K138 : ∀ (f gv : Nat) (L9 L10 : Option Value), f + gv = min 3 sm + 1 → sm - 3 ≤ gv → vnI (fun i => F n (sCode (vnT tr s (i + 1)))) x sm (min 3 sm + 1 - (sm - 3)) (sm - 3) = vnI (fun i => F n (sCode (vnT tr s (i + 1)))) x sm f gv → WPs l g mtX11_even d rc rs post px a 138 [some (.ref q), some (.int (nI n)), some (.int x), some (.ref oq), some (.ref pa), some (.int (nI sm)), some (.int (nI (sm - 3))), some (.int (nI (min 3 sm))), some (.int (nI gv)), L9, L10] [] ([(q, ob 11 i [t0, t1, t2, some sd, some tq, t5, some oq, t7, t8, none, none]), (sd, ob 10 (fun _ => 0) (rD la ru so)), (la, ob 0 li (rL cc)), (cc, aI g 192 cf), (ru, ob 6 ri (rQ b0 al)), (b0, aI g 2 yf), (al, aR g 6 af), (so, ob 8 s []), (tq, ob 8 (vnT tr s 16) []), (oq, ob 2 (upd i2 8 (nI u94)) (rO (rs2 (rs567 (rs12 r sd) a594 a694 a794) a103 b103))), ((r 0), ob 3 (plI P94) (rPl (plKe P94) (plTa P94))), (plKe P94, aI g (plN P94) (plKf P94)), (plTa P94, aI g (4 * plN P94) (plTb P94)), ((r 1), ob 8 sf94 []), ((r 2), ob 8 sb94 []), ((r 3), aI g 48 wf94), ((r 4), aI g 31 ef94), (a594, aI g Nb94 bf94), (a694, aI g Nt94 tf94), (a794, aI g Np94 pf94), (a103, aI g m103 uf103), (b103, aI g m103 vf103), ((r 15), aI g Ns us), ((r 16), aI g Ns vs), (pa, aI g 16 pfE)] ++ plW g PL94) kE nE := by
          intro f
          induction f with
          | zero =>
            intro gv L9 L10 hf hge hei
            have hgt : nI (min 3 sm) < nI gv := nI_lt (by omega) (by omega)
            have k4 := fun L6 L7 L8 L9 L10 => ih (sm + 1) L6 L7 L8 L9 L10 (by omega) (by rw [he, vnO, hei]; rfl)
            clear ih
            refine q_iload 8 140 dX11_even_138 rfl rfl ?_
            refine q_iload 7 142 dX11_even_140 rfl rfl ?_
            refine q_icmp_gt 200 145 dX11_even_142 (by decide) rfl (fun h142 => ?_) (fun h142 => absurd hgt h142)
            refine q_iinc 5 (nI (sm + 1)) 203 (L' := [_, _, _, _, _, _, _, _, _, _, _]) dX11_even_200 rfl (inc1 (sm)) (by decide) rfl rfl ?_
            refine q_goto 109 dX11_even_203 (by decide) ?_
            exact k4 _ _ _ _ _
          | succ f ih2 =>
            intro gv L9 L10 hf hge hei
            have hgt : ¬ nI (min 3 sm) < nI gv := nI_nlt (by omega) (by omega)
            have es : nI sm - nI gv = nI (sm - gv) := pk_sub (by omega)
            have eix : nI (sm - gv) * 4 + nI gv = nI ((sm - gv) * 4 + gv) := by rw [show (4 : Int32) = nI 4 by decide, pk_mul, nI_add]
            have e10 : (10 : Int32) * nI (sm - gv) + nI gv = nI (10 * (sm - gv) + gv) := by rw [show (10 : Int32) = nI 10 by decide, pk_mul, nI_add]
            have hi16 : (sm - gv) * 4 + gv < 16 := by omega
            obtain ⟨a1, _, _⟩ := hpf _ hi16
            obtain ⟨b1, b2⟩ := hvv _ hi16
            rw [vnI] at hei
            generalize hix : (sm - gv) * 4 + gv = ix at *
            by_cases hfar : x * 1000 < iAbs (F n (sCode (vnT tr s (ix + 1))) - 500000000)
            · rw [if_pos hfar] at hei
              have k4 := fun L9 L10 => ih2 (gv + 1) L9 L10 (by omega) (by omega) hei
              clear ih ih2
              refine q_iload 8 140 dX11_even_138 rfl rfl ?_
              refine q_iload 7 142 dX11_even_140 rfl rfl ?_
              refine q_icmp_gt 200 145 dX11_even_142 (by decide) rfl (fun h142 => absurd h142 hgt) (fun h142 => ?_)
              refine q_iload 5 147 dX11_even_145 rfl rfl ?_
              refine q_iload 8 149 dX11_even_147 rfl rfl ?_
              refine q_isub 150 dX11_even_149 rfl ?_
              rw [es]
              refine q_istore 9 152 (L' := [_, _, _, _, _, _, _, _, _, _, _]) dX11_even_150 (by decide) rfl rfl ?_
              refine q_aload_n 3 153 dX11_even_152 rfl rfl rfl ?_
              refine q_aload 4 155 dX11_even_153 rfl rfl ?_
              refine q_iload 9 157 dX11_even_155 rfl rfl ?_
              refine q_iconst 4 158 dX11_even_157 ic_4 rfl ?_
              refine q_imul 159 dX11_even_158 rfl ?_
              refine q_iload 8 161 dX11_even_159 rfl rfl ?_
              refine q_iadd 162 dX11_even_161 rfl ?_
              refine q_iald 24 ix 163 dX11_even_162 rfl ⟨eix, by omega, by decide⟩ rfl ?_
              rw [a1]
              refine q_tcVi 9 [9, 21] [0, 1, 2, 3, 4, 5, 6, 7, 8, 10, 11, 12, 13, 14, 15, 16, 17, 18, 19, 20, 22, 23, 24] [0, 1, 2, 3, 4, 5, 6, 7, 8, 23, 9, 10, 11, 12, 13, 14, 15, 16, 17, 18, 19, 24, 20, 21, 22] 166 (wr := [_, _, _, _, _, _, _, _, _, _, _, _, _, _, _, _, _, _, _, _, _, _, _]) (w1 := _) (ws' := [_, _, _, _, _, _, _, _, _, _, _, _, _, _, _, _, _, _, _, _, _, _, _, _, _]) (c_X2_valueAt (r := (rs2 (rs567 (rs12 r sd) a594 a694 a794) a103 b103)) (z := 4 + jx ix) b2 (by omega)) m_X11_210 dX11_even_163 rfl rfl rfl rfl rfl rfl rfl rfl (by decide) (by decide) (by decide) (by decide) (Nat.le_of_ble_eq_true rfl) (by omega) (by omega) (by omega) rfl ?_
              rw [b1]
              refine q_ldcw 500000000 169 k_X11_262 dX11_even_166 rfl ?_
              refine q_isub 170 dX11_even_169 rfl ?_
              refine q_mabs 173 mm_X11_263 dX11_even_170 (Nat.le_of_ble_eq_true rfl) (by omega) (by omega) (by omega) rfl ?_
              refine q_istore 10 175 (L' := [_, _, _, _, _, _, _, _, _, _, _]) dX11_even_173 (by decide) rfl rfl ?_
              refine q_iload 10 177 dX11_even_175 rfl rfl ?_
              refine q_iload_n 2 178 dX11_even_177 rfl rfl rfl ?_
              refine q_sipush 1000 181 dX11_even_178 sc_1000 rfl ?_
              refine q_imul 182 dX11_even_181 rfl ?_
              refine q_icmp_gt 194 185 dX11_even_182 (by decide) rfl (fun h182 => ?_) (fun h182 => absurd hfar h182)
              refine q_iinc 8 (nI (gv + 1)) 197 (L' := [_, _, _, _, _, _, _, _, _, _, _]) dX11_even_194 rfl (inc1 (gv)) (by decide) rfl rfl ?_
              refine q_goto 138 dX11_even_197 (by decide) ?_
              exact k4 _ _
            · rw [if_neg hfar] at hei
              have hres : vnO (fun i => F n (sCode (vnT tr s (i + 1)))) x 7 0 = nI (10 * (sm - gv) + gv) := by rw [he, vnO, hei]
              rw [hres] at k3
              clear ih ih2
              refine q_iload 8 140 dX11_even_138 rfl rfl ?_
              refine q_iload 7 142 dX11_even_140 rfl rfl ?_
              refine q_icmp_gt 200 145 dX11_even_142 (by decide) rfl (fun h142 => absurd h142 hgt) (fun h142 => ?_)
              refine q_iload 5 147 dX11_even_145 rfl rfl ?_
              refine q_iload 8 149 dX11_even_147 rfl rfl ?_
              refine q_isub 150 dX11_even_149 rfl ?_
              rw [es]
              refine q_istore 9 152 (L' := [_, _, _, _, _, _, _, _, _, _, _]) dX11_even_150 (by decide) rfl rfl ?_
              refine q_aload_n 3 153 dX11_even_152 rfl rfl rfl ?_
              refine q_aload 4 155 dX11_even_153 rfl rfl ?_
              refine q_iload 9 157 dX11_even_155 rfl rfl ?_
              refine q_iconst 4 158 dX11_even_157 ic_4 rfl ?_
              refine q_imul 159 dX11_even_158 rfl ?_
              refine q_iload 8 161 dX11_even_159 rfl rfl ?_
              refine q_iadd 162 dX11_even_161 rfl ?_
              refine q_iald 24 ix 163 dX11_even_162 rfl ⟨eix, by omega, by decide⟩ rfl ?_
              rw [a1]
              refine q_tcVi 9 [9, 21] [0, 1, 2, 3, 4, 5, 6, 7, 8, 10, 11, 12, 13, 14, 15, 16, 17, 18, 19, 20, 22, 23, 24] [0, 1, 2, 3, 4, 5, 6, 7, 8, 23, 9, 10, 11, 12, 13, 14, 15, 16, 17, 18, 19, 24, 20, 21, 22] 166 (wr := [_, _, _, _, _, _, _, _, _, _, _, _, _, _, _, _, _, _, _, _, _, _, _]) (w1 := _) (ws' := [_, _, _, _, _, _, _, _, _, _, _, _, _, _, _, _, _, _, _, _, _, _, _, _, _]) (c_X2_valueAt (r := (rs2 (rs567 (rs12 r sd) a594 a694 a794) a103 b103)) (z := 4 + jx ix) b2 (by omega)) m_X11_210 dX11_even_163 rfl rfl rfl rfl rfl rfl rfl rfl (by decide) (by decide) (by decide) (by decide) (Nat.le_of_ble_eq_true rfl) (by omega) (by omega) (by omega) rfl ?_
              rw [b1]
              refine q_ldcw 500000000 169 k_X11_262 dX11_even_166 rfl ?_
              refine q_isub 170 dX11_even_169 rfl ?_
              refine q_mabs 173 mm_X11_263 dX11_even_170 (Nat.le_of_ble_eq_true rfl) (by omega) (by omega) (by omega) rfl ?_
              refine q_istore 10 175 (L' := [_, _, _, _, _, _, _, _, _, _, _]) dX11_even_173 (by decide) rfl rfl ?_
              refine q_iload 10 177 dX11_even_175 rfl rfl ?_
              refine q_iload_n 2 178 dX11_even_177 rfl rfl rfl ?_
              refine q_sipush 1000 181 dX11_even_178 sc_1000 rfl ?_
              refine q_imul 182 dX11_even_181 rfl ?_
              refine q_icmp_gt 194 185 dX11_even_182 (by decide) rfl (fun h182 => absurd h182 hfar) (fun h182 => ?_)
              refine q_bipush 10 187 dX11_even_185 bc_10 rfl ?_
              refine q_iload 9 189 dX11_even_187 rfl rfl ?_
              refine q_imul 190 dX11_even_189 rfl ?_
              refine q_iload 8 192 dX11_even_190 rfl rfl ?_
              refine q_iadd 193 dX11_even_192 rfl ?_
              rw [e10]; refine q_tsub (ws' := [_, _, _, _, _, _, _, _, _, _, _, _, _, _, _, _, _, _, _, _, _, _, _, _]) [0, 1, 2, 3, 4, 5, 6, 7, 8, 9, 10, 11, 12, 13, 14, 15, 16, 17, 18, 19, 20, 21, 22, 23] (by decide) rfl ?_
              refine q_ireturn dX11_even_193 rfl ?_
              exact k3
        clear ih
        have k4 := fun L9 L10 => K138 (min 3 sm + 1 - (sm - 3)) (sm - 3) L9 L10 (by omega) (Nat.le_refl _) rfl
        clear K138
        refine q_iload 5 111 dX11_even_109 rfl rfl ?_
        refine q_bipush 6 113 dX11_even_111 bc_6 rfl ?_
        refine q_icmp_gt 206 116 dX11_even_113 (by decide) rfl (fun h113 => absurd h113 hng) (fun h113 => ?_)
        refine q_iconst 0 117 dX11_even_116 ic_0 rfl ?_
        refine q_iload 5 119 dX11_even_117 rfl rfl ?_
        refine q_iconst 3 120 dX11_even_119 ic_3 rfl ?_
        refine q_isub 121 dX11_even_120 rfl ?_
        refine q_mmax 124 mm_X11_253 dX11_even_121 (Nat.le_of_ble_eq_true rfl) (by omega) (by omega) (by omega) rfl ?_
        rw [el]
        refine q_istore 6 126 (L' := [_, _, _, _, _, _, _, _, _, _, _]) dX11_even_124 (by decide) rfl rfl ?_
        refine q_iconst 3 127 dX11_even_126 ic_3 rfl ?_
        refine q_iload 5 129 dX11_even_127 rfl rfl ?_
        refine q_mmin 132 mm_X11_259 dX11_even_129 (Nat.le_of_ble_eq_true rfl) (by omega) (by omega) (by omega) rfl ?_
        rw [em]
        refine q_istore 7 134 (L' := [_, _, _, _, _, _, _, _, _, _, _]) dX11_even_132 (by decide) rfl rfl ?_
        refine q_iload 6 136 dX11_even_134 rfl rfl ?_
        refine q_istore 8 138 (L' := [_, _, _, _, _, _, _, _, _, _, _]) dX11_even_136 (by decide) rfl rfl ?_
        exact k4 _ _
    have k4 := K109 7 0 none none none none none rfl rfl
    clear K109
    rw [show nI 0 = (0 : Int32) from by decide] at k4
    refine q_iconst 0 107 dX11_even_106 ic_0 rfl ?_
    refine q_istore 5 109 (L' := [_, _, _, _, _, _, _, _, _, _, _]) dX11_even_107 (by decide) rfl rfl ?_
    exact k4
  clear K
  have K40 : ∀ (c ii : Nat) (P2 : PlS) (pa : Nat) (pfE : Sc) (jx : Nat → Nat) (kk nn : Nat), c + ii = 16 → PlB P2 → (∀ k ∈ plK P2, GK k) → (∀ z, z < ii → pfE z = nI (4 + jx z) ∧ jx z < (plK P2).length ∧ kAt (plK P2) (jx z) = sCode (vnT tr s (z + 1))) → kk + (plN P + Nb + Nt + Np / 128 + Nv + Ns) ≤ kk0 + 1 + (plN P2 + Nb + Nt + Np / 128 + Nv + Ns) → nn + (10 * plN P + 16 * Nb + 16 * Nt + 2 * Np + 32 * Nv + 32 * Ns) ≤ nn0 + 16 + (10 * plN P2 + 16 * Nb + 16 * Nt + 2 * Np + 32 * Nv + 32 * Ns) → WPs l g mtX11_even d rc rs post px a 40 [some (.ref q), some (.int (nI n)), some (.int x), some (.ref oq), some (.ref pa), some (.int (nI ii)), none, none, none, none, none] [] ([(q, ob 11 i [t0, t1, t2, some sd, some tq, t5, some oq, t7, t8, none, none]), (sd, ob 10 (fun _ => 0) (rD la ru so)), (la, ob 0 li (rL cc)), (cc, aI g 192 cf), (ru, ob 6 ri (rQ b0 al)), (b0, aI g 2 yf), (al, aR g 6 af), (so, ob 8 s []), (tq, ob 8 (vnT tr s ii) []), (oq, ob 2 (upd i2 8 (nI 0)) (rO (rs12 r sd))), ((r 0), ob 3 (plI P2) (rPl (plKe P2) (plTa P2))), (plKe P2, aI g (plN P2) (plKf P2)), (plTa P2, aI g (4 * plN P2) (plTb P2)), ((r 1), ob 8 s []), ((r 2), ob 8 sb []), ((r 3), aI g 48 wf), ((r 4), aI g 31 ef), ((r 5), aI g Nb bf), ((r 6), aI g Nt tf), ((r 7), aI g Np pf), ((r 13), aI g Nv uf), ((r 14), aI g Nv vf), ((r 15), aI g Ns us), ((r 16), aI g Ns vs), (pa, aI g 16 pfE)] ++ plW g PL) kk nn := by
    intro c
    induction c with
    | zero =>
      intro ii P2 pa pfE jx kk nn hc hP2 hG2 hpf hkk hnn
      obtain rfl : ii = 16 := by omega
      have k2 := fun L5 => K92 P2 pa pfE jx kk nn L5 hP2 hG2 hpf hkk hnn
      clear K92
      refine q_iload 5 42 dX11_even_40 rfl rfl ?_
      refine q_bipush 16 44 dX11_even_42 bc_16 rfl ?_
      refine q_icmp_ge 92 47 dX11_even_44 (by decide) rfl (fun h44 => ?_) (fun h44 => absurd (by decide) h44)
      exact k2 _
    | succ c ih =>
      intro ii P2 pa pfE jx kk nn hc hP2 hG2 hpf hkk hnn
      have k2 := ih (ii + 1)
      clear ih K92
      have hP2N := hP2.2.1
      have hlt : ¬ (16 : Int32) ≤ nI ii := nI_nge9 16 (by decide) (by omega) (by decide)
      have hg := hgs ii (by omega)
      have hv1 : sRestart (vnT tr s ii) (-(nI ii / 4)) (nI ii - nI ii / 4 * 4) (s 2) = vnT tr s (ii + 1) := rfl
      generalize hts : vnT tr s (ii + 1) = ts at *
      refine q_iload 5 42 dX11_even_40 rfl rfl ?_
      refine q_bipush 16 44 dX11_even_42 bc_16 rfl ?_
      refine q_icmp_ge 92 47 dX11_even_44 (by decide) rfl (fun h44 => absurd h44 hlt) (fun h44 => ?_)
      refine q_aload_n 0 48 dX11_even_47 rfl rfl rfl ?_
      refine q_getR 0 51 f_X11_37 dX11_even_48 rfl rfl rfl rfl ?_
      refine q_iload 5 53 dX11_even_51 rfl rfl ?_
      refine q_iconst 4 54 dX11_even_53 ic_4 rfl ?_
      refine q_idiv 55 dX11_even_54 (by decide) rfl ?_
      refine q_ineg 56 dX11_even_55 rfl ?_
      refine q_iload 5 58 dX11_even_56 rfl rfl ?_
      refine q_iconst 4 59 dX11_even_58 ic_4 rfl ?_
      refine q_irem 60 dX11_even_59 (by decide) rfl ?_
      refine q_aload_n 0 61 dX11_even_60 rfl rfl rfl ?_
      refine q_getR 0 64 f_X11_30 dX11_even_61 rfl rfl rfl rfl ?_
      refine q_getR 1 67 f_X11_138 dX11_even_64 rfl rfl rfl rfl ?_
      refine q_getI 7 70 f_X11_250 dX11_even_67 rfl rfl rfl ?_
      refine q_tcVv 8 [8] [0, 1, 2, 3, 4, 5, 6, 7, 9, 10, 11, 12, 13, 14, 15, 16, 17, 18, 19, 20, 21, 22, 23, 24] [0, 1, 2, 3, 4, 5, 6, 7, 24, 8, 9, 10, 11, 12, 13, 14, 15, 16, 17, 18, 19, 20, 21, 22, 23] 73 (wr := [_, _, _, _, _, _, _, _, _, _, _, _, _, _, _, _, _, _, _, _, _, _, _, _]) (w1 := _) (ws' := [_, _, _, _, _, _, _, _, _, _, _, _, _, _, _, _, _, _, _, _, _, _, _, _, _]) c_X8_restart m_X11_147 dX11_even_70 rfl rfl rfl rfl rfl rfl rfl rfl (by decide) (by decide) (by decide) (by decide) (Nat.le_of_ble_eq_true rfl) (by omega) (by omega) (by omega) rfl ?_
      rw [hv1]
      refine q_aload 4 75 dX11_even_73 rfl rfl ?_
      refine q_iload 5 77 dX11_even_75 rfl rfl ?_
      refine q_aload_n 3 78 dX11_even_77 rfl rfl rfl ?_
      refine q_aload_n 0 79 dX11_even_78 rfl rfl rfl ?_
      refine q_getR 0 82 f_X11_37 dX11_even_79 rfl rfl rfl rfl ?_
      refine q_tyVi 9 [9, 10, 11, 12, 8] [0, 1, 2, 3, 4, 5, 6, 7, 13, 14, 15, 16, 17, 18, 19, 20, 21, 22, 23, 24] [0, 1, 2, 3, 4, 5, 6, 7, 24, 20, 21, 22, 23, 8, 9, 10, 11, 12, 13, 14, 15, 16, 17, 18, 19] 85 (wr := [_, _, _, _, _, _, _, _, _, _, _, _, _, _, _, _, _, _, _, _]) (w1 := _) (ws' := fun _ => [_, _, _, _, _, _, _, _, _, _, _, _, _, _, _, _, _, _, _, _, _, _, _, _, _]) (c_X2_placeOf (r := (rs12 r sd)) (i := upd i2 8 (nI 0)) hP2 hg.2) m_X11_195 dX11_even_82 rfl rfl rfl rfl rfl rfl rfl (fun _ => rfl) (by decide) (by decide) (by decide) (by decide) (Nat.le_of_ble_eq_true rfl) (by omega) (by omega) (by omega) rfl (fun P82 k82 n82 hx82 => ?_)
      obtain ⟨hPb, hKb, hkb, hnb⟩ := hx82; have hat := kPut_at (K := plK P2) (k := sCode ts); rw [← hKb] at hat; generalize hjn : (plK P2).idxOf (sCode ts) = jn at *
      refine q_iast 24 ii 86 (w' := ([_, _, _, _, _, _, _, _, _, _, _, _, _, _, _, _, _, _, _, _, _, _, _, _, _] ++ _)) dX11_even_85 rfl ⟨rfl, by omega, by decide⟩ rfl rfl ?_
      refine q_iinc 5 (nI (ii + 1)) 89 (L' := [_, _, _, _, _, _, _, _, _, _, _]) dX11_even_86 rfl (inc1 (ii)) (by decide) rfl rfl ?_
      refine q_goto 40 dX11_even_89 (by decide) ?_
      refine k2 P82 pa _ (fun z => if z = ii then jn else jx z) (kk + k82) (nn + n82) (by omega) hPb (fun k hk => ?_) (fun z hz => ?_) (by omega) (by omega)
      · rw [hKb] at hk
        rcases kPut_mem hk with h | h
        · exact hG2 k h
        · rw [h]; exact hg.1
      · show upd pfE ii (nI (4 + jn)) z = nI (4 + (if z = ii then jn else jx z)) ∧ (if z = ii then jn else jx z) < _ ∧ kAt _ (if z = ii then jn else jx z) = _
        by_cases hz2 : z = ii
        · subst hz2
          rw [if_pos rfl, pk_us, hts]
          exact ⟨rfl, hat.2, hat.1⟩
        · rw [if_neg hz2, pk_un hz2]
          obtain ⟨a1, a2, a3⟩ := hpf z (by omega)
          obtain ⟨b1, b2⟩ := kPut_lt (k := sCode ts) a2
          rw [← hKb] at b1 b2
          exact ⟨a1, b2, b1.trans a3⟩
  clear K92
  have k2 := fun pa kk nn h1 h2 => K40 16 0 P pa (fun _ => 0) (fun _ => 0) kk nn rfl hPB (fun k hk => by rw [hK] at hk; cases hk) (fun z hz => absurd hz (Nat.not_lt_zero _)) h1 h2
  clear K40
  rw [show nI 0 = (0 : Int32) from by decide, show vnT tr s 0 = tr from rfl] at k2
  refine q_astore_n 3 31 (L' := [_, _, _, _, _, _, _, _, _, _, _]) dX11_even_30 rfl (by decide) rfl rfl ?_
  refine q_bipush 16 33 dX11_even_31 bc_16 rfl ?_
  refine q_tnewI (N := 16) 35 dX11_even_33 rfl (by decide) (by omega) (by omega) rfl (fun q33 => ?_)
  refine q_astore 4 37 (L' := [_, _, _, _, _, _, _, _, _, _, _]) dX11_even_35 (by decide) rfl rfl ?_
  refine q_iconst 0 38 dX11_even_37 ic_0 rfl ?_
  refine q_istore 5 40 (L' := [_, _, _, _, _, _, _, _, _, _, _]) dX11_even_38 (by decide) rfl rfl ?_
  exact k2 _ _ _ (by omega) (by omega)

theorem c_X11_even1 {l : Launch} {g : Gh} {q sd la ru so cc b0 al tq num : Nat} {i s li cf ri yf tr : Sc} {af : Nat → Option Nat} {PL : List RuR} {Rl : Nat → RLs} {t0 t1 t2 t5 t7 t8 : Option Nat} {oq : Nat} {r : Nat → Nat} {oi sf sb wf ef bf tf pf uf vf us vs : Sc} {Nb Nt Np Nv Ns : Nat} {P : PlS} {n : Nat} {GK : Int32 → Prop} {x : Int32} {F : Nat → Int32 → Int32} {W : Nat → Int32 → Nat → Int32} (hgs : ∀ i, i < 16 → gkC GK (vnT tr s (i + 1))) (hS : SpH GK s li cf yf Rl (-1) 1) (hSt : ∀ i, StH GK s li cf yf Rl (-1) 1 (wyC 0) (F i) (W i)) (hF0 : ∀ k, F 0 k = 0) (hF : ∀ i k, GK k → F (i + 1) k = moW (W i k) 1) (hx1 : ¬ x < 0) (hx2 : x ≤ 500000) (h6 : s 6 = 0 ∨ s 6 = 1) (hO : OdR P Nb Nt Np Nv Ns) (hri : ri 2 = nI num) (hRs : ∀ Q, SaP PL Q → RsO num yf af Q Rl) (hn : n ≤ 30) : Cn l g yX11_even (Cond.code yX11_even cX11_even 11 (some .int)) 13 (1 + (odKM - odK P Nb Nt Np Nv Ns)) (16 + (odSM - odS P Nb Nt Np Nv Ns)) [.ref q, .int (nI n), .int x] ([(q, ob 11 i [t0, t1, t2, some sd, some tq, t5, some oq, t7, t8, none, none]), (sd, ob 10 (fun _ => 0) (rD la ru so)), (la, ob 0 li (rL cc)), (cc, aI g 192 cf), (ru, ob 6 ri (rQ b0 al)), (b0, aI g 2 yf), (al, aR g 6 af), (so, ob 8 s []), (tq, ob 8 tr []), (oq, ob 2 oi (rO12 r (some sd))), ((r 0), ob 3 (plI P) (rPl (plKe P) (plTa P))), (plKe P, aI g (plN P) (plKf P)), (plTa P, aI g (4 * plN P) (plTb P)), ((r 1), ob 8 sf []), ((r 2), ob 8 sb []), ((r 3), aI g 48 wf), ((r 4), aI g 31 ef), ((r 5), aI g Nb bf), ((r 6), aI g Nt tf), ((r 7), aI g Np pf), ((r 13), aI g Nv uf), ((r 14), aI g Nv vf), ((r 15), aI g Ns us), ((r 16), aI g Ns vs)] ++ plW g PL) (fun z : OdT × List RuR => some (.int (vnO (fun i => F n (sCode (vnT tr s (i + 1)))) x 7 0))) (fun z : OdT × List RuR => ([(q, ob 11 i [t0, t1, t2, some sd, some tq, t5, some oq, t7, t8, none, none]), (sd, ob 10 (fun _ => 0) (rD la ru so)), (la, ob 0 li (rL cc)), (cc, aI g 192 cf), (ru, ob 6 ri (rQ b0 al)), (b0, aI g 2 yf), (al, aR g 6 af), (so, ob 8 s []), (tq, ob 8 (vnT tr s 16) []), (oq, ob 2 z.1.1.2.1 (rO12 z.1.1.1 (some sd))), ((z.1.1.1 0), ob 3 (plI z.1.1.2.2.1) (rPl (plKe z.1.1.2.2.1) (plTa z.1.1.2.2.1))), (plKe z.1.1.2.2.1, aI g (plN z.1.1.2.2.1) (plKf z.1.1.2.2.1)), (plTa z.1.1.2.2.1, aI g (4 * plN z.1.1.2.2.1) (plTb z.1.1.2.2.1)), ((z.1.1.1 1), ob 8 z.1.1.2.2.2.1 []), ((z.1.1.1 2), ob 8 z.1.1.2.2.2.2.1 []), ((z.1.1.1 3), aI g 48 z.1.1.2.2.2.2.2.1), ((z.1.1.1 4), aI g 31 z.1.1.2.2.2.2.2.2), ((z.1.1.1 5), aI g z.1.2.1.1 z.1.2.1.2), ((z.1.1.1 6), aI g z.1.2.2.1.1 z.1.2.2.1.2), ((z.1.1.1 7), aI g z.1.2.2.2.1.1 z.1.2.2.2.1.2), ((z.1.1.1 13), aI g z.1.2.2.2.2.1.1 z.1.2.2.2.2.1.2.1), ((z.1.1.1 14), aI g z.1.2.2.2.2.1.1 z.1.2.2.2.2.1.2.2), ((z.1.1.1 15), aI g z.1.2.2.2.2.2.1 z.1.2.2.2.2.2.2.1), ((z.1.1.1 16), aI g z.1.2.2.2.2.2.1 z.1.2.2.2.2.2.2.2)] ++ plW g z.2)) (fun z k m => OdG z.1 ∧ SaP PL z.2 ∧ k + odK P Nb Nt Np Nv Ns ≤ 1 + ozK z.1 ∧ m + odS P Nb Nt Np Nv Ns ≤ 16 + ozS z.1) := by
  refine ct_of (M := mtX11_even) [some (.ref q), some (.int (nI n)), some (.int x), none, none, none, none, none, none, none, none] rfl (by decide) (Nat.le_of_ble_eq_true rfl) (fun _ h => h) (fun a => ?_)
  obtain ⟨o1, o2, o3, o4, o5, o6, o7⟩ := hO
  have g3 := nI_nn (a := n) (by omega)
  have g4 : nI n ≤ (30 : Int32) := by rw [show (30 : Int32) = nI 30 by decide]; exact nI_le hn (by decide)
  refine q_iload_n 1 1 dX11_even_0 rfl rfl rfl ?_
  refine q_tcSv [] [0, 1, 2, 3, 4, 5, 6, 7, 8, 9, 10, 11, 12, 13, 14, 15, 16, 17, 18, 19, 20, 21, 22, 23] [0, 1, 2, 3, 4, 5, 6, 7, 8, 9, 10, 11, 12, 13, 14, 15, 16, 17, 18, 19, 20, 21, 22, 23] 4 (wr := [_, _, _, _, _, _, _, _, _, _, _, _, _, _, _, _, _, _, _, _, _, _, _, _]) (w1 := _) (ws' := [_, _, _, _, _, _, _, _, _, _, _, _, _, _, _, _, _, _, _, _, _, _, _, _]) (c_X11_needRallies g3 g4) m_X11_188 dX11_even_1 rfl rfl rfl rfl rfl (by decide) (by decide) (by decide) (by decide) (Nat.le_of_ble_eq_true rfl) (by omega) (by omega) (by omega) rfl ?_
  refine q_iload_n 2 5 dX11_even_4 rfl rfl rfl ?_
  refine q_if_lt 14 8 dX11_even_5 (by decide) rfl (fun h5 => absurd h5 hx1) (fun h5 => ?_)
  refine q_iload_n 2 9 dX11_even_8 rfl rfl rfl ?_
  refine q_ldc 500000 11 k_X11_247 dX11_even_9 rfl ?_
  refine q_icmp_le 24 14 dX11_even_11 (by decide) rfl (fun h11 => ?_) (fun h11 => absurd hx2 h11)
  refine q_aload_n 0 25 dX11_even_24 rfl rfl rfl ?_
  refine q_iconst (-1) 26 dX11_even_25 ic_m1 rfl ?_
  refine q_iconst (-1) 27 dX11_even_26 ic_m1 rfl ?_
  refine q_tcVr 0 [0, 1, 7, 9, 10, 11, 12, 13, 14, 15, 16, 17, 18, 19, 20, 21, 22, 23] [2, 3, 4, 5, 6, 8] [6, 7, 0, 1, 2, 3, 4, 8, 5, 9, 10, 11, 12, 13, 14, 15, 16, 17, 18, 19, 20, 21, 22, 23] 30 (wr := [_, _, _, _, _, _]) (w1 := _) (ws' := [_, _, _, _, _, _, _, _, _, _, _, _, _, _, _, _, _, _, _, _, _, _, _, _]) (c_X11_freshOdds1 o1 h6) m_X11_191 dX11_even_27 rfl rfl rfl rfl rfl rfl rfl rfl (by decide) (by decide) (by decide) (by decide) (Nat.le_of_ble_eq_true rfl) (by omega) (by omega) (by omega) rfl ?_
  skip
  exact w_evenC (r := r) (i2 := oiW oi (-1) (-1)) (show (if (-1 : Int32) = -1 then (1 : Int32) else 4) = nI 1 by decide) rfl rfl hgs hS hSt hF0 hF (by omega) (plB_nil o1 o2) rfl o3 o4 o5 o6 o7 hri hRs hn (by rw [Nat.zero_add]; exact Nat.le_refl _) (by rw [Nat.zero_add]; exact Nat.le_refl _) (fun z PL9 k m h1 h2 h3 h4 => pX.mk (z, PL9) ⟨h1, h2, by rw [Nat.zero_add] at h3; exact h3, by rw [Nat.zero_add] at h4; exact h4⟩ rfl rfl)
theorem c_X11_even0 {l : Launch} {g : Gh} {q sd la ru so cc b0 al tq num : Nat} {i s li cf ri yf tr : Sc} {af : Nat → Option Nat} {PL : List RuR} {Rl : Nat → RLs} {t0 t1 t2 t5 t7 t8 : Option Nat} {n : Nat} {GK : Int32 → Prop} {x : Int32} {F : Nat → Int32 → Int32} {W : Nat → Int32 → Nat → Int32} (hgs : ∀ i, i < 16 → gkC GK (vnT tr s (i + 1))) (hS : SpH GK s li cf yf Rl (-1) 1) (hSt : ∀ i, StH GK s li cf yf Rl (-1) 1 (wyC 0) (F i) (W i)) (hF0 : ∀ k, F 0 k = 0) (hF : ∀ i k, GK k → F (i + 1) k = moW (W i k) 1) (hx1 : ¬ x < 0) (hx2 : x ≤ 500000) (h6 : s 6 = 0 ∨ s 6 = 1) (hri : ri 2 = nI num) (hRs : ∀ Q, SaP PL Q → RsO num yf af Q Rl) (hn : n ≤ 30) : Cn l g yX11_even (Cond.code yX11_even cX11_even 11 (some .int)) 13 (1 + 15 + 89987) (16 + 521 + 3830848) [.ref q, .int (nI n), .int x] ([(q, ob 11 i [t0, t1, t2, some sd, some tq, t5, none, t7, t8, none, none]), (sd, ob 10 (fun _ => 0) (rD la ru so)), (la, ob 0 li (rL cc)), (cc, aI g 192 cf), (ru, ob 6 ri (rQ b0 al)), (b0, aI g 2 yf), (al, aR g 6 af), (so, ob 8 s []), (tq, ob 8 tr [])] ++ plW g PL) (fun z : Nat × OdT × List RuR => some (.int (vnO (fun i => F n (sCode (vnT tr s (i + 1)))) x 7 0))) (fun z : Nat × OdT × List RuR => ([(q, ob 11 i [t0, t1, t2, some sd, some tq, t5, some z.1, t7, t8, none, none]), (sd, ob 10 (fun _ => 0) (rD la ru so)), (la, ob 0 li (rL cc)), (cc, aI g 192 cf), (ru, ob 6 ri (rQ b0 al)), (b0, aI g 2 yf), (al, aR g 6 af), (so, ob 8 s []), (tq, ob 8 (vnT tr s 16) []), (z.1, ob 2 z.2.1.1.2.1 (rO12 z.2.1.1.1 (some sd))), ((z.2.1.1.1 0), ob 3 (plI z.2.1.1.2.2.1) (rPl (plKe z.2.1.1.2.2.1) (plTa z.2.1.1.2.2.1))), (plKe z.2.1.1.2.2.1, aI g (plN z.2.1.1.2.2.1) (plKf z.2.1.1.2.2.1)), (plTa z.2.1.1.2.2.1, aI g (4 * plN z.2.1.1.2.2.1) (plTb z.2.1.1.2.2.1)), ((z.2.1.1.1 1), ob 8 z.2.1.1.2.2.2.1 []), ((z.2.1.1.1 2), ob 8 z.2.1.1.2.2.2.2.1 []), ((z.2.1.1.1 3), aI g 48 z.2.1.1.2.2.2.2.2.1), ((z.2.1.1.1 4), aI g 31 z.2.1.1.2.2.2.2.2.2), ((z.2.1.1.1 5), aI g z.2.1.2.1.1 z.2.1.2.1.2), ((z.2.1.1.1 6), aI g z.2.1.2.2.1.1 z.2.1.2.2.1.2), ((z.2.1.1.1 7), aI g z.2.1.2.2.2.1.1 z.2.1.2.2.2.1.2), ((z.2.1.1.1 13), aI g z.2.1.2.2.2.2.1.1 z.2.1.2.2.2.2.1.2.1), ((z.2.1.1.1 14), aI g z.2.1.2.2.2.2.1.1 z.2.1.2.2.2.2.1.2.2), ((z.2.1.1.1 15), aI g z.2.1.2.2.2.2.2.1 z.2.1.2.2.2.2.2.2.1), ((z.2.1.1.1 16), aI g z.2.1.2.2.2.2.2.1 z.2.1.2.2.2.2.2.2.2)] ++ plW g z.2.2)) (fun z k m => OdG z.2.1 ∧ SaP PL z.2.2 ∧ k + 145 ≤ 1 + 15 + ozK z.2.1 ∧ m + 3488 ≤ 16 + 521 + ozS z.2.1) := by
  refine ct_of (M := mtX11_even) [some (.ref q), some (.int (nI n)), some (.int x), none, none, none, none, none, none, none, none] rfl (by decide) (Nat.le_of_ble_eq_true rfl) (fun _ h => h) (fun a => ?_)
  have g3 := nI_nn (a := n) (by omega)
  have g4 : nI n ≤ (30 : Int32) := by rw [show (30 : Int32) = nI 30 by decide]; exact nI_le hn (by decide)
  refine q_iload_n 1 1 dX11_even_0 rfl rfl rfl ?_
  refine q_tcSv [] [0, 1, 2, 3, 4, 5, 6, 7, 8] [0, 1, 2, 3, 4, 5, 6, 7, 8] 4 (wr := [_, _, _, _, _, _, _, _, _]) (w1 := _) (ws' := [_, _, _, _, _, _, _, _, _]) (c_X11_needRallies g3 g4) m_X11_188 dX11_even_1 rfl rfl rfl rfl rfl (by decide) (by decide) (by decide) (by decide) (Nat.le_of_ble_eq_true rfl) (by omega) (by omega) (by omega) rfl ?_
  refine q_iload_n 2 5 dX11_even_4 rfl rfl rfl ?_
  refine q_if_lt 14 8 dX11_even_5 (by decide) rfl (fun h5 => absurd h5 hx1) (fun h5 => ?_)
  refine q_iload_n 2 9 dX11_even_8 rfl rfl rfl ?_
  refine q_ldc 500000 11 k_X11_247 dX11_even_9 rfl ?_
  refine q_icmp_le 24 14 dX11_even_11 (by decide) rfl (fun h11 => ?_) (fun h11 => absurd hx2 h11)
  refine q_aload_n 0 25 dX11_even_24 rfl rfl rfl ?_
  refine q_iconst (-1) 26 dX11_even_25 ic_m1 rfl ?_
  refine q_iconst (-1) 27 dX11_even_26 ic_m1 rfl ?_
  refine q_tyVr 0 [0, 1, 7] [2, 3, 4, 5, 6, 8] [6, 7, 0, 1, 2, 3, 4, 8, 5, 9, 10, 11, 12, 13, 14, 15, 16, 17, 18, 19, 20, 21, 22, 23] 30 (wr := [_, _, _, _, _, _]) (w1 := _) (ws' := fun _ => [_, _, _, _, _, _, _, _, _, _, _, _, _, _, _, _, _, _, _, _, _, _, _, _]) (c_X11_freshOdds0 h6) m_X11_191 dX11_even_27 rfl rfl rfl rfl rfl rfl rfl (fun _ => rfl) (by decide) (by decide) (by decide) (by decide) (Nat.le_of_ble_eq_true rfl) (by omega) (by omega) (by omega) rfl (fun z27 k27 n27 hx27 => ?_)
  obtain ⟨oq27, r27, ke27, ta27⟩ := z27
  dsimp only at hx27 ⊢
  skip
  obtain ⟨ka, na⟩ := hx27
  exact w_evenC (r := r27) (i2 := oiW (fun _ => 0) (-1) (-1)) (show (if (-1 : Int32) = -1 then (1 : Int32) else 4) = nI 1 by decide) rfl rfl hgs hS hSt hF0 hF (by omega) (plB_nil (pl0_O _ _) (by show 16 ≤ 16384; omega)) rfl ⟨by omega, Or.inl rfl⟩ ⟨by omega, Or.inl rfl⟩ ⟨by omega, 0, by omega⟩ ⟨by omega, Or.inl rfl⟩ ⟨by omega, Or.inl rfl⟩ hri hRs hn (by show _ + (16384 + 16389 + 16389 + 8192 + 16389 + 16389 - (16 + 32 + 32 + 128 / 128 + 32 + 32)) ≤ _; omega) (by show _ + (10 * 16384 + 16 * 16389 + 16 * 16389 + 2 * 1048576 + 32 * 16389 + 32 * 16389 - (10 * 16 + 16 * 32 + 16 * 32 + 2 * 128 + 32 * 32 + 32 * 32)) ≤ _; omega) (fun z PL9 k m h1 h2 h3 h4 => pX.mk (oq27, z, PL9) ⟨h1, h2, by show k + 145 ≤ 1 + 15 + ozK z; have e : plN (plC (pl0 ke27 ta27)) = 16 := rfl; unfold odK at h3; rw [e, ka] at h3; generalize ozK z = Z9 at *; clear e hS hSt; omega, by show m + 3488 ≤ 16 + 521 + ozS z; have e : plN (plC (pl0 ke27 ta27)) = 16 := rfl; unfold odS at h4; rw [e, na] at h4; generalize ozS z = Z9 at *; clear e hS hSt; omega⟩ rfl rfl)

