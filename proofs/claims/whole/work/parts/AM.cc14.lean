/-! ===== ChaseCourt: chance ===== -/
/-- rooms of an Odds at rest, as a state -/
def OdG (z : OdT) : Prop := OdR z.1.2.2.1 z.2.1.1 z.2.2.1.1 z.2.2.2.1.1 z.2.2.2.2.1.1 z.2.2.2.2.2.1
abbrev ozK (z : OdT) : Nat := odK z.1.2.2.1 z.2.1.1 z.2.2.1.1 z.2.2.2.1.1 z.2.2.2.2.1.1 z.2.2.2.2.2.1
abbrev ozS (z : OdT) : Nat := odS z.1.2.2.1 z.2.1.1 z.2.2.1.1 z.2.2.2.1.1 z.2.2.2.2.1.1 z.2.2.2.2.2.1
/-- what the spreading wants of the good keys -/
def SpH (GK : Int32 → Prop) (s0 li cf yf : Sc) (Rl : Nat → RLs) (c10 : Int32) (ch : Nat) : Prop := ∀ s k wf, FrO s0 s → GK k → (sBec s k 6 = 0 ∨ sBec s k 6 = 1) ∧ (sBec s k 2 = 0 ∨ sBec s k 2 = 1) ∧ ∃ p, p < 16 ∧ paV yf Rl (sBec s k) = nI p ∧ ∀ o, o < nOf (sBec s k) → mcV (wFo li cf c10 ch wf p (sBec s k)) o ch 0 = 1 → (∃ v, v ≤ 1 ∧ bhS (sBec s k) li o 2 = nI v) ∧ ∀ k', tgt (sBec s k) (bhS (sBec s k) li o) = .inr k' → (∃ c, c < 15488 ∧ k' = nI c) ∧ GK k'
def gkC (GK : Int32 → Prop) (s : Sc) : Prop := GK (sCode s) ∧ ∃ c, c < 15488 ∧ sCode s = nI c
theorem plB_nil {P : PlS} (h : PlO P) (hN : plN P ≤ 16384) : PlB (plC P) := ⟨plC_O h, hN, fun k hk => by cases hk⟩
theorem kPut_nil (k : Int32) : kPut [] k = [k] := by unfold kPut; rw [if_neg (by simp)]; rfl
theorem w_chance {l : Launch} {g : Gh} {q sd la ru so cc b0 al tq num : Nat} {i s li cf ri yf tr : Sc} {af : Nat → Option Nat} {PL : List RuR} {Rl : Nat → RLs} {t0 t1 t2 t5 t7 t8 : Option Nat} {oq : Nat} {r : Nat → Nat} {sb wf ef bf tf pf uf vf us vs : Sc} {Nb Nt Np Nv Ns : Nat} {P : PlS} {i2 : Sc} {rc rs d kk0 nn0 n : Nat} {post : Pst} {px : Pxc} {a : Act} {GK : Int32 → Prop} {p : Int32} {F : Nat → Int32 → Int32} {W : Nat → Int32 → Nat → Int32} (hi9 : i2 9 = nI 1) (hi10 : i2 10 = -1) (hi11 : i2 11 = -1) (hgs : gkC GK s) (hS : SpH GK s li cf yf Rl (-1) 1) (hSt : ∀ i, StH GK s li cf yf Rl (-1) 1 (wyC p) (F i) (W i)) (hF0 : ∀ k, F 0 k = 0) (hF : ∀ i k, GK k → F (i + 1) k = moW (W i k) 1) (hd : 12 ≤ d) (hPB : PlB P) (hK : plK P = []) (hbR : RmO Nb) (hnt : RmO Nt) (hpo : PoO Np) (hvR : RmO Nv) (hsR : RmO Ns) (hri : ri 2 = nI num) (hRs : ∀ Q, SaP PL Q → RsO num yf af Q Rl) (hn : n ≤ 30) (hrc : kk0 + (odKM - odK P Nb Nt Np Nv Ns) ≤ rc) (hrs : nn0 + (odSM - odS P Nb Nt Np Nv Ns) ≤ rs) (K : ∀ (z : OdT) (PL9 : List RuR) (k m : Nat), OdG z → SaP PL PL9 → k + odK P Nb Nt Np Nv Ns ≤ kk0 + ozK z → m + odS P Nb Nt Np Nv Ns ≤ nn0 + ozS z → post (some (.int (F n (sCode s)))) ([(q, ob 11 i [t0, t1, t2, some sd, some tq, t5, some oq, t7, t8, none, none]), (sd, ob 10 (fun _ => 0) (rD la ru so)), (la, ob 0 li (rL cc)), (cc, aI g 192 cf), (ru, ob 6 ri (rQ b0 al)), (b0, aI g 2 yf), (al, aR g 6 af), (so, ob 8 s []), (tq, ob 8 tr []), (oq, ob 2 z.1.2.1 (rO12 z.1.1 (some sd))), ((z.1.1 0), ob 3 (plI z.1.2.2.1) (rPl (plKe z.1.2.2.1) (plTa z.1.2.2.1))), (plKe z.1.2.2.1, aI g (plN z.1.2.2.1) (plKf z.1.2.2.1)), (plTa z.1.2.2.1, aI g (4 * plN z.1.2.2.1) (plTb z.1.2.2.1)), ((z.1.1 1), ob 8 z.1.2.2.2.1 []), ((z.1.1 2), ob 8 z.1.2.2.2.2.1 []), ((z.1.1 3), aI g 48 z.1.2.2.2.2.2.1), ((z.1.1 4), aI g 31 z.1.2.2.2.2.2.2), ((z.1.1 5), aI g z.2.1.1 z.2.1.2), ((z.1.1 6), aI g z.2.2.1.1 z.2.2.1.2), ((z.1.1 7), aI g z.2.2.2.1.1 z.2.2.2.1.2), ((z.1.1 13), aI g z.2.2.2.2.1.1 z.2.2.2.2.1.2.1), ((z.1.1 14), aI g z.2.2.2.2.1.1 z.2.2.2.2.1.2.2), ((z.1.1 15), aI g z.2.2.2.2.2.1 z.2.2.2.2.2.2.1), ((z.1.1 16), aI g z.2.2.2.2.2.1 z.2.2.2.2.2.2.2)] ++ plW g PL9) k m) : WPs l g mtX11_chance d rc rs post px a 25 [some (.ref q), some (.int p), some (.int (nI n)), none, none] [.ref oq] ([(q, ob 11 i [t0, t1, t2, some sd, some tq, t5, some oq, t7, t8, none, none]), (sd, ob 10 (fun _ => 0) (rD la ru so)), (la, ob 0 li (rL cc)), (cc, aI g 192 cf), (ru, ob 6 ri (rQ b0 al)), (b0, aI g 2 yf), (al, aR g 6 af), (so, ob 8 s []), (tq, ob 8 tr []), (oq, ob 2 (upd i2 8 (nI 0)) (rO (rs12 r sd))), ((r 0), ob 3 (plI P) (rPl (plKe P) (plTa P))), (plKe P, aI g (plN P) (plKf P)), (plTa P, aI g (4 * plN P) (plTb P)), ((r 1), ob 8 s []), ((r 2), ob 8 sb []), ((r 3), aI g 48 wf), ((r 4), aI g 31 ef), ((r 5), aI g Nb bf), ((r 6), aI g Nt tf), ((r 7), aI g Np pf), ((r 13), aI g Nv uf), ((r 14), aI g Nv vf), ((r 15), aI g Ns us), ((r 16), aI g Ns vs)] ++ plW g PL) kk0 nn0 := by
  have hPN := hPB.2.1
  have hb9 := hbR.1
  have hn9 := hnt.1
  have hp9 := hpo.1
  have hv9 := hvR.1
  have hs9 := hsR.1
  have hrc : kk0 + (16384 + 16389 + 16389 + 8192 + 16389 + 16389 - (plN P + Nb + Nt + Np / 128 + Nv + Ns)) ≤ rc := hrc
  have hrs : nn0 + (10 * 16384 + 16 * 16389 + 16 * 16389 + 2 * 1048576 + 32 * 16389 + 32 * 16389 - (10 * plN P + 16 * Nb + 16 * Nt + 2 * Np + 32 * Nv + 32 * Ns)) ≤ rs := hrs
  refine q_astore_n 3 26 (L' := [_, _, _, _, _]) dX11_chance_25 rfl (by decide) rfl rfl ?_
  refine q_aload_n 3 27 dX11_chance_26 rfl rfl rfl ?_
  refine q_aload_n 0 28 dX11_chance_27 rfl rfl rfl ?_
  refine q_getR 0 31 f_X11_30 dX11_chance_28 rfl rfl rfl rfl ?_
  refine q_getR 1 34 f_X11_138 dX11_chance_31 rfl rfl rfl rfl ?_
  refine q_tyVi 9 [9, 10, 11, 12, 7] [0, 1, 2, 3, 4, 5, 6, 8, 13, 14, 15, 16, 17, 18, 19, 20, 21, 22, 23] [0, 1, 2, 3, 4, 5, 6, 23, 7, 19, 20, 21, 22, 8, 9, 10, 11, 12, 13, 14, 15, 16, 17, 18] 37 (wr := [_, _, _, _, _, _, _, _, _, _, _, _, _, _, _, _, _, _, _]) (w1 := _) (ws' := fun _ => [_, _, _, _, _, _, _, _, _, _, _, _, _, _, _, _, _, _, _, _, _, _, _, _]) (c_X2_placeOf (r := (rs12 r sd)) (i := upd i2 8 (nI 0)) hPB hgs.2) m_X11_195 dX11_chance_34 rfl rfl rfl rfl rfl rfl rfl (fun _ => rfl) (by decide) (by decide) (by decide) (by decide) (Nat.le_of_ble_eq_true rfl) (by omega) (by omega) (by omega) rfl (fun P34 k34 n34 hx34 => ?_)
  refine q_istore 4 39 (L' := [_, _, _, _, _]) dX11_chance_37 (by decide) rfl rfl ?_
  skip
  obtain ⟨hP2, hK2, hk2, hn2⟩ := hx34
  rw [hK] at hK2 ⊢
  rw [kPut_nil] at hK2
  have hP2N := hP2.2.1
  rw [show 4 + ([] : List Int32).idxOf (sCode s) = 4 from rfl]
  refine q_aload_n 3 40 dX11_chance_39 rfl rfl rfl ?_
  refine q_iload_n 2 41 dX11_chance_40 rfl rfl rfl ?_
  refine q_uyVv 9 [9, 10, 11, 12, 13, 14, 15, 17, 18, 19, 1, 2, 3, 4, 5, 6, 16] [0, 7, 8, 20, 21, 22, 23] [0, 17, 18, 19, 20, 21, 22, 1, 2, 7, 8, 9, 10, 11, 12, 13, 23, 14, 15, 16, 3, 4, 5, 6] 44 (wr := [_, _, _, _, _, _, _]) (w1 := _) (ws' := fun _ => [_, _, _, _, _, _, _, _, _, _, _, _, _, _, _, _, _, _, _, _, _, _, _, _]) (c_X2_spreadAll (r := (rs12 r sd)) (a5 := r 5) (a6 := r 6) (a7 := r 7) (s0 := s) (Rl := Rl) (GK := GK) (num := num) hi9 (Or.inl ⟨hi10, rfl⟩) hn hP2 (fun k hk => by rw [hK2] at hk; rw [List.mem_singleton.mp hk]; exact hgs.1) hbR hnt hpo hri hRs ⟨rfl, rfl, rfl, rfl⟩ (by rw [hi10]; exact hS) (fun h => absurd hi11 h)) m_X11_201 dX11_chance_41 rfl rfl rfl rfl rfl rfl rfl (fun _ => rfl) (by decide) (by decide) (by decide) (by decide) (Nat.le_of_ble_eq_true rfl) (by omega) (by omega) (by omega) rfl (fun z41 k41 n41 hx41 => ?_)
  obtain ⟨⟨⟨a541, Nb41, bf41⟩, ⟨a641, Nt41, tf41⟩, ⟨a741, Np41, pf41⟩⟩, P41, u41, ⟨sf41, sb41, wf41, ef41⟩, PL41⟩ := z41
  dsimp only at hx41 ⊢
  skip
  obtain ⟨hz, hz2, hz3⟩ := hx41
  rw [hi10, hi11] at hz
  obtain ⟨U, um, hU, hum, hrun⟩ := od_run hz
  obtain ⟨E, hE, hval⟩ := hrun (wyC p) F W hSt hF0 hF
  have hz1 := hz
  obtain ⟨⟨hPB3, _, _⟩, ⟨hb3, _⟩, ⟨ht3, _⟩, ⟨hp3, _⟩, _, hsp, _⟩ := hz1
  dsimp only at hPB3 hb3 ht3 hp3 hsp hz2 hz3 hU hum hE hval
  have hP3N := hPB3.2.1
  obtain ⟨mm, hmm, hNm⟩ := hPB3.1.2.2.2
  have hKN := hPB3.1.2.1.1
  have hb39 := hb3.1
  have ht39 := ht3.1
  have hp39 := hp3.1
  have hw1 := (rw_max hvR hP3N).1
  have hw2 := rw_maxS hvR hNm hP3N
  have h11 : upd i2 8 (nI u41) 11 = -1 := by rw [pk_un (by decide)]; exact hi11
  have h9 : upd i2 8 (nI u41) 9 = nI 1 := by rw [pk_un (by decide)]; exact hi9
  refine q_aload_n 3 45 dX11_chance_44 rfl rfl rfl ?_
  refine q_iload_n 2 46 dX11_chance_45 rfl rfl rfl ?_
  refine q_iload_n 1 47 dX11_chance_46 rfl rfl rfl ?_
  refine q_tcSi [] [0, 1, 2, 3, 4, 5, 6, 7, 8, 9, 10, 11, 12, 13, 14, 15, 16, 17, 18, 19, 20, 21, 22, 23] [0, 1, 2, 3, 4, 5, 6, 7, 8, 9, 10, 11, 12, 13, 14, 15, 16, 17, 18, 19, 20, 21, 22, 23] 50 (wr := [_, _, _, _, _, _, _, _, _, _, _, _, _, _, _, _, _, _, _, _, _, _, _, _]) (w1 := _) (ws' := [_, _, _, _, _, _, _, _, _, _, _, _, _, _, _, _, _, _, _, _, _, _, _, _]) c_X11_waysOf m_X11_204 dX11_chance_47 rfl rfl rfl rfl rfl (by decide) (by decide) (by decide) (by decide) (Nat.le_of_ble_eq_true rfl) (by omega) (by omega) (by omega) rfl ?_
  refine q_tyVv 9 [9, 10, 11, 20, 21, 17, 19, 16] [0, 1, 2, 3, 4, 5, 6, 7, 8, 12, 13, 14, 15, 18, 22, 23] [0, 1, 2, 3, 4, 5, 6, 7, 8, 16, 17, 18, 9, 10, 11, 12, 23, 21, 13, 22, 19, 20, 14, 15] 53 (wr := [_, _, _, _, _, _, _, _, _, _, _, _, _, _, _, _]) (w1 := _) (ws' := fun _ => [_, _, _, _, _, _, _, _, _, _, _, _, _, _, _, _, _, _, _, _, _, _, _, _]) (c_X2_weighAll0 (r := rs567 (rs12 r sd) a541 a641 a741) (sz := (plK P41).length) (E := E) (U := U) (um := um) h11 h9 (by decide) (by omega) (by omega) (by omega) (by omega) hPB3.1.1 hKN hn hU hum hE) m_X11_207 dX11_chance_50 rfl rfl rfl rfl rfl rfl rfl (fun _ => rfl) (by decide) (by decide) (by decide) (by decide) (Nat.le_of_ble_eq_true rfl) (by omega) (by omega) (by omega) rfl (fun z50 k50 n50 hx50 => ?_)
  obtain ⟨a50, b50, m50, uf50, vf50⟩ := z50
  dsimp only at hx50 ⊢
  skip
  obtain ⟨hro, u1, v1, huv⟩ := hx50
  obtain ⟨q1, q2, q3, q4, q5, _⟩ := rw_pot hvR hNm hP3N hro
  have hq9 := q1.1
  have hv4 := (hval u1 v1 0 (by rw [hK2]; exact Nat.succ_pos 0)).1
  rw [← huv, hK2] at hv4
  have hv4 : vf50 4 = F n (sCode s) := hv4
  have k2 := fun k m h1 h2 => K ((rs2 (rs567 (rs12 r sd) a541 a641 a741) a50 b50, upd i2 8 (nI u41), P41, sf41, sb41, wf41, ef41), (Nb41, bf41), (Nt41, tf41), (Np41, pf41), (m50, uf50, vf50), (Ns, us, vs)) PL41 k m ⟨hPB3.1, hP3N, hb3, ht3, hp3, q1, hsR⟩ hsp h1 h2
  clear K
  refine q_aload_n 3 54 dX11_chance_53 rfl rfl rfl ?_
  refine q_iload 4 56 dX11_chance_54 rfl rfl ?_
  refine q_tcVi 9 [9, 21] [0, 1, 2, 3, 4, 5, 6, 7, 8, 10, 11, 12, 13, 14, 15, 16, 17, 18, 19, 20, 22, 23] [0, 1, 2, 3, 4, 5, 6, 7, 8, 22, 9, 10, 11, 12, 13, 14, 15, 16, 17, 18, 19, 23, 20, 21] 59 (wr := [_, _, _, _, _, _, _, _, _, _, _, _, _, _, _, _, _, _, _, _, _, _]) (w1 := _) (ws' := [_, _, _, _, _, _, _, _, _, _, _, _, _, _, _, _, _, _, _, _, _, _, _, _]) (c_X2_valueAt (r := rs2 (rs567 (rs12 r sd) a541 a641 a741) a50 b50) (z := 4) (by omega) (by omega)) m_X11_210 dX11_chance_56 rfl rfl rfl rfl rfl rfl rfl rfl (by decide) (by decide) (by decide) (by decide) (Nat.le_of_ble_eq_true rfl) (by omega) (by omega) (by omega) rfl ?_
  rw [hv4]
  refine q_ireturn dX11_chance_59 rfl ?_
  refine k2 _ _ ?_ ?_
  · show _ + (plN P + Nb + Nt + Np / 128 + Nv + Ns) ≤ kk0 + (plN P41 + Nb41 + Nt41 + Np41 / 128 + m50 + Ns)
    omega
  · show _ + (10 * plN P + 16 * Nb + 16 * Nt + 2 * Np + 32 * Nv + 32 * Ns) ≤ nn0 + (10 * plN P41 + 16 * Nb41 + 16 * Nt41 + 2 * Np41 + 32 * m50 + 32 * Ns)
    omega
theorem c_X11_chance1 {l : Launch} {g : Gh} {q sd la ru so cc b0 al tq num : Nat} {i s li cf ri yf tr : Sc} {af : Nat → Option Nat} {PL : List RuR} {Rl : Nat → RLs} {t0 t1 t2 t5 t7 t8 : Option Nat} {oq : Nat} {r : Nat → Nat} {oi sf sb wf ef bf tf pf uf vf us vs : Sc} {Nb Nt Np Nv Ns : Nat} {P : PlS} {n : Nat} {GK : Int32 → Prop} {p : Int32} {F : Nat → Int32 → Int32} {W : Nat → Int32 → Nat → Int32} (hgs : gkC GK s) (hS : SpH GK s li cf yf Rl (-1) 1) (hSt : ∀ i, StH GK s li cf yf Rl (-1) 1 (wyC p) (F i) (W i)) (hF0 : ∀ k, F 0 k = 0) (hF : ∀ i k, GK k → F (i + 1) k = moW (W i k) 1) (hp : p = 0 ∨ p = 1) (ho : sOver s li = 0) (h6 : s 6 = 0 ∨ s 6 = 1) (hO : OdR P Nb Nt Np Nv Ns) (hri : ri 2 = nI num) (hRs : ∀ Q, SaP PL Q → RsO num yf af Q Rl) (hn : n ≤ 30) : Cn l g yX11_chance (Cond.code yX11_chance cX11_chance 5 (some .int)) 13 (odKM - odK P Nb Nt Np Nv Ns) (odSM - odS P Nb Nt Np Nv Ns) [.ref q, .int p, .int (nI n)] ([(q, ob 11 i [t0, t1, t2, some sd, some tq, t5, some oq, t7, t8, none, none]), (sd, ob 10 (fun _ => 0) (rD la ru so)), (la, ob 0 li (rL cc)), (cc, aI g 192 cf), (ru, ob 6 ri (rQ b0 al)), (b0, aI g 2 yf), (al, aR g 6 af), (so, ob 8 s []), (tq, ob 8 tr []), (oq, ob 2 oi (rO12 r (some sd))), ((r 0), ob 3 (plI P) (rPl (plKe P) (plTa P))), (plKe P, aI g (plN P) (plKf P)), (plTa P, aI g (4 * plN P) (plTb P)), ((r 1), ob 8 sf []), ((r 2), ob 8 sb []), ((r 3), aI g 48 wf), ((r 4), aI g 31 ef), ((r 5), aI g Nb bf), ((r 6), aI g Nt tf), ((r 7), aI g Np pf), ((r 13), aI g Nv uf), ((r 14), aI g Nv vf), ((r 15), aI g Ns us), ((r 16), aI g Ns vs)] ++ plW g PL) (fun z : OdT × List RuR => some (.int (F n (sCode s)))) (fun z : OdT × List RuR => ([(q, ob 11 i [t0, t1, t2, some sd, some tq, t5, some oq, t7, t8, none, none]), (sd, ob 10 (fun _ => 0) (rD la ru so)), (la, ob 0 li (rL cc)), (cc, aI g 192 cf), (ru, ob 6 ri (rQ b0 al)), (b0, aI g 2 yf), (al, aR g 6 af), (so, ob 8 s []), (tq, ob 8 tr []), (oq, ob 2 z.1.1.2.1 (rO12 z.1.1.1 (some sd))), ((z.1.1.1 0), ob 3 (plI z.1.1.2.2.1) (rPl (plKe z.1.1.2.2.1) (plTa z.1.1.2.2.1))), (plKe z.1.1.2.2.1, aI g (plN z.1.1.2.2.1) (plKf z.1.1.2.2.1)), (plTa z.1.1.2.2.1, aI g (4 * plN z.1.1.2.2.1) (plTb z.1.1.2.2.1)), ((z.1.1.1 1), ob 8 z.1.1.2.2.2.1 []), ((z.1.1.1 2), ob 8 z.1.1.2.2.2.2.1 []), ((z.1.1.1 3), aI g 48 z.1.1.2.2.2.2.2.1), ((z.1.1.1 4), aI g 31 z.1.1.2.2.2.2.2.2), ((z.1.1.1 5), aI g z.1.2.1.1 z.1.2.1.2), ((z.1.1.1 6), aI g z.1.2.2.1.1 z.1.2.2.1.2), ((z.1.1.1 7), aI g z.1.2.2.2.1.1 z.1.2.2.2.1.2), ((z.1.1.1 13), aI g z.1.2.2.2.2.1.1 z.1.2.2.2.2.1.2.1), ((z.1.1.1 14), aI g z.1.2.2.2.2.1.1 z.1.2.2.2.2.1.2.2), ((z.1.1.1 15), aI g z.1.2.2.2.2.2.1 z.1.2.2.2.2.2.2.1), ((z.1.1.1 16), aI g z.1.2.2.2.2.2.1 z.1.2.2.2.2.2.2.2)] ++ plW g z.2)) (fun z k m => OdG z.1 ∧ SaP PL z.2 ∧ k + odK P Nb Nt Np Nv Ns ≤ ozK z.1 ∧ m + odS P Nb Nt Np Nv Ns ≤ ozS z.1) := by
  refine ct_of (M := mtX11_chance) [some (.ref q), some (.int p), some (.int (nI n)), none, none] rfl (by decide) (Nat.le_of_ble_eq_true rfl) (fun _ h => h) (fun a => ?_)
  obtain ⟨o1, o2, o3, o4, o5, o6, o7⟩ := hO
  have g3 := nI_nn (a := n) (by omega)
  have g4 : nI n ≤ (30 : Int32) := by rw [show (30 : Int32) = nI 30 by decide]; exact nI_le hn (by decide)
  refine q_iload_n 1 1 dX11_chance_0 rfl rfl rfl ?_
  refine q_tcSv [] [0, 1, 2, 3, 4, 5, 6, 7, 8, 9, 10, 11, 12, 13, 14, 15, 16, 17, 18, 19, 20, 21, 22, 23] [0, 1, 2, 3, 4, 5, 6, 7, 8, 9, 10, 11, 12, 13, 14, 15, 16, 17, 18, 19, 20, 21, 22, 23] 4 (wr := [_, _, _, _, _, _, _, _, _, _, _, _, _, _, _, _, _, _, _, _, _, _, _, _]) (w1 := _) (ws' := [_, _, _, _, _, _, _, _, _, _, _, _, _, _, _, _, _, _, _, _, _, _, _, _]) (c_X11_needPlayer hp) m_X11_130 dX11_chance_1 rfl rfl rfl rfl rfl (by decide) (by decide) (by decide) (by decide) (Nat.le_of_ble_eq_true rfl) (by omega) (by omega) (by omega) rfl ?_
  refine q_iload_n 2 5 dX11_chance_4 rfl rfl rfl ?_
  refine q_tcSv [] [0, 1, 2, 3, 4, 5, 6, 7, 8, 9, 10, 11, 12, 13, 14, 15, 16, 17, 18, 19, 20, 21, 22, 23] [0, 1, 2, 3, 4, 5, 6, 7, 8, 9, 10, 11, 12, 13, 14, 15, 16, 17, 18, 19, 20, 21, 22, 23] 8 (wr := [_, _, _, _, _, _, _, _, _, _, _, _, _, _, _, _, _, _, _, _, _, _, _, _]) (w1 := _) (ws' := [_, _, _, _, _, _, _, _, _, _, _, _, _, _, _, _, _, _, _, _, _, _, _, _]) (c_X11_needRallies g3 g4) m_X11_188 dX11_chance_5 rfl rfl rfl rfl rfl (by decide) (by decide) (by decide) (by decide) (Nat.le_of_ble_eq_true rfl) (by omega) (by omega) (by omega) rfl ?_
  refine q_aload_n 0 9 dX11_chance_8 rfl rfl rfl ?_
  refine q_aload_n 0 10 dX11_chance_9 rfl rfl rfl ?_
  refine q_getR 0 13 f_X11_30 dX11_chance_10 rfl rfl rfl rfl ?_
  refine q_getR 1 16 f_X11_138 dX11_chance_13 rfl rfl rfl rfl ?_
  refine q_tcVv 0 [0, 1, 2, 7] [3, 4, 5, 6, 8, 9, 10, 11, 12, 13, 14, 15, 16, 17, 18, 19, 20, 21, 22, 23] [20, 21, 22, 0, 1, 2, 3, 23, 4, 5, 6, 7, 8, 9, 10, 11, 12, 13, 14, 15, 16, 17, 18, 19] 19 (wr := [_, _, _, _, _, _, _, _, _, _, _, _, _, _, _, _, _, _, _, _]) (w1 := _) (ws' := [_, _, _, _, _, _, _, _, _, _, _, _, _, _, _, _, _, _, _, _, _, _, _, _]) (c_X11_needGoingOn ho) m_X11_176 dX11_chance_16 rfl rfl rfl rfl rfl rfl rfl rfl (by decide) (by decide) (by decide) (by decide) (Nat.le_of_ble_eq_true rfl) (by omega) (by omega) (by omega) rfl ?_
  refine q_aload_n 0 20 dX11_chance_19 rfl rfl rfl ?_
  refine q_iconst (-1) 21 dX11_chance_20 ic_m1 rfl ?_
  refine q_iconst (-1) 22 dX11_chance_21 ic_m1 rfl ?_
  refine q_tcVr 0 [0, 1, 7, 9, 10, 11, 12, 13, 14, 15, 16, 17, 18, 19, 20, 21, 22, 23] [2, 3, 4, 5, 6, 8] [6, 7, 0, 1, 2, 3, 4, 8, 5, 9, 10, 11, 12, 13, 14, 15, 16, 17, 18, 19, 20, 21, 22, 23] 25 (wr := [_, _, _, _, _, _]) (w1 := _) (ws' := [_, _, _, _, _, _, _, _, _, _, _, _, _, _, _, _, _, _, _, _, _, _, _, _]) (c_X11_freshOdds1 o1 h6) m_X11_191 dX11_chance_22 rfl rfl rfl rfl rfl rfl rfl rfl (by decide) (by decide) (by decide) (by decide) (Nat.le_of_ble_eq_true rfl) (by omega) (by omega) (by omega) rfl ?_
  skip
  exact w_chance (r := r) (i2 := oiW oi (-1) (-1)) (show (if (-1 : Int32) = -1 then (1 : Int32) else 4) = nI 1 by decide) rfl rfl hgs hS hSt hF0 hF (by omega) (plB_nil o1 o2) rfl o3 o4 o5 o6 o7 hri hRs hn (by rw [Nat.zero_add]; exact Nat.le_refl _) (by rw [Nat.zero_add]; exact Nat.le_refl _) (fun z PL9 k m h1 h2 h3 h4 => pX.mk (z, PL9) ⟨h1, h2, by rw [Nat.zero_add] at h3; exact h3, by rw [Nat.zero_add] at h4; exact h4⟩ rfl rfl)
theorem c_X11_chance0 {l : Launch} {g : Gh} {q sd la ru so cc b0 al tq num : Nat} {i s li cf ri yf tr : Sc} {af : Nat → Option Nat} {PL : List RuR} {Rl : Nat → RLs} {t0 t1 t2 t5 t7 t8 : Option Nat} {n : Nat} {GK : Int32 → Prop} {p : Int32} {F : Nat → Int32 → Int32} {W : Nat → Int32 → Nat → Int32} (hgs : gkC GK s) (hS : SpH GK s li cf yf Rl (-1) 1) (hSt : ∀ i, StH GK s li cf yf Rl (-1) 1 (wyC p) (F i) (W i)) (hF0 : ∀ k, F 0 k = 0) (hF : ∀ i k, GK k → F (i + 1) k = moW (W i k) 1) (hp : p = 0 ∨ p = 1) (ho : sOver s li = 0) (h6 : s 6 = 0 ∨ s 6 = 1) (hri : ri 2 = nI num) (hRs : ∀ Q, SaP PL Q → RsO num yf af Q Rl) (hn : n ≤ 30) : Cn l g yX11_chance (Cond.code yX11_chance cX11_chance 5 (some .int)) 13 (15 + 89987) (521 + 3830848) [.ref q, .int p, .int (nI n)] ([(q, ob 11 i [t0, t1, t2, some sd, some tq, t5, none, t7, t8, none, none]), (sd, ob 10 (fun _ => 0) (rD la ru so)), (la, ob 0 li (rL cc)), (cc, aI g 192 cf), (ru, ob 6 ri (rQ b0 al)), (b0, aI g 2 yf), (al, aR g 6 af), (so, ob 8 s []), (tq, ob 8 tr [])] ++ plW g PL) (fun z : Nat × OdT × List RuR => some (.int (F n (sCode s)))) (fun z : Nat × OdT × List RuR => ([(q, ob 11 i [t0, t1, t2, some sd, some tq, t5, some z.1, t7, t8, none, none]), (sd, ob 10 (fun _ => 0) (rD la ru so)), (la, ob 0 li (rL cc)), (cc, aI g 192 cf), (ru, ob 6 ri (rQ b0 al)), (b0, aI g 2 yf), (al, aR g 6 af), (so, ob 8 s []), (tq, ob 8 tr []), (z.1, ob 2 z.2.1.1.2.1 (rO12 z.2.1.1.1 (some sd))), ((z.2.1.1.1 0), ob 3 (plI z.2.1.1.2.2.1) (rPl (plKe z.2.1.1.2.2.1) (plTa z.2.1.1.2.2.1))), (plKe z.2.1.1.2.2.1, aI g (plN z.2.1.1.2.2.1) (plKf z.2.1.1.2.2.1)), (plTa z.2.1.1.2.2.1, aI g (4 * plN z.2.1.1.2.2.1) (plTb z.2.1.1.2.2.1)), ((z.2.1.1.1 1), ob 8 z.2.1.1.2.2.2.1 []), ((z.2.1.1.1 2), ob 8 z.2.1.1.2.2.2.2.1 []), ((z.2.1.1.1 3), aI g 48 z.2.1.1.2.2.2.2.2.1), ((z.2.1.1.1 4), aI g 31 z.2.1.1.2.2.2.2.2.2), ((z.2.1.1.1 5), aI g z.2.1.2.1.1 z.2.1.2.1.2), ((z.2.1.1.1 6), aI g z.2.1.2.2.1.1 z.2.1.2.2.1.2), ((z.2.1.1.1 7), aI g z.2.1.2.2.2.1.1 z.2.1.2.2.2.1.2), ((z.2.1.1.1 13), aI g z.2.1.2.2.2.2.1.1 z.2.1.2.2.2.2.1.2.1), ((z.2.1.1.1 14), aI g z.2.1.2.2.2.2.1.1 z.2.1.2.2.2.2.1.2.2), ((z.2.1.1.1 15), aI g z.2.1.2.2.2.2.2.1 z.2.1.2.2.2.2.2.2.1), ((z.2.1.1.1 16), aI g z.2.1.2.2.2.2.2.1 z.2.1.2.2.2.2.2.2.2)] ++ plW g z.2.2)) (fun z k m => OdG z.2.1 ∧ SaP PL z.2.2 ∧ k + 145 ≤ 15 + ozK z.2.1 ∧ m + 3488 ≤ 521 + ozS z.2.1) := by
  refine ct_of (M := mtX11_chance) [some (.ref q), some (.int p), some (.int (nI n)), none, none] rfl (by decide) (Nat.le_of_ble_eq_true rfl) (fun _ h => h) (fun a => ?_)
  have g3 := nI_nn (a := n) (by omega)
  have g4 : nI n ≤ (30 : Int32) := by rw [show (30 : Int32) = nI 30 by decide]; exact nI_le hn (by decide)
  refine q_iload_n 1 1 dX11_chance_0 rfl rfl rfl ?_
  refine q_tcSv [] [0, 1, 2, 3, 4, 5, 6, 7, 8] [0, 1, 2, 3, 4, 5, 6, 7, 8] 4 (wr := [_, _, _, _, _, _, _, _, _]) (w1 := _) (ws' := [_, _, _, _, _, _, _, _, _]) (c_X11_needPlayer hp) m_X11_130 dX11_chance_1 rfl rfl rfl rfl rfl (by decide) (by decide) (by decide) (by decide) (Nat.le_of_ble_eq_true rfl) (by omega) (by omega) (by omega) rfl ?_
  refine q_iload_n 2 5 dX11_chance_4 rfl rfl rfl ?_
  refine q_tcSv [] [0, 1, 2, 3, 4, 5, 6, 7, 8] [0, 1, 2, 3, 4, 5, 6, 7, 8] 8 (wr := [_, _, _, _, _, _, _, _, _]) (w1 := _) (ws' := [_, _, _, _, _, _, _, _, _]) (c_X11_needRallies g3 g4) m_X11_188 dX11_chance_5 rfl rfl rfl rfl rfl (by decide) (by decide) (by decide) (by decide) (Nat.le_of_ble_eq_true rfl) (by omega) (by omega) (by omega) rfl ?_
  refine q_aload_n 0 9 dX11_chance_8 rfl rfl rfl ?_
  refine q_aload_n 0 10 dX11_chance_9 rfl rfl rfl ?_
  refine q_getR 0 13 f_X11_30 dX11_chance_10 rfl rfl rfl rfl ?_
  refine q_getR 1 16 f_X11_138 dX11_chance_13 rfl rfl rfl rfl ?_
  refine q_tcVv 0 [0, 1, 2, 7] [3, 4, 5, 6, 8] [5, 6, 7, 0, 1, 2, 3, 8, 4] 19 (wr := [_, _, _, _, _]) (w1 := _) (ws' := [_, _, _, _, _, _, _, _, _]) (c_X11_needGoingOn ho) m_X11_176 dX11_chance_16 rfl rfl rfl rfl rfl rfl rfl rfl (by decide) (by decide) (by decide) (by decide) (Nat.le_of_ble_eq_true rfl) (by omega) (by omega) (by omega) rfl ?_
  refine q_aload_n 0 20 dX11_chance_19 rfl rfl rfl ?_
  refine q_iconst (-1) 21 dX11_chance_20 ic_m1 rfl ?_
  refine q_iconst (-1) 22 dX11_chance_21 ic_m1 rfl ?_
  refine q_tyVr 0 [0, 1, 7] [2, 3, 4, 5, 6, 8] [6, 7, 0, 1, 2, 3, 4, 8, 5, 9, 10, 11, 12, 13, 14, 15, 16, 17, 18, 19, 20, 21, 22, 23] 25 (wr := [_, _, _, _, _, _]) (w1 := _) (ws' := fun _ => [_, _, _, _, _, _, _, _, _, _, _, _, _, _, _, _, _, _, _, _, _, _, _, _]) (c_X11_freshOdds0 h6) m_X11_191 dX11_chance_22 rfl rfl rfl rfl rfl rfl rfl (fun _ => rfl) (by decide) (by decide) (by decide) (by decide) (Nat.le_of_ble_eq_true rfl) (by omega) (by omega) (by omega) rfl (fun z22 k22 n22 hx22 => ?_)
  obtain ⟨oq22, r22, ke22, ta22⟩ := z22
  dsimp only at hx22 ⊢
  skip
  obtain ⟨ka, na⟩ := hx22
  exact w_chance (r := r22) (i2 := oiW (fun _ => 0) (-1) (-1)) (show (if (-1 : Int32) = -1 then (1 : Int32) else 4) = nI 1 by decide) rfl rfl hgs hS hSt hF0 hF (by omega) (plB_nil (pl0_O _ _) (by show 16 ≤ 16384; omega)) rfl ⟨by omega, Or.inl rfl⟩ ⟨by omega, Or.inl rfl⟩ ⟨by omega, 0, by omega⟩ ⟨by omega, Or.inl rfl⟩ ⟨by omega, Or.inl rfl⟩ hri hRs hn (by show _ + (16384 + 16389 + 16389 + 8192 + 16389 + 16389 - (16 + 32 + 32 + 128 / 128 + 32 + 32)) ≤ _; omega) (by show _ + (10 * 16384 + 16 * 16389 + 16 * 16389 + 2 * 1048576 + 32 * 16389 + 32 * 16389 - (10 * 16 + 16 * 32 + 16 * 32 + 2 * 128 + 32 * 32 + 32 * 32)) ≤ _; omega) (fun z PL9 k m h1 h2 h3 h4 => pX.mk (oq22, z, PL9) ⟨h1, h2, by show k + 145 ≤ 15 + ozK z; have e : plN (plC (pl0 ke22 ta22)) = 16 := rfl; unfold odK at h3; rw [e, ka] at h3; generalize ozK z = Z9 at *; clear e hS hSt; omega, by show m + 3488 ≤ 521 + ozS z; have e : plN (plC (pl0 ke22 ta22)) = 16 := rfl; unfold odS at h4; rw [e, na] at h4; generalize ozS z = Z9 at *; clear e hS hSt; omega⟩ rfl rfl)

