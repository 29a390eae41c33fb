/-! ===== ChaseCourt: best, ways, worth ===== -/
def chW (w : Nat → Int32) (v : Int32) : Nat → Nat → Nat
  | 0, c => c
  | f + 1, c => if w c = v then c else chW w v f (c + 1)
theorem chO_W {vf : Sc} {E : List (Nat × Sc)} {v : Int32} {w : Nat → Int32} {ch : Nat} (h : ∀ c, c < ch → wgV c vf E = w c) : ∀ f c, c + f ≤ ch → chO vf E v f c = chW w v f c
  | 0, _, _ => rfl
  | f + 1, c, hc => by rw [chO, chW, h c (by omega), chO_W h f (c + 1) (by omega)]
theorem kPut_at {K : List Int32} {k : Int32} : kAt (kPut K k) (K.idxOf k) = k ∧ K.idxOf k < (kPut K k).length := by
  unfold kPut
  by_cases h : k ∈ K
  · rw [if_pos h]
    have h1 : K.idxOf k < K.length := List.idxOf_lt_length_iff.mpr h
    refine ⟨?_, h1⟩
    unfold kAt
    rw [List.getD, List.getElem?_eq_getElem h1, Option.getD_some]
    exact List.getElem_idxOf h1
  · rw [if_neg h, List.idxOf_eq_length h]
    exact ⟨kAt_end K k, by simp⟩
theorem kPut_lt {K : List Int32} {k : Int32} {j : Nat} (hj : j < K.length) : kAt (kPut K k) j = kAt K j ∧ j < (kPut K k).length := by
  unfold kPut
  by_cases h : k ∈ K
  · rw [if_pos h]; exact ⟨rfl, hj⟩
  · rw [if_neg h]; exact ⟨kAt_app hj, by simp; omega⟩
theorem kPut_mem {K : List Int32} {k x : Int32} (h : x ∈ kPut K k) : x ∈ K ∨ x = k := by
  unfold kPut at h
  by_cases hk : k ∈ K
  · rw [if_pos hk] at h; exact Or.inl h
  · rw [if_neg hk] at h
    rcases List.mem_append.mp h with h | h
    · exact Or.inl h
    · exact Or.inr (List.mem_singleton.mp h)
def bsA (F : Nat → Int32 → Int32) (W : Nat → Int32 → Nat → Int32) (b : Int32) (n : Nat) (k : Int32) : Int32 := if b = 0 then F n k else if n = 0 then -1 else nI (chW (W (n - 1) k) (F n k) 3 0)
theorem w_best {l : Launch} {g : Gh} {q sd la ru so cc b0 al tq num : Nat} {i s li cf ri yf tr : Sc} {af : Nat → Option Nat} {PL : List RuR} {Rl : Nat → RLs} {t0 t1 t2 t5 t7 t8 : Option Nat} {oq : Nat} {r : Nat → Nat} {sb wf ef bf tf pf uf vf us vs : Sc} {Nb Nt Np Nv Ns : Nat} {P : PlS} {i2 : Sc} {rc rs d kk0 nn0 n : Nat} {post : Pst} {px : Pxc} {a : Act} {GK : Int32 → Prop} {p b : Int32} {F : Nat → Int32 → Int32} {W : Nat → Int32 → Nat → Int32} (hi9 : i2 9 = nI 4) (hi10 : i2 10 = p) (hi11 : i2 11 = -1) (hpn : ¬ p = -1) (hgs : gkC GK s) (hS : SpH GK s li cf yf Rl p 4) (hSt : ∀ i, StH GK s li cf yf Rl p 4 (wyC p) (F i) (W i)) (hF0 : ∀ k, F 0 k = 0) (hF : ∀ i k, GK k → F (i + 1) k = moW (W i k) 4) (hd : 12 ≤ d) (hPB : PlB P) (hK : plK P = []) (hbR : RmO Nb) (hnt : RmO Nt) (hpo : PoO Np) (hvR : RmO Nv) (hsR : RmO Ns) (hri : ri 2 = nI num) (hRs : ∀ Q, SaP PL Q → RsO num yf af Q Rl) (hn : n ≤ 30) (hrc : kk0 + (odKM - odK P Nb Nt Np Nv Ns) ≤ rc) (hrs : nn0 + (odSM - odS P Nb Nt Np Nv Ns) ≤ rs) (K : ∀ (z : OdT) (PL9 : List RuR) (k m : Nat), OdG z → SaP PL PL9 → k + odK P Nb Nt Np Nv Ns ≤ kk0 + ozK z → m + odS P Nb Nt Np Nv Ns ≤ nn0 + ozS z → post (some (.int (bsA F W b n (sCode s)))) ([(q, ob 11 i [t0, t1, t2, some sd, some tq, t5, some oq, t7, t8, none, none]), (sd, ob 10 (fun _ => 0) (rD la ru so)), (la, ob 0 li (rL cc)), (cc, aI g 192 cf), (ru, ob 6 ri (rQ b0 al)), (b0, aI g 2 yf), (al, aR g 6 af), (so, ob 8 s []), (tq, ob 8 tr []), (oq, ob 2 z.1.2.1 (rO12 z.1.1 (some sd))), ((z.1.1 0), ob 3 (plI z.1.2.2.1) (rPl (plKe z.1.2.2.1) (plTa z.1.2.2.1))), (plKe z.1.2.2.1, aI g (plN z.1.2.2.1) (plKf z.1.2.2.1)), (plTa z.1.2.2.1, aI g (4 * plN z.1.2.2.1) (plTb z.1.2.2.1)), ((z.1.1 1), ob 8 z.1.2.2.2.1 []), ((z.1.1 2), ob 8 z.1.2.2.2.2.1 []), ((z.1.1 3), aI g 48 z.1.2.2.2.2.2.1), ((z.1.1 4), aI g 31 z.1.2.2.2.2.2.2), ((z.1.1 5), aI g z.2.1.1 z.2.1.2), ((z.1.1 6), aI g z.2.2.1.1 z.2.2.1.2), ((z.1.1 7), aI g z.2.2.2.1.1 z.2.2.2.1.2), ((z.1.1 13), aI g z.2.2.2.2.1.1 z.2.2.2.2.1.2.1), ((z.1.1 14), aI g z.2.2.2.2.1.1 z.2.2.2.2.1.2.2), ((z.1.1 15), aI g z.2.2.2.2.2.1 z.2.2.2.2.2.2.1), ((z.1.1 16), aI g z.2.2.2.2.2.1 z.2.2.2.2.2.2.2)] ++ plW g PL9) k m) : WPs l g mtX11_best d rc rs post px a 25 [some (.ref q), some (.int p), some (.int (nI n)), some (.int b), none, none] [.ref oq] ([(q, ob 11 i [t0, t1, t2, some sd, some tq, t5, some oq, t7, t8, none, none]), (sd, ob 10 (fun _ => 0) (rD la ru so)), (la, ob 0 li (rL cc)), (cc, aI g 192 cf), (ru, ob 6 ri (rQ b0 al)), (b0, aI g 2 yf), (al, aR g 6 af), (so, ob 8 s []), (tq, ob 8 tr []), (oq, ob 2 (upd i2 8 (nI 0)) (rO (rs12 r sd))), ((r 0), ob 3 (plI P) (rPl (plKe P) (plTa P))), (plKe P, aI g (plN P) (plKf P)), (plTa P, aI g (4 * plN P) (plTb P)), ((r 1), ob 8 s []), ((r 2), ob 8 sb []), ((r 3), aI g 48 wf), ((r 4), aI g 31 ef), ((r 5), aI g Nb bf), ((r 6), aI g Nt tf), ((r 7), aI g Np pf), ((r 13), aI g Nv uf), ((r 14), aI g Nv vf), ((r 15), aI g Ns us), ((r 16), aI g Ns vs)] ++ plW g PL) kk0 nn0 := by
  have hPN := hPB.2.1
  have hb9 := hbR.1
  have hn9 := hnt.1
  have hp9 := hpo.1
  have hv9 := hvR.1
  have hs9 := hsR.1
  have hrc : kk0 + (16384 + 16389 + 16389 + 8192 + 16389 + 16389 - (plN P + Nb + Nt + Np / 128 + Nv + Ns)) ≤ rc := hrc
  have hrs : nn0 + (10 * 16384 + 16 * 16389 + 16 * 16389 + 2 * 1048576 + 32 * 16389 + 32 * 16389 - (10 * plN P + 16 * Nb + 16 * Nt + 2 * Np + 32 * Nv + 32 * Ns)) ≤ rs := hrs
  refine q_astore 4 27 (L' := [_, _, _, _, _, _]) dX11_best_25 (by decide) rfl rfl ?_
  refine q_aload 4 29 dX11_best_27 rfl rfl ?_
  refine q_aload_n 0 30 dX11_best_29 rfl rfl rfl ?_
  refine q_getR 0 33 f_X11_30 dX11_best_30 rfl rfl rfl rfl ?_
  refine q_getR 1 36 f_X11_138 dX11_best_33 rfl rfl rfl rfl ?_
  refine q_tyVi 9 [9, 10, 11, 12, 7] [0, 1, 2, 3, 4, 5, 6, 8, 13, 14, 15, 16, 17, 18, 19, 20, 21, 22, 23] [0, 1, 2, 3, 4, 5, 6, 23, 7, 19, 20, 21, 22, 8, 9, 10, 11, 12, 13, 14, 15, 16, 17, 18] 39 (wr := [_, _, _, _, _, _, _, _, _, _, _, _, _, _, _, _, _, _, _]) (w1 := _) (ws' := fun _ => [_, _, _, _, _, _, _, _, _, _, _, _, _, _, _, _, _, _, _, _, _, _, _, _]) (c_X2_placeOf (r := (rs12 r sd)) (i := upd i2 8 (nI 0)) hPB hgs.2) m_X11_195 dX11_best_36 rfl rfl rfl rfl rfl rfl rfl (fun _ => rfl) (by decide) (by decide) (by decide) (by decide) (Nat.le_of_ble_eq_true rfl) (by omega) (by omega) (by omega) rfl (fun P36 k36 n36 hx36 => ?_)
  refine q_istore 5 41 (L' := [_, _, _, _, _, _]) dX11_best_39 (by decide) rfl rfl ?_
  skip
  obtain ⟨hP2, hK2, hk2, hn2⟩ := hx36
  rw [hK] at hK2 ⊢
  rw [kPut_nil] at hK2
  have hP2N := hP2.2.1
  rw [show 4 + ([] : List Int32).idxOf (sCode s) = 4 from rfl]
  refine q_aload 4 43 dX11_best_41 rfl rfl ?_
  refine q_iload_n 2 44 dX11_best_43 rfl rfl rfl ?_
  refine q_uyVv 9 [9, 10, 11, 12, 13, 14, 15, 17, 18, 19, 1, 2, 3, 4, 5, 6, 16] [0, 7, 8, 20, 21, 22, 23] [0, 17, 18, 19, 20, 21, 22, 1, 2, 7, 8, 9, 10, 11, 12, 13, 23, 14, 15, 16, 3, 4, 5, 6] 47 (wr := [_, _, _, _, _, _, _]) (w1 := _) (ws' := fun _ => [_, _, _, _, _, _, _, _, _, _, _, _, _, _, _, _, _, _, _, _, _, _, _, _]) (c_X2_spreadAll (r := (rs12 r sd)) (a5 := r 5) (a6 := r 6) (a7 := r 7) (s0 := s) (Rl := Rl) (GK := GK) (num := num) hi9 (Or.inr ⟨by rw [hi10]; exact hpn, rfl⟩) hn hP2 (fun k hk => by rw [hK2] at hk; rw [List.mem_singleton.mp hk]; exact hgs.1) hbR hnt hpo hri hRs ⟨rfl, rfl, rfl, rfl⟩ (by rw [hi10]; exact hS) (fun h => absurd hi11 h)) m_X11_201 dX11_best_44 rfl rfl rfl rfl rfl rfl rfl (fun _ => rfl) (by decide) (by decide) (by decide) (by decide) (Nat.le_of_ble_eq_true rfl) (by omega) (by omega) (by omega) rfl (fun z44 k44 n44 hx44 => ?_)
  obtain ⟨⟨⟨a544, Nb44, bf44⟩, ⟨a644, Nt44, tf44⟩, ⟨a744, Np44, pf44⟩⟩, P44, u44, ⟨sf44, sb44, wf44, ef44⟩, PL44⟩ := z44
  dsimp only at hx44 ⊢
  skip
  obtain ⟨hz, hz2, hz3⟩ := hx44
  rw [hi10, hi11] at hz
  obtain ⟨U, um, hU, hum, hrun⟩ := od_run hz
  have hz1 := hz
  obtain ⟨⟨hPB3, _, _⟩, ⟨hb3, _⟩, ⟨ht3, _⟩, ⟨hp3, _⟩, _, hsp, _⟩ := hz1
  dsimp only at hPB3 hb3 ht3 hp3 hsp hz2 hz3 hU hum
  have hP3N := hPB3.2.1
  obtain ⟨mm, hmm, hNm⟩ := hPB3.1.2.2.2
  have hKN := hPB3.1.2.1.1
  have hb39 := hb3.1
  have ht39 := ht3.1
  have hp39 := hp3.1
  have hw1 := (rw_max hvR hP3N).1
  have hw2 := rw_maxS hvR hNm hP3N
  obtain ⟨E, hE, hval⟩ := hrun (wyC p) F W hSt hF0 hF
  dsimp only at hE hval
  have h11 : upd i2 8 (nI u44) 11 = -1 := by rw [pk_un (by decide)]; exact hi11
  have h9 : upd i2 8 (nI u44) 9 = nI 4 := by rw [pk_un (by decide)]; exact hi9
  refine q_aload 4 49 dX11_best_47 rfl rfl ?_
  refine q_iload_n 2 50 dX11_best_49 rfl rfl rfl ?_
  refine q_iload_n 1 51 dX11_best_50 rfl rfl rfl ?_
  refine q_tcSi [] [0, 1, 2, 3, 4, 5, 6, 7, 8, 9, 10, 11, 12, 13, 14, 15, 16, 17, 18, 19, 20, 21, 22, 23] [0, 1, 2, 3, 4, 5, 6, 7, 8, 9, 10, 11, 12, 13, 14, 15, 16, 17, 18, 19, 20, 21, 22, 23] 54 (wr := [_, _, _, _, _, _, _, _, _, _, _, _, _, _, _, _, _, _, _, _, _, _, _, _]) (w1 := _) (ws' := [_, _, _, _, _, _, _, _, _, _, _, _, _, _, _, _, _, _, _, _, _, _, _, _]) c_X11_waysOf m_X11_204 dX11_best_51 rfl rfl rfl rfl rfl (by decide) (by decide) (by decide) (by decide) (Nat.le_of_ble_eq_true rfl) (by omega) (by omega) (by omega) rfl ?_
  refine q_tyVv 9 [9, 10, 11, 20, 21, 17, 19, 16] [0, 1, 2, 3, 4, 5, 6, 7, 8, 12, 13, 14, 15, 18, 22, 23] [0, 1, 2, 3, 4, 5, 6, 7, 8, 16, 17, 18, 9, 10, 11, 12, 23, 21, 13, 22, 19, 20, 14, 15] 57 (wr := [_, _, _, _, _, _, _, _, _, _, _, _, _, _, _, _]) (w1 := _) (ws' := fun _ => [_, _, _, _, _, _, _, _, _, _, _, _, _, _, _, _, _, _, _, _, _, _, _, _]) (c_X2_weighAll0 (r := rs567 (rs12 r sd) a544 a644 a744) (sz := (plK P44).length) (E := E) (U := U) (um := um) h11 h9 (by decide) (by omega) (by omega) (by omega) (by omega) hPB3.1.1 hKN hn hU hum hE) m_X11_207 dX11_best_54 rfl rfl rfl rfl rfl rfl rfl (fun _ => rfl) (by decide) (by decide) (by decide) (by decide) (Nat.le_of_ble_eq_true rfl) (by omega) (by omega) (by omega) rfl (fun z54 k54 n54 hx54 => ?_)
  obtain ⟨a54, b54, m54, uf54, vf54⟩ := z54
  dsimp only at hx54 ⊢
  skip
  obtain ⟨hro, u1, v1, huv⟩ := hx54
  obtain ⟨q1, q2, q3, q4, q5, _⟩ := rw_pot hvR hNm hP3N hro
  have hq9 := q1.1
  have hv0 := hval u1 v1 0 (by rw [hK2]; exact Nat.succ_pos 0)
  rw [← huv, hK2] at hv0
  obtain ⟨hv4, hv5⟩ := hv0
  have hv4 : vf54 4 = F n (sCode s) := hv4
  have k2 := fun k m h1 h2 => K ((rs2 (rs567 (rs12 r sd) a544 a644 a744) a54 b54, upd i2 8 (nI u44), P44, sf44, sb44, wf44, ef44), (Nb44, bf44), (Nt44, tf44), (Np44, pf44), (m54, uf54, vf54), (Ns, us, vs)) PL44 k m ⟨hPB3.1, hP3N, hb3, ht3, hp3, q1, hsR⟩ hsp h1 h2
  clear K
  unfold bsA at k2
  by_cases hb0 : b = 0
  · rw [if_pos hb0] at k2
    refine q_iload_n 3 58 dX11_best_57 rfl rfl rfl ?_
    refine q_if_ne 69 61 dX11_best_58 (by decide) rfl (fun h58 => absurd hb0 h58) (fun h58 => ?_)
    refine q_aload 4 63 dX11_best_61 rfl rfl ?_
    refine q_iload 5 65 dX11_best_63 rfl rfl ?_
    refine q_tcVi 9 [9, 21] [0, 1, 2, 3, 4, 5, 6, 7, 8, 10, 11, 12, 13, 14, 15, 16, 17, 18, 19, 20, 22, 23] [0, 1, 2, 3, 4, 5, 6, 7, 8, 22, 9, 10, 11, 12, 13, 14, 15, 16, 17, 18, 19, 23, 20, 21] 68 (wr := [_, _, _, _, _, _, _, _, _, _, _, _, _, _, _, _, _, _, _, _, _, _]) (w1 := _) (ws' := [_, _, _, _, _, _, _, _, _, _, _, _, _, _, _, _, _, _, _, _, _, _, _, _]) (c_X2_valueAt (r := rs2 (rs567 (rs12 r sd) a544 a644 a744) a54 b54) (z := 4) (by omega) (by omega)) m_X11_210 dX11_best_65 rfl rfl rfl rfl rfl rfl rfl rfl (by decide) (by decide) (by decide) (by decide) (Nat.le_of_ble_eq_true rfl) (by omega) (by omega) (by omega) rfl ?_
    rw [hv4]
    refine q_ireturn dX11_best_68 rfl ?_
    refine k2 _ _ ?_ ?_
    · show _ + (plN P + Nb + Nt + Np / 128 + Nv + Ns) ≤ kk0 + (plN P44 + Nb44 + Nt44 + Np44 / 128 + m54 + Ns)
      omega
    · show _ + (10 * plN P + 16 * Nb + 16 * Nt + 2 * Np + 32 * Nv + 32 * Ns) ≤ nn0 + (10 * plN P44 + 16 * Nb44 + 16 * Nt44 + 2 * Np44 + 32 * m54 + 32 * Ns)
      omega
  · rw [if_neg hb0] at k2
    by_cases hn0 : n = 0
    · rw [if_pos hn0] at k2
      have gn : nI n = 0 := by rw [hn0]; decide
      refine q_iload_n 3 58 dX11_best_57 rfl rfl rfl ?_
      refine q_if_ne 69 61 dX11_best_58 (by decide) rfl (fun h58 => ?_) (fun h58 => absurd h58 hb0)
      refine q_iload_n 2 70 dX11_best_69 rfl rfl rfl ?_
      refine q_if_ne 77 73 dX11_best_70 (by decide) rfl (fun h70 => absurd gn h70) (fun h70 => ?_)
      refine q_iconst (-1) 74 dX11_best_73 ic_m1 rfl ?_
      refine q_goto 84 dX11_best_74 (by decide) ?_
      refine q_ireturn dX11_best_84 rfl ?_
      refine k2 _ _ ?_ ?_
      · show _ + (plN P + Nb + Nt + Np / 128 + Nv + Ns) ≤ kk0 + (plN P44 + Nb44 + Nt44 + Np44 / 128 + m54 + Ns)
        omega
      · show _ + (10 * plN P + 16 * Nb + 16 * Nt + 2 * Np + 32 * Nv + 32 * Ns) ≤ nn0 + (10 * plN P44 + 16 * Nb44 + 16 * Nt44 + 2 * Np44 + 32 * m54 + 32 * Ns)
        omega
    · rw [if_neg hn0] at k2
      have gn : ¬ nI n = 0 := fun h => hn0 (nI_eqI (by omega) (by decide) (h.trans (by decide : (0 : Int32) = nI 0)))
      obtain ⟨hum4, hw4⟩ := hv5 (by omega)
      have hE4 := (hE 4 (by omega) hum4).mono (N' := m54) (by omega)
      have ec : chO uf54 (E 4) (vf54 4) 3 0 = chW (W (n - 1) (sCode s)) (F n (sCode s)) 3 0 := by rw [hv4]; exact chO_W (ch := 4) hw4 3 0 (by omega)
      refine q_iload_n 3 58 dX11_best_57 rfl rfl rfl ?_
      refine q_if_ne 69 61 dX11_best_58 (by decide) rfl (fun h58 => ?_) (fun h58 => absurd h58 hb0)
      refine q_iload_n 2 70 dX11_best_69 rfl rfl rfl ?_
      refine q_if_ne 77 73 dX11_best_70 (by decide) rfl (fun h70 => ?_) (fun h70 => absurd h70 gn)
      refine q_aload 4 79 dX11_best_77 rfl rfl ?_
      refine q_iload 5 81 dX11_best_79 rfl rfl ?_
      refine q_tcVi 9 [9, 17, 19, 20, 21] [0, 1, 2, 3, 4, 5, 6, 7, 8, 10, 11, 12, 13, 14, 15, 16, 18, 22, 23] [0, 1, 2, 3, 4, 5, 6, 7, 8, 19, 9, 10, 11, 12, 13, 14, 15, 20, 16, 21, 22, 23, 17, 18] 84 (wr := [_, _, _, _, _, _, _, _, _, _, _, _, _, _, _, _, _, _, _]) (w1 := _) (ws' := [_, _, _, _, _, _, _, _, _, _, _, _, _, _, _, _, _, _, _, _, _, _, _, _]) (c_X2_choiceAt (r := rs2 (rs567 (rs12 r sd) a544 a644 a744) a54 b54) (z := 4) (E := E 4) h9 (by decide) (by decide) (by omega) (by omega) (by omega) hE4 (by omega) (by omega)) m_X11_213 dX11_best_81 rfl rfl rfl rfl rfl rfl rfl rfl (by decide) (by decide) (by decide) (by decide) (Nat.le_of_ble_eq_true rfl) (by omega) (by omega) (by omega) rfl ?_
      rw [ec]
      refine q_ireturn dX11_best_84 rfl ?_
      refine k2 _ _ ?_ ?_
      · show _ + (plN P + Nb + Nt + Np / 128 + Nv + Ns) ≤ kk0 + (plN P44 + Nb44 + Nt44 + Np44 / 128 + m54 + Ns)
        omega
      · show _ + (10 * plN P + 16 * Nb + 16 * Nt + 2 * Np + 32 * Nv + 32 * Ns) ≤ nn0 + (10 * plN P44 + 16 * Nb44 + 16 * Nt44 + 2 * Np44 + 32 * m54 + 32 * Ns)
        omega
theorem c_X11_best1 {l : Launch} {g : Gh} {q sd la ru so cc b0 al tq num : Nat} {i s li cf ri yf tr : Sc} {af : Nat → Option Nat} {PL : List RuR} {Rl : Nat → RLs} {t0 t1 t2 t5 t7 t8 : Option Nat} {oq : Nat} {r : Nat → Nat} {oi sf sb wf ef bf tf pf uf vf us vs : Sc} {Nb Nt Np Nv Ns : Nat} {P : PlS} {n : Nat} {GK : Int32 → Prop} {p b : Int32} {F : Nat → Int32 → Int32} {W : Nat → Int32 → Nat → Int32} (hpn : ¬ p = -1) (hgs : gkC GK s) (hS : SpH GK s li cf yf Rl p 4) (hSt : ∀ i, StH GK s li cf yf Rl p 4 (wyC p) (F i) (W i)) (hF0 : ∀ k, F 0 k = 0) (hF : ∀ i k, GK k → F (i + 1) k = moW (W i k) 4) (hp : p = 0 ∨ p = 1) (ho : sOver s li = 0) (h6 : s 6 = 0 ∨ s 6 = 1) (hO : OdR P Nb Nt Np Nv Ns) (hri : ri 2 = nI num) (hRs : ∀ Q, SaP PL Q → RsO num yf af Q Rl) (hn : n ≤ 30) : Cn l g yX11_best (Cond.code yX11_best cX11_best 6 (some .int)) 13 ((odKM - odK P Nb Nt Np Nv Ns)) ((odSM - odS P Nb Nt Np Nv Ns)) [.ref q, .int p, .int (nI n), .int b] ([(q, ob 11 i [t0, t1, t2, some sd, some tq, t5, some oq, t7, t8, none, none]), (sd, ob 10 (fun _ => 0) (rD la ru so)), (la, ob 0 li (rL cc)), (cc, aI g 192 cf), (ru, ob 6 ri (rQ b0 al)), (b0, aI g 2 yf), (al, aR g 6 af), (so, ob 8 s []), (tq, ob 8 tr []), (oq, ob 2 oi (rO12 r (some sd))), ((r 0), ob 3 (plI P) (rPl (plKe P) (plTa P))), (plKe P, aI g (plN P) (plKf P)), (plTa P, aI g (4 * plN P) (plTb P)), ((r 1), ob 8 sf []), ((r 2), ob 8 sb []), ((r 3), aI g 48 wf), ((r 4), aI g 31 ef), ((r 5), aI g Nb bf), ((r 6), aI g Nt tf), ((r 7), aI g Np pf), ((r 13), aI g Nv uf), ((r 14), aI g Nv vf), ((r 15), aI g Ns us), ((r 16), aI g Ns vs)] ++ plW g PL) (fun z : OdT × List RuR => some (.int (bsA F W b n (sCode s)))) (fun z : OdT × List RuR => ([(q, ob 11 i [t0, t1, t2, some sd, some tq, t5, some oq, t7, t8, none, none]), (sd, ob 10 (fun _ => 0) (rD la ru so)), (la, ob 0 li (rL cc)), (cc, aI g 192 cf), (ru, ob 6 ri (rQ b0 al)), (b0, aI g 2 yf), (al, aR g 6 af), (so, ob 8 s []), (tq, ob 8 tr []), (oq, ob 2 z.1.1.2.1 (rO12 z.1.1.1 (some sd))), ((z.1.1.1 0), ob 3 (plI z.1.1.2.2.1) (rPl (plKe z.1.1.2.2.1) (plTa z.1.1.2.2.1))), (plKe z.1.1.2.2.1, aI g (plN z.1.1.2.2.1) (plKf z.1.1.2.2.1)), (plTa z.1.1.2.2.1, aI g (4 * plN z.1.1.2.2.1) (plTb z.1.1.2.2.1)), ((z.1.1.1 1), ob 8 z.1.1.2.2.2.1 []), ((z.1.1.1 2), ob 8 z.1.1.2.2.2.2.1 []), ((z.1.1.1 3), aI g 48 z.1.1.2.2.2.2.2.1), ((z.1.1.1 4), aI g 31 z.1.1.2.2.2.2.2.2), ((z.1.1.1 5), aI g z.1.2.1.1 z.1.2.1.2), ((z.1.1.1 6), aI g z.1.2.2.1.1 z.1.2.2.1.2), ((z.1.1.1 7), aI g z.1.2.2.2.1.1 z.1.2.2.2.1.2), ((z.1.1.1 13), aI g z.1.2.2.2.2.1.1 z.1.2.2.2.2.1.2.1), ((z.1.1.1 14), aI g z.1.2.2.2.2.1.1 z.1.2.2.2.2.1.2.2), ((z.1.1.1 15), aI g z.1.2.2.2.2.2.1 z.1.2.2.2.2.2.2.1), ((z.1.1.1 16), aI g z.1.2.2.2.2.2.1 z.1.2.2.2.2.2.2.2)] ++ plW g z.2)) (fun z k m => OdG z.1 ∧ SaP PL z.2 ∧ k + odK P Nb Nt Np Nv Ns ≤ ozK z.1 ∧ m + odS P Nb Nt Np Nv Ns ≤ ozS z.1) := by
  refine ct_of (M := mtX11_best) [some (.ref q), some (.int p), some (.int (nI n)), some (.int b), none, none] rfl (by decide) (Nat.le_of_ble_eq_true rfl) (fun _ h => h) (fun a => ?_)
  obtain ⟨o1, o2, o3, o4, o5, o6, o7⟩ := hO
  have g3 := nI_nn (a := n) (by omega)
  have g4 : nI n ≤ (30 : Int32) := by rw [show (30 : Int32) = nI 30 by decide]; exact nI_le hn (by decide)
  refine q_iload_n 1 1 dX11_best_0 rfl rfl rfl ?_
  refine q_tcSv [] [0, 1, 2, 3, 4, 5, 6, 7, 8, 9, 10, 11, 12, 13, 14, 15, 16, 17, 18, 19, 20, 21, 22, 23] [0, 1, 2, 3, 4, 5, 6, 7, 8, 9, 10, 11, 12, 13, 14, 15, 16, 17, 18, 19, 20, 21, 22, 23] 4 (wr := [_, _, _, _, _, _, _, _, _, _, _, _, _, _, _, _, _, _, _, _, _, _, _, _]) (w1 := _) (ws' := [_, _, _, _, _, _, _, _, _, _, _, _, _, _, _, _, _, _, _, _, _, _, _, _]) (c_X11_needPlayer hp) m_X11_130 dX11_best_1 rfl rfl rfl rfl rfl (by decide) (by decide) (by decide) (by decide) (Nat.le_of_ble_eq_true rfl) (by omega) (by omega) (by omega) rfl ?_
  refine q_iload_n 2 5 dX11_best_4 rfl rfl rfl ?_
  refine q_tcSv [] [0, 1, 2, 3, 4, 5, 6, 7, 8, 9, 10, 11, 12, 13, 14, 15, 16, 17, 18, 19, 20, 21, 22, 23] [0, 1, 2, 3, 4, 5, 6, 7, 8, 9, 10, 11, 12, 13, 14, 15, 16, 17, 18, 19, 20, 21, 22, 23] 8 (wr := [_, _, _, _, _, _, _, _, _, _, _, _, _, _, _, _, _, _, _, _, _, _, _, _]) (w1 := _) (ws' := [_, _, _, _, _, _, _, _, _, _, _, _, _, _, _, _, _, _, _, _, _, _, _, _]) (c_X11_needRallies g3 g4) m_X11_188 dX11_best_5 rfl rfl rfl rfl rfl (by decide) (by decide) (by decide) (by decide) (Nat.le_of_ble_eq_true rfl) (by omega) (by omega) (by omega) rfl ?_
  refine q_aload_n 0 9 dX11_best_8 rfl rfl rfl ?_
  refine q_aload_n 0 10 dX11_best_9 rfl rfl rfl ?_
  refine q_getR 0 13 f_X11_30 dX11_best_10 rfl rfl rfl rfl ?_
  refine q_getR 1 16 f_X11_138 dX11_best_13 rfl rfl rfl rfl ?_
  refine q_tcVv 0 [0, 1, 2, 7] [3, 4, 5, 6, 8, 9, 10, 11, 12, 13, 14, 15, 16, 17, 18, 19, 20, 21, 22, 23] [20, 21, 22, 0, 1, 2, 3, 23, 4, 5, 6, 7, 8, 9, 10, 11, 12, 13, 14, 15, 16, 17, 18, 19] 19 (wr := [_, _, _, _, _, _, _, _, _, _, _, _, _, _, _, _, _, _, _, _]) (w1 := _) (ws' := [_, _, _, _, _, _, _, _, _, _, _, _, _, _, _, _, _, _, _, _, _, _, _, _]) (c_X11_needGoingOn ho) m_X11_176 dX11_best_16 rfl rfl rfl rfl rfl rfl rfl rfl (by decide) (by decide) (by decide) (by decide) (Nat.le_of_ble_eq_true rfl) (by omega) (by omega) (by omega) rfl ?_
  refine q_aload_n 0 20 dX11_best_19 rfl rfl rfl ?_
  refine q_iload_n 1 21 dX11_best_20 rfl rfl rfl ?_
  refine q_iconst (-1) 22 dX11_best_21 ic_m1 rfl ?_
  refine q_tcVr 0 [0, 1, 7, 9, 10, 11, 12, 13, 14, 15, 16, 17, 18, 19, 20, 21, 22, 23] [2, 3, 4, 5, 6, 8] [6, 7, 0, 1, 2, 3, 4, 8, 5, 9, 10, 11, 12, 13, 14, 15, 16, 17, 18, 19, 20, 21, 22, 23] 25 (wr := [_, _, _, _, _, _]) (w1 := _) (ws' := [_, _, _, _, _, _, _, _, _, _, _, _, _, _, _, _, _, _, _, _, _, _, _, _]) (c_X11_freshOdds1 o1 h6) m_X11_191 dX11_best_22 rfl rfl rfl rfl rfl rfl rfl rfl (by decide) (by decide) (by decide) (by decide) (Nat.le_of_ble_eq_true rfl) (by omega) (by omega) (by omega) rfl ?_
  skip
  exact w_best (r := r) (i2 := oiW oi p (-1)) (show (if p = -1 then (1 : Int32) else 4) = nI 4 by rw [if_neg hpn]; decide) rfl rfl hpn hgs hS hSt hF0 hF (by omega) (plB_nil o1 o2) rfl o3 o4 o5 o6 o7 hri hRs hn (by rw [Nat.zero_add]; exact Nat.le_refl _) (by rw [Nat.zero_add]; exact Nat.le_refl _) (fun z PL9 k m h1 h2 h3 h4 => pX.mk (z, PL9) ⟨h1, h2, by rw [Nat.zero_add] at h3; exact h3, by rw [Nat.zero_add] at h4; exact h4⟩ rfl rfl)
theorem c_X11_best0 {l : Launch} {g : Gh} {q sd la ru so cc b0 al tq num : Nat} {i s li cf ri yf tr : Sc} {af : Nat → Option Nat} {PL : List RuR} {Rl : Nat → RLs} {t0 t1 t2 t5 t7 t8 : Option Nat} {n : Nat} {GK : Int32 → Prop} {p b : Int32} {F : Nat → Int32 → Int32} {W : Nat → Int32 → Nat → Int32} (hpn : ¬ p = -1) (hgs : gkC GK s) (hS : SpH GK s li cf yf Rl p 4) (hSt : ∀ i, StH GK s li cf yf Rl p 4 (wyC p) (F i) (W i)) (hF0 : ∀ k, F 0 k = 0) (hF : ∀ i k, GK k → F (i + 1) k = moW (W i k) 4) (hp : p = 0 ∨ p = 1) (ho : sOver s li = 0) (h6 : s 6 = 0 ∨ s 6 = 1) (hri : ri 2 = nI num) (hRs : ∀ Q, SaP PL Q → RsO num yf af Q Rl) (hn : n ≤ 30) : Cn l g yX11_best (Cond.code yX11_best cX11_best 6 (some .int)) 13 (15 + 89987) (521 + 3830848) [.ref q, .int p, .int (nI n), .int b] ([(q, ob 11 i [t0, t1, t2, some sd, some tq, t5, none, t7, t8, none, none]), (sd, ob 10 (fun _ => 0) (rD la ru so)), (la, ob 0 li (rL cc)), (cc, aI g 192 cf), (ru, ob 6 ri (rQ b0 al)), (b0, aI g 2 yf), (al, aR g 6 af), (so, ob 8 s []), (tq, ob 8 tr [])] ++ plW g PL) (fun z : Nat × OdT × List RuR => some (.int (bsA F W b n (sCode s)))) (fun z : Nat × OdT × List RuR => ([(q, ob 11 i [t0, t1, t2, some sd, some tq, t5, some z.1, t7, t8, none, none]), (sd, ob 10 (fun _ => 0) (rD la ru so)), (la, ob 0 li (rL cc)), (cc, aI g 192 cf), (ru, ob 6 ri (rQ b0 al)), (b0, aI g 2 yf), (al, aR g 6 af), (so, ob 8 s []), (tq, ob 8 tr []), (z.1, ob 2 z.2.1.1.2.1 (rO12 z.2.1.1.1 (some sd))), ((z.2.1.1.1 0), ob 3 (plI z.2.1.1.2.2.1) (rPl (plKe z.2.1.1.2.2.1) (plTa z.2.1.1.2.2.1))), (plKe z.2.1.1.2.2.1, aI g (plN z.2.1.1.2.2.1) (plKf z.2.1.1.2.2.1)), (plTa z.2.1.1.2.2.1, aI g (4 * plN z.2.1.1.2.2.1) (plTb z.2.1.1.2.2.1)), ((z.2.1.1.1 1), ob 8 z.2.1.1.2.2.2.1 []), ((z.2.1.1.1 2), ob 8 z.2.1.1.2.2.2.2.1 []), ((z.2.1.1.1 3), aI g 48 z.2.1.1.2.2.2.2.2.1), ((z.2.1.1.1 4), aI g 31 z.2.1.1.2.2.2.2.2.2), ((z.2.1.1.1 5), aI g z.2.1.2.1.1 z.2.1.2.1.2), ((z.2.1.1.1 6), aI g z.2.1.2.2.1.1 z.2.1.2.2.1.2), ((z.2.1.1.1 7), aI g z.2.1.2.2.2.1.1 z.2.1.2.2.2.1.2), ((z.2.1.1.1 13), aI g z.2.1.2.2.2.2.1.1 z.2.1.2.2.2.2.1.2.1), ((z.2.1.1.1 14), aI g z.2.1.2.2.2.2.1.1 z.2.1.2.2.2.2.1.2.2), ((z.2.1.1.1 15), aI g z.2.1.2.2.2.2.2.1 z.2.1.2.2.2.2.2.2.1), ((z.2.1.1.1 16), aI g z.2.1.2.2.2.2.2.1 z.2.1.2.2.2.2.2.2.2)] ++ plW g z.2.2)) (fun z k m => OdG z.2.1 ∧ SaP PL z.2.2 ∧ k + 145 ≤ 15 + ozK z.2.1 ∧ m + 3488 ≤ 521 + ozS z.2.1) := by
  refine ct_of (M := mtX11_best) [some (.ref q), some (.int p), some (.int (nI n)), some (.int b), none, none] rfl (by decide) (Nat.le_of_ble_eq_true rfl) (fun _ h => h) (fun a => ?_)
  have g3 := nI_nn (a := n) (by omega)
  have g4 : nI n ≤ (30 : Int32) := by rw [show (30 : Int32) = nI 30 by decide]; exact nI_le hn (by decide)
  refine q_iload_n 1 1 dX11_best_0 rfl rfl rfl ?_
  refine q_tcSv [] [0, 1, 2, 3, 4, 5, 6, 7, 8] [0, 1, 2, 3, 4, 5, 6, 7, 8] 4 (wr := [_, _, _, _, _, _, _, _, _]) (w1 := _) (ws' := [_, _, _, _, _, _, _, _, _]) (c_X11_needPlayer hp) m_X11_130 dX11_best_1 rfl rfl rfl rfl rfl (by decide) (by decide) (by decide) (by decide) (Nat.le_of_ble_eq_true rfl) (by omega) (by omega) (by omega) rfl ?_
  refine q_iload_n 2 5 dX11_best_4 rfl rfl rfl ?_
  refine q_tcSv [] [0, 1, 2, 3, 4, 5, 6, 7, 8] [0, 1, 2, 3, 4, 5, 6, 7, 8] 8 (wr := [_, _, _, _, _, _, _, _, _]) (w1 := _) (ws' := [_, _, _, _, _, _, _, _, _]) (c_X11_needRallies g3 g4) m_X11_188 dX11_best_5 rfl rfl rfl rfl rfl (by decide) (by decide) (by decide) (by decide) (Nat.le_of_ble_eq_true rfl) (by omega) (by omega) (by omega) rfl ?_
  refine q_aload_n 0 9 dX11_best_8 rfl rfl rfl ?_
  refine q_aload_n 0 10 dX11_best_9 rfl rfl rfl ?_
  refine q_getR 0 13 f_X11_30 dX11_best_10 rfl rfl rfl rfl ?_
  refine q_getR 1 16 f_X11_138 dX11_best_13 rfl rfl rfl rfl ?_
  refine q_tcVv 0 [0, 1, 2, 7] [3, 4, 5, 6, 8] [5, 6, 7, 0, 1, 2, 3, 8, 4] 19 (wr := [_, _, _, _, _]) (w1 := _) (ws' := [_, _, _, _, _, _, _, _, _]) (c_X11_needGoingOn ho) m_X11_176 dX11_best_16 rfl rfl rfl rfl rfl rfl rfl rfl (by decide) (by decide) (by decide) (by decide) (Nat.le_of_ble_eq_true rfl) (by omega) (by omega) (by omega) rfl ?_
  refine q_aload_n 0 20 dX11_best_19 rfl rfl rfl ?_
  refine q_iload_n 1 21 dX11_best_20 rfl rfl rfl ?_
  refine q_iconst (-1) 22 dX11_best_21 ic_m1 rfl ?_
  refine q_tyVr 0 [0, 1, 7] [2, 3, 4, 5, 6, 8] [6, 7, 0, 1, 2, 3, 4, 8, 5, 9, 10, 11, 12, 13, 14, 15, 16, 17, 18, 19, 20, 21, 22, 23] 25 (wr := [_, _, _, _, _, _]) (w1 := _) (ws' := fun _ => [_, _, _, _, _, _, _, _, _, _, _, _, _, _, _, _, _, _, _, _, _, _, _, _]) (c_X11_freshOdds0 h6) m_X11_191 dX11_best_22 rfl rfl rfl rfl rfl rfl rfl (fun _ => rfl) (by decide) (by decide) (by decide) (by decide) (Nat.le_of_ble_eq_true rfl) (by omega) (by omega) (by omega) rfl (fun z22 k22 n22 hx22 => ?_)
  obtain ⟨oq22, r22, ke22, ta22⟩ := z22
  dsimp only at hx22 ⊢
  skip
  obtain ⟨ka, na⟩ := hx22
  exact w_best (r := r22) (i2 := oiW (fun _ => 0) p (-1)) (show (if p = -1 then (1 : Int32) else 4) = nI 4 by rw [if_neg hpn]; decide) rfl rfl hpn hgs hS hSt hF0 hF (by omega) (plB_nil (pl0_O _ _) (by show 16 ≤ 16384; omega)) rfl ⟨by omega, Or.inl rfl⟩ ⟨by omega, Or.inl rfl⟩ ⟨by omega, 0, by omega⟩ ⟨by omega, Or.inl rfl⟩ ⟨by omega, Or.inl rfl⟩ hri hRs hn (by show _ + (16384 + 16389 + 16389 + 8192 + 16389 + 16389 - (16 + 32 + 32 + 128 / 128 + 32 + 32)) ≤ _; omega) (by show _ + (10 * 16384 + 16 * 16389 + 16 * 16389 + 2 * 1048576 + 32 * 16389 + 32 * 16389 - (10 * 16 + 16 * 32 + 16 * 32 + 2 * 128 + 32 * 32 + 32 * 32)) ≤ _; omega) (fun z PL9 k m h1 h2 h3 h4 => pX.mk (oq22, z, PL9) ⟨h1, h2, by show k + 145 ≤ 15 + ozK z; have e : plN (plC (pl0 ke22 ta22)) = 16 := rfl; unfold odK at h3; rw [e, ka] at h3; generalize ozK z = Z9 at *; clear e hS hSt; omega, by show m + 3488 ≤ 521 + ozS z; have e : plN (plC (pl0 ke22 ta22)) = 16 := rfl; unfold odS at h4; rw [e, na] at h4; generalize ozS z = Z9 at *; clear e hS hSt; omega⟩ rfl rfl)
theorem w_ways {l : Launch} {g : Gh} {q sd la ru so cc b0 al tq num : Nat} {i s li cf ri yf tr : Sc} {af : Nat → Option Nat} {PL : List RuR} {Rl : Nat → RLs} {t0 t1 t2 t5 t7 t8 : Option Nat} {oq : Nat} {r : Nat → Nat} {sb wf ef bf tf pf uf vf us vs : Sc} {Nb Nt Np Nv Ns : Nat} {P : PlS} {i2 : Sc} {rc rs d kk0 nn0 n : Nat} {post : Pst} {px : Pxc} {a : Act} {GK : Int32 → Prop} {v0 w0 t9 : Int32} {F : Nat → Int32 → Int32} {W : Nat → Int32 → Nat → Int32} (hi9 : i2 9 = nI 1) (hi10 : i2 10 = -1) (hi11 : i2 11 = -1) (hgs : gkC GK (ngS s v0)) (hS : SpH GK s li cf yf Rl (-1) 1) (hSt : ∀ i, StH GK s li cf yf Rl (-1) 1 (1 <<< ((w0 * 2 + t9) &&& 31)) (F i) (W i)) (hF0 : ∀ k, F 0 k = 0) (hF : ∀ i k, GK k → F (i + 1) k = moW (W i k) 1) (h60 : s 6 = 0 ∨ s 6 = 1) (hd : 12 ≤ d) (hPB : PlB P) (hK : plK P = []) (hbR : RmO Nb) (hnt : RmO Nt) (hpo : PoO Np) (hvR : RmO Nv) (hsR : RmO Ns) (hri : ri 2 = nI num) (hRs : ∀ Q, SaP PL Q → RsO num yf af Q Rl) (hn : n ≤ 30) (hrc : kk0 + (odKM - odK P Nb Nt Np Nv Ns) ≤ rc) (hrs : nn0 + (odSM - odS P Nb Nt Np Nv Ns) ≤ rs) (K : ∀ (z : OdT) (PL9 : List RuR) (k m : Nat), OdG z → SaP PL PL9 → k + odK P Nb Nt Np Nv Ns ≤ kk0 + ozK z → m + odS P Nb Nt Np Nv Ns ≤ nn0 + ozS z → post (some (.int (F n (sCode (ngS s v0))))) ([(q, ob 11 i [t0, t1, t2, some sd, some tq, t5, some oq, t7, t8, none, none]), (sd, ob 10 (fun _ => 0) (rD la ru so)), (la, ob 0 li (rL cc)), (cc, aI g 192 cf), (ru, ob 6 ri (rQ b0 al)), (b0, aI g 2 yf), (al, aR g 6 af), (so, ob 8 s []), (tq, ob 8 (ngS s v0) []), (oq, ob 2 z.1.2.1 (rO12 z.1.1 (some sd))), ((z.1.1 0), ob 3 (plI z.1.2.2.1) (rPl (plKe z.1.2.2.1) (plTa z.1.2.2.1))), (plKe z.1.2.2.1, aI g (plN z.1.2.2.1) (plKf z.1.2.2.1)), (plTa z.1.2.2.1, aI g (4 * plN z.1.2.2.1) (plTb z.1.2.2.1)), ((z.1.1 1), ob 8 z.1.2.2.2.1 []), ((z.1.1 2), ob 8 z.1.2.2.2.2.1 []), ((z.1.1 3), aI g 48 z.1.2.2.2.2.2.1), ((z.1.1 4), aI g 31 z.1.2.2.2.2.2.2), ((z.1.1 5), aI g z.2.1.1 z.2.1.2), ((z.1.1 6), aI g z.2.2.1.1 z.2.2.1.2), ((z.1.1 7), aI g z.2.2.2.1.1 z.2.2.2.1.2), ((z.1.1 13), aI g z.2.2.2.2.1.1 z.2.2.2.2.1.2.1), ((z.1.1 14), aI g z.2.2.2.2.1.1 z.2.2.2.2.1.2.2), ((z.1.1 15), aI g z.2.2.2.2.2.1 z.2.2.2.2.2.2.1), ((z.1.1 16), aI g z.2.2.2.2.2.1 z.2.2.2.2.2.2.2)] ++ plW g PL9) k m) : WPs l g mtX11_ways d rc rs post px a 23 [some (.ref q), some (.int v0), some (.int w0), some (.int t9), some (.int (nI n)), none, none] [.ref oq] ([(q, ob 11 i [t0, t1, t2, some sd, some tq, t5, some oq, t7, t8, none, none]), (sd, ob 10 (fun _ => 0) (rD la ru so)), (la, ob 0 li (rL cc)), (cc, aI g 192 cf), (ru, ob 6 ri (rQ b0 al)), (b0, aI g 2 yf), (al, aR g 6 af), (so, ob 8 s []), (tq, ob 8 tr []), (oq, ob 2 (upd i2 8 (nI 0)) (rO (rs12 r sd))), ((r 0), ob 3 (plI P) (rPl (plKe P) (plTa P))), (plKe P, aI g (plN P) (plKf P)), (plTa P, aI g (4 * plN P) (plTb P)), ((r 1), ob 8 s []), ((r 2), ob 8 sb []), ((r 3), aI g 48 wf), ((r 4), aI g 31 ef), ((r 5), aI g Nb bf), ((r 6), aI g Nt tf), ((r 7), aI g Np pf), ((r 13), aI g Nv uf), ((r 14), aI g Nv vf), ((r 15), aI g Ns us), ((r 16), aI g Ns vs)] ++ plW g PL) kk0 nn0 := by
  have hPN := hPB.2.1
  have hb9 := hbR.1
  have hn9 := hnt.1
  have hp9 := hpo.1
  have hv9 := hvR.1
  have hs9 := hsR.1
  have hrc : kk0 + (16384 + 16389 + 16389 + 8192 + 16389 + 16389 - (plN P + Nb + Nt + Np / 128 + Nv + Ns)) ≤ rc := hrc
  have hrs : nn0 + (10 * 16384 + 16 * 16389 + 16 * 16389 + 2 * 1048576 + 32 * 16389 + 32 * 16389 - (10 * plN P + 16 * Nb + 16 * Nt + 2 * Np + 32 * Nv + 32 * Ns)) ≤ rs := hrs
  refine q_astore 5 25 (L' := [_, _, _, _, _, _, _]) dX11_ways_23 (by decide) rfl rfl ?_
  refine q_aload 5 27 dX11_ways_25 rfl rfl ?_
  refine q_aload_n 0 28 dX11_ways_27 rfl rfl rfl ?_
  refine q_iload_n 1 29 dX11_ways_28 rfl rfl rfl ?_
  refine q_tcVr 0 [0, 1, 8, 7] [2, 3, 4, 5, 6, 9, 10, 11, 12, 13, 14, 15, 16, 17, 18, 19, 20, 21, 22, 23] [20, 21, 0, 1, 2, 3, 4, 23, 22, 5, 6, 7, 8, 9, 10, 11, 12, 13, 14, 15, 16, 17, 18, 19] 32 (wr := [_, _, _, _, _, _, _, _, _, _, _, _, _, _, _, _, _, _, _, _]) (w1 := _) (ws' := [_, _, _, _, _, _, _, _, _, _, _, _, _, _, _, _, _, _, _, _, _, _, _, _]) (c_X11_newGame h60) m_X11_230 dX11_ways_29 rfl rfl rfl rfl rfl rfl rfl rfl (by decide) (by decide) (by decide) (by decide) (Nat.le_of_ble_eq_true rfl) (by omega) (by omega) (by omega) rfl ?_
  refine q_tyVi 9 [9, 10, 11, 12, 8] [0, 1, 2, 3, 4, 5, 6, 7, 13, 14, 15, 16, 17, 18, 19, 20, 21, 22, 23] [0, 1, 2, 3, 4, 5, 6, 7, 23, 19, 20, 21, 22, 8, 9, 10, 11, 12, 13, 14, 15, 16, 17, 18] 35 (wr := [_, _, _, _, _, _, _, _, _, _, _, _, _, _, _, _, _, _, _]) (w1 := _) (ws' := fun _ => [_, _, _, _, _, _, _, _, _, _, _, _, _, _, _, _, _, _, _, _, _, _, _, _]) (c_X2_placeOf (r := (rs12 r sd)) (i := upd i2 8 (nI 0)) hPB hgs.2) m_X11_195 dX11_ways_32 rfl rfl rfl rfl rfl rfl rfl (fun _ => rfl) (by decide) (by decide) (by decide) (by decide) (Nat.le_of_ble_eq_true rfl) (by omega) (by omega) (by omega) rfl (fun P32 k32 n32 hx32 => ?_)
  refine q_istore 6 37 (L' := [_, _, _, _, _, _, _]) dX11_ways_35 (by decide) rfl rfl ?_
  skip
  obtain ⟨hP2, hK2, hk2, hn2⟩ := hx32
  rw [hK] at hK2 ⊢
  rw [kPut_nil] at hK2
  have hP2N := hP2.2.1
  rw [show 4 + ([] : List Int32).idxOf (sCode (ngS s v0)) = 4 from rfl]
  refine q_aload 5 39 dX11_ways_37 rfl rfl ?_
  refine q_iload 4 41 dX11_ways_39 rfl rfl ?_
  refine q_uyVv 9 [9, 10, 11, 12, 13, 14, 15, 17, 18, 19, 1, 2, 3, 4, 5, 6, 16] [0, 7, 8, 20, 21, 22, 23] [0, 17, 18, 19, 20, 21, 22, 1, 2, 7, 8, 9, 10, 11, 12, 13, 23, 14, 15, 16, 3, 4, 5, 6] 44 (wr := [_, _, _, _, _, _, _]) (w1 := _) (ws' := fun _ => [_, _, _, _, _, _, _, _, _, _, _, _, _, _, _, _, _, _, _, _, _, _, _, _]) (c_X2_spreadAll (r := (rs12 r sd)) (a5 := r 5) (a6 := r 6) (a7 := r 7) (s0 := s) (Rl := Rl) (GK := GK) (num := num) hi9 (Or.inl ⟨hi10, rfl⟩) hn hP2 (fun k hk => by rw [hK2] at hk; rw [List.mem_singleton.mp hk]; exact hgs.1) hbR hnt hpo hri hRs ⟨rfl, rfl, rfl, rfl⟩ (by rw [hi10]; exact hS) (fun h => absurd hi11 h)) m_X11_201 dX11_ways_41 rfl rfl rfl rfl rfl rfl rfl (fun _ => rfl) (by decide) (by decide) (by decide) (by decide) (Nat.le_of_ble_eq_true rfl) (by omega) (by omega) (by omega) rfl (fun z41 k41 n41 hx41 => ?_)
  obtain ⟨⟨⟨a541, Nb41, bf41⟩, ⟨a641, Nt41, tf41⟩, ⟨a741, Np41, pf41⟩⟩, P41, u41, ⟨sf41, sb41, wf41, ef41⟩, PL41⟩ := z41
  dsimp only at hx41 ⊢
  skip
  obtain ⟨hz, hz2, hz3⟩ := hx41
  rw [hi10, hi11] at hz
  obtain ⟨U, um, hU, hum, hrun⟩ := od_run hz
  have hz1 := hz
  obtain ⟨⟨hPB3, _, _⟩, ⟨hb3, _⟩, ⟨ht3, _⟩, ⟨hp3, _⟩, _, hsp, _⟩ := hz1
  dsimp only at hPB3 hb3 ht3 hp3 hsp hz2 hz3 hU hum
  have hP3N := hPB3.2.1
  obtain ⟨mm, hmm, hNm⟩ := hPB3.1.2.2.2
  have hKN := hPB3.1.2.1.1
  have hb39 := hb3.1
  have ht39 := ht3.1
  have hp39 := hp3.1
  have hw1 := (rw_max hvR hP3N).1
  have hw2 := rw_maxS hvR hNm hP3N
  obtain ⟨E, hE, hval⟩ := hrun (1 <<< ((w0 * 2 + t9) &&& 31)) F W hSt hF0 hF
  dsimp only at hE hval
  have h11 : upd i2 8 (nI u41) 11 = -1 := by rw [pk_un (by decide)]; exact hi11
  have h9 : upd i2 8 (nI u41) 9 = nI 1 := by rw [pk_un (by decide)]; exact hi9
  refine q_aload 5 46 dX11_ways_44 rfl rfl ?_
  refine q_iload 4 48 dX11_ways_46 rfl rfl ?_
  refine q_iconst 1 49 dX11_ways_48 ic_1 rfl ?_
  refine q_iload_n 2 50 dX11_ways_49 rfl rfl rfl ?_
  refine q_iconst 2 51 dX11_ways_50 ic_2 rfl ?_
  refine q_imul 52 dX11_ways_51 rfl ?_
  refine q_iload_n 3 53 dX11_ways_52 rfl rfl rfl ?_
  refine q_iadd 54 dX11_ways_53 rfl ?_
  refine q_ishl 55 dX11_ways_54 rfl ?_
  refine q_tyVv 9 [9, 10, 11, 20, 21, 17, 19, 16] [0, 1, 2, 3, 4, 5, 6, 7, 8, 12, 13, 14, 15, 18, 22, 23] [0, 1, 2, 3, 4, 5, 6, 7, 8, 16, 17, 18, 9, 10, 11, 12, 23, 21, 13, 22, 19, 20, 14, 15] 58 (wr := [_, _, _, _, _, _, _, _, _, _, _, _, _, _, _, _]) (w1 := _) (ws' := fun _ => [_, _, _, _, _, _, _, _, _, _, _, _, _, _, _, _, _, _, _, _, _, _, _, _]) (c_X2_weighAll0 (r := rs567 (rs12 r sd) a541 a641 a741) (sz := (plK P41).length) (E := E) (U := U) (um := um) h11 h9 (by decide) (by omega) (by omega) (by omega) (by omega) hPB3.1.1 hKN hn hU hum hE) m_X11_207 dX11_ways_55 rfl rfl rfl rfl rfl rfl rfl (fun _ => rfl) (by decide) (by decide) (by decide) (by decide) (Nat.le_of_ble_eq_true rfl) (by omega) (by omega) (by omega) rfl (fun z55 k55 n55 hx55 => ?_)
  obtain ⟨a55, b55, m55, uf55, vf55⟩ := z55
  dsimp only at hx55 ⊢
  skip
  obtain ⟨hro, u1, v1, huv⟩ := hx55
  obtain ⟨q1, q2, q3, q4, q5, _⟩ := rw_pot hvR hNm hP3N hro
  have hq9 := q1.1
  have hv4 := (hval u1 v1 0 (by rw [hK2]; exact Nat.succ_pos 0)).1
  rw [← huv, hK2] at hv4
  have hv4 : vf55 4 = F n (sCode (ngS s v0)) := hv4
  have k2 := fun k m h1 h2 => K ((rs2 (rs567 (rs12 r sd) a541 a641 a741) a55 b55, upd i2 8 (nI u41), P41, sf41, sb41, wf41, ef41), (Nb41, bf41), (Nt41, tf41), (Np41, pf41), (m55, uf55, vf55), (Ns, us, vs)) PL41 k m ⟨hPB3.1, hP3N, hb3, ht3, hp3, q1, hsR⟩ hsp h1 h2
  clear K
  refine q_aload 5 60 dX11_ways_58 rfl rfl ?_
  refine q_iload 6 62 dX11_ways_60 rfl rfl ?_
  refine q_tcVi 9 [9, 21] [0, 1, 2, 3, 4, 5, 6, 7, 8, 10, 11, 12, 13, 14, 15, 16, 17, 18, 19, 20, 22, 23] [0, 1, 2, 3, 4, 5, 6, 7, 8, 22, 9, 10, 11, 12, 13, 14, 15, 16, 17, 18, 19, 23, 20, 21] 65 (wr := [_, _, _, _, _, _, _, _, _, _, _, _, _, _, _, _, _, _, _, _, _, _]) (w1 := _) (ws' := [_, _, _, _, _, _, _, _, _, _, _, _, _, _, _, _, _, _, _, _, _, _, _, _]) (c_X2_valueAt (r := rs2 (rs567 (rs12 r sd) a541 a641 a741) a55 b55) (z := 4) (by omega) (by omega)) m_X11_210 dX11_ways_62 rfl rfl rfl rfl rfl rfl rfl rfl (by decide) (by decide) (by decide) (by decide) (Nat.le_of_ble_eq_true rfl) (by omega) (by omega) (by omega) rfl ?_
  rw [hv4]
  refine q_ireturn dX11_ways_65 rfl ?_
  refine k2 _ _ ?_ ?_
  · show _ + (plN P + Nb + Nt + Np / 128 + Nv + Ns) ≤ kk0 + (plN P41 + Nb41 + Nt41 + Np41 / 128 + m55 + Ns)
    omega
  · show _ + (10 * plN P + 16 * Nb + 16 * Nt + 2 * Np + 32 * Nv + 32 * Ns) ≤ nn0 + (10 * plN P41 + 16 * Nb41 + 16 * Nt41 + 2 * Np41 + 32 * m55 + 32 * Ns)
    omega
theorem c_X11_ways1 {l : Launch} {g : Gh} {q sd la ru so cc b0 al tq num : Nat} {i s li cf ri yf tr : Sc} {af : Nat → Option Nat} {PL : List RuR} {Rl : Nat → RLs} {t0 t1 t2 t5 t7 t8 : Option Nat} {oq : Nat} {r : Nat → Nat} {oi sf sb wf ef bf tf pf uf vf us vs : Sc} {Nb Nt Np Nv Ns : Nat} {P : PlS} {n : Nat} {GK : Int32 → Prop} {v0 w0 t9 : Int32} {F : Nat → Int32 → Int32} {W : Nat → Int32 → Nat → Int32} (hgs : gkC GK (ngS s v0)) (hS : SpH GK s li cf yf Rl (-1) 1) (hSt : ∀ i, StH GK s li cf yf Rl (-1) 1 (1 <<< ((w0 * 2 + t9) &&& 31)) (F i) (W i)) (hF0 : ∀ k, F 0 k = 0) (hF : ∀ i k, GK k → F (i + 1) k = moW (W i k) 1) (h60 : s 6 = 0 ∨ s 6 = 1) (hp1 : v0 = 0 ∨ v0 = 1) (hp2 : w0 = 0 ∨ w0 = 1) (hp3 : t9 = 0 ∨ t9 = 1) (h6 : s 6 = 0 ∨ s 6 = 1) (hO : OdR P Nb Nt Np Nv Ns) (hri : ri 2 = nI num) (hRs : ∀ Q, SaP PL Q → RsO num yf af Q Rl) (hn : n ≤ 30) : Cn l g yX11_ways (Cond.code yX11_ways cX11_ways 7 (some .int)) 13 ((odKM - odK P Nb Nt Np Nv Ns)) ((odSM - odS P Nb Nt Np Nv Ns)) [.ref q, .int v0, .int w0, .int t9, .int (nI n)] ([(q, ob 11 i [t0, t1, t2, some sd, some tq, t5, some oq, t7, t8, none, none]), (sd, ob 10 (fun _ => 0) (rD la ru so)), (la, ob 0 li (rL cc)), (cc, aI g 192 cf), (ru, ob 6 ri (rQ b0 al)), (b0, aI g 2 yf), (al, aR g 6 af), (so, ob 8 s []), (tq, ob 8 tr []), (oq, ob 2 oi (rO12 r (some sd))), ((r 0), ob 3 (plI P) (rPl (plKe P) (plTa P))), (plKe P, aI g (plN P) (plKf P)), (plTa P, aI g (4 * plN P) (plTb P)), ((r 1), ob 8 sf []), ((r 2), ob 8 sb []), ((r 3), aI g 48 wf), ((r 4), aI g 31 ef), ((r 5), aI g Nb bf), ((r 6), aI g Nt tf), ((r 7), aI g Np pf), ((r 13), aI g Nv uf), ((r 14), aI g Nv vf), ((r 15), aI g Ns us), ((r 16), aI g Ns vs)] ++ plW g PL) (fun z : OdT × List RuR => some (.int (F n (sCode (ngS s v0))))) (fun z : OdT × List RuR => ([(q, ob 11 i [t0, t1, t2, some sd, some tq, t5, some oq, t7, t8, none, none]), (sd, ob 10 (fun _ => 0) (rD la ru so)), (la, ob 0 li (rL cc)), (cc, aI g 192 cf), (ru, ob 6 ri (rQ b0 al)), (b0, aI g 2 yf), (al, aR g 6 af), (so, ob 8 s []), (tq, ob 8 (ngS s v0) []), (oq, ob 2 z.1.1.2.1 (rO12 z.1.1.1 (some sd))), ((z.1.1.1 0), ob 3 (plI z.1.1.2.2.1) (rPl (plKe z.1.1.2.2.1) (plTa z.1.1.2.2.1))), (plKe z.1.1.2.2.1, aI g (plN z.1.1.2.2.1) (plKf z.1.1.2.2.1)), (plTa z.1.1.2.2.1, aI g (4 * plN z.1.1.2.2.1) (plTb z.1.1.2.2.1)), ((z.1.1.1 1), ob 8 z.1.1.2.2.2.1 []), ((z.1.1.1 2), ob 8 z.1.1.2.2.2.2.1 []), ((z.1.1.1 3), aI g 48 z.1.1.2.2.2.2.2.1), ((z.1.1.1 4), aI g 31 z.1.1.2.2.2.2.2.2), ((z.1.1.1 5), aI g z.1.2.1.1 z.1.2.1.2), ((z.1.1.1 6), aI g z.1.2.2.1.1 z.1.2.2.1.2), ((z.1.1.1 7), aI g z.1.2.2.2.1.1 z.1.2.2.2.1.2), ((z.1.1.1 13), aI g z.1.2.2.2.2.1.1 z.1.2.2.2.2.1.2.1), ((z.1.1.1 14), aI g z.1.2.2.2.2.1.1 z.1.2.2.2.2.1.2.2), ((z.1.1.1 15), aI g z.1.2.2.2.2.2.1 z.1.2.2.2.2.2.2.1), ((z.1.1.1 16), aI g z.1.2.2.2.2.2.1 z.1.2.2.2.2.2.2.2)] ++ plW g z.2)) (fun z k m => OdG z.1 ∧ SaP PL z.2 ∧ k + odK P Nb Nt Np Nv Ns ≤ ozK z.1 ∧ m + odS P Nb Nt Np Nv Ns ≤ ozS z.1) := by
  refine ct_of (M := mtX11_ways) [some (.ref q), some (.int v0), some (.int w0), some (.int t9), some (.int (nI n)), none, none] rfl (by decide) (Nat.le_of_ble_eq_true rfl) (fun _ h => h) (fun a => ?_)
  obtain ⟨o1, o2, o3, o4, o5, o6, o7⟩ := hO
  have g3 := nI_nn (a := n) (by omega)
  have g4 : nI n ≤ (30 : Int32) := by rw [show (30 : Int32) = nI 30 by decide]; exact nI_le hn (by decide)
  refine q_iload_n 1 1 dX11_ways_0 rfl rfl rfl ?_
  refine q_tcSv [] [0, 1, 2, 3, 4, 5, 6, 7, 8, 9, 10, 11, 12, 13, 14, 15, 16, 17, 18, 19, 20, 21, 22, 23] [0, 1, 2, 3, 4, 5, 6, 7, 8, 9, 10, 11, 12, 13, 14, 15, 16, 17, 18, 19, 20, 21, 22, 23] 4 (wr := [_, _, _, _, _, _, _, _, _, _, _, _, _, _, _, _, _, _, _, _, _, _, _, _]) (w1 := _) (ws' := [_, _, _, _, _, _, _, _, _, _, _, _, _, _, _, _, _, _, _, _, _, _, _, _]) (c_X11_needPlayer hp1) m_X11_130 dX11_ways_1 rfl rfl rfl rfl rfl (by decide) (by decide) (by decide) (by decide) (Nat.le_of_ble_eq_true rfl) (by omega) (by omega) (by omega) rfl ?_
  refine q_iload_n 2 5 dX11_ways_4 rfl rfl rfl ?_
  refine q_tcSv [] [0, 1, 2, 3, 4, 5, 6, 7, 8, 9, 10, 11, 12, 13, 14, 15, 16, 17, 18, 19, 20, 21, 22, 23] [0, 1, 2, 3, 4, 5, 6, 7, 8, 9, 10, 11, 12, 13, 14, 15, 16, 17, 18, 19, 20, 21, 22, 23] 8 (wr := [_, _, _, _, _, _, _, _, _, _, _, _, _, _, _, _, _, _, _, _, _, _, _, _]) (w1 := _) (ws' := [_, _, _, _, _, _, _, _, _, _, _, _, _, _, _, _, _, _, _, _, _, _, _, _]) (c_X11_needPlayer hp2) m_X11_130 dX11_ways_5 rfl rfl rfl rfl rfl (by decide) (by decide) (by decide) (by decide) (Nat.le_of_ble_eq_true rfl) (by omega) (by omega) (by omega) rfl ?_
  refine q_iload_n 3 9 dX11_ways_8 rfl rfl rfl ?_
  refine q_tcSv [] [0, 1, 2, 3, 4, 5, 6, 7, 8, 9, 10, 11, 12, 13, 14, 15, 16, 17, 18, 19, 20, 21, 22, 23] [0, 1, 2, 3, 4, 5, 6, 7, 8, 9, 10, 11, 12, 13, 14, 15, 16, 17, 18, 19, 20, 21, 22, 23] 12 (wr := [_, _, _, _, _, _, _, _, _, _, _, _, _, _, _, _, _, _, _, _, _, _, _, _]) (w1 := _) (ws' := [_, _, _, _, _, _, _, _, _, _, _, _, _, _, _, _, _, _, _, _, _, _, _, _]) (c_X11_needPlayer hp3) m_X11_130 dX11_ways_9 rfl rfl rfl rfl rfl (by decide) (by decide) (by decide) (by decide) (Nat.le_of_ble_eq_true rfl) (by omega) (by omega) (by omega) rfl ?_
  refine q_iload 4 14 dX11_ways_12 rfl rfl ?_
  refine q_tcSv [] [0, 1, 2, 3, 4, 5, 6, 7, 8, 9, 10, 11, 12, 13, 14, 15, 16, 17, 18, 19, 20, 21, 22, 23] [0, 1, 2, 3, 4, 5, 6, 7, 8, 9, 10, 11, 12, 13, 14, 15, 16, 17, 18, 19, 20, 21, 22, 23] 17 (wr := [_, _, _, _, _, _, _, _, _, _, _, _, _, _, _, _, _, _, _, _, _, _, _, _]) (w1 := _) (ws' := [_, _, _, _, _, _, _, _, _, _, _, _, _, _, _, _, _, _, _, _, _, _, _, _]) (c_X11_needRallies g3 g4) m_X11_188 dX11_ways_14 rfl rfl rfl rfl rfl (by decide) (by decide) (by decide) (by decide) (Nat.le_of_ble_eq_true rfl) (by omega) (by omega) (by omega) rfl ?_
  refine q_aload_n 0 18 dX11_ways_17 rfl rfl rfl ?_
  refine q_iconst (-1) 19 dX11_ways_18 ic_m1 rfl ?_
  refine q_iconst (-1) 20 dX11_ways_19 ic_m1 rfl ?_
  refine q_tcVr 0 [0, 1, 7, 9, 10, 11, 12, 13, 14, 15, 16, 17, 18, 19, 20, 21, 22, 23] [2, 3, 4, 5, 6, 8] [6, 7, 0, 1, 2, 3, 4, 8, 5, 9, 10, 11, 12, 13, 14, 15, 16, 17, 18, 19, 20, 21, 22, 23] 23 (wr := [_, _, _, _, _, _]) (w1 := _) (ws' := [_, _, _, _, _, _, _, _, _, _, _, _, _, _, _, _, _, _, _, _, _, _, _, _]) (c_X11_freshOdds1 o1 h6) m_X11_191 dX11_ways_20 rfl rfl rfl rfl rfl rfl rfl rfl (by decide) (by decide) (by decide) (by decide) (Nat.le_of_ble_eq_true rfl) (by omega) (by omega) (by omega) rfl ?_
  skip
  exact w_ways (r := r) (i2 := oiW oi (-1) (-1)) (show (if (-1 : Int32) = -1 then (1 : Int32) else 4) = nI 1 by decide) rfl rfl hgs hS hSt hF0 hF h60 (by omega) (plB_nil o1 o2) rfl o3 o4 o5 o6 o7 hri hRs hn (by rw [Nat.zero_add]; exact Nat.le_refl _) (by rw [Nat.zero_add]; exact Nat.le_refl _) (fun z PL9 k m h1 h2 h3 h4 => pX.mk (z, PL9) ⟨h1, h2, by rw [Nat.zero_add] at h3; exact h3, by rw [Nat.zero_add] at h4; exact h4⟩ rfl rfl)
theorem c_X11_ways0 {l : Launch} {g : Gh} {q sd la ru so cc b0 al tq num : Nat} {i s li cf ri yf tr : Sc} {af : Nat → Option Nat} {PL : List RuR} {Rl : Nat → RLs} {t0 t1 t2 t5 t7 t8 : Option Nat} {n : Nat} {GK : Int32 → Prop} {v0 w0 t9 : Int32} {F : Nat → Int32 → Int32} {W : Nat → Int32 → Nat → Int32} (hgs : gkC GK (ngS s v0)) (hS : SpH GK s li cf yf Rl (-1) 1) (hSt : ∀ i, StH GK s li cf yf Rl (-1) 1 (1 <<< ((w0 * 2 + t9) &&& 31)) (F i) (W i)) (hF0 : ∀ k, F 0 k = 0) (hF : ∀ i k, GK k → F (i + 1) k = moW (W i k) 1) (h60 : s 6 = 0 ∨ s 6 = 1) (hp1 : v0 = 0 ∨ v0 = 1) (hp2 : w0 = 0 ∨ w0 = 1) (hp3 : t9 = 0 ∨ t9 = 1) (h6 : s 6 = 0 ∨ s 6 = 1) (hri : ri 2 = nI num) (hRs : ∀ Q, SaP PL Q → RsO num yf af Q Rl) (hn : n ≤ 30) : Cn l g yX11_ways (Cond.code yX11_ways cX11_ways 7 (some .int)) 13 (15 + 89987) (521 + 3830848) [.ref q, .int v0, .int w0, .int t9, .int (nI n)] ([(q, ob 11 i [t0, t1, t2, some sd, some tq, t5, none, t7, t8, none, none]), (sd, ob 10 (fun _ => 0) (rD la ru so)), (la, ob 0 li (rL cc)), (cc, aI g 192 cf), (ru, ob 6 ri (rQ b0 al)), (b0, aI g 2 yf), (al, aR g 6 af), (so, ob 8 s []), (tq, ob 8 tr [])] ++ plW g PL) (fun z : Nat × OdT × List RuR => some (.int (F n (sCode (ngS s v0))))) (fun z : Nat × OdT × List RuR => ([(q, ob 11 i [t0, t1, t2, some sd, some tq, t5, some z.1, t7, t8, none, none]), (sd, ob 10 (fun _ => 0) (rD la ru so)), (la, ob 0 li (rL cc)), (cc, aI g 192 cf), (ru, ob 6 ri (rQ b0 al)), (b0, aI g 2 yf), (al, aR g 6 af), (so, ob 8 s []), (tq, ob 8 (ngS s v0) []), (z.1, ob 2 z.2.1.1.2.1 (rO12 z.2.1.1.1 (some sd))), ((z.2.1.1.1 0), ob 3 (plI z.2.1.1.2.2.1) (rPl (plKe z.2.1.1.2.2.1) (plTa z.2.1.1.2.2.1))), (plKe z.2.1.1.2.2.1, aI g (plN z.2.1.1.2.2.1) (plKf z.2.1.1.2.2.1)), (plTa z.2.1.1.2.2.1, aI g (4 * plN z.2.1.1.2.2.1) (plTb z.2.1.1.2.2.1)), ((z.2.1.1.1 1), ob 8 z.2.1.1.2.2.2.1 []), ((z.2.1.1.1 2), ob 8 z.2.1.1.2.2.2.2.1 []), ((z.2.1.1.1 3), aI g 48 z.2.1.1.2.2.2.2.2.1), ((z.2.1.1.1 4), aI g 31 z.2.1.1.2.2.2.2.2.2), ((z.2.1.1.1 5), aI g z.2.1.2.1.1 z.2.1.2.1.2), ((z.2.1.1.1 6), aI g z.2.1.2.2.1.1 z.2.1.2.2.1.2), ((z.2.1.1.1 7), aI g z.2.1.2.2.2.1.1 z.2.1.2.2.2.1.2), ((z.2.1.1.1 13), aI g z.2.1.2.2.2.2.1.1 z.2.1.2.2.2.2.1.2.1), ((z.2.1.1.1 14), aI g z.2.1.2.2.2.2.1.1 z.2.1.2.2.2.2.1.2.2), ((z.2.1.1.1 15), aI g z.2.1.2.2.2.2.2.1 z.2.1.2.2.2.2.2.2.1), ((z.2.1.1.1 16), aI g z.2.1.2.2.2.2.2.1 z.2.1.2.2.2.2.2.2.2)] ++ plW g z.2.2)) (fun z k m => OdG z.2.1 ∧ SaP PL z.2.2 ∧ k + 145 ≤ 15 + ozK z.2.1 ∧ m + 3488 ≤ 521 + ozS z.2.1) := by
  refine ct_of (M := mtX11_ways) [some (.ref q), some (.int v0), some (.int w0), some (.int t9), some (.int (nI n)), none, none] rfl (by decide) (Nat.le_of_ble_eq_true rfl) (fun _ h => h) (fun a => ?_)
  have g3 := nI_nn (a := n) (by omega)
  have g4 : nI n ≤ (30 : Int32) := by rw [show (30 : Int32) = nI 30 by decide]; exact nI_le hn (by decide)
  refine q_iload_n 1 1 dX11_ways_0 rfl rfl rfl ?_
  refine q_tcSv [] [0, 1, 2, 3, 4, 5, 6, 7, 8] [0, 1, 2, 3, 4, 5, 6, 7, 8] 4 (wr := [_, _, _, _, _, _, _, _, _]) (w1 := _) (ws' := [_, _, _, _, _, _, _, _, _]) (c_X11_needPlayer hp1) m_X11_130 dX11_ways_1 rfl rfl rfl rfl rfl (by decide) (by decide) (by decide) (by decide) (Nat.le_of_ble_eq_true rfl) (by omega) (by omega) (by omega) rfl ?_
  refine q_iload_n 2 5 dX11_ways_4 rfl rfl rfl ?_
  refine q_tcSv [] [0, 1, 2, 3, 4, 5, 6, 7, 8] [0, 1, 2, 3, 4, 5, 6, 7, 8] 8 (wr := [_, _, _, _, _, _, _, _, _]) (w1 := _) (ws' := [_, _, _, _, _, _, _, _, _]) (c_X11_needPlayer hp2) m_X11_130 dX11_ways_5 rfl rfl rfl rfl rfl (by decide) (by decide) (by decide) (by decide) (Nat.le_of_ble_eq_true rfl) (by omega) (by omega) (by omega) rfl ?_
  refine q_iload_n 3 9 dX11_ways_8 rfl rfl rfl ?_
  refine q_tcSv [] [0, 1, 2, 3, 4, 5, 6, 7, 8] [0, 1, 2, 3, 4, 5, 6, 7, 8] 12 (wr := [_, _, _, _, _, _, _, _, _]) (w1 := _) (ws' := [_, _, _, _, _, _, _, _, _]) (c_X11_needPlayer hp3) m_X11_130 dX11_ways_9 rfl rfl rfl rfl rfl (by decide) (by decide) (by decide) (by decide) (Nat.le_of_ble_eq_true rfl) (by omega) (by omega) (by omega) rfl ?_
  refine q_iload 4 14 dX11_ways_12 rfl rfl ?_
  refine q_tcSv [] [0, 1, 2, 3, 4, 5, 6, 7, 8] [0, 1, 2, 3, 4, 5, 6, 7, 8] 17 (wr := [_, _, _, _, _, _, _, _, _]) (w1 := _) (ws' := [_, _, _, _, _, _, _, _, _]) (c_X11_needRallies g3 g4) m_X11_188 dX11_ways_14 rfl rfl rfl rfl rfl (by decide) (by decide) (by decide) (by decide) (Nat.le_of_ble_eq_true rfl) (by omega) (by omega) (by omega) rfl ?_
  refine q_aload_n 0 18 dX11_ways_17 rfl rfl rfl ?_
  refine q_iconst (-1) 19 dX11_ways_18 ic_m1 rfl ?_
  refine q_iconst (-1) 20 dX11_ways_19 ic_m1 rfl ?_
  refine q_tyVr 0 [0, 1, 7] [2, 3, 4, 5, 6, 8] [6, 7, 0, 1, 2, 3, 4, 8, 5, 9, 10, 11, 12, 13, 14, 15, 16, 17, 18, 19, 20, 21, 22, 23] 23 (wr := [_, _, _, _, _, _]) (w1 := _) (ws' := fun _ => [_, _, _, _, _, _, _, _, _, _, _, _, _, _, _, _, _, _, _, _, _, _, _, _]) (c_X11_freshOdds0 h6) m_X11_191 dX11_ways_20 rfl rfl rfl rfl rfl rfl rfl (fun _ => rfl) (by decide) (by decide) (by decide) (by decide) (Nat.le_of_ble_eq_true rfl) (by omega) (by omega) (by omega) rfl (fun z20 k20 n20 hx20 => ?_)
  obtain ⟨oq20, r20, ke20, ta20⟩ := z20
  dsimp only at hx20 ⊢
  skip
  obtain ⟨ka, na⟩ := hx20
  exact w_ways (r := r20) (i2 := oiW (fun _ => 0) (-1) (-1)) (show (if (-1 : Int32) = -1 then (1 : Int32) else 4) = nI 1 by decide) rfl rfl hgs hS hSt hF0 hF h60 (by omega) (plB_nil (pl0_O _ _) (by show 16 ≤ 16384; omega)) rfl ⟨by omega, Or.inl rfl⟩ ⟨by omega, Or.inl rfl⟩ ⟨by omega, 0, by omega⟩ ⟨by omega, Or.inl rfl⟩ ⟨by omega, Or.inl rfl⟩ hri hRs hn (by show _ + (16384 + 16389 + 16389 + 8192 + 16389 + 16389 - (16 + 32 + 32 + 128 / 128 + 32 + 32)) ≤ _; omega) (by show _ + (10 * 16384 + 16 * 16389 + 16 * 16389 + 2 * 1048576 + 32 * 16389 + 32 * 16389 - (10 * 16 + 16 * 32 + 16 * 32 + 2 * 128 + 32 * 32 + 32 * 32)) ≤ _; omega) (fun z PL9 k m h1 h2 h3 h4 => pX.mk (oq20, z, PL9) ⟨h1, h2, by show k + 145 ≤ 15 + ozK z; have e : plN (plC (pl0 ke20 ta20)) = 16 := rfl; unfold odK at h3; rw [e, ka] at h3; generalize ozK z = Z9 at *; clear e hS hSt; omega, by show m + 3488 ≤ 521 + ozS z; have e : plN (plC (pl0 ke20 ta20)) = 16 := rfl; unfold odS at h4; rw [e, na] at h4; generalize ozS z = Z9 at *; clear e hS hSt; omega⟩ rfl rfl)
theorem w_worth {l : Launch} {g : Gh} {q sd la ru so cc b0 al tq num : Nat} {i s li cf ri yf tr : Sc} {af : Nat → Option Nat} {PL : List RuR} {Rl : Nat → RLs} {t0 t1 t2 t5 t7 t8 : Option Nat} {oq : Nat} {r : Nat → Nat} {sb wf ef bf tf pf uf vf us vs : Sc} {Nb Nt Np Nv Ns : Nat} {P : PlS} {i2 : Sc} {rc rs d kk0 nn0 n : Nat} {post : Pst} {px : Pxc} {a : Act} {GK : Int32 → Prop} {p ln : Int32} {F : Nat → Int32 → Int32} {W : Nat → Int32 → Nat → Int32} (hi9 : i2 9 = nI 1) (hi10 : i2 10 = -1) (hi11 : i2 11 = -1) (hgs : gkC GK s) (hgt : gkC GK (sStrike s li 2 ln)) (hS : SpH GK s li cf yf Rl (-1) 1) (hSt : ∀ i, StH GK s li cf yf Rl (-1) 1 (wyC p) (F i) (W i)) (hF0 : ∀ k, F 0 k = 0) (hF : ∀ i k, GK k → F (i + 1) k = moW (W i k) 1) (hd : 12 ≤ d) (hPB : PlB P) (hK : plK P = []) (hbR : RmO Nb) (hnt : RmO Nt) (hpo : PoO Np) (hvR : RmO Nv) (hsR : RmO Ns) (hri : ri 2 = nI num) (hRs : ∀ Q, SaP PL Q → RsO num yf af Q Rl) (hn : n ≤ 30) (hrc : kk0 + (odKM - odK P Nb Nt Np Nv Ns) ≤ rc) (hrs : nn0 + (odSM - odS P Nb Nt Np Nv Ns) ≤ rs) (K : ∀ (z : OdT) (PL9 : List RuR) (k m : Nat), OdG z → SaP PL PL9 → k + odK P Nb Nt Np Nv Ns ≤ kk0 + ozK z → m + odS P Nb Nt Np Nv Ns ≤ nn0 + ozS z → post (some (.int (F n (sCode (sStrike s li 2 ln)) - F n (sCode s)))) ([(q, ob 11 i [t0, t1, t2, some sd, some tq, t5, some oq, t7, t8, none, none]), (sd, ob 10 (fun _ => 0) (rD la ru so)), (la, ob 0 li (rL cc)), (cc, aI g 192 cf), (ru, ob 6 ri (rQ b0 al)), (b0, aI g 2 yf), (al, aR g 6 af), (so, ob 8 s []), (tq, ob 8 (sStrike s li 2 ln) []), (oq, ob 2 z.1.2.1 (rO12 z.1.1 (some sd))), ((z.1.1 0), ob 3 (plI z.1.2.2.1) (rPl (plKe z.1.2.2.1) (plTa z.1.2.2.1))), (plKe z.1.2.2.1, aI g (plN z.1.2.2.1) (plKf z.1.2.2.1)), (plTa z.1.2.2.1, aI g (4 * plN z.1.2.2.1) (plTb z.1.2.2.1)), ((z.1.1 1), ob 8 z.1.2.2.2.1 []), ((z.1.1 2), ob 8 z.1.2.2.2.2.1 []), ((z.1.1 3), aI g 48 z.1.2.2.2.2.2.1), ((z.1.1 4), aI g 31 z.1.2.2.2.2.2.2), ((z.1.1 5), aI g z.2.1.1 z.2.1.2), ((z.1.1 6), aI g z.2.2.1.1 z.2.2.1.2), ((z.1.1 7), aI g z.2.2.2.1.1 z.2.2.2.1.2), ((z.1.1 13), aI g z.2.2.2.2.1.1 z.2.2.2.2.1.2.1), ((z.1.1 14), aI g z.2.2.2.2.1.1 z.2.2.2.2.1.2.2), ((z.1.1 15), aI g z.2.2.2.2.2.1 z.2.2.2.2.2.2.1), ((z.1.1 16), aI g z.2.2.2.2.2.1 z.2.2.2.2.2.2.2)] ++ plW g PL9) k m) : WPs l g mtX11_worth d rc rs post px a 76 [some (.ref q), some (.int p), some (.int ln), some (.int (nI n)), none, none, none] [.ref oq] ([(q, ob 11 i [t0, t1, t2, some sd, some tq, t5, some oq, t7, t8, none, none]), (sd, ob 10 (fun _ => 0) (rD la ru so)), (la, ob 0 li (rL cc)), (cc, aI g 192 cf), (ru, ob 6 ri (rQ b0 al)), (b0, aI g 2 yf), (al, aR g 6 af), (so, ob 8 s []), (tq, ob 8 (sStrike s li 2 ln) []), (oq, ob 2 (upd i2 8 (nI 0)) (rO (rs12 r sd))), ((r 0), ob 3 (plI P) (rPl (plKe P) (plTa P))), (plKe P, aI g (plN P) (plKf P)), (plTa P, aI g (4 * plN P) (plTb P)), ((r 1), ob 8 s []), ((r 2), ob 8 sb []), ((r 3), aI g 48 wf), ((r 4), aI g 31 ef), ((r 5), aI g Nb bf), ((r 6), aI g Nt tf), ((r 7), aI g Np pf), ((r 13), aI g Nv uf), ((r 14), aI g Nv vf), ((r 15), aI g Ns us), ((r 16), aI g Ns vs)] ++ plW g PL) kk0 nn0 := by
  have hPN := hPB.2.1
  have hb9 := hbR.1
  have hn9 := hnt.1
  have hp9 := hpo.1
  have hv9 := hvR.1
  have hs9 := hsR.1
  have hrc : kk0 + (16384 + 16389 + 16389 + 8192 + 16389 + 16389 - (plN P + Nb + Nt + Np / 128 + Nv + Ns)) ≤ rc := hrc
  have hrs : nn0 + (10 * 16384 + 16 * 16389 + 16 * 16389 + 2 * 1048576 + 32 * 16389 + 32 * 16389 - (10 * plN P + 16 * Nb + 16 * Nt + 2 * Np + 32 * Nv + 32 * Ns)) ≤ rs := hrs
  refine q_astore 4 78 (L' := [_, _, _, _, _, _, _]) dX11_worth_76 (by decide) rfl rfl ?_
  refine q_aload 4 80 dX11_worth_78 rfl rfl ?_
  refine q_aload_n 0 81 dX11_worth_80 rfl rfl rfl ?_
  refine q_getR 0 84 f_X11_30 dX11_worth_81 rfl rfl rfl rfl ?_
  refine q_getR 1 87 f_X11_138 dX11_worth_84 rfl rfl rfl rfl ?_
  refine q_tyVi 9 [9, 10, 11, 12, 7] [0, 1, 2, 3, 4, 5, 6, 8, 13, 14, 15, 16, 17, 18, 19, 20, 21, 22, 23] [0, 1, 2, 3, 4, 5, 6, 23, 7, 19, 20, 21, 22, 8, 9, 10, 11, 12, 13, 14, 15, 16, 17, 18] 90 (wr := [_, _, _, _, _, _, _, _, _, _, _, _, _, _, _, _, _, _, _]) (w1 := _) (ws' := fun _ => [_, _, _, _, _, _, _, _, _, _, _, _, _, _, _, _, _, _, _, _, _, _, _, _]) (c_X2_placeOf (r := (rs12 r sd)) (i := upd i2 8 (nI 0)) hPB hgs.2) m_X11_195 dX11_worth_87 rfl rfl rfl rfl rfl rfl rfl (fun _ => rfl) (by decide) (by decide) (by decide) (by decide) (Nat.le_of_ble_eq_true rfl) (by omega) (by omega) (by omega) rfl (fun P87 k87 n87 hx87 => ?_)
  refine q_istore 5 92 (L' := [_, _, _, _, _, _, _]) dX11_worth_90 (by decide) rfl rfl ?_
  skip
  obtain ⟨hPa, hKa, hka, hna⟩ := hx87
  rw [hK] at hKa ⊢
  rw [kPut_nil] at hKa
  have hPaN := hPa.2.1
  rw [show 4 + ([] : List Int32).idxOf (sCode s) = 4 from rfl]
  generalize hst : sStrike s li 2 ln = ts at *
  refine q_aload 4 94 dX11_worth_92 rfl rfl ?_
  refine q_aload_n 0 95 dX11_worth_94 rfl rfl rfl ?_
  refine q_getR 0 98 f_X11_37 dX11_worth_95 rfl rfl rfl rfl ?_
  refine q_tyVi 9 [9, 10, 11, 12, 8] [0, 1, 2, 3, 4, 5, 6, 7, 13, 14, 15, 16, 17, 18, 19, 20, 21, 22, 23] [0, 1, 2, 3, 4, 5, 6, 7, 23, 19, 20, 21, 22, 8, 9, 10, 11, 12, 13, 14, 15, 16, 17, 18] 101 (wr := [_, _, _, _, _, _, _, _, _, _, _, _, _, _, _, _, _, _, _]) (w1 := _) (ws' := fun _ => [_, _, _, _, _, _, _, _, _, _, _, _, _, _, _, _, _, _, _, _, _, _, _, _]) (c_X2_placeOf (r := (rs12 r sd)) (i := upd i2 8 (nI 0)) hPa hgt.2) m_X11_195 dX11_worth_98 rfl rfl rfl rfl rfl rfl rfl (fun _ => rfl) (by decide) (by decide) (by decide) (by decide) (Nat.le_of_ble_eq_true rfl) (by omega) (by omega) (by omega) rfl (fun P98 k98 n98 hx98 => ?_)
  refine q_istore 6 103 (L' := [_, _, _, _, _, _, _]) dX11_worth_101 (by decide) rfl rfl ?_
  skip
  obtain ⟨hP2, hK2, hk2, hn2⟩ := hx98
  rw [hKa] at hK2 ⊢
  have hP2N := hP2.2.1
  have hat := kPut_at (K := [sCode s]) (k := sCode ts)
  have hlt := kPut_lt (K := [sCode s]) (k := sCode ts) (j := 0) (Nat.succ_pos 0)
  rw [← hK2] at hat hlt
  generalize ([sCode s]).idxOf (sCode ts) = jt at *
  refine q_aload 4 105 dX11_worth_103 rfl rfl ?_
  refine q_iload_n 3 106 dX11_worth_105 rfl rfl rfl ?_
  refine q_uyVv 9 [9, 10, 11, 12, 13, 14, 15, 17, 18, 19, 1, 2, 3, 4, 5, 6, 16] [0, 7, 8, 20, 21, 22, 23] [0, 17, 18, 19, 20, 21, 22, 1, 2, 7, 8, 9, 10, 11, 12, 13, 23, 14, 15, 16, 3, 4, 5, 6] 109 (wr := [_, _, _, _, _, _, _]) (w1 := _) (ws' := fun _ => [_, _, _, _, _, _, _, _, _, _, _, _, _, _, _, _, _, _, _, _, _, _, _, _]) (c_X2_spreadAll (r := (rs12 r sd)) (a5 := r 5) (a6 := r 6) (a7 := r 7) (s0 := s) (Rl := Rl) (GK := GK) (num := num) hi9 (Or.inl ⟨hi10, rfl⟩) hn hP2 (fun k hk => by rw [hK2] at hk; rcases kPut_mem hk with h | h; rw [List.mem_singleton.mp h]; exact hgs.1; rw [h]; exact hgt.1) hbR hnt hpo hri hRs ⟨rfl, rfl, rfl, rfl⟩ (by rw [hi10]; exact hS) (fun h => absurd hi11 h)) m_X11_201 dX11_worth_106 rfl rfl rfl rfl rfl rfl rfl (fun _ => rfl) (by decide) (by decide) (by decide) (by decide) (Nat.le_of_ble_eq_true rfl) (by omega) (by omega) (by omega) rfl (fun z106 k106 n106 hx106 => ?_)
  obtain ⟨⟨⟨a5106, Nb106, bf106⟩, ⟨a6106, Nt106, tf106⟩, ⟨a7106, Np106, pf106⟩⟩, P106, u106, ⟨sf106, sb106, wf106, ef106⟩, PL106⟩ := z106
  dsimp only at hx106 ⊢
  skip
  obtain ⟨hz, hz2, hz3⟩ := hx106
  rw [hi10, hi11] at hz
  obtain ⟨U, um, hU, hum, hrun⟩ := od_run hz
  have hz1 := hz
  obtain ⟨⟨hPB3, _, _⟩, ⟨hb3, _⟩, ⟨ht3, _⟩, ⟨hp3, _⟩, _, hsp, _⟩ := hz1
  dsimp only at hPB3 hb3 ht3 hp3 hsp hz2 hz3 hU hum
  have hP3N := hPB3.2.1
  obtain ⟨mm, hmm, hNm⟩ := hPB3.1.2.2.2
  have hKN := hPB3.1.2.1.1
  have hb39 := hb3.1
  have ht39 := ht3.1
  have hp39 := hp3.1
  have hw1 := (rw_max hvR hP3N).1
  have hw2 := rw_maxS hvR hNm hP3N
  obtain ⟨E, hE, hval⟩ := hrun (wyC p) F W hSt hF0 hF
  dsimp only at hE hval
  have h11 : upd i2 8 (nI u106) 11 = -1 := by rw [pk_un (by decide)]; exact hi11
  have h9 : upd i2 8 (nI u106) 9 = nI 1 := by rw [pk_un (by decide)]; exact hi9
  refine q_aload 4 111 dX11_worth_109 rfl rfl ?_
  refine q_iload_n 3 112 dX11_worth_111 rfl rfl rfl ?_
  refine q_iload_n 1 113 dX11_worth_112 rfl rfl rfl ?_
  refine q_tcSi [] [0, 1, 2, 3, 4, 5, 6, 7, 8, 9, 10, 11, 12, 13, 14, 15, 16, 17, 18, 19, 20, 21, 22, 23] [0, 1, 2, 3, 4, 5, 6, 7, 8, 9, 10, 11, 12, 13, 14, 15, 16, 17, 18, 19, 20, 21, 22, 23] 116 (wr := [_, _, _, _, _, _, _, _, _, _, _, _, _, _, _, _, _, _, _, _, _, _, _, _]) (w1 := _) (ws' := [_, _, _, _, _, _, _, _, _, _, _, _, _, _, _, _, _, _, _, _, _, _, _, _]) c_X11_waysOf m_X11_204 dX11_worth_113 rfl rfl rfl rfl rfl (by decide) (by decide) (by decide) (by decide) (Nat.le_of_ble_eq_true rfl) (by omega) (by omega) (by omega) rfl ?_
  refine q_tyVv 9 [9, 10, 11, 20, 21, 17, 19, 16] [0, 1, 2, 3, 4, 5, 6, 7, 8, 12, 13, 14, 15, 18, 22, 23] [0, 1, 2, 3, 4, 5, 6, 7, 8, 16, 17, 18, 9, 10, 11, 12, 23, 21, 13, 22, 19, 20, 14, 15] 119 (wr := [_, _, _, _, _, _, _, _, _, _, _, _, _, _, _, _]) (w1 := _) (ws' := fun _ => [_, _, _, _, _, _, _, _, _, _, _, _, _, _, _, _, _, _, _, _, _, _, _, _]) (c_X2_weighAll0 (r := rs567 (rs12 r sd) a5106 a6106 a7106) (sz := (plK P106).length) (E := E) (U := U) (um := um) h11 h9 (by decide) (by omega) (by omega) (by omega) (by omega) hPB3.1.1 hKN hn hU hum hE) m_X11_207 dX11_worth_116 rfl rfl rfl rfl rfl rfl rfl (fun _ => rfl) (by decide) (by decide) (by decide) (by decide) (Nat.le_of_ble_eq_true rfl) (by omega) (by omega) (by omega) rfl (fun z116 k116 n116 hx116 => ?_)
  obtain ⟨a116, b116, m116, uf116, vf116⟩ := z116
  dsimp only at hx116 ⊢
  skip
  obtain ⟨hro, u1, v1, huv⟩ := hx116
  obtain ⟨q1, q2, q3, q4, q5, _⟩ := rw_pot hvR hNm hP3N hro
  have hq9 := q1.1
  have hv4 := (hval u1 v1 0 hlt.2).1
  have hvt := (hval u1 v1 jt hat.2).1
  rw [← huv, hlt.1] at hv4
  rw [← huv, hat.1] at hvt
  have hv4 : vf116 4 = F n (sCode s) := hv4
  have hvt : vf116 (4 + jt) = F n (sCode ts) := hvt
  obtain ⟨L9, hL9⟩ := hz.1.2.1
  have hjl : jt < (plK P106).length := by
    have hL9 : plK P106 = plK P98 ++ L9 := hL9
    rw [hL9, List.length_append]
    have := hat.2
    omega
  have k2 := fun k m h1 h2 => K ((rs2 (rs567 (rs12 r sd) a5106 a6106 a7106) a116 b116, upd i2 8 (nI u106), P106, sf106, sb106, wf106, ef106), (Nb106, bf106), (Nt106, tf106), (Np106, pf106), (m116, uf116, vf116), (Ns, us, vs)) PL106 k m ⟨hPB3.1, hP3N, hb3, ht3, hp3, q1, hsR⟩ hsp h1 h2
  clear K
  refine q_aload 4 121 dX11_worth_119 rfl rfl ?_
  refine q_iload 6 123 dX11_worth_121 rfl rfl ?_
  refine q_tcVi 9 [9, 21] [0, 1, 2, 3, 4, 5, 6, 7, 8, 10, 11, 12, 13, 14, 15, 16, 17, 18, 19, 20, 22, 23] [0, 1, 2, 3, 4, 5, 6, 7, 8, 22, 9, 10, 11, 12, 13, 14, 15, 16, 17, 18, 19, 23, 20, 21] 126 (wr := [_, _, _, _, _, _, _, _, _, _, _, _, _, _, _, _, _, _, _, _, _, _]) (w1 := _) (ws' := [_, _, _, _, _, _, _, _, _, _, _, _, _, _, _, _, _, _, _, _, _, _, _, _]) (c_X2_valueAt (r := rs2 (rs567 (rs12 r sd) a5106 a6106 a7106) a116 b116) (z := 4 + jt) (by omega) (by omega)) m_X11_210 dX11_worth_123 rfl rfl rfl rfl rfl rfl rfl rfl (by decide) (by decide) (by decide) (by decide) (Nat.le_of_ble_eq_true rfl) (by omega) (by omega) (by omega) rfl ?_
  rw [hvt]
  refine q_aload 4 128 dX11_worth_126 rfl rfl ?_
  refine q_iload 5 130 dX11_worth_128 rfl rfl ?_
  refine q_tcVi 9 [9, 21] [0, 1, 2, 3, 4, 5, 6, 7, 8, 10, 11, 12, 13, 14, 15, 16, 17, 18, 19, 20, 22, 23] [0, 1, 2, 3, 4, 5, 6, 7, 8, 22, 9, 10, 11, 12, 13, 14, 15, 16, 17, 18, 19, 23, 20, 21] 133 (wr := [_, _, _, _, _, _, _, _, _, _, _, _, _, _, _, _, _, _, _, _, _, _]) (w1 := _) (ws' := [_, _, _, _, _, _, _, _, _, _, _, _, _, _, _, _, _, _, _, _, _, _, _, _]) (c_X2_valueAt (r := rs2 (rs567 (rs12 r sd) a5106 a6106 a7106) a116 b116) (z := 4) (by omega) (by omega)) m_X11_210 dX11_worth_130 rfl rfl rfl rfl rfl rfl rfl rfl (by decide) (by decide) (by decide) (by decide) (Nat.le_of_ble_eq_true rfl) (by omega) (by omega) (by omega) rfl ?_
  rw [hv4]
  refine q_isub 134 dX11_worth_133 rfl ?_
  refine q_ireturn dX11_worth_134 rfl ?_
  refine k2 _ _ ?_ ?_
  · show _ + (plN P + Nb + Nt + Np / 128 + Nv + Ns) ≤ kk0 + (plN P106 + Nb106 + Nt106 + Np106 / 128 + m116 + Ns)
    omega
  · show _ + (10 * plN P + 16 * Nb + 16 * Nt + 2 * Np + 32 * Nv + 32 * Ns) ≤ nn0 + (10 * plN P106 + 16 * Nb106 + 16 * Nt106 + 2 * Np106 + 32 * m116 + 32 * Ns)
    omega
theorem c_X11_worth1 {l : Launch} {g : Gh} {q sd la ru so cc b0 al tq num : Nat} {i s li cf ri yf tr : Sc} {af : Nat → Option Nat} {PL : List RuR} {Rl : Nat → RLs} {t0 t1 t2 t5 t7 t8 : Option Nat} {oq : Nat} {r : Nat → Nat} {oi sf sb wf ef bf tf pf uf vf us vs : Sc} {Nb Nt Np Nv Ns : Nat} {P : PlS} {n : Nat} {GK : Int32 → Prop} {p ln : Int32} {F : Nat → Int32 → Int32} {W : Nat → Int32 → Nat → Int32} (hgs : gkC GK s) (hgt : gkC GK (sStrike s li 2 ln)) (hS : SpH GK s li cf yf Rl (-1) 1) (hSt : ∀ i, StH GK s li cf yf Rl (-1) 1 (wyC p) (F i) (W i)) (hF0 : ∀ k, F 0 k = 0) (hF : ∀ i k, GK k → F (i + 1) k = moW (W i k) 1) (hp : p = 0 ∨ p = 1) (hl1 : ¬ ln < 0) (hl2 : ln < 10) (ho : sOver s li = 0) (hof : s 6 = 0) (h6 : s 6 = 0 ∨ s 6 = 1) (hO : OdR P Nb Nt Np Nv Ns) (hri : ri 2 = nI num) (hRs : ∀ Q, SaP PL Q → RsO num yf af Q Rl) (hn : n ≤ 30) : Cn l g yX11_worth (Cond.code yX11_worth cX11_worth 7 (some .int)) 13 ((odKM - odK P Nb Nt Np Nv Ns)) ((odSM - odS P Nb Nt Np Nv Ns)) [.ref q, .int p, .int ln, .int (nI n)] ([(q, ob 11 i [t0, t1, t2, some sd, some tq, t5, some oq, t7, t8, none, none]), (sd, ob 10 (fun _ => 0) (rD la ru so)), (la, ob 0 li (rL cc)), (cc, aI g 192 cf), (ru, ob 6 ri (rQ b0 al)), (b0, aI g 2 yf), (al, aR g 6 af), (so, ob 8 s []), (tq, ob 8 tr []), (oq, ob 2 oi (rO12 r (some sd))), ((r 0), ob 3 (plI P) (rPl (plKe P) (plTa P))), (plKe P, aI g (plN P) (plKf P)), (plTa P, aI g (4 * plN P) (plTb P)), ((r 1), ob 8 sf []), ((r 2), ob 8 sb []), ((r 3), aI g 48 wf), ((r 4), aI g 31 ef), ((r 5), aI g Nb bf), ((r 6), aI g Nt tf), ((r 7), aI g Np pf), ((r 13), aI g Nv uf), ((r 14), aI g Nv vf), ((r 15), aI g Ns us), ((r 16), aI g Ns vs)] ++ plW g PL) (fun z : OdT × List RuR => some (.int (F n (sCode (sStrike s li 2 ln)) - F n (sCode s)))) (fun z : OdT × List RuR => ([(q, ob 11 i [t0, t1, t2, some sd, some tq, t5, some oq, t7, t8, none, none]), (sd, ob 10 (fun _ => 0) (rD la ru so)), (la, ob 0 li (rL cc)), (cc, aI g 192 cf), (ru, ob 6 ri (rQ b0 al)), (b0, aI g 2 yf), (al, aR g 6 af), (so, ob 8 s []), (tq, ob 8 (sStrike s li 2 ln) []), (oq, ob 2 z.1.1.2.1 (rO12 z.1.1.1 (some sd))), ((z.1.1.1 0), ob 3 (plI z.1.1.2.2.1) (rPl (plKe z.1.1.2.2.1) (plTa z.1.1.2.2.1))), (plKe z.1.1.2.2.1, aI g (plN z.1.1.2.2.1) (plKf z.1.1.2.2.1)), (plTa z.1.1.2.2.1, aI g (4 * plN z.1.1.2.2.1) (plTb z.1.1.2.2.1)), ((z.1.1.1 1), ob 8 z.1.1.2.2.2.1 []), ((z.1.1.1 2), ob 8 z.1.1.2.2.2.2.1 []), ((z.1.1.1 3), aI g 48 z.1.1.2.2.2.2.2.1), ((z.1.1.1 4), aI g 31 z.1.1.2.2.2.2.2.2), ((z.1.1.1 5), aI g z.1.2.1.1 z.1.2.1.2), ((z.1.1.1 6), aI g z.1.2.2.1.1 z.1.2.2.1.2), ((z.1.1.1 7), aI g z.1.2.2.2.1.1 z.1.2.2.2.1.2), ((z.1.1.1 13), aI g z.1.2.2.2.2.1.1 z.1.2.2.2.2.1.2.1), ((z.1.1.1 14), aI g z.1.2.2.2.2.1.1 z.1.2.2.2.2.1.2.2), ((z.1.1.1 15), aI g z.1.2.2.2.2.2.1 z.1.2.2.2.2.2.2.1), ((z.1.1.1 16), aI g z.1.2.2.2.2.2.1 z.1.2.2.2.2.2.2.2)] ++ plW g z.2)) (fun z k m => OdG z.1 ∧ SaP PL z.2 ∧ k + odK P Nb Nt Np Nv Ns ≤ ozK z.1 ∧ m + odS P Nb Nt Np Nv Ns ≤ ozS z.1) := by
  refine ct_of (M := mtX11_worth) [some (.ref q), some (.int p), some (.int ln), some (.int (nI n)), none, none, none] rfl (by decide) (Nat.le_of_ble_eq_true rfl) (fun _ h => h) (fun a => ?_)
  obtain ⟨o1, o2, o3, o4, o5, o6, o7⟩ := hO
  have g3 := nI_nn (a := n) (by omega)
  have g4 : nI n ≤ (30 : Int32) := by rw [show (30 : Int32) = nI 30 by decide]; exact nI_le hn (by decide)
  refine q_iload_n 1 1 dX11_worth_0 rfl rfl rfl ?_
  refine q_tcSv [] [0, 1, 2, 3, 4, 5, 6, 7, 8, 9, 10, 11, 12, 13, 14, 15, 16, 17, 18, 19, 20, 21, 22, 23] [0, 1, 2, 3, 4, 5, 6, 7, 8, 9, 10, 11, 12, 13, 14, 15, 16, 17, 18, 19, 20, 21, 22, 23] 4 (wr := [_, _, _, _, _, _, _, _, _, _, _, _, _, _, _, _, _, _, _, _, _, _, _, _]) (w1 := _) (ws' := [_, _, _, _, _, _, _, _, _, _, _, _, _, _, _, _, _, _, _, _, _, _, _, _]) (c_X11_needPlayer hp) m_X11_130 dX11_worth_1 rfl rfl rfl rfl rfl (by decide) (by decide) (by decide) (by decide) (Nat.le_of_ble_eq_true rfl) (by omega) (by omega) (by omega) rfl ?_
  refine q_iload_n 2 5 dX11_worth_4 rfl rfl rfl ?_
  refine q_tcSv [] [0, 1, 2, 3, 4, 5, 6, 7, 8, 9, 10, 11, 12, 13, 14, 15, 16, 17, 18, 19, 20, 21, 22, 23] [0, 1, 2, 3, 4, 5, 6, 7, 8, 9, 10, 11, 12, 13, 14, 15, 16, 17, 18, 19, 20, 21, 22, 23] 8 (wr := [_, _, _, _, _, _, _, _, _, _, _, _, _, _, _, _, _, _, _, _, _, _, _, _]) (w1 := _) (ws' := [_, _, _, _, _, _, _, _, _, _, _, _, _, _, _, _, _, _, _, _, _, _, _, _]) (c_X11_needLine hl1 hl2) m_X11_171 dX11_worth_5 rfl rfl rfl rfl rfl (by decide) (by decide) (by decide) (by decide) (Nat.le_of_ble_eq_true rfl) (by omega) (by omega) (by omega) rfl ?_
  refine q_iload_n 3 9 dX11_worth_8 rfl rfl rfl ?_
  refine q_tcSv [] [0, 1, 2, 3, 4, 5, 6, 7, 8, 9, 10, 11, 12, 13, 14, 15, 16, 17, 18, 19, 20, 21, 22, 23] [0, 1, 2, 3, 4, 5, 6, 7, 8, 9, 10, 11, 12, 13, 14, 15, 16, 17, 18, 19, 20, 21, 22, 23] 12 (wr := [_, _, _, _, _, _, _, _, _, _, _, _, _, _, _, _, _, _, _, _, _, _, _, _]) (w1 := _) (ws' := [_, _, _, _, _, _, _, _, _, _, _, _, _, _, _, _, _, _, _, _, _, _, _, _]) (c_X11_needRallies g3 g4) m_X11_188 dX11_worth_9 rfl rfl rfl rfl rfl (by decide) (by decide) (by decide) (by decide) (Nat.le_of_ble_eq_true rfl) (by omega) (by omega) (by omega) rfl ?_
  refine q_aload_n 0 13 dX11_worth_12 rfl rfl rfl ?_
  refine q_aload_n 0 14 dX11_worth_13 rfl rfl rfl ?_
  refine q_getR 0 17 f_X11_30 dX11_worth_14 rfl rfl rfl rfl ?_
  refine q_getR 1 20 f_X11_138 dX11_worth_17 rfl rfl rfl rfl ?_
  refine q_tcVv 0 [0, 1, 2, 7] [3, 4, 5, 6, 8, 9, 10, 11, 12, 13, 14, 15, 16, 17, 18, 19, 20, 21, 22, 23] [20, 21, 22, 0, 1, 2, 3, 23, 4, 5, 6, 7, 8, 9, 10, 11, 12, 13, 14, 15, 16, 17, 18, 19] 23 (wr := [_, _, _, _, _, _, _, _, _, _, _, _, _, _, _, _, _, _, _, _]) (w1 := _) (ws' := [_, _, _, _, _, _, _, _, _, _, _, _, _, _, _, _, _, _, _, _, _, _, _, _]) (c_X11_needGoingOn ho) m_X11_176 dX11_worth_20 rfl rfl rfl rfl rfl rfl rfl rfl (by decide) (by decide) (by decide) (by decide) (Nat.le_of_ble_eq_true rfl) (by omega) (by omega) (by omega) rfl ?_
  refine q_aload_n 0 24 dX11_worth_23 rfl rfl rfl ?_
  refine q_getR 0 27 f_X11_30 dX11_worth_24 rfl rfl rfl rfl ?_
  refine q_getR 1 30 f_X11_138 dX11_worth_27 rfl rfl rfl rfl ?_
  refine q_getI 7 33 f_X11_223 dX11_worth_30 rfl rfl rfl ?_
  refine q_if_eq 39 36 dX11_worth_33 (by decide) rfl (fun h33 => ?_) (fun h33 => absurd hof h33)
  refine q_aload_n 0 40 dX11_worth_39 rfl rfl rfl ?_
  refine q_getR 0 43 f_X11_37 dX11_worth_40 rfl rfl rfl rfl ?_
  refine q_aload_n 0 44 dX11_worth_43 rfl rfl rfl ?_
  refine q_getR 0 47 f_X11_30 dX11_worth_44 rfl rfl rfl rfl ?_
  refine q_getR 1 50 f_X11_138 dX11_worth_47 rfl rfl rfl rfl ?_
  refine q_tcVv 8 [8, 7] [0, 1, 2, 3, 4, 5, 6, 9, 10, 11, 12, 13, 14, 15, 16, 17, 18, 19, 20, 21, 22, 23] [0, 1, 2, 3, 4, 5, 6, 23, 22, 7, 8, 9, 10, 11, 12, 13, 14, 15, 16, 17, 18, 19, 20, 21] 53 (wr := [_, _, _, _, _, _, _, _, _, _, _, _, _, _, _, _, _, _, _, _, _, _]) (w1 := _) (ws' := [_, _, _, _, _, _, _, _, _, _, _, _, _, _, _, _, _, _, _, _, _, _, _, _]) (c_X8_takeFrom h6) m_X11_228 dX11_worth_50 rfl rfl rfl rfl rfl rfl rfl rfl (by decide) (by decide) (by decide) (by decide) (Nat.le_of_ble_eq_true rfl) (by omega) (by omega) (by omega) rfl ?_
  refine q_aload_n 0 54 dX11_worth_53 rfl rfl rfl ?_
  refine q_getR 0 57 f_X11_37 dX11_worth_54 rfl rfl rfl rfl ?_
  refine q_iconst 2 58 dX11_worth_57 ic_2 rfl ?_
  refine q_iload_n 2 59 dX11_worth_58 rfl rfl rfl ?_
  refine q_aload_n 0 60 dX11_worth_59 rfl rfl rfl ?_
  refine q_getR 0 63 f_X11_30 dX11_worth_60 rfl rfl rfl rfl ?_
  refine q_getR 1 66 f_X11_60 dX11_worth_63 rfl rfl rfl rfl ?_
  refine q_tcVi 8 [8, 2] [0, 1, 3, 4, 5, 6, 7, 9, 10, 11, 12, 13, 14, 15, 16, 17, 18, 19, 20, 21, 22, 23] [0, 1, 23, 2, 3, 4, 5, 6, 22, 7, 8, 9, 10, 11, 12, 13, 14, 15, 16, 17, 18, 19, 20, 21] 69 (wr := [_, _, _, _, _, _, _, _, _, _, _, _, _, _, _, _, _, _, _, _, _, _]) (w1 := _) (ws' := [_, _, _, _, _, _, _, _, _, _, _, _, _, _, _, _, _, _, _, _, _, _, _, _]) c_X8_strike m_X11_180 dX11_worth_66 rfl rfl rfl rfl rfl rfl rfl rfl (by decide) (by decide) (by decide) (by decide) (Nat.le_of_ble_eq_true rfl) (by omega) (by omega) (by omega) rfl ?_
  refine q_pop 70 dX11_worth_69 rfl rfl ?_
  refine q_aload_n 0 71 dX11_worth_70 rfl rfl rfl ?_
  refine q_iconst (-1) 72 dX11_worth_71 ic_m1 rfl ?_
  refine q_iconst (-1) 73 dX11_worth_72 ic_m1 rfl ?_
  refine q_tcVr 0 [0, 1, 7, 9, 10, 11, 12, 13, 14, 15, 16, 17, 18, 19, 20, 21, 22, 23] [2, 3, 4, 5, 6, 8] [6, 7, 0, 1, 2, 3, 4, 8, 5, 9, 10, 11, 12, 13, 14, 15, 16, 17, 18, 19, 20, 21, 22, 23] 76 (wr := [_, _, _, _, _, _]) (w1 := _) (ws' := [_, _, _, _, _, _, _, _, _, _, _, _, _, _, _, _, _, _, _, _, _, _, _, _]) (c_X11_freshOdds1 o1 h6) m_X11_191 dX11_worth_73 rfl rfl rfl rfl rfl rfl rfl rfl (by decide) (by decide) (by decide) (by decide) (Nat.le_of_ble_eq_true rfl) (by omega) (by omega) (by omega) rfl ?_
  skip
  exact w_worth (r := r) (tr := tr) (i2 := oiW oi (-1) (-1)) (show (if (-1 : Int32) = -1 then (1 : Int32) else 4) = nI 1 by decide) rfl rfl hgs hgt hS hSt hF0 hF (by omega) (plB_nil o1 o2) rfl o3 o4 o5 o6 o7 hri hRs hn (by rw [Nat.zero_add]; exact Nat.le_refl _) (by rw [Nat.zero_add]; exact Nat.le_refl _) (fun z PL9 k m h1 h2 h3 h4 => pX.mk (z, PL9) ⟨h1, h2, by rw [Nat.zero_add] at h3; exact h3, by rw [Nat.zero_add] at h4; exact h4⟩ rfl rfl)
theorem c_X11_worth0 {l : Launch} {g : Gh} {q sd la ru so cc b0 al tq num : Nat} {i s li cf ri yf tr : Sc} {af : Nat → Option Nat} {PL : List RuR} {Rl : Nat → RLs} {t0 t1 t2 t5 t7 t8 : Option Nat} {n : Nat} {GK : Int32 → Prop} {p ln : Int32} {F : Nat → Int32 → Int32} {W : Nat → Int32 → Nat → Int32} (hgs : gkC GK s) (hgt : gkC GK (sStrike s li 2 ln)) (hS : SpH GK s li cf yf Rl (-1) 1) (hSt : ∀ i, StH GK s li cf yf Rl (-1) 1 (wyC p) (F i) (W i)) (hF0 : ∀ k, F 0 k = 0) (hF : ∀ i k, GK k → F (i + 1) k = moW (W i k) 1) (hp : p = 0 ∨ p = 1) (hl1 : ¬ ln < 0) (hl2 : ln < 10) (ho : sOver s li = 0) (hof : s 6 = 0) (h6 : s 6 = 0 ∨ s 6 = 1) (hri : ri 2 = nI num) (hRs : ∀ Q, SaP PL Q → RsO num yf af Q Rl) (hn : n ≤ 30) : Cn l g yX11_worth (Cond.code yX11_worth cX11_worth 7 (some .int)) 13 (15 + 89987) (521 + 3830848) [.ref q, .int p, .int ln, .int (nI n)] ([(q, ob 11 i [t0, t1, t2, some sd, some tq, t5, none, t7, t8, none, none]), (sd, ob 10 (fun _ => 0) (rD la ru so)), (la, ob 0 li (rL cc)), (cc, aI g 192 cf), (ru, ob 6 ri (rQ b0 al)), (b0, aI g 2 yf), (al, aR g 6 af), (so, ob 8 s []), (tq, ob 8 tr [])] ++ plW g PL) (fun z : Nat × OdT × List RuR => some (.int (F n (sCode (sStrike s li 2 ln)) - F n (sCode s)))) (fun z : Nat × OdT × List RuR => ([(q, ob 11 i [t0, t1, t2, some sd, some tq, t5, some z.1, t7, t8, none, none]), (sd, ob 10 (fun _ => 0) (rD la ru so)), (la, ob 0 li (rL cc)), (cc, aI g 192 cf), (ru, ob 6 ri (rQ b0 al)), (b0, aI g 2 yf), (al, aR g 6 af), (so, ob 8 s []), (tq, ob 8 (sStrike s li 2 ln) []), (z.1, ob 2 z.2.1.1.2.1 (rO12 z.2.1.1.1 (some sd))), ((z.2.1.1.1 0), ob 3 (plI z.2.1.1.2.2.1) (rPl (plKe z.2.1.1.2.2.1) (plTa z.2.1.1.2.2.1))), (plKe z.2.1.1.2.2.1, aI g (plN z.2.1.1.2.2.1) (plKf z.2.1.1.2.2.1)), (plTa z.2.1.1.2.2.1, aI g (4 * plN z.2.1.1.2.2.1) (plTb z.2.1.1.2.2.1)), ((z.2.1.1.1 1), ob 8 z.2.1.1.2.2.2.1 []), ((z.2.1.1.1 2), ob 8 z.2.1.1.2.2.2.2.1 []), ((z.2.1.1.1 3), aI g 48 z.2.1.1.2.2.2.2.2.1), ((z.2.1.1.1 4), aI g 31 z.2.1.1.2.2.2.2.2.2), ((z.2.1.1.1 5), aI g z.2.1.2.1.1 z.2.1.2.1.2), ((z.2.1.1.1 6), aI g z.2.1.2.2.1.1 z.2.1.2.2.1.2), ((z.2.1.1.1 7), aI g z.2.1.2.2.2.1.1 z.2.1.2.2.2.1.2), ((z.2.1.1.1 13), aI g z.2.1.2.2.2.2.1.1 z.2.1.2.2.2.2.1.2.1), ((z.2.1.1.1 14), aI g z.2.1.2.2.2.2.1.1 z.2.1.2.2.2.2.1.2.2), ((z.2.1.1.1 15), aI g z.2.1.2.2.2.2.2.1 z.2.1.2.2.2.2.2.2.1), ((z.2.1.1.1 16), aI g z.2.1.2.2.2.2.2.1 z.2.1.2.2.2.2.2.2.2)] ++ plW g z.2.2)) (fun z k m => OdG z.2.1 ∧ SaP PL z.2.2 ∧ k + 145 ≤ 15 + ozK z.2.1 ∧ m + 3488 ≤ 521 + ozS z.2.1) := by
  refine ct_of (M := mtX11_worth) [some (.ref q), some (.int p), some (.int ln), some (.int (nI n)), none, none, none] rfl (by decide) (Nat.le_of_ble_eq_true rfl) (fun _ h => h) (fun a => ?_)
  have g3 := nI_nn (a := n) (by omega)
  have g4 : nI n ≤ (30 : Int32) := by rw [show (30 : Int32) = nI 30 by decide]; exact nI_le hn (by decide)
  refine q_iload_n 1 1 dX11_worth_0 rfl rfl rfl ?_
  refine q_tcSv [] [0, 1, 2, 3, 4, 5, 6, 7, 8] [0, 1, 2, 3, 4, 5, 6, 7, 8] 4 (wr := [_, _, _, _, _, _, _, _, _]) (w1 := _) (ws' := [_, _, _, _, _, _, _, _, _]) (c_X11_needPlayer hp) m_X11_130 dX11_worth_1 rfl rfl rfl rfl rfl (by decide) (by decide) (by decide) (by decide) (Nat.le_of_ble_eq_true rfl) (by omega) (by omega) (by omega) rfl ?_
  refine q_iload_n 2 5 dX11_worth_4 rfl rfl rfl ?_
  refine q_tcSv [] [0, 1, 2, 3, 4, 5, 6, 7, 8] [0, 1, 2, 3, 4, 5, 6, 7, 8] 8 (wr := [_, _, _, _, _, _, _, _, _]) (w1 := _) (ws' := [_, _, _, _, _, _, _, _, _]) (c_X11_needLine hl1 hl2) m_X11_171 dX11_worth_5 rfl rfl rfl rfl rfl (by decide) (by decide) (by decide) (by decide) (Nat.le_of_ble_eq_true rfl) (by omega) (by omega) (by omega) rfl ?_
  refine q_iload_n 3 9 dX11_worth_8 rfl rfl rfl ?_
  refine q_tcSv [] [0, 1, 2, 3, 4, 5, 6, 7, 8] [0, 1, 2, 3, 4, 5, 6, 7, 8] 12 (wr := [_, _, _, _, _, _, _, _, _]) (w1 := _) (ws' := [_, _, _, _, _, _, _, _, _]) (c_X11_needRallies g3 g4) m_X11_188 dX11_worth_9 rfl rfl rfl rfl rfl (by decide) (by decide) (by decide) (by decide) (Nat.le_of_ble_eq_true rfl) (by omega) (by omega) (by omega) rfl ?_
  refine q_aload_n 0 13 dX11_worth_12 rfl rfl rfl ?_
  refine q_aload_n 0 14 dX11_worth_13 rfl rfl rfl ?_
  refine q_getR 0 17 f_X11_30 dX11_worth_14 rfl rfl rfl rfl ?_
  refine q_getR 1 20 f_X11_138 dX11_worth_17 rfl rfl rfl rfl ?_
  refine q_tcVv 0 [0, 1, 2, 7] [3, 4, 5, 6, 8] [5, 6, 7, 0, 1, 2, 3, 8, 4] 23 (wr := [_, _, _, _, _]) (w1 := _) (ws' := [_, _, _, _, _, _, _, _, _]) (c_X11_needGoingOn ho) m_X11_176 dX11_worth_20 rfl rfl rfl rfl rfl rfl rfl rfl (by decide) (by decide) (by decide) (by decide) (Nat.le_of_ble_eq_true rfl) (by omega) (by omega) (by omega) rfl ?_
  refine q_aload_n 0 24 dX11_worth_23 rfl rfl rfl ?_
  refine q_getR 0 27 f_X11_30 dX11_worth_24 rfl rfl rfl rfl ?_
  refine q_getR 1 30 f_X11_138 dX11_worth_27 rfl rfl rfl rfl ?_
  refine q_getI 7 33 f_X11_223 dX11_worth_30 rfl rfl rfl ?_
  refine q_if_eq 39 36 dX11_worth_33 (by decide) rfl (fun h33 => ?_) (fun h33 => absurd hof h33)
  refine q_aload_n 0 40 dX11_worth_39 rfl rfl rfl ?_
  refine q_getR 0 43 f_X11_37 dX11_worth_40 rfl rfl rfl rfl ?_
  refine q_aload_n 0 44 dX11_worth_43 rfl rfl rfl ?_
  refine q_getR 0 47 f_X11_30 dX11_worth_44 rfl rfl rfl rfl ?_
  refine q_getR 1 50 f_X11_138 dX11_worth_47 rfl rfl rfl rfl ?_
  refine q_tcVv 8 [8, 7] [0, 1, 2, 3, 4, 5, 6] [0, 1, 2, 3, 4, 5, 6, 8, 7] 53 (wr := [_, _, _, _, _, _, _]) (w1 := _) (ws' := [_, _, _, _, _, _, _, _, _]) (c_X8_takeFrom h6) m_X11_228 dX11_worth_50 rfl rfl rfl rfl rfl rfl rfl rfl (by decide) (by decide) (by decide) (by decide) (Nat.le_of_ble_eq_true rfl) (by omega) (by omega) (by omega) rfl ?_
  refine q_aload_n 0 54 dX11_worth_53 rfl rfl rfl ?_
  refine q_getR 0 57 f_X11_37 dX11_worth_54 rfl rfl rfl rfl ?_
  refine q_iconst 2 58 dX11_worth_57 ic_2 rfl ?_
  refine q_iload_n 2 59 dX11_worth_58 rfl rfl rfl ?_
  refine q_aload_n 0 60 dX11_worth_59 rfl rfl rfl ?_
  refine q_getR 0 63 f_X11_30 dX11_worth_60 rfl rfl rfl rfl ?_
  refine q_getR 1 66 f_X11_60 dX11_worth_63 rfl rfl rfl rfl ?_
  refine q_tcVi 8 [8, 2] [0, 1, 3, 4, 5, 6, 7] [0, 1, 8, 2, 3, 4, 5, 6, 7] 69 (wr := [_, _, _, _, _, _, _]) (w1 := _) (ws' := [_, _, _, _, _, _, _, _, _]) c_X8_strike m_X11_180 dX11_worth_66 rfl rfl rfl rfl rfl rfl rfl rfl (by decide) (by decide) (by decide) (by decide) (Nat.le_of_ble_eq_true rfl) (by omega) (by omega) (by omega) rfl ?_
  refine q_pop 70 dX11_worth_69 rfl rfl ?_
  refine q_aload_n 0 71 dX11_worth_70 rfl rfl rfl ?_
  refine q_iconst (-1) 72 dX11_worth_71 ic_m1 rfl ?_
  refine q_iconst (-1) 73 dX11_worth_72 ic_m1 rfl ?_
  refine q_tyVr 0 [0, 1, 7] [2, 3, 4, 5, 6, 8] [6, 7, 0, 1, 2, 3, 4, 8, 5, 9, 10, 11, 12, 13, 14, 15, 16, 17, 18, 19, 20, 21, 22, 23] 76 (wr := [_, _, _, _, _, _]) (w1 := _) (ws' := fun _ => [_, _, _, _, _, _, _, _, _, _, _, _, _, _, _, _, _, _, _, _, _, _, _, _]) (c_X11_freshOdds0 h6) m_X11_191 dX11_worth_73 rfl rfl rfl rfl rfl rfl rfl (fun _ => rfl) (by decide) (by decide) (by decide) (by decide) (Nat.le_of_ble_eq_true rfl) (by omega) (by omega) (by omega) rfl (fun z73 k73 n73 hx73 => ?_)
  obtain ⟨oq73, r73, ke73, ta73⟩ := z73
  dsimp only at hx73 ⊢
  skip
  obtain ⟨ka, na⟩ := hx73
  exact w_worth (r := r73) (tr := tr) (i2 := oiW (fun _ => 0) (-1) (-1)) (show (if (-1 : Int32) = -1 then (1 : Int32) else 4) = nI 1 by decide) rfl rfl hgs hgt hS hSt hF0 hF (by omega) (plB_nil (pl0_O _ _) (by show 16 ≤ 16384; omega)) rfl ⟨by omega, Or.inl rfl⟩ ⟨by omega, Or.inl rfl⟩ ⟨by omega, 0, by omega⟩ ⟨by omega, Or.inl rfl⟩ ⟨by omega, Or.inl rfl⟩ hri hRs hn (by show _ + (16384 + 16389 + 16389 + 8192 + 16389 + 16389 - (16 + 32 + 32 + 128 / 128 + 32 + 32)) ≤ _; omega) (by show _ + (10 * 16384 + 16 * 16389 + 16 * 16389 + 2 * 1048576 + 32 * 16389 + 32 * 16389 - (10 * 16 + 16 * 32 + 16 * 32 + 2 * 128 + 32 * 32 + 32 * 32)) ≤ _; omega) (fun z PL9 k m h1 h2 h3 h4 => pX.mk (oq73, z, PL9) ⟨h1, h2, by show k + 145 ≤ 15 + ozK z; have e : plN (plC (pl0 ke73 ta73)) = 16 := rfl; unfold odK at h3; rw [e, ka] at h3; generalize ozK z = Z9 at *; clear e hS hSt; omega, by show m + 3488 ≤ 521 + ozS z; have e : plN (plC (pl0 ke73 ta73)) = 16 := rfl; unfold odS at h4; rw [e, na] at h4; generalize ozS z = Z9 at *; clear e hS hSt; omega⟩ rfl rfl)

