/-! ===== ChaseCourt.saves ===== -/
def TkH (GK : Int32 → Prop) (s0 li : Sc) (tk : Int32) : Prop := ∀ s k, FrO s0 s → GK k → (sBec s k 6 = 0 ∨ sBec s k 6 = 1) ∧ (∃ v, v ≤ 1 ∧ sBisque (sBec s k) li tk 2 = nI v) ∧ ∀ k', tgB li tk s k = .inr k' → (∃ c, c < 15488 ∧ k' = nI c) ∧ GK k'
def saA (F G TV : Nat → Int32 → Int32) (X : Nat → Int32 → Nat → Int32) (w : Int32) (n : Nat) (k : Int32) : Int32 := if w = 1 then (if moW (X (n - 1) k) 1 < TV n k then 1 else 0) else if w = 0 then G n k else G n k - F n k
theorem w_saves {l : Launch} {g : Gh} {q sd la ru so cc b0 al tq num : Nat} {i s li cf ri yf tr : Sc} {af : Nat → Option Nat} {PL : List RuR} {Rl : Nat → RLs} {t0 t1 t2 t5 t7 t8 : Option Nat} {oq : Nat} {r : Nat → Nat} {sb wf ef bf tf pf uf vf us vs : Sc} {Nb Nt Np Nv Ns : Nat} {P : PlS} {i2 : Sc} {rc rs d kk0 nn0 n : Nat} {post : Pst} {px : Pxc} {a : Act} {GK : Int32 → Prop} {p w : Int32} {F G TV : Nat → Int32 → Int32} {W X : Nat → Int32 → Nat → Int32} (hi9 : i2 9 = nI 1) (hi10 : i2 10 = -1) (hi11 : i2 11 = p) (hpn : ¬ p = -1) (hn0 : 0 < n) (hgs : gkC GK s) (hS : SpH GK s li cf yf Rl (-1) 1) (hH : TkH GK s li p) (hSt : ∀ i, StH GK s li cf yf Rl (-1) 1 (wyC p) (F i) (W i)) (hSt2 : ∀ i, StH GK s li cf yf Rl (-1) 1 (wyC p) (G i) (X i)) (hTV : ∀ t k i, FrO s t → GK k → rvT (wyC p) (F i) (tgB li p t k) = TV i k) (hF0 : ∀ k, F 0 k = 0) (hG0 : ∀ k, G 0 k = 0) (hF : ∀ i k, GK k → F (i + 1) k = moW (W i k) 1) (hG : ∀ i k, GK k → G (i + 1) k = iMax (moW (X i k) 1) (TV (i + 1) k)) (hd : 12 ≤ d) (hPB : PlB P) (hK : plK P = []) (hbR : RmO Nb) (hnt : RmO Nt) (hpo : PoO Np) (hvR : RmO Nv) (hsR : RmO Ns) (hri : ri 2 = nI num) (hRs : ∀ Q, SaP PL Q → RsO num yf af Q Rl) (hn : n ≤ 30) (hrc : kk0 + (odKM - odK P Nb Nt Np Nv Ns) ≤ rc) (hrs : nn0 + (odSM - odS P Nb Nt Np Nv Ns) ≤ rs) (K : ∀ (z : OdT) (PL9 : List RuR) (k m : Nat), OdG z → SaP PL PL9 → k + odK P Nb Nt Np Nv Ns ≤ kk0 + ozK z → m + odS P Nb Nt Np Nv Ns ≤ nn0 + ozS z → post (some (.int (saA F G TV X w n (sCode s)))) ([(q, ob 11 i [t0, t1, t2, some sd, some tq, t5, some oq, t7, t8, none, none]), (sd, ob 10 (fun _ => 0) (rD la ru so)), (la, ob 0 li (rL cc)), (cc, aI g 192 cf), (ru, ob 6 ri (rQ b0 al)), (b0, aI g 2 yf), (al, aR g 6 af), (so, ob 8 s []), (tq, ob 8 tr []), (oq, ob 2 z.1.2.1 (rO12 z.1.1 (some sd))), ((z.1.1 0), ob 3 (plI z.1.2.2.1) (rPl (plKe z.1.2.2.1) (plTa z.1.2.2.1))), (plKe z.1.2.2.1, aI g (plN z.1.2.2.1) (plKf z.1.2.2.1)), (plTa z.1.2.2.1, aI g (4 * plN z.1.2.2.1) (plTb z.1.2.2.1)), ((z.1.1 1), ob 8 z.1.2.2.2.1 []), ((z.1.1 2), ob 8 z.1.2.2.2.2.1 []), ((z.1.1 3), aI g 48 z.1.2.2.2.2.2.1), ((z.1.1 4), aI g 31 z.1.2.2.2.2.2.2), ((z.1.1 5), aI g z.2.1.1 z.2.1.2), ((z.1.1 6), aI g z.2.2.1.1 z.2.2.1.2), ((z.1.1 7), aI g z.2.2.2.1.1 z.2.2.2.1.2), ((z.1.1 13), aI g z.2.2.2.2.1.1 z.2.2.2.2.1.2.1), ((z.1.1 14), aI g z.2.2.2.2.1.1 z.2.2.2.2.1.2.2), ((z.1.1 15), aI g z.2.2.2.2.2.1 z.2.2.2.2.2.2.1), ((z.1.1 16), aI g z.2.2.2.2.2.1 z.2.2.2.2.2.2.2)] ++ plW g PL9) k m) : WPs l g mtX11_saves d rc rs post px a 36 [some (.ref q), some (.int p), some (.int (nI n)), some (.int w), none, none, none] [.ref oq] ([(q, ob 11 i [t0, t1, t2, some sd, some tq, t5, some oq, t7, t8, none, none]), (sd, ob 10 (fun _ => 0) (rD la ru so)), (la, ob 0 li (rL cc)), (cc, aI g 192 cf), (ru, ob 6 ri (rQ b0 al)), (b0, aI g 2 yf), (al, aR g 6 af), (so, ob 8 s []), (tq, ob 8 tr []), (oq, ob 2 (upd i2 8 (nI 0)) (rO (rs12 r sd))), ((r 0), ob 3 (plI P) (rPl (plKe P) (plTa P))), (plKe P, aI g (plN P) (plKf P)), (plTa P, aI g (4 * plN P) (plTb P)), ((r 1), ob 8 s []), ((r 2), ob 8 sb []), ((r 3), aI g 48 wf), ((r 4), aI g 31 ef), ((r 5), aI g Nb bf), ((r 6), aI g Nt tf), ((r 7), aI g Np pf), ((r 13), aI g Nv uf), ((r 14), aI g Nv vf), ((r 15), aI g Ns us), ((r 16), aI g Ns vs)] ++ plW g PL) kk0 nn0 := by
  have hPN := hPB.2.1
  have hb9 := hbR.1
  have hn9 := hnt.1
  have hp9 := hpo.1
  have hv9 := hvR.1
  have hs9 := hsR.1
  have hrc : kk0 + (16384 + 16389 + 16389 + 8192 + 16389 + 16389 - (plN P + Nb + Nt + Np / 128 + Nv + Ns)) ≤ rc := hrc
  have hrs : nn0 + (10 * 16384 + 16 * 16389 + 16 * 16389 + 2 * 1048576 + 32 * 16389 + 32 * 16389 - (10 * plN P + 16 * Nb + 16 * Nt + 2 * Np + 32 * Nv + 32 * Ns)) ≤ rs := hrs
  refine q_astore 4 38 (L' := [_, _, _, _, _, _, _]) dX11_saves_36 (by decide) rfl rfl ?_
  refine q_aload 4 40 dX11_saves_38 rfl rfl ?_
  refine q_aload_n 0 41 dX11_saves_40 rfl rfl rfl ?_
  refine q_getR 0 44 f_X11_30 dX11_saves_41 rfl rfl rfl rfl ?_
  refine q_getR 1 47 f_X11_138 dX11_saves_44 rfl rfl rfl rfl ?_
  refine q_tyVi 9 [9, 10, 11, 12, 7] [0, 1, 2, 3, 4, 5, 6, 8, 13, 14, 15, 16, 17, 18, 19, 20, 21, 22, 23] [0, 1, 2, 3, 4, 5, 6, 23, 7, 19, 20, 21, 22, 8, 9, 10, 11, 12, 13, 14, 15, 16, 17, 18] 50 (wr := [_, _, _, _, _, _, _, _, _, _, _, _, _, _, _, _, _, _, _]) (w1 := _) (ws' := fun _ => [_, _, _, _, _, _, _, _, _, _, _, _, _, _, _, _, _, _, _, _, _, _, _, _]) (c_X2_placeOf (r := (rs12 r sd)) (i := upd i2 8 (nI 0)) hPB hgs.2) m_X11_195 dX11_saves_47 rfl rfl rfl rfl rfl rfl rfl (fun _ => rfl) (by decide) (by decide) (by decide) (by decide) (Nat.le_of_ble_eq_true rfl) (by omega) (by omega) (by omega) rfl (fun P47 k47 n47 hx47 => ?_)
  refine q_istore 5 52 (L' := [_, _, _, _, _, _, _]) dX11_saves_50 (by decide) rfl rfl ?_
  skip
  obtain ⟨hP2, hK2, hk2, hn2⟩ := hx47
  rw [hK] at hK2 ⊢
  rw [kPut_nil] at hK2
  have hP2N := hP2.2.1
  rw [show 4 + ([] : List Int32).idxOf (sCode s) = 4 from rfl]
  refine q_aload 4 54 dX11_saves_52 rfl rfl ?_
  refine q_iload_n 2 55 dX11_saves_54 rfl rfl rfl ?_
  refine q_uyVv 9 [9, 10, 11, 12, 13, 14, 15, 17, 18, 19, 1, 2, 3, 4, 5, 6, 16] [0, 7, 8, 20, 21, 22, 23] [0, 17, 18, 19, 20, 21, 22, 1, 2, 7, 8, 9, 10, 11, 12, 13, 23, 14, 15, 16, 3, 4, 5, 6] 58 (wr := [_, _, _, _, _, _, _]) (w1 := _) (ws' := fun _ => [_, _, _, _, _, _, _, _, _, _, _, _, _, _, _, _, _, _, _, _, _, _, _, _]) (c_X2_spreadAll (r := (rs12 r sd)) (a5 := r 5) (a6 := r 6) (a7 := r 7) (s0 := s) (Rl := Rl) (GK := GK) (num := num) hi9 (Or.inl ⟨hi10, rfl⟩) hn hP2 (fun k hk => by rw [hK2] at hk; rw [List.mem_singleton.mp hk]; exact hgs.1) hbR hnt hpo hri hRs ⟨rfl, rfl, rfl, rfl⟩ (by rw [hi10]; exact hS) (fun _ => by rw [hi11]; exact hH)) m_X11_201 dX11_saves_55 rfl rfl rfl rfl rfl rfl rfl (fun _ => rfl) (by decide) (by decide) (by decide) (by decide) (Nat.le_of_ble_eq_true rfl) (by omega) (by omega) (by omega) rfl (fun z55 k55 n55 hx55 => ?_)
  obtain ⟨⟨⟨a555, Nb55, bf55⟩, ⟨a655, Nt55, tf55⟩, ⟨a755, Np55, pf55⟩⟩, P55, u55, ⟨sf55, sb55, wf55, ef55⟩, PL55⟩ := z55
  dsimp only at hx55 ⊢
  skip
  obtain ⟨hz, hz2, hz3⟩ := hx55
  rw [hi10, hi11] at hz
  obtain ⟨U, T, um, E, hU, hum, hE, hT, hval⟩ := od_runT hpn hn0 hz (wyC p) F G W X TV hSt hSt2 hTV hF0 hG0 hF hG
  have hz1 := hz
  obtain ⟨⟨hPB3, _, _⟩, ⟨hb3, _⟩, ⟨ht3, ht4⟩, ⟨hp3, _⟩, _, hsp, _⟩ := hz1
  have ht4 := ht4 hpn
  dsimp only at hPB3 hb3 ht3 ht4 hp3 hsp hz2 hz3 hU hum hE hT hval
  have hP3N := hPB3.2.1
  obtain ⟨mm, hmm, hNm⟩ := hPB3.1.2.2.2
  have hKN := hPB3.1.2.1.1
  have hb39 := hb3.1
  have ht39 := ht3.1
  have hp39 := hp3.1
  have hw1 := (rw_max hvR hP3N).1
  have hw2 := rw_maxS hvR hNm hP3N
  have hw3 := (rw_max hsR hP3N).1
  have hw4 := rw_maxS hsR hNm hP3N
  have h11 : ¬ upd i2 8 (nI u55) 11 = -1 := by rw [pk_un (by decide), hi11]; exact hpn
  have h9 : upd i2 8 (nI u55) 9 = nI 1 := by rw [pk_un (by decide)]; exact hi9
  refine q_aload 4 60 dX11_saves_58 rfl rfl ?_
  refine q_iload_n 2 61 dX11_saves_60 rfl rfl rfl ?_
  refine q_iload_n 1 62 dX11_saves_61 rfl rfl rfl ?_
  refine q_tcSi [] [0, 1, 2, 3, 4, 5, 6, 7, 8, 9, 10, 11, 12, 13, 14, 15, 16, 17, 18, 19, 20, 21, 22, 23] [0, 1, 2, 3, 4, 5, 6, 7, 8, 9, 10, 11, 12, 13, 14, 15, 16, 17, 18, 19, 20, 21, 22, 23] 65 (wr := [_, _, _, _, _, _, _, _, _, _, _, _, _, _, _, _, _, _, _, _, _, _, _, _]) (w1 := _) (ws' := [_, _, _, _, _, _, _, _, _, _, _, _, _, _, _, _, _, _, _, _, _, _, _, _]) c_X11_waysOf m_X11_204 dX11_saves_62 rfl rfl rfl rfl rfl (by decide) (by decide) (by decide) (by decide) (Nat.le_of_ble_eq_true rfl) (by omega) (by omega) (by omega) rfl ?_
  refine q_tyVv 9 [9, 10, 11, 20, 21, 22, 23, 17, 19, 18, 16] [0, 1, 2, 3, 4, 5, 6, 7, 8, 12, 13, 14, 15] [0, 1, 2, 3, 4, 5, 6, 7, 8, 13, 14, 15, 9, 10, 11, 12, 23, 20, 22, 21, 16, 17, 18, 19] 68 (wr := [_, _, _, _, _, _, _, _, _, _, _, _, _]) (w1 := _) (ws' := fun _ => [_, _, _, _, _, _, _, _, _, _, _, _, _, _, _, _, _, _, _, _, _, _, _, _]) (c_X2_weighAll1 (r := rs567 (rs12 r sd) a555 a655 a755) (sz := (plK P55).length) (E := E) (U := U) (tk := T) (um := um) h11 h9 (by decide) (by omega) (by omega) (by omega) (by omega) (by omega) (by omega) hPB3.1.1 hKN hn hU hum (by omega) hE hT) m_X11_207 dX11_saves_65 rfl rfl rfl rfl rfl rfl rfl (fun _ => rfl) (by decide) (by decide) (by decide) (by decide) (Nat.le_of_ble_eq_true rfl) (by omega) (by omega) (by omega) rfl (fun z65 k65 n65 hx65 => ?_)
  obtain ⟨⟨a65, b65, m65, uf65, vf65⟩, ⟨c65, d65, o65, us65, vs65⟩⟩ := z65
  dsimp only at hx65 ⊢
  skip
  obtain ⟨⟨k1, n1, k2', n2', hro1, hro2, hkk, hnn⟩, u1, v1, u2, v2, huv⟩ := hx65
  obtain ⟨q1, q2, q3, q4, q5, _⟩ := rw_pot hvR hNm hP3N hro1
  obtain ⟨p1, p2, p3, p4, p5, _⟩ := rw_pot hsR hNm hP3N hro2
  have hq9 := q1.1
  have hp99 := p1.1
  obtain ⟨x1, x2, x3, x4, x5⟩ := hval u1 v1 u2 v2 0 (by rw [hK2]; exact Nat.succ_pos 0)
  rw [← huv, hK2] at x1 x2 x4 x5
  have x1 : vf65 4 = F n (sCode s) := x1
  have x2 : vs65 4 = G n (sCode s) := x2
  have x4 : ∀ c, c < 1 → wgV c us65 (E 4) = X (n - 1) (sCode s) c := x4
  have x5 : vf65 (T 4) = TV n (sCode s) := x5
  obtain ⟨t1, t2⟩ := hT 4 (by omega) (by omega)
  have hE4 := (hE 4 (by omega) (by omega)).mono (N' := o65) (by omega)
  have ec : moV us65 (E 4) 1 = moW (X (n - 1) (sCode s)) 1 := moV_W 1 x4
  have k2 := fun k m h1 h2 => K (((rs4 (rs567 (rs12 r sd) a555 a655 a755) a65 b65 c65 d65), upd i2 8 (nI u55), P55, sf55, sb55, wf55, ef55), (Nb55, bf55), (Nt55, tf55), (Np55, pf55), (m65, uf65, vf65), (o65, us65, vs65)) PL55 k m ⟨hPB3.1, hP3N, hb3, ht3, hp3, q1, p1⟩ hsp h1 h2
  clear K
  unfold saA at k2
  by_cases hw1' : w = 1
  · rw [if_pos hw1'] at k2
    by_cases hlt : moW (X (n - 1) (sCode s)) 1 < TV n (sCode s)
    · rw [if_pos hlt] at k2
      have ev : (if moV us65 (E 4) 1 < vf65 (T 4) then (1 : Int32) else 0) = 1 := by rw [ec, x5, if_pos hlt]
      refine q_iload_n 3 69 dX11_saves_68 rfl rfl rfl ?_
      refine q_iconst 1 70 dX11_saves_69 ic_1 rfl ?_
      refine q_icmp_ne 89 73 dX11_saves_70 (by decide) rfl (fun h70 => absurd hw1' h70) (fun h70 => ?_)
      refine q_aload 4 75 dX11_saves_73 rfl rfl ?_
      refine q_iload 5 77 dX11_saves_75 rfl rfl ?_
      refine q_tcVi 9 [9, 17, 19, 22, 18, 21] [0, 1, 2, 3, 4, 5, 6, 7, 8, 10, 11, 12, 13, 14, 15, 16, 20, 23] [0, 1, 2, 3, 4, 5, 6, 7, 8, 18, 9, 10, 11, 12, 13, 14, 15, 19, 22, 20, 16, 23, 21, 17] 80 (wr := [_, _, _, _, _, _, _, _, _, _, _, _, _, _, _, _, _, _]) (w1 := _) (ws' := [_, _, _, _, _, _, _, _, _, _, _, _, _, _, _, _, _, _, _, _, _, _, _, _]) (c_X2_takesAt (r := (rs4 (rs567 (rs12 r sd) a555 a655 a755) a65 b65 c65 d65)) (z := 4) (t := T 4) (E := E 4) h9 (by decide) (by omega) (by omega) (by omega) hE4 t1 (by omega) (by omega) (by omega) (by omega)) m_X11_216 dX11_saves_77 rfl rfl rfl rfl rfl rfl rfl rfl (by decide) (by decide) (by decide) (by decide) (Nat.le_of_ble_eq_true rfl) (by omega) (by omega) (by omega) rfl ?_
      rw [ev]
      refine q_if_eq 87 83 dX11_saves_80 (by decide) rfl (fun h80 => absurd h80 (by decide)) (fun h80 => ?_)
      refine q_iconst 1 84 dX11_saves_83 ic_1 rfl ?_
      refine q_goto 88 dX11_saves_84 (by decide) ?_
      refine q_ireturn dX11_saves_88 rfl ?_
      refine k2 _ _ ?_ ?_
      · show _ + (plN P + Nb + Nt + Np / 128 + Nv + Ns) ≤ kk0 + (plN P55 + Nb55 + Nt55 + Np55 / 128 + m65 + o65)
        omega
      · show _ + (10 * plN P + 16 * Nb + 16 * Nt + 2 * Np + 32 * Nv + 32 * Ns) ≤ nn0 + (10 * plN P55 + 16 * Nb55 + 16 * Nt55 + 2 * Np55 + 32 * m65 + 32 * o65)
        omega
    · rw [if_neg hlt] at k2
      have ev : (if moV us65 (E 4) 1 < vf65 (T 4) then (1 : Int32) else 0) = 0 := by rw [ec, x5, if_neg hlt]
      refine q_iload_n 3 69 dX11_saves_68 rfl rfl rfl ?_
      refine q_iconst 1 70 dX11_saves_69 ic_1 rfl ?_
      refine q_icmp_ne 89 73 dX11_saves_70 (by decide) rfl (fun h70 => absurd hw1' h70) (fun h70 => ?_)
      refine q_aload 4 75 dX11_saves_73 rfl rfl ?_
      refine q_iload 5 77 dX11_saves_75 rfl rfl ?_
      refine q_tcVi 9 [9, 17, 19, 22, 18, 21] [0, 1, 2, 3, 4, 5, 6, 7, 8, 10, 11, 12, 13, 14, 15, 16, 20, 23] [0, 1, 2, 3, 4, 5, 6, 7, 8, 18, 9, 10, 11, 12, 13, 14, 15, 19, 22, 20, 16, 23, 21, 17] 80 (wr := [_, _, _, _, _, _, _, _, _, _, _, _, _, _, _, _, _, _]) (w1 := _) (ws' := [_, _, _, _, _, _, _, _, _, _, _, _, _, _, _, _, _, _, _, _, _, _, _, _]) (c_X2_takesAt (r := (rs4 (rs567 (rs12 r sd) a555 a655 a755) a65 b65 c65 d65)) (z := 4) (t := T 4) (E := E 4) h9 (by decide) (by omega) (by omega) (by omega) hE4 t1 (by omega) (by omega) (by omega) (by omega)) m_X11_216 dX11_saves_77 rfl rfl rfl rfl rfl rfl rfl rfl (by decide) (by decide) (by decide) (by decide) (Nat.le_of_ble_eq_true rfl) (by omega) (by omega) (by omega) rfl ?_
      rw [ev]
      refine q_if_eq 87 83 dX11_saves_80 (by decide) rfl (fun h80 => ?_) (fun h80 => absurd rfl h80)
      refine q_iconst 0 88 dX11_saves_87 ic_0 rfl ?_
      refine q_ireturn dX11_saves_88 rfl ?_
      refine k2 _ _ ?_ ?_
      · show _ + (plN P + Nb + Nt + Np / 128 + Nv + Ns) ≤ kk0 + (plN P55 + Nb55 + Nt55 + Np55 / 128 + m65 + o65)
        omega
      · show _ + (10 * plN P + 16 * Nb + 16 * Nt + 2 * Np + 32 * Nv + 32 * Ns) ≤ nn0 + (10 * plN P55 + 16 * Nb55 + 16 * Nt55 + 2 * Np55 + 32 * m65 + 32 * o65)
        omega
  · rw [if_neg hw1'] at k2
    by_cases hw0 : w = 0
    · rw [if_pos hw0] at k2
      refine q_iload_n 3 69 dX11_saves_68 rfl rfl rfl ?_
      refine q_iconst 1 70 dX11_saves_69 ic_1 rfl ?_
      refine q_icmp_ne 89 73 dX11_saves_70 (by decide) rfl (fun h70 => ?_) (fun h70 => absurd h70 hw1')
      refine q_aload 4 91 dX11_saves_89 rfl rfl ?_
      refine q_iload 5 93 dX11_saves_91 rfl rfl ?_
      refine q_tcVi 9 [9, 23] [0, 1, 2, 3, 4, 5, 6, 7, 8, 10, 11, 12, 13, 14, 15, 16, 17, 18, 19, 20, 21, 22] [0, 1, 2, 3, 4, 5, 6, 7, 8, 22, 9, 10, 11, 12, 13, 14, 15, 16, 17, 18, 19, 20, 21, 23] 96 (wr := [_, _, _, _, _, _, _, _, _, _, _, _, _, _, _, _, _, _, _, _, _, _]) (w1 := _) (ws' := [_, _, _, _, _, _, _, _, _, _, _, _, _, _, _, _, _, _, _, _, _, _, _, _]) (c_X2_savedAt (r := (rs4 (rs567 (rs12 r sd) a555 a655 a755) a65 b65 c65 d65)) (z := 4) (by omega) (by omega)) m_X11_220 dX11_saves_93 rfl rfl rfl rfl rfl rfl rfl rfl (by decide) (by decide) (by decide) (by decide) (Nat.le_of_ble_eq_true rfl) (by omega) (by omega) (by omega) rfl ?_
      rw [x2]
      refine q_istore 6 98 (L' := [_, _, _, _, _, _, _]) dX11_saves_96 (by decide) rfl rfl ?_
      refine q_iload_n 3 99 dX11_saves_98 rfl rfl rfl ?_
      refine q_if_ne 107 102 dX11_saves_99 (by decide) rfl (fun h99 => absurd hw0 h99) (fun h99 => ?_)
      refine q_iload 6 104 dX11_saves_102 rfl rfl ?_
      refine q_goto 117 dX11_saves_104 (by decide) ?_
      refine q_ireturn dX11_saves_117 rfl ?_
      refine k2 _ _ ?_ ?_
      · show _ + (plN P + Nb + Nt + Np / 128 + Nv + Ns) ≤ kk0 + (plN P55 + Nb55 + Nt55 + Np55 / 128 + m65 + o65)
        omega
      · show _ + (10 * plN P + 16 * Nb + 16 * Nt + 2 * Np + 32 * Nv + 32 * Ns) ≤ nn0 + (10 * plN P55 + 16 * Nb55 + 16 * Nt55 + 2 * Np55 + 32 * m65 + 32 * o65)
        omega
    · rw [if_neg hw0] at k2
      refine q_iload_n 3 69 dX11_saves_68 rfl rfl rfl ?_
      refine q_iconst 1 70 dX11_saves_69 ic_1 rfl ?_
      refine q_icmp_ne 89 73 dX11_saves_70 (by decide) rfl (fun h70 => ?_) (fun h70 => absurd h70 hw1')
      refine q_aload 4 91 dX11_saves_89 rfl rfl ?_
      refine q_iload 5 93 dX11_saves_91 rfl rfl ?_
      refine q_tcVi 9 [9, 23] [0, 1, 2, 3, 4, 5, 6, 7, 8, 10, 11, 12, 13, 14, 15, 16, 17, 18, 19, 20, 21, 22] [0, 1, 2, 3, 4, 5, 6, 7, 8, 22, 9, 10, 11, 12, 13, 14, 15, 16, 17, 18, 19, 20, 21, 23] 96 (wr := [_, _, _, _, _, _, _, _, _, _, _, _, _, _, _, _, _, _, _, _, _, _]) (w1 := _) (ws' := [_, _, _, _, _, _, _, _, _, _, _, _, _, _, _, _, _, _, _, _, _, _, _, _]) (c_X2_savedAt (r := (rs4 (rs567 (rs12 r sd) a555 a655 a755) a65 b65 c65 d65)) (z := 4) (by omega) (by omega)) m_X11_220 dX11_saves_93 rfl rfl rfl rfl rfl rfl rfl rfl (by decide) (by decide) (by decide) (by decide) (Nat.le_of_ble_eq_true rfl) (by omega) (by omega) (by omega) rfl ?_
      rw [x2]
      refine q_istore 6 98 (L' := [_, _, _, _, _, _, _]) dX11_saves_96 (by decide) rfl rfl ?_
      refine q_iload_n 3 99 dX11_saves_98 rfl rfl rfl ?_
      refine q_if_ne 107 102 dX11_saves_99 (by decide) rfl (fun h99 => ?_) (fun h99 => absurd h99 hw0)
      refine q_iload 6 109 dX11_saves_107 rfl rfl ?_
      refine q_aload 4 111 dX11_saves_109 rfl rfl ?_
      refine q_iload 5 113 dX11_saves_111 rfl rfl ?_
      refine q_tcVi 9 [9, 21] [0, 1, 2, 3, 4, 5, 6, 7, 8, 10, 11, 12, 13, 14, 15, 16, 17, 18, 19, 20, 22, 23] [0, 1, 2, 3, 4, 5, 6, 7, 8, 22, 9, 10, 11, 12, 13, 14, 15, 16, 17, 18, 19, 23, 20, 21] 116 (wr := [_, _, _, _, _, _, _, _, _, _, _, _, _, _, _, _, _, _, _, _, _, _]) (w1 := _) (ws' := [_, _, _, _, _, _, _, _, _, _, _, _, _, _, _, _, _, _, _, _, _, _, _, _]) (c_X2_valueAt (r := (rs4 (rs567 (rs12 r sd) a555 a655 a755) a65 b65 c65 d65)) (z := 4) (by omega) (by omega)) m_X11_210 dX11_saves_113 rfl rfl rfl rfl rfl rfl rfl rfl (by decide) (by decide) (by decide) (by decide) (Nat.le_of_ble_eq_true rfl) (by omega) (by omega) (by omega) rfl ?_
      rw [x1]
      refine q_isub 117 dX11_saves_116 rfl ?_
      refine q_ireturn dX11_saves_117 rfl ?_
      refine k2 _ _ ?_ ?_
      · show _ + (plN P + Nb + Nt + Np / 128 + Nv + Ns) ≤ kk0 + (plN P55 + Nb55 + Nt55 + Np55 / 128 + m65 + o65)
        omega
      · show _ + (10 * plN P + 16 * Nb + 16 * Nt + 2 * Np + 32 * Nv + 32 * Ns) ≤ nn0 + (10 * plN P55 + 16 * Nb55 + 16 * Nt55 + 2 * Np55 + 32 * m65 + 32 * o65)
        omega
theorem c_X11_saves1 {l : Launch} {g : Gh} {q sd la ru so cc b0 al tq num : Nat} {i s li cf ri yf tr : Sc} {af : Nat → Option Nat} {PL : List RuR} {Rl : Nat → RLs} {t0 t1 t2 t5 t7 t8 : Option Nat} {oq : Nat} {r : Nat → Nat} {oi sf sb wf ef bf tf pf uf vf us vs : Sc} {Nb Nt Np Nv Ns : Nat} {P : PlS} {n : Nat} {GK : Int32 → Prop} {p w : Int32} {F G TV : Nat → Int32 → Int32} {W X : Nat → Int32 → Nat → Int32} (hpn : ¬ p = -1) (hn0 : 0 < n) (hgs : gkC GK s) (hS : SpH GK s li cf yf Rl (-1) 1) (hH : TkH GK s li p) (hSt : ∀ i, StH GK s li cf yf Rl (-1) 1 (wyC p) (F i) (W i)) (hSt2 : ∀ i, StH GK s li cf yf Rl (-1) 1 (wyC p) (G i) (X i)) (hTV : ∀ t k i, FrO s t → GK k → rvT (wyC p) (F i) (tgB li p t k) = TV i k) (hF0 : ∀ k, F 0 k = 0) (hG0 : ∀ k, G 0 k = 0) (hF : ∀ i k, GK k → F (i + 1) k = moW (W i k) 1) (hG : ∀ i k, GK k → G (i + 1) k = iMax (moW (X i k) 1) (TV (i + 1) k)) (hp : p = 0 ∨ p = 1) (ho : sOver s li = 0) (hw1 : ¬ w < 0) (hw2 : w < 3) (h6 : s 6 = 0 ∨ s 6 = 1) (hO : OdR P Nb Nt Np Nv Ns) (hri : ri 2 = nI num) (hRs : ∀ Q, SaP PL Q → RsO num yf af Q Rl) (hn : n ≤ 30) : Cn l g yX11_saves (Cond.code yX11_saves cX11_saves 7 (some .int)) 13 ((odKM - odK P Nb Nt Np Nv Ns)) ((odSM - odS P Nb Nt Np Nv Ns)) [.ref q, .int p, .int (nI n), .int w] ([(q, ob 11 i [t0, t1, t2, some sd, some tq, t5, some oq, t7, t8, none, none]), (sd, ob 10 (fun _ => 0) (rD la ru so)), (la, ob 0 li (rL cc)), (cc, aI g 192 cf), (ru, ob 6 ri (rQ b0 al)), (b0, aI g 2 yf), (al, aR g 6 af), (so, ob 8 s []), (tq, ob 8 tr []), (oq, ob 2 oi (rO12 r (some sd))), ((r 0), ob 3 (plI P) (rPl (plKe P) (plTa P))), (plKe P, aI g (plN P) (plKf P)), (plTa P, aI g (4 * plN P) (plTb P)), ((r 1), ob 8 sf []), ((r 2), ob 8 sb []), ((r 3), aI g 48 wf), ((r 4), aI g 31 ef), ((r 5), aI g Nb bf), ((r 6), aI g Nt tf), ((r 7), aI g Np pf), ((r 13), aI g Nv uf), ((r 14), aI g Nv vf), ((r 15), aI g Ns us), ((r 16), aI g Ns vs)] ++ plW g PL) (fun z : OdT × List RuR => some (.int (saA F G TV X w n (sCode s)))) (fun z : OdT × List RuR => ([(q, ob 11 i [t0, t1, t2, some sd, some tq, t5, some oq, t7, t8, none, none]), (sd, ob 10 (fun _ => 0) (rD la ru so)), (la, ob 0 li (rL cc)), (cc, aI g 192 cf), (ru, ob 6 ri (rQ b0 al)), (b0, aI g 2 yf), (al, aR g 6 af), (so, ob 8 s []), (tq, ob 8 tr []), (oq, ob 2 z.1.1.2.1 (rO12 z.1.1.1 (some sd))), ((z.1.1.1 0), ob 3 (plI z.1.1.2.2.1) (rPl (plKe z.1.1.2.2.1) (plTa z.1.1.2.2.1))), (plKe z.1.1.2.2.1, aI g (plN z.1.1.2.2.1) (plKf z.1.1.2.2.1)), (plTa z.1.1.2.2.1, aI g (4 * plN z.1.1.2.2.1) (plTb z.1.1.2.2.1)), ((z.1.1.1 1), ob 8 z.1.1.2.2.2.1 []), ((z.1.1.1 2), ob 8 z.1.1.2.2.2.2.1 []), ((z.1.1.1 3), aI g 48 z.1.1.2.2.2.2.2.1), ((z.1.1.1 4), aI g 31 z.1.1.2.2.2.2.2.2), ((z.1.1.1 5), aI g z.1.2.1.1 z.1.2.1.2), ((z.1.1.1 6), aI g z.1.2.2.1.1 z.1.2.2.1.2), ((z.1.1.1 7), aI g z.1.2.2.2.1.1 z.1.2.2.2.1.2), ((z.1.1.1 13), aI g z.1.2.2.2.2.1.1 z.1.2.2.2.2.1.2.1), ((z.1.1.1 14), aI g z.1.2.2.2.2.1.1 z.1.2.2.2.2.1.2.2), ((z.1.1.1 15), aI g z.1.2.2.2.2.2.1 z.1.2.2.2.2.2.2.1), ((z.1.1.1 16), aI g z.1.2.2.2.2.2.1 z.1.2.2.2.2.2.2.2)] ++ plW g z.2)) (fun z k m => OdG z.1 ∧ SaP PL z.2 ∧ k + odK P Nb Nt Np Nv Ns ≤ ozK z.1 ∧ m + odS P Nb Nt Np Nv Ns ≤ ozS z.1) := by
  refine ct_of (M := mtX11_saves) [some (.ref q), some (.int p), some (.int (nI n)), some (.int w), none, none, none] rfl (by decide) (Nat.le_of_ble_eq_true rfl) (fun _ h => h) (fun a => ?_)
  obtain ⟨o1, o2, o3, o4, o5, o6, o7⟩ := hO
  have g3 := nI_nn (a := n) (by omega)
  have g4 : nI n ≤ (30 : Int32) := by rw [show (30 : Int32) = nI 30 by decide]; exact nI_le hn (by decide)
  have gn : ¬ nI n = 0 := fun h => by have := nI_eqI (by omega) (by decide) (h.trans (by decide : (0 : Int32) = nI 0)); omega
  refine q_iload_n 1 1 dX11_saves_0 rfl rfl rfl ?_
  refine q_tcSv [] [0, 1, 2, 3, 4, 5, 6, 7, 8, 9, 10, 11, 12, 13, 14, 15, 16, 17, 18, 19, 20, 21, 22, 23] [0, 1, 2, 3, 4, 5, 6, 7, 8, 9, 10, 11, 12, 13, 14, 15, 16, 17, 18, 19, 20, 21, 22, 23] 4 (wr := [_, _, _, _, _, _, _, _, _, _, _, _, _, _, _, _, _, _, _, _, _, _, _, _]) (w1 := _) (ws' := [_, _, _, _, _, _, _, _, _, _, _, _, _, _, _, _, _, _, _, _, _, _, _, _]) (c_X11_needPlayer hp) m_X11_130 dX11_saves_1 rfl rfl rfl rfl rfl (by decide) (by decide) (by decide) (by decide) (Nat.le_of_ble_eq_true rfl) (by omega) (by omega) (by omega) rfl ?_
  refine q_iload_n 2 5 dX11_saves_4 rfl rfl rfl ?_
  refine q_tcSv [] [0, 1, 2, 3, 4, 5, 6, 7, 8, 9, 10, 11, 12, 13, 14, 15, 16, 17, 18, 19, 20, 21, 22, 23] [0, 1, 2, 3, 4, 5, 6, 7, 8, 9, 10, 11, 12, 13, 14, 15, 16, 17, 18, 19, 20, 21, 22, 23] 8 (wr := [_, _, _, _, _, _, _, _, _, _, _, _, _, _, _, _, _, _, _, _, _, _, _, _]) (w1 := _) (ws' := [_, _, _, _, _, _, _, _, _, _, _, _, _, _, _, _, _, _, _, _, _, _, _, _]) (c_X11_needRallies g3 g4) m_X11_188 dX11_saves_5 rfl rfl rfl rfl rfl (by decide) (by decide) (by decide) (by decide) (Nat.le_of_ble_eq_true rfl) (by omega) (by omega) (by omega) rfl ?_
  refine q_aload_n 0 9 dX11_saves_8 rfl rfl rfl ?_
  refine q_aload_n 0 10 dX11_saves_9 rfl rfl rfl ?_
  refine q_getR 0 13 f_X11_30 dX11_saves_10 rfl rfl rfl rfl ?_
  refine q_getR 1 16 f_X11_138 dX11_saves_13 rfl rfl rfl rfl ?_
  refine q_tcVv 0 [0, 1, 2, 7] [3, 4, 5, 6, 8, 9, 10, 11, 12, 13, 14, 15, 16, 17, 18, 19, 20, 21, 22, 23] [20, 21, 22, 0, 1, 2, 3, 23, 4, 5, 6, 7, 8, 9, 10, 11, 12, 13, 14, 15, 16, 17, 18, 19] 19 (wr := [_, _, _, _, _, _, _, _, _, _, _, _, _, _, _, _, _, _, _, _]) (w1 := _) (ws' := [_, _, _, _, _, _, _, _, _, _, _, _, _, _, _, _, _, _, _, _, _, _, _, _]) (c_X11_needGoingOn ho) m_X11_176 dX11_saves_16 rfl rfl rfl rfl rfl rfl rfl rfl (by decide) (by decide) (by decide) (by decide) (Nat.le_of_ble_eq_true rfl) (by omega) (by omega) (by omega) rfl ?_
  refine q_iload_n 3 20 dX11_saves_19 rfl rfl rfl ?_
  refine q_iconst 3 21 dX11_saves_20 ic_3 rfl ?_
  refine q_tcSv [] [0, 1, 2, 3, 4, 5, 6, 7, 8, 9, 10, 11, 12, 13, 14, 15, 16, 17, 18, 19, 20, 21, 22, 23] [0, 1, 2, 3, 4, 5, 6, 7, 8, 9, 10, 11, 12, 13, 14, 15, 16, 17, 18, 19, 20, 21, 22, 23] 24 (wr := [_, _, _, _, _, _, _, _, _, _, _, _, _, _, _, _, _, _, _, _, _, _, _, _]) (w1 := _) (ws' := [_, _, _, _, _, _, _, _, _, _, _, _, _, _, _, _, _, _, _, _, _, _, _, _]) (c_X11_needWhat hw1 hw2) m_X11_122 dX11_saves_21 rfl rfl rfl rfl rfl (by decide) (by decide) (by decide) (by decide) (Nat.le_of_ble_eq_true rfl) (by omega) (by omega) (by omega) rfl ?_
  refine q_iload_n 2 25 dX11_saves_24 rfl rfl rfl ?_
  refine q_if_ne 30 28 dX11_saves_25 (by decide) rfl (fun h25 => ?_) (fun h25 => absurd h25 gn)
  refine q_aload_n 0 31 dX11_saves_30 rfl rfl rfl ?_
  refine q_iconst (-1) 32 dX11_saves_31 ic_m1 rfl ?_
  refine q_iload_n 1 33 dX11_saves_32 rfl rfl rfl ?_
  refine q_tcVr 0 [0, 1, 7, 9, 10, 11, 12, 13, 14, 15, 16, 17, 18, 19, 20, 21, 22, 23] [2, 3, 4, 5, 6, 8] [6, 7, 0, 1, 2, 3, 4, 8, 5, 9, 10, 11, 12, 13, 14, 15, 16, 17, 18, 19, 20, 21, 22, 23] 36 (wr := [_, _, _, _, _, _]) (w1 := _) (ws' := [_, _, _, _, _, _, _, _, _, _, _, _, _, _, _, _, _, _, _, _, _, _, _, _]) (c_X11_freshOdds1 o1 h6) m_X11_191 dX11_saves_33 rfl rfl rfl rfl rfl rfl rfl rfl (by decide) (by decide) (by decide) (by decide) (Nat.le_of_ble_eq_true rfl) (by omega) (by omega) (by omega) rfl ?_
  skip
  exact w_saves (r := r) (i2 := oiW oi (-1) p) (show (if (-1 : Int32) = -1 then (1 : Int32) else 4) = nI 1 by decide) rfl rfl hpn hn0 hgs hS hH hSt hSt2 hTV hF0 hG0 hF hG (by omega) (plB_nil o1 o2) rfl o3 o4 o5 o6 o7 hri hRs hn (by rw [Nat.zero_add]; exact Nat.le_refl _) (by rw [Nat.zero_add]; exact Nat.le_refl _) (fun z PL9 k m h1 h2 h3 h4 => pX.mk (z, PL9) ⟨h1, h2, by rw [Nat.zero_add] at h3; exact h3, by rw [Nat.zero_add] at h4; exact h4⟩ rfl rfl)
theorem c_X11_saves0 {l : Launch} {g : Gh} {q sd la ru so cc b0 al tq num : Nat} {i s li cf ri yf tr : Sc} {af : Nat → Option Nat} {PL : List RuR} {Rl : Nat → RLs} {t0 t1 t2 t5 t7 t8 : Option Nat} {n : Nat} {GK : Int32 → Prop} {p w : Int32} {F G TV : Nat → Int32 → Int32} {W X : Nat → Int32 → Nat → Int32} (hpn : ¬ p = -1) (hn0 : 0 < n) (hgs : gkC GK s) (hS : SpH GK s li cf yf Rl (-1) 1) (hH : TkH GK s li p) (hSt : ∀ i, StH GK s li cf yf Rl (-1) 1 (wyC p) (F i) (W i)) (hSt2 : ∀ i, StH GK s li cf yf Rl (-1) 1 (wyC p) (G i) (X i)) (hTV : ∀ t k i, FrO s t → GK k → rvT (wyC p) (F i) (tgB li p t k) = TV i k) (hF0 : ∀ k, F 0 k = 0) (hG0 : ∀ k, G 0 k = 0) (hF : ∀ i k, GK k → F (i + 1) k = moW (W i k) 1) (hG : ∀ i k, GK k → G (i + 1) k = iMax (moW (X i k) 1) (TV (i + 1) k)) (hp : p = 0 ∨ p = 1) (ho : sOver s li = 0) (hw1 : ¬ w < 0) (hw2 : w < 3) (h6 : s 6 = 0 ∨ s 6 = 1) (hri : ri 2 = nI num) (hRs : ∀ Q, SaP PL Q → RsO num yf af Q Rl) (hn : n ≤ 30) : Cn l g yX11_saves (Cond.code yX11_saves cX11_saves 7 (some .int)) 13 (15 + 89987) (521 + 3830848) [.ref q, .int p, .int (nI n), .int w] ([(q, ob 11 i [t0, t1, t2, some sd, some tq, t5, none, t7, t8, none, none]), (sd, ob 10 (fun _ => 0) (rD la ru so)), (la, ob 0 li (rL cc)), (cc, aI g 192 cf), (ru, ob 6 ri (rQ b0 al)), (b0, aI g 2 yf), (al, aR g 6 af), (so, ob 8 s []), (tq, ob 8 tr [])] ++ plW g PL) (fun z : Nat × OdT × List RuR => some (.int (saA F G TV X w n (sCode s)))) (fun z : Nat × OdT × List RuR => ([(q, ob 11 i [t0, t1, t2, some sd, some tq, t5, some z.1, t7, t8, none, none]), (sd, ob 10 (fun _ => 0) (rD la ru so)), (la, ob 0 li (rL cc)), (cc, aI g 192 cf), (ru, ob 6 ri (rQ b0 al)), (b0, aI g 2 yf), (al, aR g 6 af), (so, ob 8 s []), (tq, ob 8 tr []), (z.1, ob 2 z.2.1.1.2.1 (rO12 z.2.1.1.1 (some sd))), ((z.2.1.1.1 0), ob 3 (plI z.2.1.1.2.2.1) (rPl (plKe z.2.1.1.2.2.1) (plTa z.2.1.1.2.2.1))), (plKe z.2.1.1.2.2.1, aI g (plN z.2.1.1.2.2.1) (plKf z.2.1.1.2.2.1)), (plTa z.2.1.1.2.2.1, aI g (4 * plN z.2.1.1.2.2.1) (plTb z.2.1.1.2.2.1)), ((z.2.1.1.1 1), ob 8 z.2.1.1.2.2.2.1 []), ((z.2.1.1.1 2), ob 8 z.2.1.1.2.2.2.2.1 []), ((z.2.1.1.1 3), aI g 48 z.2.1.1.2.2.2.2.2.1), ((z.2.1.1.1 4), aI g 31 z.2.1.1.2.2.2.2.2.2), ((z.2.1.1.1 5), aI g z.2.1.2.1.1 z.2.1.2.1.2), ((z.2.1.1.1 6), aI g z.2.1.2.2.1.1 z.2.1.2.2.1.2), ((z.2.1.1.1 7), aI g z.2.1.2.2.2.1.1 z.2.1.2.2.2.1.2), ((z.2.1.1.1 13), aI g z.2.1.2.2.2.2.1.1 z.2.1.2.2.2.2.1.2.1), ((z.2.1.1.1 14), aI g z.2.1.2.2.2.2.1.1 z.2.1.2.2.2.2.1.2.2), ((z.2.1.1.1 15), aI g z.2.1.2.2.2.2.2.1 z.2.1.2.2.2.2.2.2.1), ((z.2.1.1.1 16), aI g z.2.1.2.2.2.2.2.1 z.2.1.2.2.2.2.2.2.2)] ++ plW g z.2.2)) (fun z k m => OdG z.2.1 ∧ SaP PL z.2.2 ∧ k + 145 ≤ 15 + ozK z.2.1 ∧ m + 3488 ≤ 521 + ozS z.2.1) := by
  refine ct_of (M := mtX11_saves) [some (.ref q), some (.int p), some (.int (nI n)), some (.int w), none, none, none] rfl (by decide) (Nat.le_of_ble_eq_true rfl) (fun _ h => h) (fun a => ?_)
  have g3 := nI_nn (a := n) (by omega)
  have g4 : nI n ≤ (30 : Int32) := by rw [show (30 : Int32) = nI 30 by decide]; exact nI_le hn (by decide)
  have gn : ¬ nI n = 0 := fun h => by have := nI_eqI (by omega) (by decide) (h.trans (by decide : (0 : Int32) = nI 0)); omega
  refine q_iload_n 1 1 dX11_saves_0 rfl rfl rfl ?_
  refine q_tcSv [] [0, 1, 2, 3, 4, 5, 6, 7, 8] [0, 1, 2, 3, 4, 5, 6, 7, 8] 4 (wr := [_, _, _, _, _, _, _, _, _]) (w1 := _) (ws' := [_, _, _, _, _, _, _, _, _]) (c_X11_needPlayer hp) m_X11_130 dX11_saves_1 rfl rfl rfl rfl rfl (by decide) (by decide) (by decide) (by decide) (Nat.le_of_ble_eq_true rfl) (by omega) (by omega) (by omega) rfl ?_
  refine q_iload_n 2 5 dX11_saves_4 rfl rfl rfl ?_
  refine q_tcSv [] [0, 1, 2, 3, 4, 5, 6, 7, 8] [0, 1, 2, 3, 4, 5, 6, 7, 8] 8 (wr := [_, _, _, _, _, _, _, _, _]) (w1 := _) (ws' := [_, _, _, _, _, _, _, _, _]) (c_X11_needRallies g3 g4) m_X11_188 dX11_saves_5 rfl rfl rfl rfl rfl (by decide) (by decide) (by decide) (by decide) (Nat.le_of_ble_eq_true rfl) (by omega) (by omega) (by omega) rfl ?_
  refine q_aload_n 0 9 dX11_saves_8 rfl rfl rfl ?_
  refine q_aload_n 0 10 dX11_saves_9 rfl rfl rfl ?_
  refine q_getR 0 13 f_X11_30 dX11_saves_10 rfl rfl rfl rfl ?_
  refine q_getR 1 16 f_X11_138 dX11_saves_13 rfl rfl rfl rfl ?_
  refine q_tcVv 0 [0, 1, 2, 7] [3, 4, 5, 6, 8] [5, 6, 7, 0, 1, 2, 3, 8, 4] 19 (wr := [_, _, _, _, _]) (w1 := _) (ws' := [_, _, _, _, _, _, _, _, _]) (c_X11_needGoingOn ho) m_X11_176 dX11_saves_16 rfl rfl rfl rfl rfl rfl rfl rfl (by decide) (by decide) (by decide) (by decide) (Nat.le_of_ble_eq_true rfl) (by omega) (by omega) (by omega) rfl ?_
  refine q_iload_n 3 20 dX11_saves_19 rfl rfl rfl ?_
  refine q_iconst 3 21 dX11_saves_20 ic_3 rfl ?_
  refine q_tcSv [] [0, 1, 2, 3, 4, 5, 6, 7, 8] [0, 1, 2, 3, 4, 5, 6, 7, 8] 24 (wr := [_, _, _, _, _, _, _, _, _]) (w1 := _) (ws' := [_, _, _, _, _, _, _, _, _]) (c_X11_needWhat hw1 hw2) m_X11_122 dX11_saves_21 rfl rfl rfl rfl rfl (by decide) (by decide) (by decide) (by decide) (Nat.le_of_ble_eq_true rfl) (by omega) (by omega) (by omega) rfl ?_
  refine q_iload_n 2 25 dX11_saves_24 rfl rfl rfl ?_
  refine q_if_ne 30 28 dX11_saves_25 (by decide) rfl (fun h25 => ?_) (fun h25 => absurd h25 gn)
  refine q_aload_n 0 31 dX11_saves_30 rfl rfl rfl ?_
  refine q_iconst (-1) 32 dX11_saves_31 ic_m1 rfl ?_
  refine q_iload_n 1 33 dX11_saves_32 rfl rfl rfl ?_
  refine q_tyVr 0 [0, 1, 7] [2, 3, 4, 5, 6, 8] [6, 7, 0, 1, 2, 3, 4, 8, 5, 9, 10, 11, 12, 13, 14, 15, 16, 17, 18, 19, 20, 21, 22, 23] 36 (wr := [_, _, _, _, _, _]) (w1 := _) (ws' := fun _ => [_, _, _, _, _, _, _, _, _, _, _, _, _, _, _, _, _, _, _, _, _, _, _, _]) (c_X11_freshOdds0 h6) m_X11_191 dX11_saves_33 rfl rfl rfl rfl rfl rfl rfl (fun _ => rfl) (by decide) (by decide) (by decide) (by decide) (Nat.le_of_ble_eq_true rfl) (by omega) (by omega) (by omega) rfl (fun z33 k33 n33 hx33 => ?_)
  obtain ⟨oq33, r33, ke33, ta33⟩ := z33
  dsimp only at hx33 ⊢
  skip
  obtain ⟨ka, na⟩ := hx33
  exact w_saves (r := r33) (i2 := oiW (fun _ => 0) (-1) p) (show (if (-1 : Int32) = -1 then (1 : Int32) else 4) = nI 1 by decide) rfl rfl hpn hn0 hgs hS hH hSt hSt2 hTV hF0 hG0 hF hG (by omega) (plB_nil (pl0_O _ _) (by show 16 ≤ 16384; omega)) rfl ⟨by omega, Or.inl rfl⟩ ⟨by omega, Or.inl rfl⟩ ⟨by omega, 0, by omega⟩ ⟨by omega, Or.inl rfl⟩ ⟨by omega, Or.inl rfl⟩ hri hRs hn (by show _ + (16384 + 16389 + 16389 + 8192 + 16389 + 16389 - (16 + 32 + 32 + 128 / 128 + 32 + 32)) ≤ _; omega) (by show _ + (10 * 16384 + 16 * 16389 + 16 * 16389 + 2 * 1048576 + 32 * 16389 + 32 * 16389 - (10 * 16 + 16 * 32 + 16 * 32 + 2 * 128 + 32 * 32 + 32 * 32)) ≤ _; omega) (fun z PL9 k m h1 h2 h3 h4 => pX.mk (oq33, z, PL9) ⟨h1, h2, by show k + 145 ≤ 15 + ozK z; have e : plN (plC (pl0 ke33 ta33)) = 16 := rfl; unfold odK at h3; rw [e, ka] at h3; generalize ozK z = Z9 at *; clear e hS hSt; omega, by show m + 3488 ≤ 521 + ozS z; have e : plN (plC (pl0 ke33 ta33)) = 16 := rfl; unfold odS at h4; rw [e, na] at h4; generalize ozS z = Z9 at *; clear e hS hSt; omega⟩ rfl rfl)

