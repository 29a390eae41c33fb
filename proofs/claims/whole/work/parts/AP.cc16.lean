/-! ===== ChaseCourt: set ===== -/
theorem ssV_congr {V : Nat → Nat → Nat → Int32} {rf rf' : Sc} {b f s : Nat} (h : ∀ w, w < 4 → rf (b + w) = rf' (b + w)) : ∀ w, w ≤ 4 → ssV V rf b f s w = ssV V rf' b f s w
  | 0, _ => rfl
  | w + 1, hw => by rw [ssV, ssV, ssV_congr h w (by omega), h w (by omega)]
def seH (F : Nat → Nat → Int32 → Int32) (n : Nat) (k0 : Int32) : Sc := fun w => F w n k0
def seF (F : Nat → Nat → Int32 → Int32) (n : Nat) (k1 k2 : Int32) : Sc := fun w => if w < 4 then F w n k1 else F (w - 4) n k2
theorem w_set {l : Launch} {g : Gh} {q sd la ru so cc b0 al tq num : Nat} {i s li cf ri yf tr : Sc} {af : Nat → Option Nat} {PL : List RuR} {Rl : Nat → RLs} {t0 t1 t2 t5 t7 t8 : Option Nat} {oq : Nat} {r : Nat → Nat} {sb wf ef bf tf pf uf vf us vs : Sc} {Nb Nt Np Nv Ns : Nat} {P : PlS} {i2 : Sc} {rc rs d kk0 nn0 n : Nat} {post : Pst} {px : Pxc} {a : Act} {GK : Int32 → Prop} {p : Int32} {G g0 g1 : Nat} {F : Nat → Nat → Int32 → Int32} {W : Nat → Nat → Int32 → Nat → Int32} {V : Nat → Nat → Nat → Int32} (hi9 : i2 9 = nI 1) (hi10 : i2 10 = -1) (hi11 : i2 11 = -1) (hgs : gkC GK s) (hga : gkC GK (ngS s 0)) (hgb : gkC GK (ngS s 1)) (hS : SpH GK s li cf yf Rl (-1) 1) (hSt : ∀ w, w < 4 → ∀ i, StH GK s li cf yf Rl (-1) 1 (1 <<< (nI w &&& 31)) (F w i) (W w i)) (hF0 : ∀ w k, F w 0 k = 0) (hF : ∀ w i k, GK k → F w (i + 1) k = moW (W w i k) 1) (h60 : s 6 = 0 ∨ s 6 = 1) (hG6 : G ≤ 6) (hlG : li 1 = nI G) (h70 : s 7 = nI g0) (h80 : s 8 = nI g1) (hg0 : g0 < G) (hg1 : g1 < G) (hV1 : ∀ f s c, f ≤ G → s ≤ G → c ≤ 1 → (f = G ∨ s = G) → V f s c = suV G p f) (hV2 : ∀ f t c, f < G → t < G → c ≤ 1 → V f t c = (ssV V (seF F n (sCode (ngS s 0)) (sCode (ngS s 1))) (4 * c) f t 4).toInt32) (hd : 12 ≤ d) (hPB : PlB P) (hK : plK P = []) (hbR : RmO Nb) (hnt : RmO Nt) (hpo : PoO Np) (hvR : RmO Nv) (hsR : RmO Ns) (hri : ri 2 = nI num) (hRs : ∀ Q, SaP PL Q → RsO num yf af Q Rl) (hn : n ≤ 30) (hrc : kk0 + 4 + (odKM - odK P Nb Nt Np Nv Ns) ≤ rc) (hrs : nn0 + 113 + (odSM - odS P Nb Nt Np Nv Ns) ≤ rs) (K : ∀ (z : OdT) (PL9 : List RuR) (k m : Nat), OdG z → SaP PL PL9 → k + odK P Nb Nt Np Nv Ns ≤ kk0 + 4 + ozK z → m + odS P Nb Nt Np Nv Ns ≤ nn0 + 113 + ozS z → post (some (.int (ssV V (seH F n (sCode s)) 0 g0 g1 4).toInt32)) ([(q, ob 11 i [t0, t1, t2, some sd, some tq, t5, some oq, t7, t8, none, none]), (sd, ob 10 (fun _ => 0) (rD la ru so)), (la, ob 0 li (rL cc)), (cc, aI g 192 cf), (ru, ob 6 ri (rQ b0 al)), (b0, aI g 2 yf), (al, aR g 6 af), (so, ob 8 s []), (tq, ob 8 (ngS s 1) []), (oq, ob 2 z.1.2.1 (rO12 z.1.1 (some sd))), ((z.1.1 0), ob 3 (plI z.1.2.2.1) (rPl (plKe z.1.2.2.1) (plTa z.1.2.2.1))), (plKe z.1.2.2.1, aI g (plN z.1.2.2.1) (plKf z.1.2.2.1)), (plTa z.1.2.2.1, aI g (4 * plN z.1.2.2.1) (plTb z.1.2.2.1)), ((z.1.1 1), ob 8 z.1.2.2.2.1 []), ((z.1.1 2), ob 8 z.1.2.2.2.2.1 []), ((z.1.1 3), aI g 48 z.1.2.2.2.2.2.1), ((z.1.1 4), aI g 31 z.1.2.2.2.2.2.2), ((z.1.1 5), aI g z.2.1.1 z.2.1.2), ((z.1.1 6), aI g z.2.2.1.1 z.2.2.1.2), ((z.1.1 7), aI g z.2.2.2.1.1 z.2.2.2.1.2), ((z.1.1 13), aI g z.2.2.2.2.1.1 z.2.2.2.2.1.2.1), ((z.1.1 14), aI g z.2.2.2.2.1.1 z.2.2.2.2.1.2.2), ((z.1.1 15), aI g z.2.2.2.2.2.1 z.2.2.2.2.2.2.1), ((z.1.1 16), aI g z.2.2.2.2.2.1 z.2.2.2.2.2.2.2)] ++ plW g PL9) k m) : WPs l g mtX11_set d rc rs post px a 25 [some (.ref q), some (.int p), some (.int (nI n)), none, none, none, none, none, none] [.ref oq] ([(q, ob 11 i [t0, t1, t2, some sd, some tq, t5, some oq, t7, t8, none, none]), (sd, ob 10 (fun _ => 0) (rD la ru so)), (la, ob 0 li (rL cc)), (cc, aI g 192 cf), (ru, ob 6 ri (rQ b0 al)), (b0, aI g 2 yf), (al, aR g 6 af), (so, ob 8 s []), (tq, ob 8 tr []), (oq, ob 2 (upd i2 8 (nI 0)) (rO (rs12 r sd))), ((r 0), ob 3 (plI P) (rPl (plKe P) (plTa P))), (plKe P, aI g (plN P) (plKf P)), (plTa P, aI g (4 * plN P) (plTb P)), ((r 1), ob 8 s []), ((r 2), ob 8 sb []), ((r 3), aI g 48 wf), ((r 4), aI g 31 ef), ((r 5), aI g Nb bf), ((r 6), aI g Nt tf), ((r 7), aI g Np pf), ((r 13), aI g Nv uf), ((r 14), aI g Nv vf), ((r 15), aI g Ns us), ((r 16), aI g Ns vs)] ++ plW g PL) kk0 nn0 := by
  have hPN := hPB.2.1
  have hb9 := hbR.1
  have hn9 := hnt.1
  have hp9 := hpo.1
  have hv9 := hvR.1
  have hs9 := hsR.1
  have hrc : kk0 + 4 + (16384 + 16389 + 16389 + 8192 + 16389 + 16389 - (plN P + Nb + Nt + Np / 128 + Nv + Ns)) ≤ rc := hrc
  have hrs : nn0 + 113 + (10 * 16384 + 16 * 16389 + 16 * 16389 + 2 * 1048576 + 32 * 16389 + 32 * 16389 - (10 * plN P + 16 * Nb + 16 * Nt + 2 * Np + 32 * Nv + 32 * Ns)) ≤ rs := hrs
  refine q_astore_n 3 26 (L' := [_, _, _, _, _, _, _, _, _]) dX11_set_25 rfl (by decide) rfl rfl ?_
  refine q_aload_n 3 27 dX11_set_26 rfl rfl rfl ?_
  refine q_aload_n 0 28 dX11_set_27 rfl rfl rfl ?_
  refine q_getR 0 31 f_X11_30 dX11_set_28 rfl rfl rfl rfl ?_
  refine q_getR 1 34 f_X11_138 dX11_set_31 rfl rfl rfl rfl ?_
  refine q_tyVi 9 [9, 10, 11, 12, 7] [0, 1, 2, 3, 4, 5, 6, 8, 13, 14, 15, 16, 17, 18, 19, 20, 21, 22, 23] [0, 1, 2, 3, 4, 5, 6, 23, 7, 19, 20, 21, 22, 8, 9, 10, 11, 12, 13, 14, 15, 16, 17, 18] 37 (wr := [_, _, _, _, _, _, _, _, _, _, _, _, _, _, _, _, _, _, _]) (w1 := _) (ws' := fun _ => [_, _, _, _, _, _, _, _, _, _, _, _, _, _, _, _, _, _, _, _, _, _, _, _]) (c_X2_placeOf (r := (rs12 r sd)) (i := upd i2 8 (nI 0)) hPB hgs.2) m_X11_195 dX11_set_34 rfl rfl rfl rfl rfl rfl rfl (fun _ => rfl) (by decide) (by decide) (by decide) (by decide) (Nat.le_of_ble_eq_true rfl) (by omega) (by omega) (by omega) rfl (fun P34 k34 n34 hx34 => ?_)
  refine q_istore 4 39 (L' := [_, _, _, _, _, _, _, _, _]) dX11_set_37 (by decide) rfl rfl ?_
  skip
  obtain ⟨hPa, hKa, hka, hna⟩ := hx34
  rw [hK] at hKa ⊢
  rw [kPut_nil] at hKa
  have hPaN := hPa.2.1
  rw [show 4 + ([] : List Int32).idxOf (sCode s) = 4 from rfl]
  refine q_aload_n 3 40 dX11_set_39 rfl rfl rfl ?_
  refine q_aload_n 0 41 dX11_set_40 rfl rfl rfl ?_
  refine q_iconst 0 42 dX11_set_41 ic_0 rfl ?_
  refine q_tcVr 0 [0, 1, 8, 7] [2, 3, 4, 5, 6, 9, 10, 11, 12, 13, 14, 15, 16, 17, 18, 19, 20, 21, 22, 23] [20, 21, 0, 1, 2, 3, 4, 23, 22, 5, 6, 7, 8, 9, 10, 11, 12, 13, 14, 15, 16, 17, 18, 19] 45 (wr := [_, _, _, _, _, _, _, _, _, _, _, _, _, _, _, _, _, _, _, _]) (w1 := _) (ws' := [_, _, _, _, _, _, _, _, _, _, _, _, _, _, _, _, _, _, _, _, _, _, _, _]) (c_X11_newGame h60) m_X11_230 dX11_set_42 rfl rfl rfl rfl rfl rfl rfl rfl (by decide) (by decide) (by decide) (by decide) (Nat.le_of_ble_eq_true rfl) (by omega) (by omega) (by omega) rfl ?_
  refine q_tyVi 9 [9, 10, 11, 12, 8] [0, 1, 2, 3, 4, 5, 6, 7, 13, 14, 15, 16, 17, 18, 19, 20, 21, 22, 23] [0, 1, 2, 3, 4, 5, 6, 7, 23, 19, 20, 21, 22, 8, 9, 10, 11, 12, 13, 14, 15, 16, 17, 18] 48 (wr := [_, _, _, _, _, _, _, _, _, _, _, _, _, _, _, _, _, _, _]) (w1 := _) (ws' := fun _ => [_, _, _, _, _, _, _, _, _, _, _, _, _, _, _, _, _, _, _, _, _, _, _, _]) (c_X2_placeOf (r := (rs12 r sd)) (i := upd i2 8 (nI 0)) hPa hga.2) m_X11_195 dX11_set_45 rfl rfl rfl rfl rfl rfl rfl (fun _ => rfl) (by decide) (by decide) (by decide) (by decide) (Nat.le_of_ble_eq_true rfl) (by omega) (by omega) (by omega) rfl (fun P45 k45 n45 hx45 => ?_)
  refine q_istore 5 50 (L' := [_, _, _, _, _, _, _, _, _]) dX11_set_48 (by decide) rfl rfl ?_
  skip
  obtain ⟨hPb, hKb, hkb, hnb⟩ := hx45
  rw [hKa] at hKb ⊢
  have hPbN := hPb.2.1
  have hat1 := kPut_at (K := [sCode s]) (k := sCode (ngS s 0))
  have hlt1 := kPut_lt (K := [sCode s]) (k := sCode (ngS s 0)) (j := 0) (Nat.succ_pos 0)
  rw [← hKb] at hat1 hlt1
  generalize ([sCode s]).idxOf (sCode (ngS s 0)) = j1 at *
  refine q_aload_n 3 51 dX11_set_50 rfl rfl rfl ?_
  refine q_aload_n 0 52 dX11_set_51 rfl rfl rfl ?_
  refine q_iconst 1 53 dX11_set_52 ic_1 rfl ?_
  refine q_tcVr 0 [0, 1, 8, 7] [2, 3, 4, 5, 6, 9, 10, 11, 12, 13, 14, 15, 16, 17, 18, 19, 20, 21, 22, 23] [20, 21, 0, 1, 2, 3, 4, 23, 22, 5, 6, 7, 8, 9, 10, 11, 12, 13, 14, 15, 16, 17, 18, 19] 56 (wr := [_, _, _, _, _, _, _, _, _, _, _, _, _, _, _, _, _, _, _, _]) (w1 := _) (ws' := [_, _, _, _, _, _, _, _, _, _, _, _, _, _, _, _, _, _, _, _, _, _, _, _]) (c_X11_newGame h60) m_X11_230 dX11_set_53 rfl rfl rfl rfl rfl rfl rfl rfl (by decide) (by decide) (by decide) (by decide) (Nat.le_of_ble_eq_true rfl) (by omega) (by omega) (by omega) rfl ?_
  refine q_tyVi 9 [9, 10, 11, 12, 8] [0, 1, 2, 3, 4, 5, 6, 7, 13, 14, 15, 16, 17, 18, 19, 20, 21, 22, 23] [0, 1, 2, 3, 4, 5, 6, 7, 23, 19, 20, 21, 22, 8, 9, 10, 11, 12, 13, 14, 15, 16, 17, 18] 59 (wr := [_, _, _, _, _, _, _, _, _, _, _, _, _, _, _, _, _, _, _]) (w1 := _) (ws' := fun _ => [_, _, _, _, _, _, _, _, _, _, _, _, _, _, _, _, _, _, _, _, _, _, _, _]) (c_X2_placeOf (r := (rs12 r sd)) (i := upd i2 8 (nI 0)) hPb hgb.2) m_X11_195 dX11_set_56 rfl rfl rfl rfl rfl rfl rfl (fun _ => rfl) (by decide) (by decide) (by decide) (by decide) (Nat.le_of_ble_eq_true rfl) (by omega) (by omega) (by omega) rfl (fun P56 k56 n56 hx56 => ?_)
  refine q_istore 6 61 (L' := [_, _, _, _, _, _, _, _, _]) dX11_set_59 (by decide) rfl rfl ?_
  skip
  obtain ⟨hP2, hK2, hk2, hn2⟩ := hx56
  have hP2N := hP2.2.1
  have hat2 := kPut_at (K := plK P45) (k := sCode (ngS s 1))
  have hltA := kPut_lt (K := plK P45) (k := sCode (ngS s 1)) (j := 0) hlt1.2
  have hltB := kPut_lt (K := plK P45) (k := sCode (ngS s 1)) (j := j1) hat1.2
  rw [hlt1.1] at hltA
  rw [hat1.1] at hltB
  rw [← hK2] at hat2 hltA hltB
  generalize (plK P45).idxOf (sCode (ngS s 1)) = j2 at *
  refine q_aload_n 3 62 dX11_set_61 rfl rfl rfl ?_
  refine q_iload_n 2 63 dX11_set_62 rfl rfl rfl ?_
  refine q_uyVv 9 [9, 10, 11, 12, 13, 14, 15, 17, 18, 19, 1, 2, 3, 4, 5, 6, 16] [0, 7, 8, 20, 21, 22, 23] [0, 17, 18, 19, 20, 21, 22, 1, 2, 7, 8, 9, 10, 11, 12, 13, 23, 14, 15, 16, 3, 4, 5, 6] 66 (wr := [_, _, _, _, _, _, _]) (w1 := _) (ws' := fun _ => [_, _, _, _, _, _, _, _, _, _, _, _, _, _, _, _, _, _, _, _, _, _, _, _]) (c_X2_spreadAll (r := (rs12 r sd)) (a5 := r 5) (a6 := r 6) (a7 := r 7) (s0 := s) (Rl := Rl) (GK := GK) (num := num) hi9 (Or.inl ⟨hi10, rfl⟩) hn hP2 (fun k hk => by rw [hK2] at hk; rcases kPut_mem hk with h | h; rw [hKb] at h; rcases kPut_mem h with h | h; rw [List.mem_singleton.mp h]; exact hgs.1; rw [h]; exact hga.1; rw [h]; exact hgb.1) hbR hnt hpo hri hRs ⟨rfl, rfl, rfl, rfl⟩ (by rw [hi10]; exact hS) (fun h => absurd hi11 h)) m_X11_201 dX11_set_63 rfl rfl rfl rfl rfl rfl rfl (fun _ => rfl) (by decide) (by decide) (by decide) (by decide) (Nat.le_of_ble_eq_true rfl) (by omega) (by omega) (by omega) rfl (fun z63 k63 n63 hx63 => ?_)
  obtain ⟨⟨⟨a563, Nb63, bf63⟩, ⟨a663, Nt63, tf63⟩, ⟨a763, Np63, pf63⟩⟩, P63, u63, ⟨sf63, sb63, wf63, ef63⟩, PL63⟩ := z63
  dsimp only at hx63 ⊢
  skip
  obtain ⟨hz, hz2, hz3⟩ := hx63
  rw [hi10, hi11] at hz
  obtain ⟨U, um, hU, hum, hrun⟩ := od_run hz
  have hz1 := hz
  obtain ⟨⟨hPB3, _, _⟩, ⟨hb3, _⟩, ⟨ht3, _⟩, ⟨hp3, _⟩, _, hsp, _⟩ := hz1
  dsimp only at hPB3 hb3 ht3 hp3 hsp hz2 hz3 hU hum
  have hP3N := hPB3.2.1
  obtain ⟨mm, hmm, hNm⟩ := hPB3.1.2.2.2
  have hKN := hPB3.1.2.1.1
  have hb39 := hb3.1
  have ht39 := ht3.1
  have hp39 := hp3.1
  have hw1 := (rw_max hvR hP3N).1
  have hw2 := rw_maxS hvR hNm hP3N
  obtain ⟨L9, hL9⟩ := hz.1.2.1
  have hL9 : plK P63 = plK P56 ++ L9 := hL9
  have hn9b := hn
  have hlen9 : (plK P56).length ≤ (plK P63).length := by rw [hL9, List.length_append]; omega
  have hj1l : j1 < (plK P63).length := by have := hltB.2; omega
  have hj2l : j2 < (plK P63).length := by have := hat2.2; omega
  have h0l : 0 < (plK P63).length := by have := hltA.2; omega
  have h11 : upd i2 8 (nI u63) 11 = -1 := by rw [pk_un (by decide)]; exact hi11
  have h9 : upd i2 8 (nI u63) 9 = nI 1 := by rw [pk_un (by decide)]; exact hi9
  have hrunw : ∀ w, w < 4 → ∃ E : Nat → List (Nat × Sc), (∀ p, 4 ≤ p → p < um → EnO 1 Nb63 Np63 (4 + (plK P63).length) bf63 pf63 (E p) p) ∧ ∀ (u1 v1 : Sc), (lvS E 1 U n (lv0 u1 v1 (1 <<< (nI w &&& 31)) (plK P63).length)).2 4 = F w n (sCode s) ∧ (lvS E 1 U n (lv0 u1 v1 (1 <<< (nI w &&& 31)) (plK P63).length)).2 (4 + j1) = F w n (sCode (ngS s 0)) ∧ (lvS E 1 U n (lv0 u1 v1 (1 <<< (nI w &&& 31)) (plK P63).length)).2 (4 + j2) = F w n (sCode (ngS s 1)) := by
    intro w hw
    obtain ⟨E, hE, hval⟩ := hrun (1 <<< (nI w &&& 31)) (F w) (W w) (hSt w hw) (hF0 w) (hF w)
    refine ⟨E, hE, fun u1 v1 => ⟨?_, ?_, ?_⟩⟩
    · have := (hval u1 v1 0 hltA.2).1
      rw [hltA.1] at this
      exact this
    · have := (hval u1 v1 j1 hltB.2).1
      rw [hltB.1] at this
      exact this
    · have := (hval u1 v1 j2 hat2.2).1
      rw [hat2.1] at this
      exact this
  clear hrun
  have K143 : ∀ (sq he fr tb ra rb mv kk nn : Nat) (hf ff tf9 uf9 vf9 : Sc) (L8 : Option Value), RmO mv → (∀ w, w < 4 → hf w = seH F n (sCode s) w) → (∀ w, w < 8 → ff w = seF F n (sCode (ngS s 0)) (sCode (ngS s 1)) w) → kk + (plN P + Nb + Nt + Np / 128 + Nv + Ns) ≤ kk0 + 4 + (plN P63 + Nb63 + Nt63 + Np63 / 128 + mv + Ns) → nn + (10 * plN P + 16 * Nb + 16 * Nt + 2 * Np + 32 * Nv + 32 * Ns) ≤ nn0 + 113 + (10 * plN P63 + 16 * Nb63 + 16 * Nt63 + 2 * Np63 + 32 * mv + 32 * Ns) → WPs l g mtX11_set d rc rs post px a 143 [some (.ref q), some (.int p), some (.int (nI n)), some (.ref oq), some (.int (nI 4)), some (.int (nI (4 + j1))), some (.int (nI (4 + j2))), some (.ref sq), L8] [] ([(q, ob 11 i [t0, t1, t2, some sd, some tq, t5, some oq, t7, t8, none, none]), (sd, ob 10 (fun _ => 0) (rD la ru so)), (la, ob 0 li (rL cc)), (cc, aI g 192 cf), (ru, ob 6 ri (rQ b0 al)), (b0, aI g 2 yf), (al, aR g 6 af), (so, ob 8 s []), (tq, ob 8 (ngS s 1) []), (oq, ob 2 (upd i2 8 (nI u63)) (rO (rs2 (rs567 (rs12 r sd) a563 a663 a763) ra rb))), ((r 0), ob 3 (plI P63) (rPl (plKe P63) (plTa P63))), (plKe P63, aI g (plN P63) (plKf P63)), (plTa P63, aI g (4 * plN P63) (plTb P63)), ((r 1), ob 8 sf63 []), ((r 2), ob 8 sb63 []), ((r 3), aI g 48 wf63), ((r 4), aI g 31 ef63), (a563, aI g Nb63 bf63), (a663, aI g Nt63 tf63), (a763, aI g Np63 pf63), (ra, aI g mv uf9), (rb, aI g mv vf9), ((r 15), aI g Ns us), ((r 16), aI g Ns vs), (sq, ob 9 (fun _ => 0) (rSO he fr tb)), (he, aI g 4 hf), (fr, aI g 8 ff), (tb, aI g 98 tf9)] ++ plW g PL63) kk nn := by
    intro sq he fr tb ra rb mv kk nn hf ff tf9 uf9 vf9 L8 hmv hh hff hk hn
    have hmv9 := hmv.1
    have k2 := K ((rs2 (rs567 (rs12 r sd) a563 a663 a763) ra rb, upd i2 8 (nI u63), P63, sf63, sb63, wf63, ef63), (Nb63, bf63), (Nt63, tf63), (Np63, pf63), (mv, uf9, vf9), (Ns, us, vs)) PL63 kk nn ⟨hPB3.1, hP3N, hb3, ht3, hp3, hmv, hsR⟩ hsp hk hn
    clear K
    have hV2b : ∀ f t c, f < G → t < G → c ≤ 1 → V f t c = (ssV V ff (4 * c) f t 4).toInt32 := fun f t c h1 h2 h3 => by
      rw [hV2 f t c h1 h2 h3, ssV_congr (rf' := ff) (fun w hw => (hff _ (by omega)).symm) 4 (Nat.le_refl _)]
    have hvv : (ssV V hf 0 g0 g1 4).toInt32 = (ssV V (seH F n (sCode s)) 0 g0 g1 4).toInt32 := by
      rw [ssV_congr (rf' := seH F n (sCode s)) (fun w hw => hh _ (by omega)) 4 (Nat.le_refl _)]
    refine q_aload 7 145 dX11_set_143 rfl rfl ?_
    refine q_iload_n 1 146 dX11_set_145 rfl rfl rfl ?_
    refine q_aload_n 0 147 dX11_set_146 rfl rfl rfl ?_
    refine q_getR 0 150 f_X11_30 dX11_set_147 rfl rfl rfl rfl ?_
    refine q_txVi 24 [24, 27, 26, 25, 1, 2, 7] [0, 3, 4, 5, 6, 8, 9, 10, 11, 12, 13, 14, 15, 16, 17, 18, 19, 20, 21, 22, 23] [0, 25, 26, 1, 2, 3, 4, 27, 5, 6, 7, 8, 9, 10, 11, 12, 13, 14, 15, 16, 17, 18, 19, 20, 21, 24, 23, 22] 153 (wr := [_, _, _, _, _, _, _, _, _, _, _, _, _, _, _, _, _, _, _, _, _]) (w1 := _) (ws' := fun _ => [_, _, _, _, _, _, _, _, _, _, _, _, _, _, _, _, _, _, _, _, _, _, _, _, _, _, _, _]) (c_X9_chanceOf (E := G) (fN := g0) (sN := g1) (V := V) hG6 hlG h70 h80 hg0 hg1 hV1 hV2b) m_X11_243 dX11_set_150 rfl rfl rfl rfl rfl rfl rfl (fun _ => rfl) (by decide) (by decide) (by decide) (by decide) (Nat.le_of_ble_eq_true rfl) (by omega) (by omega) (by omega) rfl (fun z150 hx150 => ?_)
    rw [hvv]; refine q_tsub (ws' := [_, _, _, _, _, _, _, _, _, _, _, _, _, _, _, _, _, _, _, _, _, _, _, _]) [0, 1, 2, 3, 4, 5, 6, 7, 8, 9, 10, 11, 12, 13, 14, 15, 16, 17, 18, 19, 20, 21, 22, 23] (by decide) rfl ?_
    refine q_ireturn dX11_set_153 rfl ?_
    exact k2
  clear K
  have K78 : ∀ (c w sq he fr tb ra rb mv kk nn : Nat) (hf ff tf9 uf9 vf9 : Sc), c + w = 4 → RmO mv → (∀ k, k < w → hf k = seH F n (sCode s) k ∧ ff k = seF F n (sCode (ngS s 0)) (sCode (ngS s 1)) k ∧ ff (4 + k) = seF F n (sCode (ngS s 0)) (sCode (ngS s 1)) (4 + k)) → kk + (plN P + Nb + Nt + Np / 128 + Nv + Ns) ≤ kk0 + 4 + (plN P63 + Nb63 + Nt63 + Np63 / 128 + mv + Ns) → nn + (10 * plN P + 16 * Nb + 16 * Nt + 2 * Np + 32 * Nv + 32 * Ns) ≤ nn0 + 113 + (10 * plN P63 + 16 * Nb63 + 16 * Nt63 + 2 * Np63 + 32 * mv + 32 * Ns) → WPs l g mtX11_set d rc rs post px a 78 [some (.ref q), some (.int p), some (.int (nI n)), some (.ref oq), some (.int (nI 4)), some (.int (nI (4 + j1))), some (.int (nI (4 + j2))), some (.ref sq), some (.int (nI w))] [] ([(q, ob 11 i [t0, t1, t2, some sd, some tq, t5, some oq, t7, t8, none, none]), (sd, ob 10 (fun _ => 0) (rD la ru so)), (la, ob 0 li (rL cc)), (cc, aI g 192 cf), (ru, ob 6 ri (rQ b0 al)), (b0, aI g 2 yf), (al, aR g 6 af), (so, ob 8 s []), (tq, ob 8 (ngS s 1) []), (oq, ob 2 (upd i2 8 (nI u63)) (rO (rs2 (rs567 (rs12 r sd) a563 a663 a763) ra rb))), ((r 0), ob 3 (plI P63) (rPl (plKe P63) (plTa P63))), (plKe P63, aI g (plN P63) (plKf P63)), (plTa P63, aI g (4 * plN P63) (plTb P63)), ((r 1), ob 8 sf63 []), ((r 2), ob 8 sb63 []), ((r 3), aI g 48 wf63), ((r 4), aI g 31 ef63), (a563, aI g Nb63 bf63), (a663, aI g Nt63 tf63), (a763, aI g Np63 pf63), (ra, aI g mv uf9), (rb, aI g mv vf9), ((r 15), aI g Ns us), ((r 16), aI g Ns vs), (sq, ob 9 (fun _ => 0) (rSO he fr tb)), (he, aI g 4 hf), (fr, aI g 8 ff), (tb, aI g 98 tf9)] ++ plW g PL63) kk nn := by
    intro c
    induction c with
    | zero =>
      intro w sq he fr tb ra rb mv kk nn hf ff tf9 uf9 vf9 hw hmv hinv hk hn
      obtain rfl : w = 4 := by omega
      have k2 := fun L8 => K143 sq he fr tb ra rb mv kk nn hf ff tf9 uf9 vf9 L8 hmv (fun w hw => (hinv w hw).1) (fun w hw => by
        by_cases h4 : w < 4
        · exact (hinv w h4).2.1
        · have := (hinv (w - 4) (by omega)).2.2
          rw [show 4 + (w - 4) = w by omega] at this
          exact this) hk hn
      clear K143
      refine q_iload 8 80 dX11_set_78 rfl rfl ?_
      refine q_iconst 4 81 dX11_set_80 ic_4 rfl ?_
      refine q_icmp_ge 143 84 dX11_set_81 (by decide) rfl (fun h81 => ?_) (fun h81 => absurd (by decide) h81)
      exact k2 _
    | succ c ih =>
      intro w sq he fr tb ra rb mv kk nn hf ff tf9 uf9 vf9 hw hmv hinv hk hn
      have k2 := ih (w + 1)
      clear ih K143
      have hmv9 := hmv.1
      have hlt : ¬ (4 : Int32) ≤ nI w := nI_nge9 4 (by decide) (by omega) (by decide)
      have hm1 := (rw_max hmv hP3N).1
      have hm2 := rw_maxS hmv hNm hP3N
      obtain ⟨E, hE, hval⟩ := hrunw w (by omega)
      have e4 : (4 : Int32) + nI w = nI (4 + w) := by rw [show (4 : Int32) = nI 4 by decide, nI_add]
      refine q_iload 8 80 dX11_set_78 rfl rfl ?_
      refine q_iconst 4 81 dX11_set_80 ic_4 rfl ?_
      refine q_icmp_ge 143 84 dX11_set_81 (by decide) rfl (fun h81 => absurd h81 hlt) (fun h81 => ?_)
      refine q_aload_n 3 85 dX11_set_84 rfl rfl rfl ?_
      refine q_iload_n 2 86 dX11_set_85 rfl rfl rfl ?_
      refine q_iconst 1 87 dX11_set_86 ic_1 rfl ?_
      refine q_iload 8 89 dX11_set_87 rfl rfl ?_
      refine q_ishl 90 dX11_set_89 rfl ?_
      refine q_tyVv 9 [9, 10, 11, 20, 21, 17, 19, 16] [0, 1, 2, 3, 4, 5, 6, 7, 8, 12, 13, 14, 15, 18, 22, 23, 24, 25, 26, 27] [0, 1, 2, 3, 4, 5, 6, 7, 8, 20, 21, 22, 9, 10, 11, 12, 27, 25, 13, 26, 23, 24, 14, 15, 16, 17, 18, 19] 93 (wr := [_, _, _, _, _, _, _, _, _, _, _, _, _, _, _, _, _, _, _, _]) (w1 := _) (ws' := fun _ => [_, _, _, _, _, _, _, _, _, _, _, _, _, _, _, _, _, _, _, _, _, _, _, _, _, _, _, _]) (c_X2_weighAll0 (r := rs2 (rs567 (rs12 r sd) a563 a663 a763) ra rb) (Nv := mv) (sz := (plK P63).length) (E := E) (U := U) (um := um) h11 h9 (by decide) (by omega) (by omega) (by omega) (by omega) hPB3.1.1 hKN hn9b hU hum hE) m_X11_207 dX11_set_90 rfl rfl rfl rfl rfl rfl rfl (fun _ => rfl) (by decide) (by decide) (by decide) (by decide) (Nat.le_of_ble_eq_true rfl) (by omega) (by omega) (by omega) rfl (fun z90 k90 n90 hx90 => ?_)
      obtain ⟨a90, b90, m90, uf90, vf90⟩ := z90
      dsimp only at hx90 ⊢
      skip
      obtain ⟨hro, u1, v1, huv⟩ := hx90
      obtain ⟨q1, q2, q3, q4, q5, _⟩ := rw_pot hmv hNm hP3N hro
      have hq9 := q1.1
      obtain ⟨hv1, hv2, hv3⟩ := hval u1 v1
      rw [← huv] at hv1 hv2 hv3
      dsimp only at hv1 hv2 hv3
      generalize e4w : 4 + w = w4 at *
      refine q_aload 7 95 dX11_set_93 rfl rfl ?_
      refine q_getR 24 98 f_X11_237 dX11_set_95 rfl rfl rfl rfl ?_
      refine q_iload 8 100 dX11_set_98 rfl rfl ?_
      refine q_aload_n 3 101 dX11_set_100 rfl rfl rfl ?_
      refine q_iload 4 103 dX11_set_101 rfl rfl ?_
      refine q_tcVi 9 [9, 21] [0, 1, 2, 3, 4, 5, 6, 7, 8, 10, 11, 12, 13, 14, 15, 16, 17, 18, 19, 20, 22, 23, 24, 25, 26, 27] [0, 1, 2, 3, 4, 5, 6, 7, 8, 26, 9, 10, 11, 12, 13, 14, 15, 16, 17, 18, 19, 27, 20, 21, 22, 23, 24, 25] 106 (wr := [_, _, _, _, _, _, _, _, _, _, _, _, _, _, _, _, _, _, _, _, _, _, _, _, _, _]) (w1 := _) (ws' := [_, _, _, _, _, _, _, _, _, _, _, _, _, _, _, _, _, _, _, _, _, _, _, _, _, _, _, _]) (c_X2_valueAt (r := rs2 (rs567 (rs12 r sd) a563 a663 a763) a90 b90) (z := 4) (by omega) (by omega)) m_X11_210 dX11_set_103 rfl rfl rfl rfl rfl rfl rfl rfl (by decide) (by decide) (by decide) (by decide) (Nat.le_of_ble_eq_true rfl) (by omega) (by omega) (by omega) rfl ?_
      rw [hv1]
      refine q_iast 25 w 107 (w' := ([_, _, _, _, _, _, _, _, _, _, _, _, _, _, _, _, _, _, _, _, _, _, _, _, _, _, _, _] ++ _)) dX11_set_106 rfl ⟨rfl, by omega, by decide⟩ rfl rfl ?_
      refine q_aload 7 109 dX11_set_107 rfl rfl ?_
      refine q_getR 24 112 f_X11_240 dX11_set_109 rfl rfl rfl rfl ?_
      refine q_iload 8 114 dX11_set_112 rfl rfl ?_
      refine q_aload_n 3 115 dX11_set_114 rfl rfl rfl ?_
      refine q_iload 5 117 dX11_set_115 rfl rfl ?_
      refine q_tcVi 9 [9, 21] [0, 1, 2, 3, 4, 5, 6, 7, 8, 10, 11, 12, 13, 14, 15, 16, 17, 18, 19, 20, 22, 23, 24, 25, 26, 27] [0, 1, 2, 3, 4, 5, 6, 7, 8, 26, 9, 10, 11, 12, 13, 14, 15, 16, 17, 18, 19, 27, 20, 21, 22, 23, 24, 25] 120 (wr := [_, _, _, _, _, _, _, _, _, _, _, _, _, _, _, _, _, _, _, _, _, _, _, _, _, _]) (w1 := _) (ws' := [_, _, _, _, _, _, _, _, _, _, _, _, _, _, _, _, _, _, _, _, _, _, _, _, _, _, _, _]) (c_X2_valueAt (r := rs2 (rs567 (rs12 r sd) a563 a663 a763) a90 b90) (z := 4 + j1) (by omega) (by omega)) m_X11_210 dX11_set_117 rfl rfl rfl rfl rfl rfl rfl rfl (by decide) (by decide) (by decide) (by decide) (Nat.le_of_ble_eq_true rfl) (by omega) (by omega) (by omega) rfl ?_
      rw [hv2]
      refine q_iast 26 w 121 (w' := ([_, _, _, _, _, _, _, _, _, _, _, _, _, _, _, _, _, _, _, _, _, _, _, _, _, _, _, _] ++ _)) dX11_set_120 rfl ⟨rfl, by omega, by decide⟩ rfl rfl ?_
      refine q_aload 7 123 dX11_set_121 rfl rfl ?_
      refine q_getR 24 126 f_X11_240 dX11_set_123 rfl rfl rfl rfl ?_
      refine q_iconst 4 127 dX11_set_126 ic_4 rfl ?_
      refine q_iload 8 129 dX11_set_127 rfl rfl ?_
      refine q_iadd 130 dX11_set_129 rfl ?_
      refine q_aload_n 3 131 dX11_set_130 rfl rfl rfl ?_
      refine q_iload 6 133 dX11_set_131 rfl rfl ?_
      refine q_tcVi 9 [9, 21] [0, 1, 2, 3, 4, 5, 6, 7, 8, 10, 11, 12, 13, 14, 15, 16, 17, 18, 19, 20, 22, 23, 24, 25, 26, 27] [0, 1, 2, 3, 4, 5, 6, 7, 8, 26, 9, 10, 11, 12, 13, 14, 15, 16, 17, 18, 19, 27, 20, 21, 22, 23, 24, 25] 136 (wr := [_, _, _, _, _, _, _, _, _, _, _, _, _, _, _, _, _, _, _, _, _, _, _, _, _, _]) (w1 := _) (ws' := [_, _, _, _, _, _, _, _, _, _, _, _, _, _, _, _, _, _, _, _, _, _, _, _, _, _, _, _]) (c_X2_valueAt (r := rs2 (rs567 (rs12 r sd) a563 a663 a763) a90 b90) (z := 4 + j2) (by omega) (by omega)) m_X11_210 dX11_set_133 rfl rfl rfl rfl rfl rfl rfl rfl (by decide) (by decide) (by decide) (by decide) (Nat.le_of_ble_eq_true rfl) (by omega) (by omega) (by omega) rfl ?_
      rw [hv3]
      refine q_iast 26 w4 137 (w' := ([_, _, _, _, _, _, _, _, _, _, _, _, _, _, _, _, _, _, _, _, _, _, _, _, _, _, _, _] ++ _)) dX11_set_136 rfl ⟨e4, by omega, by decide⟩ rfl rfl ?_
      refine q_iinc 8 (nI (w + 1)) 140 (L' := [_, _, _, _, _, _, _, _, _]) dX11_set_137 rfl (inc1 (w)) (by decide) rfl rfl ?_
      refine q_goto 78 dX11_set_140 (by decide) ?_
      refine k2 sq he fr tb a90 b90 m90 (kk + k90) (nn + n90) _ _ _ _ _ (by omega) q1 (fun k hk => ?_) (by omega) (by omega)
      subst e4w
      by_cases hkw : k = w
      · subst hkw
        refine ⟨?_, ?_, ?_⟩
        · rw [pk_us]; rfl
        · rw [pk_un (by omega), pk_us]
          unfold seF; rw [if_pos (by omega)]
        · rw [pk_us]
          unfold seF; rw [if_neg (by omega), show 4 + k - 4 = k by omega]
      · obtain ⟨i1, i2', i3⟩ := hinv k (by omega)
        refine ⟨?_, ?_, ?_⟩
        · rw [pk_un (by omega)]; exact i1
        · rw [pk_un (by omega), pk_un (by omega)]; exact i2'
        · rw [pk_un (by omega), pk_un (by omega)]; exact i3
  clear K143
  have k2 := fun sq he fr tb kk nn h1 h2 => K78 4 0 sq he fr tb (r 13) (r 14) Nv kk nn (fun _ => 0) (fun _ => 0) (fun _ => 0) uf vf rfl hvR (fun k hk => absurd hk (Nat.not_lt_zero _)) h1 h2
  clear K78
  rw [show nI 0 = (0 : Int32) from by decide] at k2
  refine q_tnew (N := 3) 69 n_X11_234 rfl dX11_set_66 (by omega) (by omega) rfl (fun q66 => ?_)
  refine q_dup 70 dX11_set_69 rfl rfl ?_
  refine q_tyIv [24] [0, 1, 2, 3, 4, 5, 6, 7, 8, 9, 10, 11, 12, 13, 14, 15, 16, 17, 18, 19, 20, 21, 22, 23] [0, 1, 2, 3, 4, 5, 6, 7, 8, 9, 10, 11, 12, 13, 14, 15, 16, 17, 18, 19, 20, 21, 22, 23, 24, 25, 26, 27] 73 (wr := [_, _, _, _, _, _, _, _, _, _, _, _, _, _, _, _, _, _, _, _, _, _, _, _]) (w1 := _) (ws' := fun _ => [_, _, _, _, _, _, _, _, _, _, _, _, _, _, _, _, _, _, _, _, _, _, _, _, _, _, _, _]) c_X9_init m_X11_236 dX11_set_70 rfl rfl rfl rfl (fun _ => rfl) (by decide) (by decide) (by decide) (by decide) (Nat.le_of_ble_eq_true rfl) (by omega) (by omega) (by omega) rfl (fun z70 k70 n70 hx70 => ?_)
  obtain ⟨he70, fr70, tb70⟩ := z70
  dsimp only at hx70 ⊢
  refine q_astore 7 75 (L' := [_, _, _, _, _, _, _, _, _]) dX11_set_73 (by decide) rfl rfl ?_
  obtain ⟨ka, na⟩ := hx70
  refine q_iconst 0 76 dX11_set_75 ic_0 rfl ?_
  refine q_istore 8 78 (L' := [_, _, _, _, _, _, _, _, _]) dX11_set_76 (by decide) rfl rfl ?_
  exact k2 _ _ _ _ _ _ (by omega) (by omega)

theorem c_X11_set1 {l : Launch} {g : Gh} {q sd la ru so cc b0 al tq num : Nat} {i s li cf ri yf tr : Sc} {af : Nat → Option Nat} {PL : List RuR} {Rl : Nat → RLs} {t0 t1 t2 t5 t7 t8 : Option Nat} {oq : Nat} {r : Nat → Nat} {oi sf sb wf ef bf tf pf uf vf us vs : Sc} {Nb Nt Np Nv Ns : Nat} {P : PlS} {n : Nat} {GK : Int32 → Prop} {p : Int32} {G g0 g1 : Nat} {F : Nat → Nat → Int32 → Int32} {W : Nat → Nat → Int32 → Nat → Int32} {V : Nat → Nat → Nat → Int32} (hgs : gkC GK s) (hga : gkC GK (ngS s 0)) (hgb : gkC GK (ngS s 1)) (hS : SpH GK s li cf yf Rl (-1) 1) (hSt : ∀ w, w < 4 → ∀ i, StH GK s li cf yf Rl (-1) 1 (1 <<< (nI w &&& 31)) (F w i) (W w i)) (hF0 : ∀ w k, F w 0 k = 0) (hF : ∀ w i k, GK k → F w (i + 1) k = moW (W w i k) 1) (h60 : s 6 = 0 ∨ s 6 = 1) (hG6 : G ≤ 6) (hlG : li 1 = nI G) (h70 : s 7 = nI g0) (h80 : s 8 = nI g1) (hg0 : g0 < G) (hg1 : g1 < G) (hV1 : ∀ f s c, f ≤ G → s ≤ G → c ≤ 1 → (f = G ∨ s = G) → V f s c = suV G p f) (hV2 : ∀ f t c, f < G → t < G → c ≤ 1 → V f t c = (ssV V (seF F n (sCode (ngS s 0)) (sCode (ngS s 1))) (4 * c) f t 4).toInt32) (hp : p = 0 ∨ p = 1) (ho : sOver s li = 0) (h6 : s 6 = 0 ∨ s 6 = 1) (hO : OdR P Nb Nt Np Nv Ns) (hri : ri 2 = nI num) (hRs : ∀ Q, SaP PL Q → RsO num yf af Q Rl) (hn : n ≤ 30) : Cn l g yX11_set (Cond.code yX11_set cX11_set 9 (some .int)) 13 (4 + (odKM - odK P Nb Nt Np Nv Ns)) (113 + (odSM - odS P Nb Nt Np Nv Ns)) [.ref q, .int p, .int (nI n)] ([(q, ob 11 i [t0, t1, t2, some sd, some tq, t5, some oq, t7, t8, none, none]), (sd, ob 10 (fun _ => 0) (rD la ru so)), (la, ob 0 li (rL cc)), (cc, aI g 192 cf), (ru, ob 6 ri (rQ b0 al)), (b0, aI g 2 yf), (al, aR g 6 af), (so, ob 8 s []), (tq, ob 8 tr []), (oq, ob 2 oi (rO12 r (some sd))), ((r 0), ob 3 (plI P) (rPl (plKe P) (plTa P))), (plKe P, aI g (plN P) (plKf P)), (plTa P, aI g (4 * plN P) (plTb P)), ((r 1), ob 8 sf []), ((r 2), ob 8 sb []), ((r 3), aI g 48 wf), ((r 4), aI g 31 ef), ((r 5), aI g Nb bf), ((r 6), aI g Nt tf), ((r 7), aI g Np pf), ((r 13), aI g Nv uf), ((r 14), aI g Nv vf), ((r 15), aI g Ns us), ((r 16), aI g Ns vs)] ++ plW g PL) (fun z : OdT × List RuR => some (.int (ssV V (seH F n (sCode s)) 0 g0 g1 4).toInt32)) (fun z : OdT × List RuR => ([(q, ob 11 i [t0, t1, t2, some sd, some tq, t5, some oq, t7, t8, none, none]), (sd, ob 10 (fun _ => 0) (rD la ru so)), (la, ob 0 li (rL cc)), (cc, aI g 192 cf), (ru, ob 6 ri (rQ b0 al)), (b0, aI g 2 yf), (al, aR g 6 af), (so, ob 8 s []), (tq, ob 8 (ngS s 1) []), (oq, ob 2 z.1.1.2.1 (rO12 z.1.1.1 (some sd))), ((z.1.1.1 0), ob 3 (plI z.1.1.2.2.1) (rPl (plKe z.1.1.2.2.1) (plTa z.1.1.2.2.1))), (plKe z.1.1.2.2.1, aI g (plN z.1.1.2.2.1) (plKf z.1.1.2.2.1)), (plTa z.1.1.2.2.1, aI g (4 * plN z.1.1.2.2.1) (plTb z.1.1.2.2.1)), ((z.1.1.1 1), ob 8 z.1.1.2.2.2.1 []), ((z.1.1.1 2), ob 8 z.1.1.2.2.2.2.1 []), ((z.1.1.1 3), aI g 48 z.1.1.2.2.2.2.2.1), ((z.1.1.1 4), aI g 31 z.1.1.2.2.2.2.2.2), ((z.1.1.1 5), aI g z.1.2.1.1 z.1.2.1.2), ((z.1.1.1 6), aI g z.1.2.2.1.1 z.1.2.2.1.2), ((z.1.1.1 7), aI g z.1.2.2.2.1.1 z.1.2.2.2.1.2), ((z.1.1.1 13), aI g z.1.2.2.2.2.1.1 z.1.2.2.2.2.1.2.1), ((z.1.1.1 14), aI g z.1.2.2.2.2.1.1 z.1.2.2.2.2.1.2.2), ((z.1.1.1 15), aI g z.1.2.2.2.2.2.1 z.1.2.2.2.2.2.2.1), ((z.1.1.1 16), aI g z.1.2.2.2.2.2.1 z.1.2.2.2.2.2.2.2)] ++ plW g z.2)) (fun z k m => OdG z.1 ∧ SaP PL z.2 ∧ k + odK P Nb Nt Np Nv Ns ≤ 4 + ozK z.1 ∧ m + odS P Nb Nt Np Nv Ns ≤ 113 + ozS z.1) := by
  refine ct_of (M := mtX11_set) [some (.ref q), some (.int p), some (.int (nI n)), none, none, none, none, none, none] rfl (by decide) (Nat.le_of_ble_eq_true rfl) (fun _ h => h) (fun a => ?_)
  obtain ⟨o1, o2, o3, o4, o5, o6, o7⟩ := hO
  have g3 := nI_nn (a := n) (by omega)
  have g4 : nI n ≤ (30 : Int32) := by rw [show (30 : Int32) = nI 30 by decide]; exact nI_le hn (by decide)
  refine q_iload_n 1 1 dX11_set_0 rfl rfl rfl ?_
  refine q_tcSv [] [0, 1, 2, 3, 4, 5, 6, 7, 8, 9, 10, 11, 12, 13, 14, 15, 16, 17, 18, 19, 20, 21, 22, 23] [0, 1, 2, 3, 4, 5, 6, 7, 8, 9, 10, 11, 12, 13, 14, 15, 16, 17, 18, 19, 20, 21, 22, 23] 4 (wr := [_, _, _, _, _, _, _, _, _, _, _, _, _, _, _, _, _, _, _, _, _, _, _, _]) (w1 := _) (ws' := [_, _, _, _, _, _, _, _, _, _, _, _, _, _, _, _, _, _, _, _, _, _, _, _]) (c_X11_needPlayer hp) m_X11_130 dX11_set_1 rfl rfl rfl rfl rfl (by decide) (by decide) (by decide) (by decide) (Nat.le_of_ble_eq_true rfl) (by omega) (by omega) (by omega) rfl ?_
  refine q_iload_n 2 5 dX11_set_4 rfl rfl rfl ?_
  refine q_tcSv [] [0, 1, 2, 3, 4, 5, 6, 7, 8, 9, 10, 11, 12, 13, 14, 15, 16, 17, 18, 19, 20, 21, 22, 23] [0, 1, 2, 3, 4, 5, 6, 7, 8, 9, 10, 11, 12, 13, 14, 15, 16, 17, 18, 19, 20, 21, 22, 23] 8 (wr := [_, _, _, _, _, _, _, _, _, _, _, _, _, _, _, _, _, _, _, _, _, _, _, _]) (w1 := _) (ws' := [_, _, _, _, _, _, _, _, _, _, _, _, _, _, _, _, _, _, _, _, _, _, _, _]) (c_X11_needRallies g3 g4) m_X11_188 dX11_set_5 rfl rfl rfl rfl rfl (by decide) (by decide) (by decide) (by decide) (Nat.le_of_ble_eq_true rfl) (by omega) (by omega) (by omega) rfl ?_
  refine q_aload_n 0 9 dX11_set_8 rfl rfl rfl ?_
  refine q_aload_n 0 10 dX11_set_9 rfl rfl rfl ?_
  refine q_getR 0 13 f_X11_30 dX11_set_10 rfl rfl rfl rfl ?_
  refine q_getR 1 16 f_X11_138 dX11_set_13 rfl rfl rfl rfl ?_
  refine q_tcVv 0 [0, 1, 2, 7] [3, 4, 5, 6, 8, 9, 10, 11, 12, 13, 14, 15, 16, 17, 18, 19, 20, 21, 22, 23] [20, 21, 22, 0, 1, 2, 3, 23, 4, 5, 6, 7, 8, 9, 10, 11, 12, 13, 14, 15, 16, 17, 18, 19] 19 (wr := [_, _, _, _, _, _, _, _, _, _, _, _, _, _, _, _, _, _, _, _]) (w1 := _) (ws' := [_, _, _, _, _, _, _, _, _, _, _, _, _, _, _, _, _, _, _, _, _, _, _, _]) (c_X11_needGoingOn ho) m_X11_176 dX11_set_16 rfl rfl rfl rfl rfl rfl rfl rfl (by decide) (by decide) (by decide) (by decide) (Nat.le_of_ble_eq_true rfl) (by omega) (by omega) (by omega) rfl ?_
  refine q_aload_n 0 20 dX11_set_19 rfl rfl rfl ?_
  refine q_iconst (-1) 21 dX11_set_20 ic_m1 rfl ?_
  refine q_iconst (-1) 22 dX11_set_21 ic_m1 rfl ?_
  refine q_tcVr 0 [0, 1, 7, 9, 10, 11, 12, 13, 14, 15, 16, 17, 18, 19, 20, 21, 22, 23] [2, 3, 4, 5, 6, 8] [6, 7, 0, 1, 2, 3, 4, 8, 5, 9, 10, 11, 12, 13, 14, 15, 16, 17, 18, 19, 20, 21, 22, 23] 25 (wr := [_, _, _, _, _, _]) (w1 := _) (ws' := [_, _, _, _, _, _, _, _, _, _, _, _, _, _, _, _, _, _, _, _, _, _, _, _]) (c_X11_freshOdds1 o1 h6) m_X11_191 dX11_set_22 rfl rfl rfl rfl rfl rfl rfl rfl (by decide) (by decide) (by decide) (by decide) (Nat.le_of_ble_eq_true rfl) (by omega) (by omega) (by omega) rfl ?_
  skip
  exact w_set (r := r) (i2 := oiW oi (-1) (-1)) (show (if (-1 : Int32) = -1 then (1 : Int32) else 4) = nI 1 by decide) rfl rfl hgs hga hgb hS hSt hF0 hF h60 hG6 hlG h70 h80 hg0 hg1 hV1 hV2 (by omega) (plB_nil o1 o2) rfl o3 o4 o5 o6 o7 hri hRs hn (by rw [Nat.zero_add]; exact Nat.le_refl _) (by rw [Nat.zero_add]; exact Nat.le_refl _) (fun z PL9 k m h1 h2 h3 h4 => pX.mk (z, PL9) ⟨h1, h2, by rw [Nat.zero_add] at h3; exact h3, by rw [Nat.zero_add] at h4; exact h4⟩ rfl rfl)
theorem c_X11_set0 {l : Launch} {g : Gh} {q sd la ru so cc b0 al tq num : Nat} {i s li cf ri yf tr : Sc} {af : Nat → Option Nat} {PL : List RuR} {Rl : Nat → RLs} {t0 t1 t2 t5 t7 t8 : Option Nat} {n : Nat} {GK : Int32 → Prop} {p : Int32} {G g0 g1 : Nat} {F : Nat → Nat → Int32 → Int32} {W : Nat → Nat → Int32 → Nat → Int32} {V : Nat → Nat → Nat → Int32} (hgs : gkC GK s) (hga : gkC GK (ngS s 0)) (hgb : gkC GK (ngS s 1)) (hS : SpH GK s li cf yf Rl (-1) 1) (hSt : ∀ w, w < 4 → ∀ i, StH GK s li cf yf Rl (-1) 1 (1 <<< (nI w &&& 31)) (F w i) (W w i)) (hF0 : ∀ w k, F w 0 k = 0) (hF : ∀ w i k, GK k → F w (i + 1) k = moW (W w i k) 1) (h60 : s 6 = 0 ∨ s 6 = 1) (hG6 : G ≤ 6) (hlG : li 1 = nI G) (h70 : s 7 = nI g0) (h80 : s 8 = nI g1) (hg0 : g0 < G) (hg1 : g1 < G) (hV1 : ∀ f s c, f ≤ G → s ≤ G → c ≤ 1 → (f = G ∨ s = G) → V f s c = suV G p f) (hV2 : ∀ f t c, f < G → t < G → c ≤ 1 → V f t c = (ssV V (seF F n (sCode (ngS s 0)) (sCode (ngS s 1))) (4 * c) f t 4).toInt32) (hp : p = 0 ∨ p = 1) (ho : sOver s li = 0) (h6 : s 6 = 0 ∨ s 6 = 1) (hri : ri 2 = nI num) (hRs : ∀ Q, SaP PL Q → RsO num yf af Q Rl) (hn : n ≤ 30) : Cn l g yX11_set (Cond.code yX11_set cX11_set 9 (some .int)) 13 (4 + 15 + 89987) (113 + 521 + 3830848) [.ref q, .int p, .int (nI n)] ([(q, ob 11 i [t0, t1, t2, some sd, some tq, t5, none, t7, t8, none, none]), (sd, ob 10 (fun _ => 0) (rD la ru so)), (la, ob 0 li (rL cc)), (cc, aI g 192 cf), (ru, ob 6 ri (rQ b0 al)), (b0, aI g 2 yf), (al, aR g 6 af), (so, ob 8 s []), (tq, ob 8 tr [])] ++ plW g PL) (fun z : Nat × OdT × List RuR => some (.int (ssV V (seH F n (sCode s)) 0 g0 g1 4).toInt32)) (fun z : Nat × OdT × List RuR => ([(q, ob 11 i [t0, t1, t2, some sd, some tq, t5, some z.1, t7, t8, none, none]), (sd, ob 10 (fun _ => 0) (rD la ru so)), (la, ob 0 li (rL cc)), (cc, aI g 192 cf), (ru, ob 6 ri (rQ b0 al)), (b0, aI g 2 yf), (al, aR g 6 af), (so, ob 8 s []), (tq, ob 8 (ngS s 1) []), (z.1, ob 2 z.2.1.1.2.1 (rO12 z.2.1.1.1 (some sd))), ((z.2.1.1.1 0), ob 3 (plI z.2.1.1.2.2.1) (rPl (plKe z.2.1.1.2.2.1) (plTa z.2.1.1.2.2.1))), (plKe z.2.1.1.2.2.1, aI g (plN z.2.1.1.2.2.1) (plKf z.2.1.1.2.2.1)), (plTa z.2.1.1.2.2.1, aI g (4 * plN z.2.1.1.2.2.1) (plTb z.2.1.1.2.2.1)), ((z.2.1.1.1 1), ob 8 z.2.1.1.2.2.2.1 []), ((z.2.1.1.1 2), ob 8 z.2.1.1.2.2.2.2.1 []), ((z.2.1.1.1 3), aI g 48 z.2.1.1.2.2.2.2.2.1), ((z.2.1.1.1 4), aI g 31 z.2.1.1.2.2.2.2.2.2), ((z.2.1.1.1 5), aI g z.2.1.2.1.1 z.2.1.2.1.2), ((z.2.1.1.1 6), aI g z.2.1.2.2.1.1 z.2.1.2.2.1.2), ((z.2.1.1.1 7), aI g z.2.1.2.2.2.1.1 z.2.1.2.2.2.1.2), ((z.2.1.1.1 13), aI g z.2.1.2.2.2.2.1.1 z.2.1.2.2.2.2.1.2.1), ((z.2.1.1.1 14), aI g z.2.1.2.2.2.2.1.1 z.2.1.2.2.2.2.1.2.2), ((z.2.1.1.1 15), aI g z.2.1.2.2.2.2.2.1 z.2.1.2.2.2.2.2.2.1), ((z.2.1.1.1 16), aI g z.2.1.2.2.2.2.2.1 z.2.1.2.2.2.2.2.2.2)] ++ plW g z.2.2)) (fun z k m => OdG z.2.1 ∧ SaP PL z.2.2 ∧ k + 145 ≤ 4 + 15 + ozK z.2.1 ∧ m + 3488 ≤ 113 + 521 + ozS z.2.1) := by
  refine ct_of (M := mtX11_set) [some (.ref q), some (.int p), some (.int (nI n)), none, none, none, none, none, none] rfl (by decide) (Nat.le_of_ble_eq_true rfl) (fun _ h => h) (fun a => ?_)
  have g3 := nI_nn (a := n) (by omega)
  have g4 : nI n ≤ (30 : Int32) := by rw [show (30 : Int32) = nI 30 by decide]; exact nI_le hn (by decide)
  refine q_iload_n 1 1 dX11_set_0 rfl rfl rfl ?_
  refine q_tcSv [] [0, 1, 2, 3, 4, 5, 6, 7, 8] [0, 1, 2, 3, 4, 5, 6, 7, 8] 4 (wr := [_, _, _, _, _, _, _, _, _]) (w1 := _) (ws' := [_, _, _, _, _, _, _, _, _]) (c_X11_needPlayer hp) m_X11_130 dX11_set_1 rfl rfl rfl rfl rfl (by decide) (by decide) (by decide) (by decide) (Nat.le_of_ble_eq_true rfl) (by omega) (by omega) (by omega) rfl ?_
  refine q_iload_n 2 5 dX11_set_4 rfl rfl rfl ?_
  refine q_tcSv [] [0, 1, 2, 3, 4, 5, 6, 7, 8] [0, 1, 2, 3, 4, 5, 6, 7, 8] 8 (wr := [_, _, _, _, _, _, _, _, _]) (w1 := _) (ws' := [_, _, _, _, _, _, _, _, _]) (c_X11_needRallies g3 g4) m_X11_188 dX11_set_5 rfl rfl rfl rfl rfl (by decide) (by decide) (by decide) (by decide) (Nat.le_of_ble_eq_true rfl) (by omega) (by omega) (by omega) rfl ?_
  refine q_aload_n 0 9 dX11_set_8 rfl rfl rfl ?_
  refine q_aload_n 0 10 dX11_set_9 rfl rfl rfl ?_
  refine q_getR 0 13 f_X11_30 dX11_set_10 rfl rfl rfl rfl ?_
  refine q_getR 1 16 f_X11_138 dX11_set_13 rfl rfl rfl rfl ?_
  refine q_tcVv 0 [0, 1, 2, 7] [3, 4, 5, 6, 8] [5, 6, 7, 0, 1, 2, 3, 8, 4] 19 (wr := [_, _, _, _, _]) (w1 := _) (ws' := [_, _, _, _, _, _, _, _, _]) (c_X11_needGoingOn ho) m_X11_176 dX11_set_16 rfl rfl rfl rfl rfl rfl rfl rfl (by decide) (by decide) (by decide) (by decide) (Nat.le_of_ble_eq_true rfl) (by omega) (by omega) (by omega) rfl ?_
  refine q_aload_n 0 20 dX11_set_19 rfl rfl rfl ?_
  refine q_iconst (-1) 21 dX11_set_20 ic_m1 rfl ?_
  refine q_iconst (-1) 22 dX11_set_21 ic_m1 rfl ?_
  refine q_tyVr 0 [0, 1, 7] [2, 3, 4, 5, 6, 8] [6, 7, 0, 1, 2, 3, 4, 8, 5, 9, 10, 11, 12, 13, 14, 15, 16, 17, 18, 19, 20, 21, 22, 23] 25 (wr := [_, _, _, _, _, _]) (w1 := _) (ws' := fun _ => [_, _, _, _, _, _, _, _, _, _, _, _, _, _, _, _, _, _, _, _, _, _, _, _]) (c_X11_freshOdds0 h6) m_X11_191 dX11_set_22 rfl rfl rfl rfl rfl rfl rfl (fun _ => rfl) (by decide) (by decide) (by decide) (by decide) (Nat.le_of_ble_eq_true rfl) (by omega) (by omega) (by omega) rfl (fun z22 k22 n22 hx22 => ?_)
  obtain ⟨oq22, r22, ke22, ta22⟩ := z22
  dsimp only at hx22 ⊢
  skip
  obtain ⟨ka, na⟩ := hx22
  exact w_set (r := r22) (i2 := oiW (fun _ => 0) (-1) (-1)) (show (if (-1 : Int32) = -1 then (1 : Int32) else 4) = nI 1 by decide) rfl rfl hgs hga hgb hS hSt hF0 hF h60 hG6 hlG h70 h80 hg0 hg1 hV1 hV2 (by omega) (plB_nil (pl0_O _ _) (by show 16 ≤ 16384; omega)) rfl ⟨by omega, Or.inl rfl⟩ ⟨by omega, Or.inl rfl⟩ ⟨by omega, 0, by omega⟩ ⟨by omega, Or.inl rfl⟩ ⟨by omega, Or.inl rfl⟩ hri hRs hn (by show _ + (16384 + 16389 + 16389 + 8192 + 16389 + 16389 - (16 + 32 + 32 + 128 / 128 + 32 + 32)) ≤ _; omega) (by show _ + (10 * 16384 + 16 * 16389 + 16 * 16389 + 2 * 1048576 + 32 * 16389 + 32 * 16389 - (10 * 16 + 16 * 32 + 16 * 32 + 2 * 128 + 32 * 32 + 32 * 32)) ≤ _; omega) (fun z PL9 k m h1 h2 h3 h4 => pX.mk (oq22, z, PL9) ⟨h1, h2, by show k + 145 ≤ 4 + 15 + ozK z; have e : plN (plC (pl0 ke22 ta22)) = 16 := rfl; unfold odK at h3; rw [e, ka] at h3; generalize ozK z = Z9 at *; clear e hS hSt; omega, by show m + 3488 ≤ 113 + 521 + ozS z; have e : plN (plC (pl0 ke22 ta22)) = 16 := rfl; unfold odS at h4; rw [e, na] at h4; generalize ozS z = Z9 at *; clear e hS hSt; omega⟩ rfl rfl)

