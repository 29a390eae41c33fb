/-! ===== Odds.spread ===== -/
theorem tgK_all {GK : Int32 → Prop} {K : List Int32} {t : Nat ⊕ Int32} (h : ∀ k ∈ K, GK k) (ht : ∀ k, t = .inr k → GK k) : ∀ k ∈ tgK K t, GK k := by
  cases t with
  | inl w => exact h
  | inr k0 =>
    show ∀ k ∈ kPut K k0, GK k
    unfold kPut
    by_cases hm : k0 ∈ K
    · rw [if_pos hm]; exact h
    · rw [if_neg hm]
      intro k hk
      rcases List.mem_append.mp hk with h1 | h1
      · exact h k h1
      · rw [List.mem_singleton.mp h1]; exact ht k0 rfl
abbrev SpS : Type := (ArS × ArS × ArS) × PlS × Nat × Sc × List RuR
def SpO (GK : Int32 → Prop) (ch y u nO : Nat) (P : PlS) (Nb : Nat) (bf : Sc) (Nt : Nat) (tf pf : Sc) (tk : Int32) (sF li wF : Sc) (PL : List RuR) (z : SpS) : Prop :=
  (PlB z.2.1 ∧ (∃ L, plK z.2.1 = plK P ++ L) ∧ ∀ k ∈ plK z.2.1, GK k) ∧
  (RmO z.1.1.2.1 ∧ Nb ≤ z.1.1.2.1 ∧ plN P + 5 ≤ z.1.1.2.1 ∧ (∀ p, p < Nb → p ≠ 4 + y → p ≠ 4 + y + 1 → z.1.1.2.2 p = bf p) ∧ z.1.1.2.2 (4 + y) = nI u ∧ z.1.1.2.2 (4 + y + 1) = nI z.2.2.1) ∧
  (roK Nt tf z.1.2.1 ∧ (¬ tk = -1 → plN P + 5 ≤ z.1.2.1.2.1)) ∧
  (PoO z.1.2.2.2.1 ∧ z.2.2.1 ≤ z.1.2.2.2.1 ∧ z.2.2.1 = u + (osL wF ch nO).length * (1 + ch) ∧ (∀ p, p < u → z.1.2.2.2.2 p = pf p) ∧ EnK ch (plK z.2.1) z.1.2.2.2.2 sF li wF (osL wF ch nO) u) ∧
  SaP PL z.2.2.2.2
theorem c_X2_spread {l : Launch} {g : Gh} {q a5 a6 a7 Nb Nt Np u ch y p nO la ru so cc b0 al num : Nat} {r : Nat → Nat} {i bf tf pf sf sb wf li cf ri yf : Sc} {af : Nat → Option Nat} {P : PlS} {PL : List RuR} {Rl : Nat → RLs} {sF wF : Sc} {GK : Int32 → Prop}
    (hi : i 9 = nI ch) (hch : i 10 = -1 ∧ ch = 1 ∨ ¬ i 10 = -1 ∧ ch = 4) (hP : PlB P) (hG : ∀ k ∈ plK P, GK k) (hy : y < (plK P).length) (hb : RmO Nb) (hnt : RmO Nt) (hpo : PoO Np) (huN : u ≤ Np) (hu : u + 60 ≤ 929280)
    (hri : ri 2 = nI num) (hRs : RsO num yf af PL Rl) (hsF : sF = (sBec sf (kAt (plK P) y))) (hwF : wF = (fwL (sF 6) li (sF 4) cf (fwB (i 10) (sF 2) p) (fwS (i 10) (sF 2)) ch wf)) (hnO : nO = if sF 6 = 0 then 12 else 3) (h6 : sF 6 = 0 ∨ sF 6 = 1) (h2 : sF 2 = 0 ∨ sF 2 = 1) (hpa : paV yf Rl sF = nI p) (hp : p < 16)
    (hbh : ∀ o, o < nO → mcV wF o ch 0 = 1 → (∃ v, v ≤ 1 ∧ bhS sF li o 2 = nI v) ∧ ∀ k, tgt sF (bhS sF li o) = .inr k → (∃ c, c < 15488 ∧ k = nI c) ∧ GK k) :
    Cn l g yX2_spread (Cond.code yX2_spread cX2_spread 4 none) 9 ((16384 - plN P) + (16389 - Nb) + (16389 - Nt) + (8192 - Np / 128)) (10 * (16384 - plN P) + 16 * (16389 - Nb) + 16 * (16389 - Nt) + 2 * (1048576 - Np)) [.ref q, .int (nI (4 + y))] ([(q, ob 2 (upd i 8 (nI u)) (rO (rs567 r a5 a6 a7))), ((r 0), ob 3 (plI P) (rPl (plKe P) (plTa P))), (plKe P, aI g (plN P) (plKf P)), (plTa P, aI g (4 * plN P) (plTb P)), (r 1, ob 8 sf []), (r 2, ob 8 sb []), (r 3, aI g 48 wf), (a5, aI g Nb bf), (a6, aI g Nt tf), (a7, aI g Np pf), (r 12, ob 10 (fun _ => 0) (rD la ru so)), (la, ob 0 li (rL cc)), (cc, aI g 192 cf), (ru, ob 6 ri (rQ b0 al)), (b0, aI g 2 yf), (al, aR g 6 af)] ++ plW g PL) (fun _ : SpS => none) (fun z : SpS => ([(q, ob 2 (upd i 8 (nI z.2.2.1)) (rO (rs567 r z.1.1.1 z.1.2.1.1 z.1.2.2.1))), ((r 0), ob 3 (plI z.2.1) (rPl (plKe z.2.1) (plTa z.2.1))), (plKe z.2.1, aI g (plN z.2.1) (plKf z.2.1)), (plTa z.2.1, aI g (4 * plN z.2.1) (plTb z.2.1)), (r 1, ob 8 sF []), (r 2, ob 8 z.2.2.2.1 []), (r 3, aI g 48 wF), (z.1.1.1, aI g z.1.1.2.1 z.1.1.2.2), (z.1.2.1.1, aI g z.1.2.1.2.1 z.1.2.1.2.2), (z.1.2.2.1, aI g z.1.2.2.2.1 z.1.2.2.2.2), (r 12, ob 10 (fun _ => 0) (rD la ru so)), (la, ob 0 li (rL cc)), (cc, aI g 192 cf), (ru, ob 6 ri (rQ b0 al)), (b0, aI g 2 yf), (al, aR g 6 af)] ++ plW g z.2.2.2.2)) (fun z k n => SpO GK ch y u nO P Nb bf Nt tf pf (i 11) sF li wF PL z ∧ k + (plN P + Nb + Nt + Np / 128) ≤ plN z.2.1 + z.1.1.2.1 + z.1.2.1.2.1 + z.1.2.2.2.1 / 128 ∧ n + (10 * plN P + 16 * Nb + 16 * Nt + 2 * Np) ≤ 10 * plN z.2.1 + 16 * z.1.1.2.1 + 16 * z.1.2.1.2.1 + 2 * z.1.2.2.2.1) := by
  refine ct_of (M := mtX2_spread) [some (.ref q), some (.int (nI (4 + y))), none, none] rfl (by decide) (Nat.le_of_ble_eq_true rfl) (fun _ h => h) (fun a => ?_)
  have hch4 : ch ≤ 4 := by omega
  have hnO12 : nO ≤ 12 := by
    rw [hnO]
    rcases h6 with h | h
    · rw [if_pos h]; omega
    · rw [h, if_neg (by decide)]; omega
  obtain ⟨m0, hm0, hN0⟩ := hP.1.2.2.2
  have hN16 := hP.2.1
  have hKN := hP.1.2.1.1
  have hbb := hb.1
  have htt := hnt.1
  have hpp := hpo.1
  have K65 : ∀ (b5 Nb1 b6 Nt1 : Nat) (bf1 tf1 : Sc) (PL1 : List RuR), RmO Nb1 → Nb ≤ Nb1 → plN P + 5 ≤ Nb1 → (∀ p, p < Nb → p ≠ 4 + y → bf1 p = bf p) → bf1 (4 + y) = nI u → roK Nt tf (b6, Nt1, tf1) → (¬ i 11 = -1 → plN P + 5 ≤ Nt1) → SaP PL PL1 → ∀ (f o b7 Np1 u1 kk nn : Nat) (pf1 sb1 : Sc) (P1 : PlS), f + o = nO → PlB P1 → ((∃ L, plK P1 = plK P ++ L) ∧ ∀ k ∈ plK P1, GK k) → PoO Np1 → u1 ≤ Np1 → u1 = u + (osL wF ch o).length * (1 + ch) → (∀ p, p < u → pf1 p = pf p) → EnK ch (plK P1) pf1 sF li wF (osL wF ch o) u → kk + (plN P + Nb + Nt + Np / 128) ≤ plN P1 + Nb1 + Nt1 + Np1 / 128 → nn + (10 * plN P + 16 * Nb + 16 * Nt + 2 * Np) ≤ 10 * plN P1 + 16 * Nb1 + 16 * Nt1 + 2 * Np1 → WPs l g mtX2_spread 9 ((16384 - plN P) + (16389 - Nb) + (16389 - Nt) + (8192 - Np / 128)) (10 * (16384 - plN P) + 16 * (16389 - Nb) + 16 * (16389 - Nt) + 2 * (1048576 - Np)) (pX (fun _ : SpS => none) (fun z : SpS => ([(q, ob 2 (upd i 8 (nI z.2.2.1)) (rO (rs567 r z.1.1.1 z.1.2.1.1 z.1.2.2.1))), ((r 0), ob 3 (plI z.2.1) (rPl (plKe z.2.1) (plTa z.2.1))), (plKe z.2.1, aI g (plN z.2.1) (plKf z.2.1)), (plTa z.2.1, aI g (4 * plN z.2.1) (plTb z.2.1)), (r 1, ob 8 sF []), (r 2, ob 8 z.2.2.2.1 []), (r 3, aI g 48 wF), (z.1.1.1, aI g z.1.1.2.1 z.1.1.2.2), (z.1.2.1.1, aI g z.1.2.1.2.1 z.1.2.1.2.2), (z.1.2.2.1, aI g z.1.2.2.2.1 z.1.2.2.2.2), (r 12, ob 10 (fun _ => 0) (rD la ru so)), (la, ob 0 li (rL cc)), (cc, aI g 192 cf), (ru, ob 6 ri (rQ b0 al)), (b0, aI g 2 yf), (al, aR g 6 af)] ++ plW g z.2.2.2.2)) (fun z k n => SpO GK ch y u nO P Nb bf Nt tf pf (i 11) sF li wF PL z ∧ k + (plN P + Nb + Nt + Np / 128) ≤ plN z.2.1 + z.1.1.2.1 + z.1.2.1.2.1 + z.1.2.2.2.1 / 128 ∧ n + (10 * plN P + 16 * Nb + 16 * Nt + 2 * Np) ≤ 10 * plN z.2.1 + 16 * z.1.1.2.1 + 16 * z.1.2.1.2.1 + 2 * z.1.2.2.2.1)) noX a 65 [some (.ref q), some (.int (nI (4 + y))), some (.int (nI nO)), some (.int (nI o))] [] ([(q, ob 2 (upd i 8 (nI u1)) (rO (rs567 r b5 b6 b7))), ((r 0), ob 3 (plI P1) (rPl (plKe P1) (plTa P1))), (plKe P1, aI g (plN P1) (plKf P1)), (plTa P1, aI g (4 * plN P1) (plTb P1)), (r 1, ob 8 sF []), (r 2, ob 8 sb1 []), (r 3, aI g 48 wF), (b5, aI g Nb1 bf1), (b6, aI g Nt1 tf1), (b7, aI g Np1 pf1), (r 12, ob 10 (fun _ => 0) (rD la ru so)), (la, ob 0 li (rL cc)), (cc, aI g 192 cf), (ru, ob 6 ri (rQ b0 al)), (b0, aI g 2 yf), (al, aR g 6 af)] ++ plW g PL1) kk nn := by
    intro b5 Nb1 b6 Nt1 bf1 tf1 PL1 hb1 hbN hb5 hbf hbu ht1 ht5 hPL f
    have hb1b := hb1.1
    have ht1b : Nt1 ≤ 16389 := ht1.1.1
    induction f with
    | zero =>
      intro o b7 Np1 u1 kk nn pf1 sb1 P1 ho g1 g2 g3 g4 g5 g6 g7 g8 g9
      obtain rfl : o = nO := by omega
      have ey : nI (4 + y) + 1 = nI (4 + y + 1) := nI_1 _
      have hU8 : upd i 8 (nI u1) 8 = nI u1 := pk_us
      generalize hy1 : 4 + y + 1 = y1 at *
      refine q_iload_n 3 66 dX2_spread_65 rfl rfl rfl ?_
      refine q_iload_n 2 67 dX2_spread_66 rfl rfl rfl ?_
      refine q_icmp_ge 148 70 dX2_spread_67 (by decide) rfl (fun h67 => ?_) (fun h67 => absurd (Int32.le_refl _) h67)
      refine q_aload_n 0 149 dX2_spread_148 rfl rfl rfl ?_
      refine q_getR 0 152 f_X2_35 dX2_spread_149 rfl rfl rfl rfl ?_
      refine q_iload_n 1 153 dX2_spread_152 rfl rfl rfl ?_
      refine q_iconst 1 154 dX2_spread_153 ic_1 rfl ?_
      refine q_iadd 155 dX2_spread_154 rfl ?_
      refine q_aload_n 0 156 dX2_spread_155 rfl rfl rfl ?_
      refine q_getI 0 159 f_X2_70 dX2_spread_156 rfl rfl rfl ?_
      rw [hU8]
      refine q_iast 7 y1 160 (w' := ([_, _, _, _, _, _, _, _, _, _, _, _, _, _, _, _] ++ _)) dX2_spread_159 rfl ⟨ey, by omega, by omega⟩ rfl rfl ?_
      refine q_return dX2_spread_160 rfl ?_
      exact pX.mk (((b5, Nb1, upd bf1 y1 (nI u1)), (b6, Nt1, tf1), (b7, Np1, pf1)), P1, u1, sb1, PL1) ⟨⟨⟨g1, g2.1, g2.2⟩, ⟨hb1, hbN, hb5, fun p hp hp1 hp2 => by show upd bf1 y1 (nI u1) p = bf p; rw [pk_un (by omega)]; exact hbf p hp hp1, by show upd bf1 y1 (nI u1) (4 + y) = nI u; rw [pk_un (by omega)]; exact hbu, by show upd bf1 y1 (nI u1) (4 + y + 1) = nI u1; rw [hy1]; exact pk_us⟩, ⟨ht1, ht5⟩, ⟨g3, g4, g5, g6, g7⟩, hPL⟩, g8, g9⟩ rfl rfl
    | succ f ih =>
      intro o b7 Np1 u1 kk nn pf1 sb1 P1 ho g1 g2 g3 g4 g5 g6 g7 g8 g9
      have hlt : ¬ nI nO ≤ nI o := nI_ge (by omega) (by omega)
      have hol := osL_len wF ch o
      have hos := osL_s wF ch o
      have g10 := g1.2.1
      have g31 := g3.1
      have h9 : upd i 8 (nI u1) 9 = nI ch := by rw [pk_un (by decide)]; exact hi
      have K1 := ih (o + 1)
      clear ih
      rcases mcV_or wF o ch 0 with hmc | hmc
      · rw [hmc, if_neg (by decide)] at hos
        rw [hos] at K1
        refine q_iload_n 3 66 dX2_spread_65 rfl rfl rfl ?_
        refine q_iload_n 2 67 dX2_spread_66 rfl rfl rfl ?_
        refine q_icmp_ge 148 70 dX2_spread_67 (by decide) rfl (fun h67 => absurd h67 hlt) (fun h67 => ?_)
        refine q_aload_n 0 71 dX2_spread_70 rfl rfl rfl ?_
        refine q_iload_n 3 72 dX2_spread_71 rfl rfl rfl ?_
        refine q_tcVi 0 [0, 6] [1, 2, 3, 4, 5, 7, 8, 9, 10, 11, 12, 13, 14, 15] [14, 0, 1, 2, 3, 4, 15, 5, 6, 7, 8, 9, 10, 11, 12, 13] 75 (wr := [_, _, _, _, _, _, _, _, _, _, _, _, _, _]) (w1 := _) (ws' := [_, _, _, _, _, _, _, _, _, _, _, _, _, _, _, _]) (c_X2_mayCome h9 hch4 (by omega)) m_X2_134 dX2_spread_72 rfl rfl rfl rfl rfl rfl rfl rfl (by decide) (by decide) (by decide) (by decide) (Nat.le_of_ble_eq_true rfl) (by omega) (by omega) (by omega) rfl ?_
        refine q_if_eq 142 78 dX2_spread_75 (by decide) rfl (fun h75 => ?_) (fun h75 => absurd hmc h75)
        refine q_iinc 3 (nI (o + 1)) 145 (L' := [_, _, _, _]) dX2_spread_142 rfl (inc1 (o)) (by decide) rfl rfl ?_
        refine q_goto 65 dX2_spread_145 (by decide) ?_
        exact K1 _ _ _ _ _ _ _ _ (by omega) g1 g2 g3 g4 g5 g6 g7 g8 g9
      · have hne : ¬ mcV wF o ch 0 = 0 := by rw [hmc]; decide
        rw [hmc, if_pos rfl] at hos
        rw [hos] at K1
        obtain ⟨⟨v, hv1, hv⟩, hcd⟩ := hbh o (by omega) hmc
        have hul : u1 + 1 + ch ≤ 929280 := by
          have h1 : (osL wF ch o).length * (1 + ch) ≤ 11 * (1 + ch) := Nat.mul_le_mul_right _ (by omega)
          have h2 : 11 * (1 + ch) + (1 + ch) ≤ 60 := by omega
          omega
        obtain ⟨w1, w2, w3⟩ := po_f g3 hul
        have hNp1 : 128 ≤ Np1 := by
          obtain ⟨_, m, e⟩ := g3
          have := Nat.one_le_two_pow (n := m)
          omega
        have hinl : ∀ w, tgt sF (bhS sF li o) = .inl w → w < 4 := by
          intro w hw
          have hcl : (bhS sF li o 2).toNatClampNeg = v := by rw [hv, nI_clamp (by omega)]
          unfold tgt at hw
          rw [hcl] at hw
          by_cases e1 : sF 7 < bhS sF li o 7
          · rw [if_pos e1] at hw; injection hw with hw; omega
          · rw [if_neg e1] at hw
            by_cases e2 : sF 8 < bhS sF li o 8
            · rw [if_pos e2] at hw; injection hw with hw; omega
            · rw [if_neg e2] at hw; cases hw
        have K133 : WPs l g mtX2_spread 9 ((16384 - plN P) + (16389 - Nb) + (16389 - Nt) + (8192 - Np / 128)) (10 * (16384 - plN P) + 16 * (16389 - Nb) + 16 * (16389 - Nt) + 2 * (1048576 - Np)) (pX (fun _ : SpS => none) (fun z : SpS => ([(q, ob 2 (upd i 8 (nI z.2.2.1)) (rO (rs567 r z.1.1.1 z.1.2.1.1 z.1.2.2.1))), ((r 0), ob 3 (plI z.2.1) (rPl (plKe z.2.1) (plTa z.2.1))), (plKe z.2.1, aI g (plN z.2.1) (plKf z.2.1)), (plTa z.2.1, aI g (4 * plN z.2.1) (plTb z.2.1)), (r 1, ob 8 sF []), (r 2, ob 8 z.2.2.2.1 []), (r 3, aI g 48 wF), (z.1.1.1, aI g z.1.1.2.1 z.1.1.2.2), (z.1.2.1.1, aI g z.1.2.1.2.1 z.1.2.1.2.2), (z.1.2.2.1, aI g z.1.2.2.2.1 z.1.2.2.2.2), (r 12, ob 10 (fun _ => 0) (rD la ru so)), (la, ob 0 li (rL cc)), (cc, aI g 192 cf), (ru, ob 6 ri (rQ b0 al)), (b0, aI g 2 yf), (al, aR g 6 af)] ++ plW g z.2.2.2.2)) (fun z k n => SpO GK ch y u nO P Nb bf Nt tf pf (i 11) sF li wF PL z ∧ k + (plN P + Nb + Nt + Np / 128) ≤ plN z.2.1 + z.1.1.2.1 + z.1.2.1.2.1 + z.1.2.2.2.1 / 128 ∧ n + (10 * plN P + 16 * Nb + 16 * Nt + 2 * Np) ≤ 10 * plN z.2.1 + 16 * z.1.1.2.1 + 16 * z.1.2.1.2.1 + 2 * z.1.2.2.2.1)) noX a 133 [some (.ref q), some (.int (nI (4 + y))), some (.int (nI nO)), some (.int (nI o))] [] ([(q, ob 2 (upd i 8 (nI u1)) (rO (rs567 r b5 b6 b7))), ((r 0), ob 3 (plI P1) (rPl (plKe P1) (plTa P1))), (plKe P1, aI g (plN P1) (plKf P1)), (plTa P1, aI g (4 * plN P1) (plTb P1)), (r 1, ob 8 sF []), (r 2, ob 8 (bhS sF li o) []), (r 3, aI g 48 wF), (b5, aI g Nb1 bf1), (b6, aI g Nt1 tf1), (b7, aI g Np1 pf1), (r 12, ob 10 (fun _ => 0) (rD la ru so)), (la, ob 0 li (rL cc)), (cc, aI g 192 cf), (ru, ob 6 ri (rQ b0 al)), (b0, aI g 2 yf), (al, aR g 6 af)] ++ plW g PL1) kk nn := by
          refine q_aload_n 0 134 dX2_spread_133 rfl rfl rfl ?_
          refine q_iload_n 3 135 dX2_spread_134 rfl rfl rfl ?_
          refine q_aload_n 0 136 dX2_spread_135 rfl rfl rfl ?_
          refine q_tyVi 0 [0, 1, 2, 3, 4, 5] [6, 7, 8, 9, 10, 11, 12, 13, 14, 15] [10, 11, 12, 13, 14, 15, 0, 1, 2, 3, 4, 5, 6, 7, 8, 9] 139 (wr := [_, _, _, _, _, _, _, _, _, _]) (w1 := _) (ws' := fun _ => [_, _, _, _, _, _, _, _, _, _, _, _, _, _, _, _]) (c_X2_placeBehind (r := rs567 r b5 b6 b7) g1 hv hv1 (fun k hk => (hcd k hk).1)) m_X2_120 dX2_spread_136 rfl rfl rfl rfl rfl rfl rfl (fun _ => rfl) (by decide) (by decide) (by decide) (by decide) (Nat.le_of_ble_eq_true rfl) (by omega) (by omega) (by omega) rfl (fun P136 k136 n136 hx136 => ?_)
          have g11 := hx136.1.2.1; have w31 := w3.1
          refine q_tyVv 0 [0, 6, 9] [1, 2, 3, 4, 5, 7, 8, 10, 11, 12, 13, 14, 15] [13, 0, 1, 2, 3, 4, 14, 5, 6, 15, 7, 8, 9, 10, 11, 12] 142 (wr := [_, _, _, _, _, _, _, _, _, _, _, _, _]) (w1 := _) (ws' := fun _ => [_, _, _, _, _, _, _, _, _, _, _, _, _, _, _, _]) (c_X2_write (r := rs567 r b5 b6 b7) (u := u1) h9 hch4 (by omega) pk_us g4 hNp1 (by omega)) m_X2_151 dX2_spread_139 rfl rfl rfl rfl rfl rfl rfl (fun _ => rfl) (by decide) (by decide) (by decide) (by decide) (Nat.le_of_ble_eq_true rfl) (by omega) (by omega) (by omega) rfl (fun z139 k139 n139 hx139 => ?_)
          obtain ⟨a139, n139, p139⟩ := z139
          dsimp only at hx139 ⊢
          rw [upd_upd]
          refine q_iinc 3 (nI (o + 1)) 145 (L' := [_, _, _, _]) dX2_spread_142 rfl (inc1 (o)) (by decide) rfl rfl ?_
          refine q_goto 65 dX2_spread_145 (by decide) ?_
          skip
          obtain ⟨x1, x2, x3, x4⟩ := hx136
          obtain ⟨x5, x6, x7, x8⟩ := hx139
          obtain ⟨⟨L0, hL0⟩, hGK⟩ := g2
          obtain ⟨L1, hL1⟩ := tgK_ext (plK P1) (tgt sF (bhS sF li o))
          have x6 : n139 = _ := x6
          have hu2 : u1 + 1 + ch = u + (osL wF ch o ++ [o]).length * (1 + ch) := by
            rw [List.length_append, List.length_singleton, Nat.add_mul, Nat.one_mul]
            omega
          refine K1 a139 n139 (u1 + 1 + ch) _ _ p139 _ P136 (by omega) x1 ⟨⟨L0 ++ L1, by rw [x2, hL1, hL0, List.append_assoc]⟩, by rw [x2]; exact tgK_all hGK (fun k hk => (hcd k hk).2)⟩ (by rw [x6]; exact w3) ?_ hu2 ?_ ?_ ?_ ?_
          · rw [x6]
            by_cases hg : Np1 < u1 + 1 + ch
            · rw [if_pos hg]; omega
            · rw [if_neg hg]; omega
          · intro p9 hp9
            rw [x5.1 p9 (by omega)]
            exact g6 p9 hp9
          · have hE : EnK ch (plK P136) pf1 sF li wF (osL wF ch o) u := by
              rw [x2, hL1]
              exact g7.ext
            refine hE.add (by rw [x2]; exact tgK_in hinl) ?_
            rw [x2, tgK_plc, ← g5]
            exact x5
          · have x7 : 128 * _ + Np1 ≤ n139 := x7
            omega
          · have x8 : _ + 2 * Np1 = 2 * n139 := x8
            omega
        clear K1
        by_cases hof : sF 6 = 0
        · have hbs : bhS sF li o = sStrike sF li (iMin (nI o) 2) (nI o - 2) := if_pos hof
          rw [hbs] at K133
          refine q_iload_n 3 66 dX2_spread_65 rfl rfl rfl ?_
          refine q_iload_n 2 67 dX2_spread_66 rfl rfl rfl ?_
          refine q_icmp_ge 148 70 dX2_spread_67 (by decide) rfl (fun h67 => absurd h67 hlt) (fun h67 => ?_)
          refine q_aload_n 0 71 dX2_spread_70 rfl rfl rfl ?_
          refine q_iload_n 3 72 dX2_spread_71 rfl rfl rfl ?_
          refine q_tcVi 0 [0, 6] [1, 2, 3, 4, 5, 7, 8, 9, 10, 11, 12, 13, 14, 15] [14, 0, 1, 2, 3, 4, 15, 5, 6, 7, 8, 9, 10, 11, 12, 13] 75 (wr := [_, _, _, _, _, _, _, _, _, _, _, _, _, _]) (w1 := _) (ws' := [_, _, _, _, _, _, _, _, _, _, _, _, _, _, _, _]) (c_X2_mayCome h9 hch4 (by omega)) m_X2_134 dX2_spread_72 rfl rfl rfl rfl rfl rfl rfl rfl (by decide) (by decide) (by decide) (by decide) (Nat.le_of_ble_eq_true rfl) (by omega) (by omega) (by omega) rfl ?_
          refine q_if_eq 142 78 dX2_spread_75 (by decide) rfl (fun h75 => absurd h75 hne) (fun h75 => ?_)
          refine q_aload_n 0 79 dX2_spread_78 rfl rfl rfl ?_
          refine q_getR 0 82 f_X2_25 dX2_spread_79 rfl rfl rfl rfl ?_
          refine q_aload_n 0 83 dX2_spread_82 rfl rfl rfl ?_
          refine q_getR 0 86 f_X2_21 dX2_spread_83 rfl rfl rfl rfl ?_
          refine q_tcVv 5 [5, 4] [0, 1, 2, 3, 6, 7, 8, 9, 10, 11, 12, 13, 14, 15] [0, 1, 2, 3, 15, 14, 4, 5, 6, 7, 8, 9, 10, 11, 12, 13] 89 (wr := [_, _, _, _, _, _, _, _, _, _, _, _, _, _]) (w1 := _) (ws' := [_, _, _, _, _, _, _, _, _, _, _, _, _, _, _, _]) (c_X8_takeFrom h6) m_X2_81 dX2_spread_86 rfl rfl rfl rfl rfl rfl rfl rfl (by decide) (by decide) (by decide) (by decide) (Nat.le_of_ble_eq_true rfl) (by omega) (by omega) (by omega) rfl ?_
          refine q_aload_n 0 90 dX2_spread_89 rfl rfl rfl ?_
          refine q_getR 0 93 f_X2_21 dX2_spread_90 rfl rfl rfl rfl ?_
          refine q_getI 4 96 f_X2_123 dX2_spread_93 rfl rfl rfl ?_
          refine q_if_eq 110 99 dX2_spread_96 (by decide) rfl (fun h96 => ?_) (fun h96 => absurd hof h96)
          refine q_aload_n 0 111 dX2_spread_110 rfl rfl rfl ?_
          refine q_getR 0 114 f_X2_25 dX2_spread_111 rfl rfl rfl rfl ?_
          refine q_iload_n 3 115 dX2_spread_114 rfl rfl rfl ?_
          refine q_iconst 2 116 dX2_spread_115 ic_2 rfl ?_
          refine q_mmin 119 mm_X2_141 dX2_spread_116 (Nat.le_of_ble_eq_true rfl) (by omega) (by omega) (by omega) rfl ?_
          refine q_iload_n 3 120 dX2_spread_119 rfl rfl rfl ?_
          refine q_iconst 2 121 dX2_spread_120 ic_2 rfl ?_
          refine q_isub 122 dX2_spread_121 rfl ?_
          refine q_aload_n 0 123 dX2_spread_122 rfl rfl rfl ?_
          refine q_getR 0 126 f_X2_56 dX2_spread_123 rfl rfl rfl rfl ?_
          refine q_getR 10 129 f_X2_112 dX2_spread_126 rfl rfl rfl rfl ?_
          refine q_tcVi 5 [5, 11] [0, 1, 2, 3, 4, 6, 7, 8, 9, 10, 12, 13, 14, 15] [0, 1, 2, 3, 4, 14, 5, 6, 7, 8, 9, 15, 10, 11, 12, 13] 132 (wr := [_, _, _, _, _, _, _, _, _, _, _, _, _, _]) (w1 := _) (ws' := [_, _, _, _, _, _, _, _, _, _, _, _, _, _, _, _]) c_X8_strike m_X2_147 dX2_spread_129 rfl rfl rfl rfl rfl rfl rfl rfl (by decide) (by decide) (by decide) (by decide) (Nat.le_of_ble_eq_true rfl) (by omega) (by omega) (by omega) rfl ?_
          refine q_pop 133 dX2_spread_132 rfl rfl ?_
          exact K133
        · have hbs : bhS sF li o = sPlayOff sF (nI o) := if_neg hof
          rw [hbs] at K133
          refine q_iload_n 3 66 dX2_spread_65 rfl rfl rfl ?_
          refine q_iload_n 2 67 dX2_spread_66 rfl rfl rfl ?_
          refine q_icmp_ge 148 70 dX2_spread_67 (by decide) rfl (fun h67 => absurd h67 hlt) (fun h67 => ?_)
          refine q_aload_n 0 71 dX2_spread_70 rfl rfl rfl ?_
          refine q_iload_n 3 72 dX2_spread_71 rfl rfl rfl ?_
          refine q_tcVi 0 [0, 6] [1, 2, 3, 4, 5, 7, 8, 9, 10, 11, 12, 13, 14, 15] [14, 0, 1, 2, 3, 4, 15, 5, 6, 7, 8, 9, 10, 11, 12, 13] 75 (wr := [_, _, _, _, _, _, _, _, _, _, _, _, _, _]) (w1 := _) (ws' := [_, _, _, _, _, _, _, _, _, _, _, _, _, _, _, _]) (c_X2_mayCome h9 hch4 (by omega)) m_X2_134 dX2_spread_72 rfl rfl rfl rfl rfl rfl rfl rfl (by decide) (by decide) (by decide) (by decide) (Nat.le_of_ble_eq_true rfl) (by omega) (by omega) (by omega) rfl ?_
          refine q_if_eq 142 78 dX2_spread_75 (by decide) rfl (fun h75 => absurd h75 hne) (fun h75 => ?_)
          refine q_aload_n 0 79 dX2_spread_78 rfl rfl rfl ?_
          refine q_getR 0 82 f_X2_25 dX2_spread_79 rfl rfl rfl rfl ?_
          refine q_aload_n 0 83 dX2_spread_82 rfl rfl rfl ?_
          refine q_getR 0 86 f_X2_21 dX2_spread_83 rfl rfl rfl rfl ?_
          refine q_tcVv 5 [5, 4] [0, 1, 2, 3, 6, 7, 8, 9, 10, 11, 12, 13, 14, 15] [0, 1, 2, 3, 15, 14, 4, 5, 6, 7, 8, 9, 10, 11, 12, 13] 89 (wr := [_, _, _, _, _, _, _, _, _, _, _, _, _, _]) (w1 := _) (ws' := [_, _, _, _, _, _, _, _, _, _, _, _, _, _, _, _]) (c_X8_takeFrom h6) m_X2_81 dX2_spread_86 rfl rfl rfl rfl rfl rfl rfl rfl (by decide) (by decide) (by decide) (by decide) (Nat.le_of_ble_eq_true rfl) (by omega) (by omega) (by omega) rfl ?_
          refine q_aload_n 0 90 dX2_spread_89 rfl rfl rfl ?_
          refine q_getR 0 93 f_X2_21 dX2_spread_90 rfl rfl rfl rfl ?_
          refine q_getI 4 96 f_X2_123 dX2_spread_93 rfl rfl rfl ?_
          refine q_if_eq 110 99 dX2_spread_96 (by decide) rfl (fun h96 => absurd h96 hof) (fun h96 => ?_)
          refine q_aload_n 0 100 dX2_spread_99 rfl rfl rfl ?_
          refine q_getR 0 103 f_X2_25 dX2_spread_100 rfl rfl rfl rfl ?_
          refine q_iload_n 3 104 dX2_spread_103 rfl rfl rfl ?_
          refine q_tcVv 5 [5] [0, 1, 2, 3, 4, 6, 7, 8, 9, 10, 11, 12, 13, 14, 15] [0, 1, 2, 3, 4, 15, 5, 6, 7, 8, 9, 10, 11, 12, 13, 14] 107 (wr := [_, _, _, _, _, _, _, _, _, _, _, _, _, _, _]) (w1 := _) (ws' := [_, _, _, _, _, _, _, _, _, _, _, _, _, _, _, _]) c_X8_playOff m_X2_138 dX2_spread_104 rfl rfl rfl rfl rfl rfl rfl rfl (by decide) (by decide) (by decide) (by decide) (Nat.le_of_ble_eq_true rfl) (by omega) (by omega) (by omega) rfl ?_
          refine q_goto 133 dX2_spread_107 (by decide) ?_
          exact K133
  have h9 : upd i 8 (nI u) 9 = nI ch := by rw [pk_un (by decide)]; exact hi
  have h10 : upd i 8 (nI u) 10 = i 10 := pk_un (by decide)
  have h11 : upd i 8 (nI u) 11 = i 11 := pk_un (by decide)
  have h88 : upd i 8 (nI u) 8 = nI u := pk_us
  have ez : nI (4 + y) - 4 = nI y := by rw [show (4 : Int32) = nI 4 by decide, pk_sub (by omega), Nat.add_sub_cancel_left]
  have hky : plKf P y = kAt (plK P) y := hP.1.2.1.2.2 y hy
  refine q_aload_n 0 1 dX2_spread_0 rfl rfl rfl ?_
  refine q_tyVv 0 [0, 1, 2, 7, 8] [3, 4, 5, 6, 9, 10, 11, 12, 13, 14, 15] [11, 12, 13, 0, 1, 2, 3, 14, 15, 4, 5, 6, 7, 8, 9, 10] 4 (wr := [_, _, _, _, _, _, _, _, _, _, _]) (w1 := _) (ws' := fun _ => [_, _, _, _, _, _, _, _, _, _, _, _, _, _, _, _]) (c_X2_makeRoom (r := rs567 r a5 a6 a7) hN16 hN0 hb hnt) m_X2_103 dX2_spread_1 rfl rfl rfl rfl rfl rfl rfl (fun _ => rfl) (by decide) (by decide) (by decide) (by decide) (Nat.le_of_ble_eq_true rfl) (by omega) (by omega) (by omega) rfl (fun z1 k1 n1 hx1 => ?_)
  obtain ⟨⟨e1, e2, e3⟩, ⟨e4, e5, e6⟩⟩ := z1
  dsimp only at hx1 ⊢
  skip
  obtain ⟨⟨⟨y1, y2, y3⟩, y4⟩, y5, ⟨y6, y7, y8⟩, y9, y10⟩ := hx1
  rw [h11] at y5
  have y2 : Nb ≤ e2 := y2
  have y4 : plN P + 5 ≤ e2 := y4
  have y11 : e2 ≤ 16389 := y1.1
  have y12 : e5 ≤ 16389 := y6.1
  have y9 : k1 + Nb + Nt ≤ e2 + e5 := y9
  have y10 : n1 + 16 * Nb + 16 * Nt ≤ 16 * e2 + 16 * e5 := y10
  have y7 : Nt ≤ e5 := y7
  generalize hz4 : 4 + y = z4 at *
  refine q_aload_n 0 5 dX2_spread_4 rfl rfl rfl ?_
  refine q_getR 0 8 f_X2_21 dX2_spread_5 rfl rfl rfl rfl ?_
  refine q_aload_n 0 9 dX2_spread_8 rfl rfl rfl ?_
  refine q_getR 0 12 f_X2_12 dX2_spread_9 rfl rfl rfl rfl ?_
  refine q_iload_n 1 13 dX2_spread_12 rfl rfl rfl ?_
  refine q_iconst 4 14 dX2_spread_13 ic_4 rfl ?_
  refine q_isub 15 dX2_spread_14 rfl ?_
  rw [ez]
  refine q_tcVi 1 [1, 2] [0, 3, 4, 5, 6, 7, 8, 9, 10, 11, 12, 13, 14, 15] [0, 14, 15, 1, 2, 3, 4, 5, 6, 7, 8, 9, 10, 11, 12, 13] 18 (wr := [_, _, _, _, _, _, _, _, _, _, _, _, _, _]) (w1 := _) (ws' := [_, _, _, _, _, _, _, _, _, _, _, _, _, _, _, _]) (c_X3_keyAt (z := y) (by omega) (by omega)) m_X2_106 dX2_spread_15 rfl rfl rfl rfl rfl rfl rfl rfl (by decide) (by decide) (by decide) (by decide) (Nat.le_of_ble_eq_true rfl) (by omega) (by omega) (by omega) rfl ?_
  rw [hky]
  refine q_tcVv 4 [4] [0, 1, 2, 3, 5, 6, 7, 8, 9, 10, 11, 12, 13, 14, 15] [0, 1, 2, 3, 15, 4, 5, 6, 7, 8, 9, 10, 11, 12, 13, 14] 21 (wr := [_, _, _, _, _, _, _, _, _, _, _, _, _, _, _]) (w1 := _) (ws' := [_, _, _, _, _, _, _, _, _, _, _, _, _, _, _, _]) c_X8_become m_X2_109 dX2_spread_18 rfl rfl rfl rfl rfl rfl rfl rfl (by decide) (by decide) (by decide) (by decide) (Nat.le_of_ble_eq_true rfl) (by omega) (by omega) (by omega) rfl ?_
  rw [← hsF]
  have hsel0 : ∀ (PLx : List RuR), SaP PL PLx → WPs l g mtX2_spread 9 ((16384 - plN P) + (16389 - Nb) + (16389 - Nt) + (8192 - Np / 128)) (10 * (16384 - plN P) + 16 * (16389 - Nb) + 16 * (16389 - Nt) + 2 * (1048576 - Np)) (pX (fun _ : SpS => none) (fun z : SpS => ([(q, ob 2 (upd i 8 (nI z.2.2.1)) (rO (rs567 r z.1.1.1 z.1.2.1.1 z.1.2.2.1))), ((r 0), ob 3 (plI z.2.1) (rPl (plKe z.2.1) (plTa z.2.1))), (plKe z.2.1, aI g (plN z.2.1) (plKf z.2.1)), (plTa z.2.1, aI g (4 * plN z.2.1) (plTb z.2.1)), (r 1, ob 8 sF []), (r 2, ob 8 z.2.2.2.1 []), (r 3, aI g 48 wF), (z.1.1.1, aI g z.1.1.2.1 z.1.1.2.2), (z.1.2.1.1, aI g z.1.2.1.2.1 z.1.2.1.2.2), (z.1.2.2.1, aI g z.1.2.2.2.1 z.1.2.2.2.2), (r 12, ob 10 (fun _ => 0) (rD la ru so)), (la, ob 0 li (rL cc)), (cc, aI g 192 cf), (ru, ob 6 ri (rQ b0 al)), (b0, aI g 2 yf), (al, aR g 6 af)] ++ plW g z.2.2.2.2)) (fun z k n => SpO GK ch y u nO P Nb bf Nt tf pf (i 11) sF li wF PL z ∧ k + (plN P + Nb + Nt + Np / 128) ≤ plN z.2.1 + z.1.1.2.1 + z.1.2.1.2.1 + z.1.2.2.2.1 / 128 ∧ n + (10 * plN P + 16 * Nb + 16 * Nt + 2 * Np) ≤ 10 * plN z.2.1 + 16 * z.1.1.2.1 + 16 * z.1.2.1.2.1 + 2 * z.1.2.2.2.1)) noX a 65 [some (.ref q), some (.int (nI z4)), some (.int (nI nO)), some (.int (nI 0))] [] ([(q, ob 2 (upd i 8 (nI u)) (rO (rs567 r e1 e4 a7))), ((r 0), ob 3 (plI P) (rPl (plKe P) (plTa P))), (plKe P, aI g (plN P) (plKf P)), (plTa P, aI g (4 * plN P) (plTb P)), (r 1, ob 8 sF []), (r 2, ob 8 sb []), (r 3, aI g 48 wF), (e1, aI g e2 (upd e3 z4 (nI u))), (e4, aI g e5 e6), (a7, aI g Np pf), (r 12, ob 10 (fun _ => 0) (rD la ru so)), (la, ob 0 li (rL cc)), (cc, aI g 192 cf), (ru, ob 6 ri (rQ b0 al)), (b0, aI g 2 yf), (al, aR g 6 af)] ++ plW g PLx) (0 + k1) (0 + n1) := by
    intro PLx hPLx
    have K1 := K65 e1 e2 e4 e5 (upd e3 z4 (nI u)) e6 PLx y1 y2 y4 (fun p hp hp1 => by rw [pk_un hp1]; exact y3 p hp) pk_us ⟨y6, y7, y8⟩ y5 hPLx nO 0 a7 Np u (0 + k1) (0 + n1) pf sb P rfl hP ⟨⟨[], (List.append_nil _).symm⟩, hG⟩ hpo huN
    have hos0 : osL wF ch 0 = [] := rfl
    rw [hos0] at K1
    exact K1 (by rw [List.length_nil, Nat.zero_mul, Nat.add_zero]) (fun _ _ => rfl) ⟨trivial, fun o ho => absurd ho List.not_mem_nil⟩ (by omega) (by omega)
  clear K65
  have hfw : fwL (sF 6) li (sF 4) cf (fwB (upd i 8 (nI u) 10) (sF 2) p) (fwS (upd i 8 (nI u) 10) (sF 2)) ch wf = wF := by rw [h10]; exact hwF.symm
  by_cases hof : sF 6 = 0
  · rw [if_pos hof] at hnO
    subst hnO
    refine q_aload_n 0 22 dX2_spread_21 rfl rfl rfl ?_
    refine q_getR 0 25 f_X2_21 dX2_spread_22 rfl rfl rfl rfl ?_
    refine q_getI 4 28 f_X2_123 dX2_spread_25 rfl rfl rfl ?_
    refine q_if_eq 35 31 dX2_spread_28 (by decide) rfl (fun h28 => ?_) (fun h28 => absurd hof h28)
    refine q_bipush 12 37 dX2_spread_35 bc_12 rfl ?_
    refine q_istore_n 2 38 (L' := [_, _, _, _]) dX2_spread_37 rfl (by decide) rfl rfl ?_
    refine q_aload_n 0 39 dX2_spread_38 rfl rfl rfl ?_
    refine q_aload_n 0 40 dX2_spread_39 rfl rfl rfl ?_
    refine q_getR 0 43 f_X2_56 dX2_spread_40 rfl rfl rfl rfl ?_
    refine q_aload_n 0 44 dX2_spread_43 rfl rfl rfl ?_
    refine q_getR 0 47 f_X2_21 dX2_spread_44 rfl rfl rfl rfl ?_
    refine q_uxVi 10 [10, 13, 14, 15, 4] [0, 1, 2, 3, 5, 6, 7, 8, 9, 11, 12] [0, 1, 2, 3, 15, 4, 5, 6, 7, 8, 11, 9, 10, 12, 13, 14] 50 (wr := [_, _, _, _, _, _, _, _, _, _, _]) (w1 := _) (ws' := fun _ => [_, _, _, _, _, _, _, _, _, _, _, _, _, _, _, _]) (c_X10_pairOf hri hRs h2) m_X2_127 dX2_spread_47 rfl rfl rfl rfl rfl rfl rfl (fun _ => rfl) (by decide) (by decide) (by decide) (by decide) (Nat.le_of_ble_eq_true rfl) (by omega) (by omega) (by omega) rfl (fun Q47 hx47 => ?_)
    rw [hpa]
    refine q_tcVv 0 [0, 6, 4, 10, 11, 12] [1, 2, 3, 5, 7, 8, 9, 13, 14, 15] [10, 0, 1, 2, 12, 3, 11, 4, 5, 6, 13, 14, 15, 7, 8, 9] 53 (wr := [_, _, _, _, _, _, _, _, _, _]) (w1 := _) (ws' := [_, _, _, _, _, _, _, _, _, _, _, _, _, _, _, _]) (c_X2_fillWeights (r := rs567 (rs567 r a5 a6 a7) e1 e4 a7) h9 (by rw [h10]; exact hch) hp) m_X2_131 dX2_spread_50 rfl rfl rfl rfl rfl rfl rfl rfl (by decide) (by decide) (by decide) (by decide) (Nat.le_of_ble_eq_true rfl) (by omega) (by omega) (by omega) rfl ?_
    rw [hfw]
    refine q_aload_n 0 54 dX2_spread_53 rfl rfl rfl ?_
    refine q_getR 0 57 f_X2_35 dX2_spread_54 rfl rfl rfl rfl ?_
    refine q_iload_n 1 58 dX2_spread_57 rfl rfl rfl ?_
    refine q_aload_n 0 59 dX2_spread_58 rfl rfl rfl ?_
    refine q_getI 0 62 f_X2_70 dX2_spread_59 rfl rfl rfl ?_
    rw [h88]
    refine q_iast 7 z4 63 (w' := ([_, _, _, _, _, _, _, _, _, _, _, _, _, _, _, _] ++ _)) dX2_spread_62 rfl ⟨rfl, by omega, by omega⟩ rfl rfl ?_
    refine q_iconst 0 64 dX2_spread_63 ic_0 rfl ?_
    refine q_istore_n 3 65 (L' := [_, _, _, _]) dX2_spread_64 rfl (by decide) rfl rfl ?_
    exact hsel0 _ hx47
  · rw [if_neg hof] at hnO
    subst hnO
    refine q_aload_n 0 22 dX2_spread_21 rfl rfl rfl ?_
    refine q_getR 0 25 f_X2_21 dX2_spread_22 rfl rfl rfl rfl ?_
    refine q_getI 4 28 f_X2_123 dX2_spread_25 rfl rfl rfl ?_
    refine q_if_eq 35 31 dX2_spread_28 (by decide) rfl (fun h28 => absurd h28 hof) (fun h28 => ?_)
    refine q_iconst 3 32 dX2_spread_31 ic_3 rfl ?_
    refine q_goto 37 dX2_spread_32 (by decide) ?_
    refine q_istore_n 2 38 (L' := [_, _, _, _]) dX2_spread_37 rfl (by decide) rfl rfl ?_
    refine q_aload_n 0 39 dX2_spread_38 rfl rfl rfl ?_
    refine q_aload_n 0 40 dX2_spread_39 rfl rfl rfl ?_
    refine q_getR 0 43 f_X2_56 dX2_spread_40 rfl rfl rfl rfl ?_
    refine q_aload_n 0 44 dX2_spread_43 rfl rfl rfl ?_
    refine q_getR 0 47 f_X2_21 dX2_spread_44 rfl rfl rfl rfl ?_
    refine q_uxVi 10 [10, 13, 14, 15, 4] [0, 1, 2, 3, 5, 6, 7, 8, 9, 11, 12] [0, 1, 2, 3, 15, 4, 5, 6, 7, 8, 11, 9, 10, 12, 13, 14] 50 (wr := [_, _, _, _, _, _, _, _, _, _, _]) (w1 := _) (ws' := fun _ => [_, _, _, _, _, _, _, _, _, _, _, _, _, _, _, _]) (c_X10_pairOf hri hRs h2) m_X2_127 dX2_spread_47 rfl rfl rfl rfl rfl rfl rfl (fun _ => rfl) (by decide) (by decide) (by decide) (by decide) (Nat.le_of_ble_eq_true rfl) (by omega) (by omega) (by omega) rfl (fun Q47 hx47 => ?_)
    rw [hpa]
    refine q_tcVv 0 [0, 6, 4, 10, 11, 12] [1, 2, 3, 5, 7, 8, 9, 13, 14, 15] [10, 0, 1, 2, 12, 3, 11, 4, 5, 6, 13, 14, 15, 7, 8, 9] 53 (wr := [_, _, _, _, _, _, _, _, _, _]) (w1 := _) (ws' := [_, _, _, _, _, _, _, _, _, _, _, _, _, _, _, _]) (c_X2_fillWeights (r := rs567 (rs567 r a5 a6 a7) e1 e4 a7) h9 (by rw [h10]; exact hch) hp) m_X2_131 dX2_spread_50 rfl rfl rfl rfl rfl rfl rfl rfl (by decide) (by decide) (by decide) (by decide) (Nat.le_of_ble_eq_true rfl) (by omega) (by omega) (by omega) rfl ?_
    rw [hfw]
    refine q_aload_n 0 54 dX2_spread_53 rfl rfl rfl ?_
    refine q_getR 0 57 f_X2_35 dX2_spread_54 rfl rfl rfl rfl ?_
    refine q_iload_n 1 58 dX2_spread_57 rfl rfl rfl ?_
    refine q_aload_n 0 59 dX2_spread_58 rfl rfl rfl ?_
    refine q_getI 0 62 f_X2_70 dX2_spread_59 rfl rfl rfl ?_
    rw [h88]
    refine q_iast 7 z4 63 (w' := ([_, _, _, _, _, _, _, _, _, _, _, _, _, _, _, _] ++ _)) dX2_spread_62 rfl ⟨rfl, by omega, by omega⟩ rfl rfl ?_
    refine q_iconst 0 64 dX2_spread_63 ic_0 rfl ?_
    refine q_istore_n 3 65 (L' := [_, _, _, _]) dX2_spread_64 rfl (by decide) rfl rfl ?_
    exact hsel0 _ hx47

