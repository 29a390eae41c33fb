/-! ===== Odds.spreadAll ===== -/
abbrev SaS : Type := (ArS × ArS × ArS) × PlS × Nat × (Sc × Sc × Sc × Sc) × List RuR
def SaO (GK : Int32 → Prop) (s0 li cf yf : Sc) (Rl : Nat → RLs) (c10 : Int32) (ch : Nat) (tk : Int32) (n : Nat) (P : PlS) (PL : List RuR) (z : SaS) : Prop :=
  (PlB z.2.1 ∧ (∃ L, plK z.2.1 = plK P ++ L) ∧ ∀ k ∈ plK z.2.1, GK k) ∧ (RmO z.1.1.2.1 ∧ plN z.2.1 + 5 ≤ z.1.1.2.1) ∧ (RmO z.1.2.1.2.1 ∧ (¬ tk = -1 → plN z.2.1 + 5 ≤ z.1.2.1.2.1)) ∧ (PoO z.1.2.2.2.1 ∧ z.2.2.1 ≤ z.1.2.2.2.1) ∧ FrO s0 z.2.2.2.1.1 ∧ SaP PL z.2.2.2.2 ∧
  ∃ (D Bd : Nat → Nat) (y : Nat), y ≤ (plK z.2.1).length ∧ SpR s0 li cf yf Rl c10 ch (plK z.2.1) z.1.2.2.2.2 z.1.1.2.2 z.2.2.1 y Bd ∧ LvO z.2.2.2.1.2.2.2 D Bd n y ∧ (¬ tk = -1 → TkL s0 li tk (plK z.2.1) z.1.2.1.2.2 D n) ∧ (0 < n → (plK P).length ≤ D 0)
theorem TkL.mv {s0 li : Sc} {tk : Int32} {K L : List Int32} {tf tf' : Sc} {D : Nat → Nat} {d : Nat} (h : TkL s0 li tk K tf D d) (hD : ∀ d', d' < d → D d' ≤ K.length) (ht : ∀ d', d' < d → ∀ j, j < D d' → tf' (4 + j) = tf (4 + j)) : TkL s0 li tk (K ++ L) tf' D d := by
  intro d' h1 j h2
  obtain ⟨s, e1, e2, e3⟩ := h d' h1 j h2
  have hd := hD d' h1
  rw [kAt_ext (by omega), List.take_append_of_le_length hd]
  exact ⟨s, e1, by rw [plc_app (tIn_take e3), ht d' h1 j h2]; exact e2, e3⟩
theorem c_X2_spreadAll {l : Launch} {g : Gh} {q a5 a6 a7 Nb Nt Np ch n la ru so cc b0 al num : Nat} {r : Nat → Nat} {i bf tf pf sf sb wf ef li cf ri yf s0 : Sc} {af : Nat → Option Nat} {P : PlS} {PL : List RuR} {Rl : Nat → RLs} {GK : Int32 → Prop}
    (hi : i 9 = nI ch) (hch : i 10 = -1 ∧ ch = 1 ∨ ¬ i 10 = -1 ∧ ch = 4) (hn : n ≤ 30) (hP : PlB P) (hG : ∀ k ∈ plK P, GK k) (hb : RmO Nb) (hnt : RmO Nt) (hpo : PoO Np) (hri : ri 2 = nI num) (hRs : ∀ Q, SaP PL Q → RsO num yf af Q Rl) (hsf : FrO s0 sf)
    (hS : ∀ s k wf, FrO s0 s → GK k → (sBec s k 6 = 0 ∨ sBec s k 6 = 1) ∧ (sBec s k 2 = 0 ∨ sBec s k 2 = 1) ∧ ∃ p, p < 16 ∧ paV yf Rl (sBec s k) = nI p ∧ ∀ o, o < nOf (sBec s k) → mcV (wFo li cf (i 10) ch wf p (sBec s k)) o ch 0 = 1 → (∃ v, v ≤ 1 ∧ bhS (sBec s k) li o 2 = nI v) ∧ ∀ k', tgt (sBec s k) (bhS (sBec s k) li o) = .inr k' → (∃ c, c < 15488 ∧ k' = nI c) ∧ GK k')
    (hH : ¬ i 11 = -1 → ∀ s k, FrO s0 s → GK k → (sBec s k 6 = 0 ∨ sBec s k 6 = 1) ∧ (∃ v, v ≤ 1 ∧ sBisque (sBec s k) li (i 11) 2 = nI v) ∧ ∀ k', tgB li (i 11) s k = .inr k' → (∃ c, c < 15488 ∧ k' = nI c) ∧ GK k') :
    Cn l g yX2_spreadAll (Cond.code yX2_spreadAll cX2_spreadAll 6 none) 10 ((16384 - plN P) + (16389 - Nb) + (16389 - Nt) + (8192 - Np / 128)) (10 * (16384 - plN P) + 16 * (16389 - Nb) + 16 * (16389 - Nt) + 2 * (1048576 - Np)) [.ref q, .int (nI n)] ([(q, ob 2 (upd i 8 (nI 0)) (rO (rs567 r a5 a6 a7))), ((r 0), ob 3 (plI P) (rPl (plKe P) (plTa P))), (plKe P, aI g (plN P) (plKf P)), (plTa P, aI g (4 * plN P) (plTb P)), (r 1, ob 8 sf []), (r 2, ob 8 sb []), (r 3, aI g 48 wf), (a5, aI g Nb bf), (a6, aI g Nt tf), (a7, aI g Np pf), (r 12, ob 10 (fun _ => 0) (rD la ru so)), (la, ob 0 li (rL cc)), (cc, aI g 192 cf), (ru, ob 6 ri (rQ b0 al)), (b0, aI g 2 yf), (al, aR g 6 af), (r 4, aI g 31 ef)] ++ plW g PL) (fun _ : SaS => none) (fun z : SaS => ([(q, ob 2 (upd i 8 (nI z.2.2.1)) (rO (rs567 r z.1.1.1 z.1.2.1.1 z.1.2.2.1))), ((r 0), ob 3 (plI z.2.1) (rPl (plKe z.2.1) (plTa z.2.1))), (plKe z.2.1, aI g (plN z.2.1) (plKf z.2.1)), (plTa z.2.1, aI g (4 * plN z.2.1) (plTb z.2.1)), (r 1, ob 8 z.2.2.2.1.1 []), (r 2, ob 8 z.2.2.2.1.2.1 []), (r 3, aI g 48 z.2.2.2.1.2.2.1), (z.1.1.1, aI g z.1.1.2.1 z.1.1.2.2), (z.1.2.1.1, aI g z.1.2.1.2.1 z.1.2.1.2.2), (z.1.2.2.1, aI g z.1.2.2.2.1 z.1.2.2.2.2), (r 12, ob 10 (fun _ => 0) (rD la ru so)), (la, ob 0 li (rL cc)), (cc, aI g 192 cf), (ru, ob 6 ri (rQ b0 al)), (b0, aI g 2 yf), (al, aR g 6 af), (r 4, aI g 31 z.2.2.2.1.2.2.2)] ++ plW g z.2.2.2.2)) (fun z k m => SaO GK s0 li cf yf Rl (i 10) ch (i 11) n P PL z ∧ k + (plN P + Nb + Nt + Np / 128) ≤ plN z.2.1 + z.1.1.2.1 + z.1.2.1.2.1 + z.1.2.2.2.1 / 128 ∧ m + (10 * plN P + 16 * Nb + 16 * Nt + 2 * Np) ≤ 10 * plN z.2.1 + 16 * z.1.1.2.1 + 16 * z.1.2.1.2.1 + 2 * z.1.2.2.2.1) := by
  refine ct_of (M := mtX2_spreadAll) [some (.ref q), some (.int (nI n)), none, none, none, none] rfl (by decide) (Nat.le_of_ble_eq_true rfl) (fun _ h => h) (fun a => ?_)
  have hch4 : ch ≤ 4 := by omega
  have hN16 := hP.2.1
  have hbb := hb.1
  have htt := hnt.1
  have hpp := hpo.1
  have K4 : ∀ (f d y : Nat) (D Bd1 : Nat → Nat) (b5 Nb1 b6 Nt1 b7 Np1 u1 kk nn : Nat) (bf1 tf1 pf1 sf1 sb1 wf1 ef1 : Sc) (P1 : PlS) (PL1 : List RuR) (L4 L5 : Option Value), f + d = n → PlB P1 → ((∃ L, plK P1 = plK P ++ L) ∧ ∀ k ∈ plK P1, GK k) → (RmO Nb1 ∧ (0 < y → 4 + y < Nb1)) → RmO Nt1 → (PoO Np1 ∧ u1 ≤ Np1) → FrO s0 sf1 → SaP PL PL1 → y ≤ (plK P1).length → SpR s0 li cf yf Rl (i 10) ch (plK P1) pf1 bf1 u1 y Bd1 → (¬ i 11 = -1 → TkL s0 li (i 11) (plK P1) tf1 D d ∧ (∀ d', d' < d → 4 + D d' ≤ Nt1)) → LvO ef1 D Bd1 d y → (0 < d → (plK P).length ≤ D 0) → kk + (plN P + Nb + Nt + Np / 128) ≤ plN P1 + Nb1 + Nt1 + Np1 / 128 → nn + (10 * plN P + 16 * Nb + 16 * Nt + 2 * Np) ≤ 10 * plN P1 + 16 * Nb1 + 16 * Nt1 + 2 * Np1 → WPs l g mtX2_spreadAll 10 ((16384 - plN P) + (16389 - Nb) + (16389 - Nt) + (8192 - Np / 128)) (10 * (16384 - plN P) + 16 * (16389 - Nb) + 16 * (16389 - Nt) + 2 * (1048576 - Np)) (pX (fun _ : SaS => none) (fun z : SaS => ([(q, ob 2 (upd i 8 (nI z.2.2.1)) (rO (rs567 r z.1.1.1 z.1.2.1.1 z.1.2.2.1))), ((r 0), ob 3 (plI z.2.1) (rPl (plKe z.2.1) (plTa z.2.1))), (plKe z.2.1, aI g (plN z.2.1) (plKf z.2.1)), (plTa z.2.1, aI g (4 * plN z.2.1) (plTb z.2.1)), (r 1, ob 8 z.2.2.2.1.1 []), (r 2, ob 8 z.2.2.2.1.2.1 []), (r 3, aI g 48 z.2.2.2.1.2.2.1), (z.1.1.1, aI g z.1.1.2.1 z.1.1.2.2), (z.1.2.1.1, aI g z.1.2.1.2.1 z.1.2.1.2.2), (z.1.2.2.1, aI g z.1.2.2.2.1 z.1.2.2.2.2), (r 12, ob 10 (fun _ => 0) (rD la ru so)), (la, ob 0 li (rL cc)), (cc, aI g 192 cf), (ru, ob 6 ri (rQ b0 al)), (b0, aI g 2 yf), (al, aR g 6 af), (r 4, aI g 31 z.2.2.2.1.2.2.2)] ++ plW g z.2.2.2.2)) (fun z k m => SaO GK s0 li cf yf Rl (i 10) ch (i 11) n P PL z ∧ k + (plN P + Nb + Nt + Np / 128) ≤ plN z.2.1 + z.1.1.2.1 + z.1.2.1.2.1 + z.1.2.2.2.1 / 128 ∧ m + (10 * plN P + 16 * Nb + 16 * Nt + 2 * Np) ≤ 10 * plN z.2.1 + 16 * z.1.1.2.1 + 16 * z.1.2.1.2.1 + 2 * z.1.2.2.2.1)) noX a 4 [some (.ref q), some (.int (nI n)), some (.int (nI (4 + y))), some (.int (nI d)), L4, L5] [] ([(q, ob 2 (upd i 8 (nI u1)) (rO (rs567 r b5 b6 b7))), ((r 0), ob 3 (plI P1) (rPl (plKe P1) (plTa P1))), (plKe P1, aI g (plN P1) (plKf P1)), (plTa P1, aI g (4 * plN P1) (plTb P1)), (r 1, ob 8 sf1 []), (r 2, ob 8 sb1 []), (r 3, aI g 48 wf1), (b5, aI g Nb1 bf1), (b6, aI g Nt1 tf1), (b7, aI g Np1 pf1), (r 12, ob 10 (fun _ => 0) (rD la ru so)), (la, ob 0 li (rL cc)), (cc, aI g 192 cf), (ru, ob 6 ri (rQ b0 al)), (b0, aI g 2 yf), (al, aR g 6 af), (r 4, aI g 31 ef1)] ++ plW g PL1) kk nn := by
    intro f
    induction f with
    | zero =>
      intro d y D Bd1 b5 Nb1 b6 Nt1 b7 Np1 u1 kk nn bf1 tf1 pf1 sf1 sb1 wf1 ef1 P1 PL1 L4 L5 hd g1 g2 g3 g4 g5 g6 g7 g8 g9 g10 g11 g14 g12 g13
      obtain rfl : d = n := by omega
      obtain ⟨m0, hm0, hN0⟩ := g1.1.2.2.2
      have c1 := g1.2.1
      have c2 := g3.1.1
      have c3 := g4.1
      have c4 := g5.1.1
      have hKN := g1.1.2.1.1
      have h11 : upd i 8 (nI u1) 11 = i 11 := pk_un (by decide)
      refine q_iload_n 3 5 dX2_spreadAll_4 rfl rfl rfl ?_
      refine q_iload_n 1 6 dX2_spreadAll_5 rfl rfl rfl ?_
      refine q_icmp_ge 72 9 dX2_spreadAll_6 (by decide) rfl (fun h6 => ?_) (fun h6 => absurd (Int32.le_refl _) h6)
      refine q_aload_n 0 73 dX2_spreadAll_72 rfl rfl rfl ?_
      refine q_tyVv 0 [0, 1, 2, 7, 8] [3, 4, 5, 6, 9, 10, 11, 12, 13, 14, 15, 16] [12, 13, 14, 0, 1, 2, 3, 15, 16, 4, 5, 6, 7, 8, 9, 10, 11] 76 (wr := [_, _, _, _, _, _, _, _, _, _, _, _]) (w1 := _) (ws' := fun _ => [_, _, _, _, _, _, _, _, _, _, _, _, _, _, _, _, _]) (c_X2_makeRoom (r := rs567 r b5 b6 b7) c1 hN0 g3.1 g4) m_X2_103 dX2_spreadAll_73 rfl rfl rfl rfl rfl rfl rfl (fun _ => rfl) (by decide) (by decide) (by decide) (by decide) (Nat.le_of_ble_eq_true rfl) (by omega) (by omega) (by omega) rfl (fun z73 k73 n73 hx73 => ?_)
      obtain ⟨⟨e1, e2, e3⟩, ⟨e4, e5, e6⟩⟩ := z73
      dsimp only at hx73 ⊢
      skip
      obtain ⟨⟨⟨y1, y2, y3⟩, y4⟩, y5, ⟨y6, y7, y8⟩, y9, y10⟩ := hx73
      rw [h11] at y5
      have y2 : Nb1 ≤ e2 := y2
      have y3 : ∀ p, p < Nb1 → e3 p = bf1 p := y3
      have y7 : Nt1 ≤ e5 := y7
      have y8 : ∀ p, p < Nt1 → e6 p = tf1 p := y8
      have y9 : k73 + Nb1 + Nt1 ≤ e2 + e5 := y9
      have y10 : n73 + 16 * Nb1 + 16 * Nt1 ≤ 16 * e2 + 16 * e5 := y10
      refine q_return dX2_spreadAll_76 rfl ?_
      refine pX.mk (((e1, e2, e3), (e4, e5, e6), (b7, Np1, pf1)), P1, u1, (sf1, sb1, wf1, ef1), PL1) ⟨⟨⟨g1, g2.1, g2.2⟩, ⟨y1, y4⟩, ⟨y6, y5⟩, g5, g6, g7, D, Bd1, y, g8, ?_, g11, fun ht => ?_, g14⟩, by show _ + (plN P + Nb + Nt + Np / 128) ≤ plN P1 + e2 + e5 + Np1 / 128; omega, by show _ + (10 * plN P + 16 * Nb + 16 * Nt + 2 * Np) ≤ 10 * plN P1 + 16 * e2 + 16 * e5 + 2 * Np1; omega⟩ rfl rfl
      · have := SpR.mv (L := []) g9 (pf' := pf1) (bf' := e3) (fun _ _ => rfl) (fun j hj => ⟨y3 _ (by have := g3.2 (by omega); omega), y3 _ (by have := g3.2 (by omega); omega)⟩) g8
        rw [List.append_nil] at this
        exact this
      · obtain ⟨t1, t2⟩ := g10 ht
        have := TkL.mv (L := []) (tf' := e6) t1 (fun d' hd' => by have := (g11.1 d' hd').2; omega) (fun d' hd' j hj => y8 _ (by have := t2 d' hd'; omega))
        rw [List.append_nil] at this
        exact this
    | succ f ih =>
      intro d y D Bd1 b5 Nb1 b6 Nt1 b7 Np1 u1 kk nn bf1 tf1 pf1 sf1 sb1 wf1 ef1 P1 PL1 L4 L5 hd g1 g2 g3 g4 g5 g6 g7 g8 g9 g10 g11 g14 g12 g13
      have hlt : ¬ nI n ≤ nI d := nI_ge (by omega) (by omega)
      have K44 : ∀ (Dd : Nat) (DF Bd0 : Nat → Nat) (efd : Sc), DF d = Dd → Dd ≤ 15488 → (plK P).length ≤ DF 0 → (∀ d', d' < d + 1 → efd d' = nI (4 + DF d') ∧ DF d' ≤ Dd) → (∀ d', d' + 1 < d + 1 → DF d' ≤ DF (d' + 1) ∧ DF d' ≤ y ∧ ∀ j, j < DF d' → Bd0 j ≤ DF (d' + 1)) → ∀ (f' y' : Nat) (Bd1 : Nat → Nat) (b5 Nb1 b6 Nt1 b7 Np1 u1 kk nn : Nat) (bf1 tf1 pf1 sf1 sb1 wf1 : Sc) (P1 : PlS) (PL1 : List RuR) , f' + y' = Dd → y ≤ y' → Dd ≤ (plK P1).length → (∀ j, j < y → Bd1 j = Bd0 j) → PlB P1 → ((∃ L, plK P1 = plK P ++ L) ∧ ∀ k ∈ plK P1, GK k) → (RmO Nb1 ∧ (0 < y' → 4 + y' < Nb1)) → RmO Nt1 → (PoO Np1 ∧ u1 ≤ Np1) → FrO s0 sf1 → SaP PL PL1 → y' ≤ (plK P1).length → SpR s0 li cf yf Rl (i 10) ch (plK P1) pf1 bf1 u1 y' Bd1 → (¬ i 11 = -1 → TkL s0 li (i 11) (plK P1) tf1 DF (d + 1) ∧ (∀ d', d' < (d + 1) → 4 + DF d' ≤ Nt1)) → kk + (plN P + Nb + Nt + Np / 128) ≤ plN P1 + Nb1 + Nt1 + Np1 / 128 → nn + (10 * plN P + 16 * Nb + 16 * Nt + 2 * Np) ≤ 10 * plN P1 + 16 * Nb1 + 16 * Nt1 + 2 * Np1 → WPs l g mtX2_spreadAll 10 ((16384 - plN P) + (16389 - Nb) + (16389 - Nt) + (8192 - Np / 128)) (10 * (16384 - plN P) + 16 * (16389 - Nb) + 16 * (16389 - Nt) + 2 * (1048576 - Np)) (pX (fun _ : SaS => none) (fun z : SaS => ([(q, ob 2 (upd i 8 (nI z.2.2.1)) (rO (rs567 r z.1.1.1 z.1.2.1.1 z.1.2.2.1))), ((r 0), ob 3 (plI z.2.1) (rPl (plKe z.2.1) (plTa z.2.1))), (plKe z.2.1, aI g (plN z.2.1) (plKf z.2.1)), (plTa z.2.1, aI g (4 * plN z.2.1) (plTb z.2.1)), (r 1, ob 8 z.2.2.2.1.1 []), (r 2, ob 8 z.2.2.2.1.2.1 []), (r 3, aI g 48 z.2.2.2.1.2.2.1), (z.1.1.1, aI g z.1.1.2.1 z.1.1.2.2), (z.1.2.1.1, aI g z.1.2.1.2.1 z.1.2.1.2.2), (z.1.2.2.1, aI g z.1.2.2.2.1 z.1.2.2.2.2), (r 12, ob 10 (fun _ => 0) (rD la ru so)), (la, ob 0 li (rL cc)), (cc, aI g 192 cf), (ru, ob 6 ri (rQ b0 al)), (b0, aI g 2 yf), (al, aR g 6 af), (r 4, aI g 31 z.2.2.2.1.2.2.2)] ++ plW g z.2.2.2.2)) (fun z k m => SaO GK s0 li cf yf Rl (i 10) ch (i 11) n P PL z ∧ k + (plN P + Nb + Nt + Np / 128) ≤ plN z.2.1 + z.1.1.2.1 + z.1.2.1.2.1 + z.1.2.2.2.1 / 128 ∧ m + (10 * plN P + 16 * Nb + 16 * Nt + 2 * Np) ≤ 10 * plN z.2.1 + 16 * z.1.1.2.1 + 16 * z.1.2.1.2.1 + 2 * z.1.2.2.2.1)) noX a 44 [some (.ref q), some (.int (nI n)), some (.int (nI (4 + y))), some (.int (nI d)), some (.int (nI (4 + Dd))), some (.int (nI (4 + y')))] [] ([(q, ob 2 (upd i 8 (nI u1)) (rO (rs567 r b5 b6 b7))), ((r 0), ob 3 (plI P1) (rPl (plKe P1) (plTa P1))), (plKe P1, aI g (plN P1) (plKf P1)), (plTa P1, aI g (4 * plN P1) (plTb P1)), (r 1, ob 8 sf1 []), (r 2, ob 8 sb1 []), (r 3, aI g 48 wf1), (b5, aI g Nb1 bf1), (b6, aI g Nt1 tf1), (b7, aI g Np1 pf1), (r 12, ob 10 (fun _ => 0) (rD la ru so)), (la, ob 0 li (rL cc)), (cc, aI g 192 cf), (ru, ob 6 ri (rQ b0 al)), (b0, aI g 2 yf), (al, aR g 6 af), (r 4, aI g 31 efd)] ++ plW g PL1) kk nn := by
        clear b5 Nb1 b6 Nt1 b7 Np1 u1 kk nn bf1 tf1 pf1 sf1 sb1 wf1 ef1 P1 PL1 L4 L5 g1 g2 g3 g4 g5 g6 g7 g8 g9 g10 g11 g14 g12 g13
        intro Dd DF Bd0 efd q1 q2 q0 q3 q4 f'
        induction f' with
        | zero =>
          intro y' Bd1 b5 Nb1 b6 Nt1 b7 Np1 u1 kk nn bf1 tf1 pf1 sf1 sb1 wf1 P1 PL1 p1 p2 p3 p4 g1 g2 g3 g4 g5 g6 g7 g8 g9 g10 g12 g13
          obtain rfl : y' = Dd := by omega
          have hL : LvO efd DF Bd1 (d + 1) y' := ⟨q3, fun d' hd' => ⟨(q4 d' hd').1, fun j hj => by rw [p4 j (by have := (q4 d' hd').2.1; omega)]; exact (q4 d' hd').2.2 j hj⟩, fun _ => q1, fun h => absurd h (Nat.succ_ne_zero _)⟩
          refine q_iload 5 46 dX2_spreadAll_44 rfl rfl ?_
          refine q_iload 4 48 dX2_spreadAll_46 rfl rfl ?_
          refine q_icmp_ge 63 51 dX2_spreadAll_48 (by decide) rfl (fun h48 => ?_) (fun h48 => absurd (Int32.le_refl _) h48)
          refine q_iload 4 65 dX2_spreadAll_63 rfl rfl ?_
          refine q_istore_n 2 66 (L' := [_, _, _, _, _, _]) dX2_spreadAll_65 rfl (by decide) rfl rfl ?_
          refine q_iinc 3 (nI (d + 1)) 69 (L' := [_, _, _, _, _, _]) dX2_spreadAll_66 rfl (inc1 (d)) (by decide) rfl rfl ?_
          refine q_goto 4 dX2_spreadAll_69 (by decide) ?_
          exact ih (d + 1) y' DF Bd1 b5 Nb1 b6 Nt1 b7 Np1 u1 kk nn bf1 tf1 pf1 sf1 sb1 wf1 efd P1 PL1 _ _ (by omega) g1 g2 g3 g4 g5 g6 g7 g8 g9 g10 hL (fun _ => q0) g12 g13
        | succ f' ih2 =>
          intro y' Bd1 b5 Nb1 b6 Nt1 b7 Np1 u1 kk nn bf1 tf1 pf1 sf1 sb1 wf1 P1 PL1 p1 p2 p3 p4 g1 g2 g3 g4 g5 g6 g7 g8 g9 g10 g12 g13
          clear ih
          have hy : y' < (plK P1).length := by omega
          have hlt2 : ¬ nI (4 + Dd) ≤ nI (4 + y') := nI_ge (by omega) (by omega)
          obtain ⟨t1, t2, p, t3, t4, t5⟩ := hS sf1 (kAt (plK P1) y') wf1 g6 (g2.2 _ (kAt_mem hy))
          have hu60 := g9.2.1
          have c1 := g1.2.1
          have c2 := g3.1.1
          have c3 := g4.1
          have c4 := g5.1.1
          have hKN := g1.1.2.1.1
          have K1 := ih2 (y' + 1)
          clear ih2
          rw [show 4 + (y' + 1) = 4 + y' + 1 from rfl] at K1
          refine q_iload 5 46 dX2_spreadAll_44 rfl rfl ?_
          refine q_iload 4 48 dX2_spreadAll_46 rfl rfl ?_
          refine q_icmp_ge 63 51 dX2_spreadAll_48 (by decide) rfl (fun h48 => absurd h48 hlt2) (fun h48 => ?_)
          refine q_aload_n 0 52 dX2_spreadAll_51 rfl rfl rfl ?_
          refine q_iload 5 54 dX2_spreadAll_52 rfl rfl ?_
          refine q_uyVv 0 [0, 1, 2, 3, 4, 5, 6, 7, 8, 9, 10, 11, 12, 13, 14, 15] [16] [1, 2, 3, 4, 5, 6, 7, 8, 9, 10, 11, 12, 13, 14, 15, 16, 0] 57 (wr := [_]) (w1 := _) (ws' := fun _ => [_, _, _, _, _, _, _, _, _, _, _, _, _, _, _, _, _]) (c_X2_spread (y := y') (p := p) (nO := nOf (sBec sf1 (kAt (plK P1) y'))) (Rl := Rl) (sF := sBec sf1 (kAt (plK P1) y')) (wF := wFo li cf (i 10) ch wf1 p (sBec sf1 (kAt (plK P1) y'))) (GK := GK) hi hch g1 g2.2 hy g3.1 g4 g5.1 g5.2 (by omega) hri (hRs PL1 g7) rfl rfl rfl t1 t2 t4 t3 t5) m_X2_100 dX2_spreadAll_54 rfl rfl rfl rfl rfl rfl rfl (fun _ => rfl) (by decide) (by decide) (by decide) (by decide) (Nat.le_of_ble_eq_true rfl) (by omega) (by omega) (by omega) rfl (fun z54 k54 n54 hx54 => ?_)
          obtain ⟨⟨⟨a554, Nb54, bf54⟩, ⟨a654, Nt54, tf54⟩, ⟨a754, Np54, pf54⟩⟩, P54, u54, sb54, PL54⟩ := z54
          dsimp only at hx54 ⊢
          refine q_iinc 5 (nI ((4 + y') + 1)) 60 (L' := [_, _, _, _, _, _]) dX2_spreadAll_57 rfl (inc1 ((4 + y'))) (by decide) rfl rfl ?_
          refine q_goto 44 dX2_spreadAll_60 (by decide) ?_
          skip
          obtain ⟨hz, hz2, hz3⟩ := hx54
          have hstep := SpR.step (K := []) (z := (((a554, Nb54, bf54), (a654, Nt54, tf54), (a754, Np54, pf54)), P54, u54, sb54, PL54)) g9 hz rfl rfl g6 t3 t4 hy hch4 g3.2
          obtain ⟨⟨z1, ⟨L1, z2⟩, z3⟩, ⟨z4, z5, z6, _, _, _⟩, ⟨⟨z7, z8, z9⟩, z10⟩, ⟨z11, z12, z13, _, _⟩, z14⟩ := hz
          have z2 : plK P54 = plK P1 ++ L1 := z2
          have z8 : Nt1 ≤ Nt54 := z8
          have z9 : ∀ p, p < Nt1 → tf54 p = tf1 p := z9
          have z6 : plN P1 + 5 ≤ Nb54 := z6
          obtain ⟨⟨L0, hL0⟩, hGK⟩ := g2
          have hlen : (plK P1).length ≤ (plK P54).length := by rw [z2, List.length_append]; omega
          refine K1 _ a554 Nb54 a654 Nt54 a754 Np54 u54 _ _ bf54 tf54 pf54 _ _ _ P54 PL54 (by omega) (by omega) (by omega) (fun j hj => ?_) z1 ⟨⟨L0 ++ L1, by rw [z2, hL0, List.append_assoc]⟩, z3⟩ ⟨z4, fun _ => by show 4 + (y' + 1) < Nb54; omega⟩ z7 ⟨z11, z12⟩ (g6.bec _) (g7.tr z14) (by omega) hstep (fun ht => ?_) ?_ ?_
          · show (if j < y' then Bd1 j else _) = _
            rw [if_pos (by omega)]
            exact p4 j hj
          · obtain ⟨v1, v2⟩ := g10 ht
            refine ⟨?_, fun d' hd' => by have := v2 d' hd'; omega⟩
            rw [z2]
            exact v1.mv (fun d' hd' => by have := (q3 d' hd').2; omega) (fun d' hd' j hj => z9 _ (by have := v2 d' hd'; omega))
          · have hz2 : k54 + (plN P1 + Nb1 + Nt1 + Np1 / 128) ≤ plN P54 + Nb54 + Nt54 + Np54 / 128 := hz2
            omega
          · have hz3 : n54 + (10 * plN P1 + 16 * Nb1 + 16 * Nt1 + 2 * Np1) ≤ 10 * plN P54 + 16 * Nb54 + 16 * Nt54 + 2 * Np54 := hz3
            omega
      clear ih
      have K22 : ∀ (b5 Nb1 b6 Nt1 b7 Np1 u1 kk nn : Nat) (bf1 tf1 pf1 sf1 sb1 wf1 ef1 : Sc) (P1 : PlS) (PL1 : List RuR) (L4 L5 : Option Value), PlB P1 → ((∃ L, plK P1 = plK P ++ L) ∧ ∀ k ∈ plK P1, GK k) → (RmO Nb1 ∧ (0 < y → 4 + y < Nb1)) → RmO Nt1 → (PoO Np1 ∧ u1 ≤ Np1) → FrO s0 sf1 → SaP PL PL1 → y ≤ (plK P1).length → SpR s0 li cf yf Rl (i 10) ch (plK P1) pf1 bf1 u1 y Bd1 → (¬ i 11 = -1 → TkL s0 li (i 11) (plK P1) tf1 (fun k => if k = d then (plK P1).length else D k) (d + 1) ∧ (∀ d', d' < (d + 1) → 4 + (fun k => if k = d then (plK P1).length else D k) d' ≤ Nt1)) → LvO ef1 D Bd1 d y → (0 < d → (plK P).length ≤ D 0) → kk + (plN P + Nb + Nt + Np / 128) ≤ plN P1 + Nb1 + Nt1 + Np1 / 128 → nn + (10 * plN P + 16 * Nb + 16 * Nt + 2 * Np) ≤ 10 * plN P1 + 16 * Nb1 + 16 * Nt1 + 2 * Np1 → WPs l g mtX2_spreadAll 10 ((16384 - plN P) + (16389 - Nb) + (16389 - Nt) + (8192 - Np / 128)) (10 * (16384 - plN P) + 16 * (16389 - Nb) + 16 * (16389 - Nt) + 2 * (1048576 - Np)) (pX (fun _ : SaS => none) (fun z : SaS => ([(q, ob 2 (upd i 8 (nI z.2.2.1)) (rO (rs567 r z.1.1.1 z.1.2.1.1 z.1.2.2.1))), ((r 0), ob 3 (plI z.2.1) (rPl (plKe z.2.1) (plTa z.2.1))), (plKe z.2.1, aI g (plN z.2.1) (plKf z.2.1)), (plTa z.2.1, aI g (4 * plN z.2.1) (plTb z.2.1)), (r 1, ob 8 z.2.2.2.1.1 []), (r 2, ob 8 z.2.2.2.1.2.1 []), (r 3, aI g 48 z.2.2.2.1.2.2.1), (z.1.1.1, aI g z.1.1.2.1 z.1.1.2.2), (z.1.2.1.1, aI g z.1.2.1.2.1 z.1.2.1.2.2), (z.1.2.2.1, aI g z.1.2.2.2.1 z.1.2.2.2.2), (r 12, ob 10 (fun _ => 0) (rD la ru so)), (la, ob 0 li (rL cc)), (cc, aI g 192 cf), (ru, ob 6 ri (rQ b0 al)), (b0, aI g 2 yf), (al, aR g 6 af), (r 4, aI g 31 z.2.2.2.1.2.2.2)] ++ plW g z.2.2.2.2)) (fun z k m => SaO GK s0 li cf yf Rl (i 10) ch (i 11) n P PL z ∧ k + (plN P + Nb + Nt + Np / 128) ≤ plN z.2.1 + z.1.1.2.1 + z.1.2.1.2.1 + z.1.2.2.2.1 / 128 ∧ m + (10 * plN P + 16 * Nb + 16 * Nt + 2 * Np) ≤ 10 * plN z.2.1 + 16 * z.1.1.2.1 + 16 * z.1.2.1.2.1 + 2 * z.1.2.2.2.1)) noX a 22 [some (.ref q), some (.int (nI n)), some (.int (nI (4 + y))), some (.int (nI d)), L4, L5] [] ([(q, ob 2 (upd i 8 (nI u1)) (rO (rs567 r b5 b6 b7))), ((r 0), ob 3 (plI P1) (rPl (plKe P1) (plTa P1))), (plKe P1, aI g (plN P1) (plKf P1)), (plTa P1, aI g (4 * plN P1) (plTb P1)), (r 1, ob 8 sf1 []), (r 2, ob 8 sb1 []), (r 3, aI g 48 wf1), (b5, aI g Nb1 bf1), (b6, aI g Nt1 tf1), (b7, aI g Np1 pf1), (r 12, ob 10 (fun _ => 0) (rD la ru so)), (la, ob 0 li (rL cc)), (cc, aI g 192 cf), (ru, ob 6 ri (rQ b0 al)), (b0, aI g 2 yf), (al, aR g 6 af), (r 4, aI g 31 ef1)] ++ plW g PL1) kk nn := by
        clear b5 Nb1 b6 Nt1 b7 Np1 u1 kk nn bf1 tf1 pf1 sf1 sb1 wf1 ef1 P1 PL1 L4 L5 g1 g2 g3 g4 g5 g6 g7 g8 g9 g10 g11 g14 g12 g13
        intro b5 Nb1 b6 Nt1 b7 Np1 u1 kk nn bf1 tf1 pf1 sf1 sb1 wf1 ef1 P1 PL1 L4 L5 g1 g2 g3 g4 g5 g6 g7 g8 g9 g10 g11 g14 g12 g13
        have hlen := g1.len
        have e4 : (4 : Int32) + plI P1 2 = nI (4 + (plK P1).length) := by rw [show plI P1 2 = nI (plK P1).length from g1.1.1, show (4 : Int32) = nI 4 by decide, nI_add]
        have hq0 : (plK P).length ≤ (if 0 = d then (plK P1).length else D 0) := by
          obtain ⟨⟨L0, hL0⟩, _⟩ := g2
          by_cases e : 0 = d
          · rw [if_pos e, hL0, List.length_append]; omega
          · rw [if_neg e]; exact g14 (by omega)
        have K1 := K44 (plK P1).length (fun k => if k = d then (plK P1).length else D k) Bd1 (upd ef1 d (nI (4 + (plK P1).length))) (if_pos rfl) hlen hq0 (fun d' hd' => by
          show upd ef1 d _ d' = nI (4 + (if d' = d then _ else D d')) ∧ (if d' = d then _ else D d') ≤ _
          by_cases e : d' = d
          · rw [if_pos e, e, pk_us]; exact ⟨rfl, Nat.le_refl _⟩
          · rw [if_neg e, pk_un e]
            have := g11.1 d' (by omega)
            exact ⟨this.1, by omega⟩) (fun d' hd' => by
          show (if d' = d then _ else D d') ≤ (if d' + 1 = d then _ else D (d' + 1)) ∧ (if d' = d then _ else D d') ≤ y ∧ ∀ j, j < (if d' = d then _ else D d') → Bd1 j ≤ (if d' + 1 = d then _ else D (d' + 1))
          rw [if_neg (show ¬ d' = d by omega)]
          have h1 := (g11.1 d' (by omega)).2
          by_cases e : d' + 1 = d
          · rw [if_pos e]
            exact ⟨by omega, h1, fun j hj => g9.2.2 j (by omega)⟩
          · rw [if_neg e]
            have h2 := g11.2.1 d' (by omega)
            exact ⟨h2.1, h1, h2.2⟩) ((plK P1).length - y) y Bd1 b5 Nb1 b6 Nt1 b7 Np1 u1 kk nn bf1 tf1 pf1 sf1 sb1 wf1 P1 PL1 (by omega) (Nat.le_refl _) (Nat.le_refl _) (fun _ _ => rfl) g1 g2 g3 g4 g5 g6 g7 g8 g9 g10 g12 g13
        clear K44
        refine q_iconst 4 23 dX2_spreadAll_22 ic_4 rfl ?_
        refine q_aload_n 0 24 dX2_spreadAll_23 rfl rfl rfl ?_
        refine q_getR 0 27 f_X2_12 dX2_spreadAll_24 rfl rfl rfl rfl ?_
        refine q_getI 1 30 f_X2_97 dX2_spreadAll_27 rfl rfl rfl ?_
        refine q_iadd 31 dX2_spreadAll_30 rfl ?_
        rw [e4]
        refine q_istore 4 33 (L' := [_, _, _, _, _, _]) dX2_spreadAll_31 (by decide) rfl rfl ?_
        refine q_aload_n 0 34 dX2_spreadAll_33 rfl rfl rfl ?_
        refine q_getR 0 37 f_X2_32 dX2_spreadAll_34 rfl rfl rfl rfl ?_
        refine q_iload_n 3 38 dX2_spreadAll_37 rfl rfl rfl ?_
        refine q_iload 4 40 dX2_spreadAll_38 rfl rfl ?_
        refine q_iast 16 d 41 (w' := ([_, _, _, _, _, _, _, _, _, _, _, _, _, _, _, _, _] ++ _)) dX2_spreadAll_40 rfl ⟨rfl, by omega, by decide⟩ rfl rfl ?_
        refine q_iload_n 2 42 dX2_spreadAll_41 rfl rfl rfl ?_
        refine q_istore 5 44 (L' := [_, _, _, _, _, _]) dX2_spreadAll_42 (by decide) rfl rfl ?_
        exact K1
      clear K44
      have h11 : upd i 8 (nI u1) 11 = i 11 := pk_un (by decide)
      by_cases ht : i 11 = -1
      · have h11b : upd i 8 (nI u1) 11 = -1 := h11.trans ht
        have K1 := K22 b5 Nb1 b6 Nt1 b7 Np1 u1 kk nn bf1 tf1 pf1 sf1 sb1 wf1 ef1 P1 PL1 L4 L5 g1 g2 g3 g4 g5 g6 g7 g8 g9 (fun h => absurd ht h) g11 g14 g12 g13
        clear K22
        refine q_iload_n 3 5 dX2_spreadAll_4 rfl rfl rfl ?_
        refine q_iload_n 1 6 dX2_spreadAll_5 rfl rfl rfl ?_
        refine q_icmp_ge 72 9 dX2_spreadAll_6 (by decide) rfl (fun h6 => absurd h6 hlt) (fun h6 => ?_)
        refine q_aload_n 0 10 dX2_spreadAll_9 rfl rfl rfl ?_
        refine q_getI 0 13 f_X2_64 dX2_spreadAll_10 rfl rfl rfl ?_
        refine q_iconst (-1) 14 dX2_spreadAll_13 ic_m1 rfl ?_
        refine q_icmp_eq 22 17 dX2_spreadAll_14 (by decide) rfl (fun h14 => ?_) (fun h14 => absurd h11b h14)
        exact K1
      · have h11b : ¬ upd i 8 (nI u1) 11 = -1 := by rw [h11]; exact ht
        have c1 := g1.2.1
        have c2 := g3.1.1
        have c3 := g4.1
        have c4 := g5.1.1
        obtain ⟨v1, v2⟩ := g10 ht
        have hyt : 4 + y ≤ Nt1 := by
          rcases Nat.eq_zero_or_pos d with e | e
          · rw [g11.2.2.2 e]
            rcases g4.2 with h | ⟨m, h⟩ <;> omega
          · have h1 := v2 (d - 1) (by omega)
            rw [g11.2.2.1 e] at h1
            exact h1
        refine q_iload_n 3 5 dX2_spreadAll_4 rfl rfl rfl ?_
        refine q_iload_n 1 6 dX2_spreadAll_5 rfl rfl rfl ?_
        refine q_icmp_ge 72 9 dX2_spreadAll_6 (by decide) rfl (fun h6 => absurd h6 hlt) (fun h6 => ?_)
        refine q_aload_n 0 10 dX2_spreadAll_9 rfl rfl rfl ?_
        refine q_getI 0 13 f_X2_64 dX2_spreadAll_10 rfl rfl rfl ?_
        refine q_iconst (-1) 14 dX2_spreadAll_13 ic_m1 rfl ?_
        refine q_icmp_eq 22 17 dX2_spreadAll_14 (by decide) rfl (fun h14 => absurd h14 h11b) (fun h14 => ?_)
        refine q_aload_n 0 18 dX2_spreadAll_17 rfl rfl rfl ?_
        refine q_iload_n 2 19 dX2_spreadAll_18 rfl rfl rfl ?_
        refine q_tyVv 0 [0, 1, 2, 3, 4, 5, 7, 8, 10, 11] [6, 9, 12, 13, 14, 15, 16] [7, 8, 9, 10, 11, 12, 0, 13, 14, 1, 15, 16, 2, 3, 4, 5, 6] 22 (wr := [_, _, _, _, _, _, _]) (w1 := _) (ws' := fun _ => [_, _, _, _, _, _, _, _, _, _, _, _, _, _, _, _, _]) (c_X2_takeAll (r := rs567 r b5 b6 b7) (a5 := b5) (a6 := b6) (b := y) (tk := i 11) (GK := GK) (s0 := s0) h11 ht g1 g2.2 g3.1 g4 g8 hyt g6 (hH ht)) m_X2_93 dX2_spreadAll_19 rfl rfl rfl rfl rfl rfl rfl (fun _ => rfl) (by decide) (by decide) (by decide) (by decide) (Nat.le_of_ble_eq_true rfl) (by omega) (by omega) (by omega) rfl (fun z19 k19 n19 hx19 => ?_)
        obtain ⟨⟨⟨a519, Nb19, bf19⟩, ⟨a619, Nt19, tf19⟩⟩, P19, sf19, sb19⟩ := z19
        dsimp only at hx19 ⊢
        skip
        obtain ⟨⟨⟨z1, ⟨L1, z2⟩, z3⟩, ⟨z4, z5, z6⟩, ⟨z7, z13, z8, z9⟩, z10⟩, z11, z12⟩ := hx19
        have z13 : 4 + (plK P19).length ≤ Nt19 := z13
        have z8 : ∀ p, p < 4 + y → p < Nt19 → tf19 p = tf1 p := z8
        have z2 : plK P19 = plK P1 ++ L1 := z2
        have z5 : Nb1 ≤ Nb19 := z5
        have z6 : ∀ p, p < Nb1 → bf19 p = bf1 p := z6
        have z11 : k19 + (plN P1 + Nb1 + Nt1) ≤ plN P19 + Nb19 + Nt19 := z11
        have z12 : n19 + (10 * plN P1 + 16 * Nb1 + 16 * Nt1) ≤ 10 * plN P19 + 16 * Nb19 + 16 * Nt19 := z12
        have hlen : (plK P1).length ≤ (plK P19).length := by rw [z2, List.length_append]; omega
        obtain ⟨⟨L0, hL0⟩, hGK⟩ := g2
        refine K22 a519 Nb19 a619 Nt19 b7 Np1 u1 _ _ bf19 tf19 pf1 sf19 sb19 wf1 ef1 P19 PL1 L4 L5 z1 ⟨⟨L0 ++ L1, by rw [z2, hL0, List.append_assoc]⟩, z3⟩ ⟨z4, fun h => by have := g3.2 h; omega⟩ z7 g5 z10 g7 (by omega) ?_ (fun _ => ⟨?_, ?_⟩) g11 g14 (by omega) (by omega)
        · rw [z2]
          exact g9.mv (fun _ _ => rfl) (fun j hj => ⟨z6 _ (by have := g3.2 (by omega); omega), z6 _ (by have := g3.2 (by omega); omega)⟩) g8
        · intro d' hd' j hj
          by_cases e : d' = d
          · have hj : j < (if d' = d then (plK P19).length else D d') := hj
            show ∃ s, FrO s0 s ∧ tf19 (4 + j) = nI (plc (plK P19) (tgB li (i 11) s (kAt (plK P19) j))) ∧ tIn ((plK P19).take (if d' = d then (plK P19).length else D d')) (tgB li (i 11) s (kAt (plK P19) j))
            rw [if_pos e] at hj ⊢
            rw [List.take_length]
            by_cases hjy : j < y
            · have hd0 : 0 < d := by
                rcases Nat.eq_zero_or_pos d with e0 | e0
                · have := g11.2.2.2 e0; omega
                · exact e0
              obtain ⟨s9, w1, w2, w3⟩ := v1 (d - 1) (by omega) j (by rw [g11.2.2.1 hd0]; exact hjy)
              have w4 := tIn_take w3
              have hk : kAt (plK P19) j = kAt (plK P1) j := by rw [z2, kAt_ext (by omega)]
              rw [hk]
              refine ⟨s9, w1, ?_, ?_⟩
              · rw [z8 (4 + j) (by omega) (by omega), z2, plc_app w4]
                exact w2
              · rw [z2]
                exact tIn_app w4
            · exact z9 j (by omega) hj
          · have hj : j < (if d' = d then (plK P19).length else D d') := hj
            show ∃ s, FrO s0 s ∧ tf19 (4 + j) = nI (plc (plK P19) (tgB li (i 11) s (kAt (plK P19) j))) ∧ tIn ((plK P19).take (if d' = d then (plK P19).length else D d')) (tgB li (i 11) s (kAt (plK P19) j))
            rw [if_neg e] at hj ⊢
            rw [z2]
            refine TkL.mv v1 (fun d9 hd9 => by have := (g11.1 d9 hd9).2; omega) (fun d9 hd9 j9 hj9 => z8 _ (by have := (g11.1 d9 hd9).2; omega) (by have := (g11.1 d9 hd9).2; omega)) d' (by omega) j hj
        · intro d' hd'
          show 4 + (if d' = d then (plK P19).length else D d') ≤ Nt19
          by_cases e : d' = d
          · rw [if_pos e]; exact z13
          · rw [if_neg e]
            have := (g11.1 d' (by omega)).2
            omega
  have K1 := K4 n 0 0 (fun _ => 0) (fun _ => 0) a5 Nb a6 Nt a7 Np 0 0 0 bf tf pf sf sb wf ef P PL none none rfl hP ⟨⟨[], (List.append_nil _).symm⟩, hG⟩ ⟨hb, fun h => absurd h (Nat.lt_irrefl _)⟩ hnt ⟨hpo, Nat.zero_le _⟩ hsf (SaP.rf PL) (Nat.zero_le _) ⟨fun j hj => absurd hj (Nat.not_lt_zero _), Nat.zero_le _, fun j hj => absurd hj (Nat.not_lt_zero _)⟩ (fun _ => ⟨fun d' hd' => absurd hd' (Nat.not_lt_zero _), fun d' hd' => absurd hd' (Nat.not_lt_zero _)⟩) ⟨fun d' hd' => absurd hd' (Nat.not_lt_zero _), fun d' hd' => absurd hd' (Nat.not_lt_zero _), fun h => absurd h (Nat.lt_irrefl _), fun _ => rfl⟩ (fun h => absurd h (Nat.lt_irrefl _)) (by omega) (by omega)
  clear K4
  refine q_iconst 4 1 dX2_spreadAll_0 ic_4 rfl ?_
  refine q_istore_n 2 2 (L' := [_, _, _, _, _, _]) dX2_spreadAll_1 rfl (by decide) rfl rfl ?_
  refine q_iconst 0 3 dX2_spreadAll_2 ic_0 rfl ?_
  refine q_istore_n 3 4 (L' := [_, _, _, _, _, _]) dX2_spreadAll_3 rfl (by decide) rfl rfl ?_
  exact K1

