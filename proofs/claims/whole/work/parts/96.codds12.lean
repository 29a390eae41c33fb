/-! ===== Odds.takeAll ===== -/
abbrev TkS : Type := (ArS × ArS) × PlS × Sc × Sc
/-- games and handicaps are those of s0 -/
def FrO (s0 s : Sc) : Prop := s 7 = s0 7 ∧ s 8 = s0 8 ∧ s 9 = s0 9 ∧ s 10 = s0 10
theorem n15492 : (15492 : Int32) = nI 15492 := by decide
theorem sBec_hi (s : Sc) (c : Int32) {k : Nat} (hk : 7 ≤ k) : sBec s c k = s k := by
  have hr : ∀ x y z, sRestart s x y z k = s k := fun x y z => by
    unfold sRestart
    rw [pk_un (by omega), pk_un (by omega), pk_un (by omega), pk_un (by omega), pk_un (by omega)]
  unfold sBec sBk sBr
  by_cases h1 : c - c / 121 * 121 = 0
  · rw [if_pos h1, hr]
  · rw [if_neg h1]
    by_cases h2 : c - c / 121 * 121 ≤ 20
    · rw [if_pos h2, pk_un (by omega), pk_un (by omega), pk_un (by omega), hr]
    · rw [if_neg h2, pk_un (by omega), pk_un (by omega), pk_un (by omega), pk_un (by omega), hr]
theorem FrO.bec {s0 s : Sc} (h : FrO s0 s) (c : Int32) : FrO s0 (sBec s c) := ⟨by rw [sBec_hi s c (by decide)]; exact h.1, by rw [sBec_hi s c (by decide)]; exact h.2.1, by rw [sBec_hi s c (by decide)]; exact h.2.2.1, by rw [sBec_hi s c (by decide)]; exact h.2.2.2⟩
/-- where a bisque leads -/
def tgB (li : Sc) (tk : Int32) (s : Sc) (k : Int32) : Nat ⊕ Int32 := tgt (sBec s k) (sBisque (sBec s k) li tk)
/-- taken tells of the places from b up to y -/
def TkR (s0 li : Sc) (tk : Int32) (K : List Int32) (tf : Sc) (b y : Nat) : Prop := ∀ j, b ≤ j → j < y → ∃ s, FrO s0 s ∧ tf (4 + j) = nI (plc K (tgB li tk s (kAt K j))) ∧ tIn K (tgB li tk s (kAt K j))
theorem kAt_ext {K L : List Int32} {i : Nat} (h : i < K.length) : kAt (K ++ L) i = kAt K i := by
  unfold kAt; simp [List.getD, List.getElem?_append_left h]
theorem TkR.ext {s0 li : Sc} {tk : Int32} {K L : List Int32} {tf : Sc} {b y : Nat} (h : TkR s0 li tk K tf b y) (hy : y ≤ K.length) : TkR s0 li tk (K ++ L) tf b y := by
  intro j h1 h2
  obtain ⟨s, e1, e2, e3⟩ := h j h1 h2
  rw [kAt_ext (by omega)]
  exact ⟨s, e1, by rw [plc_app e3]; exact e2, tIn_app e3⟩
def TkO (GK : Int32 → Prop) (s0 li : Sc) (tk : Int32) (b : Nat) (P : PlS) (Nb : Nat) (bf tf : Sc) (z : TkS) : Prop :=
  (PlB z.2.1 ∧ (∃ L, plK z.2.1 = plK P ++ L) ∧ ∀ k ∈ plK z.2.1, GK k) ∧ roK Nb bf z.1.1 ∧ (RmO z.1.2.2.1 ∧ 4 + (plK z.2.1).length ≤ z.1.2.2.1 ∧ (∀ p, p < 4 + b → p < z.1.2.2.1 → z.1.2.2.2 p = tf p) ∧ TkR s0 li tk (plK z.2.1) z.1.2.2.2 b (plK z.2.1).length) ∧ FrO s0 z.2.2.1
theorem c_X2_takeAll {l : Launch} {g : Gh} {q a5 a6 Nb Nt b la ru so cc : Nat} {r : Nat → Nat} {i bf tf sf sb li s0 : Sc} {P : PlS} {GK : Int32 → Prop} {tk : Int32} (ht : i 11 = tk) (htk : ¬ tk = -1) (hP : PlB P) (hG : ∀ k ∈ plK P, GK k) (hb : RmO Nb) (hnt : RmO Nt) (hbK : b ≤ (plK P).length) (hbt : 4 + b ≤ Nt) (hsf : FrO s0 sf)
    (hH : ∀ s k, FrO s0 s → GK k → (sBec s k 6 = 0 ∨ sBec s k 6 = 1) ∧ (∃ v, v ≤ 1 ∧ sBisque (sBec s k) li tk 2 = nI v) ∧ ∀ k', tgB li tk s k = .inr k' → (∃ c, c < 15488 ∧ k' = nI c) ∧ GK k') :
    Cn l g yX2_takeAll (Cond.code yX2_takeAll cX2_takeAll 4 none) 8 ((16384 - plN P) + (16389 - Nb) + (16389 - Nt)) (10 * (16384 - plN P) + 16 * (16389 - Nb) + 16 * (16389 - Nt)) [.ref q, .int (nI (4 + b))] [(q, ob 2 i (rO (rs56 r a5 a6))), ((r 0), ob 3 (plI P) (rPl (plKe P) (plTa P))), (plKe P, aI g (plN P) (plKf P)), (plTa P, aI g (4 * plN P) (plTb P)), (r 1, ob 8 sf []), (r 2, ob 8 sb []), (a5, aI g Nb bf), (a6, aI g Nt tf), (r 12, ob 10 (fun _ => 0) (rD la ru so)), (la, ob 0 li (rL cc))] (fun _ : TkS => none) (fun z : TkS => [(q, ob 2 i (rO (rs56 r z.1.1.1 z.1.2.1))), ((r 0), ob 3 (plI z.2.1) (rPl (plKe z.2.1) (plTa z.2.1))), (plKe z.2.1, aI g (plN z.2.1) (plKf z.2.1)), (plTa z.2.1, aI g (4 * plN z.2.1) (plTb z.2.1)), (r 1, ob 8 z.2.2.1 []), (r 2, ob 8 z.2.2.2 []), (z.1.1.1, aI g z.1.1.2.1 z.1.1.2.2), (z.1.2.1, aI g z.1.2.2.1 z.1.2.2.2), (r 12, ob 10 (fun _ => 0) (rD la ru so)), (la, ob 0 li (rL cc))]) (fun z k n => TkO GK s0 li tk b P Nb bf tf z ∧ k + (plN P + Nb + Nt) ≤ plN z.2.1 + z.1.1.2.1 + z.1.2.2.1 ∧ n + (10 * plN P + 16 * Nb + 16 * Nt) ≤ 10 * plN z.2.1 + 16 * z.1.1.2.1 + 16 * z.1.2.2.1) := by
  refine ct_of (M := mtX2_takeAll) [some (.ref q), some (.int (nI (4 + b))), none, none] rfl (by decide) (Nat.le_of_ble_eq_true rfl) (fun _ h => h) (fun a => ?_)
  have hN16 := hP.2.1
  have hbb := hb.1
  have htt := hnt.1
  have K6 : ∀ (f y b5 Nb1 b6 Nt1 kk nn : Nat) (bf1 tf1 sf1 sb1 : Sc) (P1 : PlS), f + y = 15489 → b ≤ y → y ≤ (plK P1).length → PlB P1 → ((∃ L, plK P1 = plK P ++ L) ∧ ∀ k ∈ plK P1, GK k) → roK Nb bf (b5, Nb1, bf1) → RmO Nt1 → (Nt ≤ Nt1 ∧ 4 + y ≤ Nt1) → (∀ p, p < 4 + b → tf1 p = tf p) → TkR s0 li tk (plK P1) tf1 b y → FrO s0 sf1 → kk + (plN P + Nb + Nt) ≤ plN P1 + Nb1 + Nt1 → nn + (10 * plN P + 16 * Nb + 16 * Nt) ≤ 10 * plN P1 + 16 * Nb1 + 16 * Nt1 → WPs l g mtX2_takeAll 8 ((16384 - plN P) + (16389 - Nb) + (16389 - Nt)) (10 * (16384 - plN P) + 16 * (16389 - Nb) + 16 * (16389 - Nt)) (pX (fun _ : TkS => none) (fun z : TkS => [(q, ob 2 i (rO (rs56 r z.1.1.1 z.1.2.1))), ((r 0), ob 3 (plI z.2.1) (rPl (plKe z.2.1) (plTa z.2.1))), (plKe z.2.1, aI g (plN z.2.1) (plKf z.2.1)), (plTa z.2.1, aI g (4 * plN z.2.1) (plTb z.2.1)), (r 1, ob 8 z.2.2.1 []), (r 2, ob 8 z.2.2.2 []), (z.1.1.1, aI g z.1.1.2.1 z.1.1.2.2), (z.1.2.1, aI g z.1.2.2.1 z.1.2.2.2), (r 12, ob 10 (fun _ => 0) (rD la ru so)), (la, ob 0 li (rL cc))]) (fun z k n => TkO GK s0 li tk b P Nb bf tf z ∧ k + (plN P + Nb + Nt) ≤ plN z.2.1 + z.1.1.2.1 + z.1.2.2.1 ∧ n + (10 * plN P + 16 * Nb + 16 * Nt) ≤ 10 * plN z.2.1 + 16 * z.1.1.2.1 + 16 * z.1.2.2.1)) noX a 6 [some (.ref q), some (.int (nI (4 + b))), some (.int 15492), some (.int (nI (4 + y)))] [] [(q, ob 2 i (rO (rs56 r b5 b6))), ((r 0), ob 3 (plI P1) (rPl (plKe P1) (plTa P1))), (plKe P1, aI g (plN P1) (plKf P1)), (plTa P1, aI g (4 * plN P1) (plTb P1)), (r 1, ob 8 sf1 []), (r 2, ob 8 sb1 []), (b5, aI g Nb1 bf1), (b6, aI g Nt1 tf1), (r 12, ob 10 (fun _ => 0) (rD la ru so)), (la, ob 0 li (rL cc))] kk nn := by
    intro f
    induction f with
    | zero =>
      intro y b5 Nb1 b6 Nt1 kk nn bf1 tf1 sf1 sb1 P1 hf h1 h2 g1
      have := g1.len
      omega
    | succ f ih =>
      intro y b5 Nb1 b6 Nt1 kk nn bf1 tf1 sf1 sb1 P1 hf h1 h2 g1 g2 g3 g4 g4b g5 g6 g7 g8 g9
      have hl := g1.len
      have hsz : plI P1 2 = nI (plK P1).length := g1.1.1
      have e4 : (4 : Int32) + plI P1 2 = nI (4 + (plK P1).length) := by rw [hsz, show (4 : Int32) = nI 4 by decide, nI_add]
      obtain ⟨m0, hm0, hN0⟩ := g1.1.2.2.2
      have gN := g1.2.1
      have gKN := g1.1.2.1.1
      have gb3 : RmO Nb1 := g3.1
      have gb : Nb1 ≤ 16389 := g3.1.1
      have gt := g4.1
      by_cases hy : y < (plK P1).length
      · have hlt : ¬ 4 + plI P1 2 ≤ nI (4 + y) := by rw [e4]; exact nI_ge (by omega) (by omega)
        have hlt2 : ¬ (15492 : Int32) ≤ nI (4 + y) := by rw [n15492]; exact nI_ge (by omega) (by decide)
        have K1 := ih (y + 1)
        clear ih
        have ez : nI (4 + y) - 4 = nI y := by rw [show (4 : Int32) = nI 4 by decide, pk_sub (by omega), Nat.add_sub_cancel_left]
        have hky : plKf P1 y = kAt (plK P1) y := g1.1.2.1.2.2 y hy
        obtain ⟨q1, ⟨v, hv1, hv⟩, q3⟩ := hH sf1 (kAt (plK P1) y) g7 (g2.2 _ (kAt_mem hy))
        rw [show 4 + (y + 1) = 4 + y + 1 from rfl] at K1
        generalize hz4 : 4 + y = z4 at *
        refine q_iload_n 3 7 dX2_takeAll_6 rfl rfl rfl ?_
        refine q_iconst 4 8 dX2_takeAll_7 ic_4 rfl ?_
        refine q_aload_n 0 9 dX2_takeAll_8 rfl rfl rfl ?_
        refine q_getR 0 12 f_X2_12 dX2_takeAll_9 rfl rfl rfl rfl ?_
        refine q_getI 1 15 f_X2_97 dX2_takeAll_12 rfl rfl rfl ?_
        refine q_iadd 16 dX2_takeAll_15 rfl ?_
        refine q_icmp_ge 91 19 dX2_takeAll_16 (by decide) rfl (fun h16 => absurd h16 hlt) (fun h16 => ?_)
        refine q_iload_n 3 20 dX2_takeAll_19 rfl rfl rfl ?_
        refine q_iload_n 2 21 dX2_takeAll_20 rfl rfl rfl ?_
        refine q_icmp_ge 91 24 dX2_takeAll_21 (by decide) rfl (fun h21 => absurd h21 hlt2) (fun h21 => ?_)
        refine q_aload_n 0 25 dX2_takeAll_24 rfl rfl rfl ?_
        refine q_yVv 0 [0, 1, 2, 6, 7] [3, 4, 5, 8, 9] [5, 6, 7, 0, 1, 2, 8, 9, 3, 4] 28 (wr := [_, _, _, _, _]) (w1 := _) (ws' := fun _ => [_, _, _, _, _, _, _, _, _, _]) (c_X2_makeRoom (r := rs56 r b5 b6) gN hN0 gb3 g4) m_X2_103 dX2_takeAll_25 rfl rfl rfl rfl rfl rfl rfl (fun _ => rfl) (by decide) (by decide) (by decide) (by decide) (Nat.le_of_ble_eq_true rfl) (by omega) (by omega) (by omega) rfl (fun z25 k25 n25 hx25 => ?_)
        obtain ⟨⟨e1, e2, e3⟩, ⟨e6, e7, e8⟩⟩ := z25
        dsimp only at hx25 ⊢
        skip
        obtain ⟨⟨⟨y1, y2, y3⟩, y4⟩, y5, ⟨y6, y7, y8⟩, y9, y10⟩ := hx25
        have y5 : plN P1 + 5 ≤ e7 := y5 (by rw [ht]; exact htk)
        have y2 : Nb1 ≤ e2 := y2
        have y11 : e2 ≤ 16389 := y1.1
        have y12 : e7 ≤ 16389 := y6.1
        have y7 : Nt1 ≤ e7 := y7
        have y8 : ∀ p, p < Nt1 → e8 p = tf1 p := y8
        have y3 : ∀ p, p < Nb1 → e3 p = bf1 p := y3
        have y9 : k25 + Nb1 + Nt1 ≤ e2 + e7 := y9
        have y10 : n25 + 16 * Nb1 + 16 * Nt1 ≤ 16 * e2 + 16 * e7 := y10
        have gb2 : Nb ≤ Nb1 := g3.2.1
        have hN1 : plN P1 + 5 ≤ e7 := y5
        refine q_aload_n 0 29 dX2_takeAll_28 rfl rfl rfl ?_
        refine q_getR 0 32 f_X2_21 dX2_takeAll_29 rfl rfl rfl rfl ?_
        refine q_aload_n 0 33 dX2_takeAll_32 rfl rfl rfl ?_
        refine q_getR 0 36 f_X2_12 dX2_takeAll_33 rfl rfl rfl rfl ?_
        refine q_iload_n 3 37 dX2_takeAll_36 rfl rfl rfl ?_
        refine q_iconst 4 38 dX2_takeAll_37 ic_4 rfl ?_
        refine q_isub 39 dX2_takeAll_38 rfl ?_
        rw [ez]
        refine q_cVi 1 [1, 2] [0, 3, 4, 5, 6, 7, 8, 9] [0, 8, 9, 1, 2, 3, 4, 5, 6, 7] 42 (wr := [_, _, _, _, _, _, _, _]) (w1 := _) (ws' := [_, _, _, _, _, _, _, _, _, _]) (c_X3_keyAt (z := y) (by omega) (by omega)) m_X2_106 dX2_takeAll_39 rfl rfl rfl rfl rfl rfl rfl rfl (by decide) (by decide) (by decide) (by decide) (Nat.le_of_ble_eq_true rfl) (by omega) (by omega) (by omega) rfl ?_
        rw [hky]
        refine q_cVv 4 [4] [0, 1, 2, 3, 5, 6, 7, 8, 9] [0, 1, 2, 3, 9, 4, 5, 6, 7, 8] 45 (wr := [_, _, _, _, _, _, _, _, _]) (w1 := _) (ws' := [_, _, _, _, _, _, _, _, _, _]) c_X8_become m_X2_109 dX2_takeAll_42 rfl rfl rfl rfl rfl rfl rfl rfl (by decide) (by decide) (by decide) (by decide) (Nat.le_of_ble_eq_true rfl) (by omega) (by omega) (by omega) rfl ?_
        refine q_aload_n 0 46 dX2_takeAll_45 rfl rfl rfl ?_
        refine q_getR 0 49 f_X2_25 dX2_takeAll_46 rfl rfl rfl rfl ?_
        refine q_aload_n 0 50 dX2_takeAll_49 rfl rfl rfl ?_
        refine q_getR 0 53 f_X2_21 dX2_takeAll_50 rfl rfl rfl rfl ?_
        refine q_cVv 5 [5, 4] [0, 1, 2, 3, 6, 7, 8, 9] [0, 1, 2, 3, 9, 8, 4, 5, 6, 7] 56 (wr := [_, _, _, _, _, _, _, _]) (w1 := _) (ws' := [_, _, _, _, _, _, _, _, _, _]) (c_X8_takeFrom q1) m_X2_81 dX2_takeAll_53 rfl rfl rfl rfl rfl rfl rfl rfl (by decide) (by decide) (by decide) (by decide) (Nat.le_of_ble_eq_true rfl) (by omega) (by omega) (by omega) rfl ?_
        refine q_aload_n 0 57 dX2_takeAll_56 rfl rfl rfl ?_
        refine q_getR 0 60 f_X2_25 dX2_takeAll_57 rfl rfl rfl rfl ?_
        refine q_aload_n 0 61 dX2_takeAll_60 rfl rfl rfl ?_
        refine q_getI 0 64 f_X2_64 dX2_takeAll_61 rfl rfl rfl ?_
        refine q_aload_n 0 65 dX2_takeAll_64 rfl rfl rfl ?_
        refine q_getR 0 68 f_X2_56 dX2_takeAll_65 rfl rfl rfl rfl ?_
        refine q_getR 8 71 f_X2_112 dX2_takeAll_68 rfl rfl rfl rfl ?_
        rw [ht]
        refine q_cVi 5 [5, 9] [0, 1, 2, 3, 4, 6, 7, 8] [0, 1, 2, 3, 4, 8, 5, 6, 7, 9] 74 (wr := [_, _, _, _, _, _, _, _]) (w1 := _) (ws' := [_, _, _, _, _, _, _, _, _, _]) c_X8_takeBisque m_X2_116 dX2_takeAll_71 rfl rfl rfl rfl rfl rfl rfl rfl (by decide) (by decide) (by decide) (by decide) (Nat.le_of_ble_eq_true rfl) (by omega) (by omega) (by omega) rfl ?_
        refine q_pop 75 dX2_takeAll_74 rfl rfl ?_
        refine q_aload_n 0 76 dX2_takeAll_75 rfl rfl rfl ?_
        refine q_getR 0 79 f_X2_38 dX2_takeAll_76 rfl rfl rfl rfl ?_
        refine q_iload_n 3 80 dX2_takeAll_79 rfl rfl rfl ?_
        refine q_aload_n 0 81 dX2_takeAll_80 rfl rfl rfl ?_
        refine q_yVi 0 [0, 1, 2, 3, 4, 5] [6, 7, 8, 9] [4, 5, 6, 7, 8, 9, 0, 1, 2, 3] 84 (wr := [_, _, _, _]) (w1 := _) (ws' := fun _ => [_, _, _, _, _, _, _, _, _, _]) (c_X2_placeBehind (r := rs56 r e1 e6) g1 hv hv1 (fun k hk => (q3 k hk).1)) m_X2_120 dX2_takeAll_81 rfl rfl rfl rfl rfl rfl rfl (fun _ => rfl) (by decide) (by decide) (by decide) (by decide) (Nat.le_of_ble_eq_true rfl) (by omega) (by omega) (by omega) rfl (fun P81 k81 n81 hx81 => ?_)
        refine q_iast 7 z4 85 (w' := [_, _, _, _, _, _, _, _, _, _]) dX2_takeAll_84 rfl ⟨rfl, by omega, by omega⟩ rfl rfl ?_
        refine q_iinc 3 (nI (z4 + 1)) 88 (L' := [_, _, _, _]) dX2_takeAll_85 rfl (inc1 (z4)) (by decide) rfl rfl ?_
        refine q_goto 6 dX2_takeAll_88 (by decide) ?_
        skip
        obtain ⟨x1, x2, x3, x4⟩ := hx81
        obtain ⟨⟨L0, hL0⟩, hGK⟩ := g2
        obtain ⟨L1, hL1⟩ := tgK_ext (plK P1) (tgB li tk sf1 (kAt (plK P1) y))
        have x2 : plK P81 = tgK (plK P1) (tgB li tk sf1 (kAt (plK P1) y)) := x2
        have hinl : ∀ w, tgB li tk sf1 (kAt (plK P1) y) = .inl w → w < 4 := by
          intro w hw
          have hcl : (sBisque (sBec sf1 (kAt (plK P1) y)) li tk 2).toNatClampNeg = v := by rw [hv, nI_clamp (by omega)]
          unfold tgB tgt at hw
          rw [hcl] at hw
          split at hw
          · injection hw with hw; omega
          · split at hw
            · injection hw with hw; omega
            · cases hw
        have hlen : (plK P1).length ≤ (plK P81).length := by rw [x2, hL1, List.length_append]; omega
        refine K1 e1 e2 e6 e7 _ _ e3 _ _ _ P81 (by omega) (by omega) (by omega) x1 ⟨⟨L0 ++ L1, by rw [x2, hL1, hL0, List.append_assoc]⟩, by rw [x2]; exact tgK_all hGK (fun k hk => (q3 k hk).2)⟩ ⟨y1, by show Nb ≤ e2; omega, fun p hp => (y3 p (by omega)).trans (g3.2.2 p hp)⟩ y6 ⟨by omega, by omega⟩ (fun p hp => ?_) (fun j hj1 hj2 => ?_) (g7.bec _) (by omega) (by omega)
        · rw [pk_un (by omega)]
          exact (y8 p (by omega)).trans (g5 p hp)
        · by_cases hjy : j = y
          · subst hjy
            refine ⟨sf1, g7, ?_, ?_⟩
            · rw [hz4, pk_us, show kAt (plK P81) j = kAt (plK P1) j by rw [x2, hL1, kAt_ext hy], x2, tgK_plc]
              rfl
            · rw [show kAt (plK P81) j = kAt (plK P1) j by rw [x2, hL1, kAt_ext hy], x2]
              exact tgK_in hinl
          · have hT := TkR.ext (L := L1) g6 (by omega) j hj1 (by omega)
            rw [← hL1, ← x2] at hT
            obtain ⟨s9, t1, t2, t3⟩ := hT
            refine ⟨s9, t1, ?_, t3⟩
            rw [pk_un (by omega), y8 (4 + j) (by omega)]
            exact t2
      · have hye : y = (plK P1).length := by omega
        have hge : 4 + plI P1 2 ≤ nI (4 + y) := by rw [e4, hye]; exact Int32.le_refl _
        refine q_iload_n 3 7 dX2_takeAll_6 rfl rfl rfl ?_
        refine q_iconst 4 8 dX2_takeAll_7 ic_4 rfl ?_
        refine q_aload_n 0 9 dX2_takeAll_8 rfl rfl rfl ?_
        refine q_getR 0 12 f_X2_12 dX2_takeAll_9 rfl rfl rfl rfl ?_
        refine q_getI 1 15 f_X2_97 dX2_takeAll_12 rfl rfl rfl ?_
        refine q_iadd 16 dX2_takeAll_15 rfl ?_
        refine q_icmp_ge 91 19 dX2_takeAll_16 (by decide) rfl (fun h16 => ?_) (fun h16 => absurd hge h16)
        refine q_return dX2_takeAll_91 rfl ?_
        exact pX.mk (((b5, Nb1, bf1), (b6, Nt1, tf1)), P1, sf1, sb1) ⟨⟨⟨g1, g2.1, g2.2⟩, g3, ⟨g4, by show 4 + (plK P1).length ≤ Nt1; omega, fun p hp _ => g5 p hp, by rw [← hye]; exact g6⟩, g7⟩, g8, g9⟩ rfl rfl
  have K1 := K6 (15489 - b) b a5 Nb a6 Nt 0 0 bf tf sf sb P (by have := hP.len; omega) (Nat.le_refl _) hbK hP ⟨⟨[], (List.append_nil _).symm⟩, hG⟩ ⟨hb, Nat.le_refl _, fun _ _ => rfl⟩ hnt ⟨Nat.le_refl _, hbt⟩ (fun _ _ => rfl) (fun j h1 h2 => by omega) hsf (by omega) (by omega)
  clear K6
  refine q_sipush 15492 3 dX2_takeAll_0 sc_15492 rfl ?_
  refine q_istore_n 2 4 (L' := [_, _, _, _]) dX2_takeAll_3 rfl (by decide) rfl rfl ?_
  refine q_iload_n 1 5 dX2_takeAll_4 rfl rfl rfl ?_
  refine q_istore_n 3 6 (L' := [_, _, _, _]) dX2_takeAll_5 rfl (by decide) rfl rfl ?_
  exact K1

