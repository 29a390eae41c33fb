/-! ===== byStyles, plays0 ===== -/
/-- styles are 0 to 3 -/
def stOK (st : Sc) : Prop := ∀ k, k < 30976 → ∃ s : Nat, s < 4 ∧ st k = nI s
def hdB (m st tb : Sc) (p th : Int32) (j : Nat) : Int32 := hdV m tb p th j (st (2 * j + j / 121 % 2)).toNatClampNeg (st (2 * j + 1 - j / 121 % 2)).toNatClampNeg
theorem n121 {j : Nat} (hj : j < 15488) : nI j / 121 - nI j / 121 / 2 * 2 = nI (j / 121 % 2) := by
  rw [nI_div (d := 121) (by decide) (by omega) (by decide) (by decide), nI_rem (d := 2) (by decide) (by omega) (by decide) (by decide)]
theorem p_byStyles {l : Launch} {g : Gh} {q : Nat} {A : Nat → Nat} {i m x st : Sc} {T : Nat} {tb : Sc} {p th : Int32} {j : Nat} (hj : j < 15488) (hc : ¬ rCan (nI j) = 0) (hst : stOK st) (hH : HOK m) :
    Ce l g yX12_byStyles (Cond.code yX12_byStyles cX12_byStyles 6 (some .int)) 5 [.ref q, .int (nI j), .int p, .int th, .ref T] [(q, ob 12 i (rM A)), (A 1, aI g 2616 m), (A 16, aI g 9 x), (A 19, aI g 30976 st), (T, aI g 15488 tb)]
      (fun z : Sc × Sc => some (.int (hdB m st tb p th j))) (fun z : Sc × Sc => [(q, ob 12 z.1 (rM A)), (A 1, aI g 2616 m), (A 16, aI g 9 z.2), (A 19, aI g 30976 st), (T, aI g 15488 tb)]) (fun z : Sc × Sc => sm2 i z.1) := by
  refine ct_of (M := mtX12_byStyles) [some (.ref q), some (.int (nI j)), some (.int p), some (.int th), some (.ref T), none] rfl (by decide) (Nat.le_of_ble_eq_true rfl) (fun _ h => h) (fun a => ?_)
  obtain ⟨s, hs, es⟩ := hst (2 * j + j / 121 % 2) (by omega)
  obtain ⟨h, hh, eh⟩ := hst (2 * j + 1 - j / 121 % 2) (by omega)
  have e1 : nI (2 * j) + nI (j / 121 % 2) = nI (2 * j + j / 121 % 2) := nI_add _ _
  have e2 : nI (2 * j) + 1 - nI (j / 121 % 2) = nI (2 * j + 1 - j / 121 % 2) := by rw [nI_1, pk_sub (by omega)]
  unfold hdB
  rw [es, eh, nI_clamp (by omega), nI_clamp (by omega)]
  have hb1 : 2 * j + j / 121 % 2 < 30976 := by omega
  have hb2 : 2 * j + 1 - j / 121 % 2 < 30976 := by omega
  generalize hk1 : 2 * j + j / 121 % 2 = k1 at *
  generalize hk2 : 2 * j + 1 - j / 121 % 2 = k2 at *
  refine q_iload_n 1 1 dX12_byStyles_0 rfl rfl rfl ?_
  refine q_bipush 121 3 dX12_byStyles_1 bc_121 rfl ?_
  refine q_idiv 4 dX12_byStyles_3 (by decide) rfl ?_
  refine q_iconst 2 5 dX12_byStyles_4 ic_2 rfl ?_
  refine q_irem 6 dX12_byStyles_5 (by decide) rfl ?_
  rw [n121 hj]
  refine q_istore 5 8 (L' := [_, _, _, _, _, _]) dX12_byStyles_6 (by decide) rfl rfl ?_
  refine q_aload_n 0 9 dX12_byStyles_8 rfl rfl rfl ?_
  refine q_iload_n 1 10 dX12_byStyles_9 rfl rfl rfl ?_
  refine q_aload_n 0 11 dX12_byStyles_10 rfl rfl rfl ?_
  refine q_getR 0 14 f_X12_32 dX12_byStyles_11 rfl rfl rfl rfl ?_
  refine q_iconst 2 15 dX12_byStyles_14 ic_2 rfl ?_
  refine q_iload_n 1 16 dX12_byStyles_15 rfl rfl rfl ?_
  refine q_imul 17 dX12_byStyles_16 rfl ?_
  rw [n2k]
  refine q_iload 5 19 dX12_byStyles_17 rfl rfl ?_
  refine q_iadd 20 dX12_byStyles_19 rfl ?_
  refine q_iald 3 k1 21 dX12_byStyles_20 rfl ⟨e1, by omega, by decide⟩ rfl ?_
  rw [es]
  refine q_aload_n 0 22 dX12_byStyles_21 rfl rfl rfl ?_
  refine q_getR 0 25 f_X12_32 dX12_byStyles_22 rfl rfl rfl rfl ?_
  refine q_iconst 2 26 dX12_byStyles_25 ic_2 rfl ?_
  refine q_iload_n 1 27 dX12_byStyles_26 rfl rfl rfl ?_
  refine q_imul 28 dX12_byStyles_27 rfl ?_
  rw [n2k]
  refine q_iconst 1 29 dX12_byStyles_28 ic_1 rfl ?_
  refine q_iadd 30 dX12_byStyles_29 rfl ?_
  refine q_iload 5 32 dX12_byStyles_30 rfl rfl ?_
  refine q_isub 33 dX12_byStyles_32 rfl ?_
  refine q_iald 3 k2 34 dX12_byStyles_33 rfl ⟨e2, by omega, by decide⟩ rfl ?_
  rw [eh]
  refine q_iload_n 2 35 dX12_byStyles_34 rfl rfl rfl ?_
  refine q_iload_n 3 36 dX12_byStyles_35 rfl rfl rfl ?_
  refine q_aload 4 38 dX12_byStyles_36 rfl rfl ?_
  refine q_xVi 0 [0, 1, 2, 4] [3] [1, 2, 3, 0, 4] 41 (wr := [_]) (w1 := _) (ws' := fun _ => [_, _, _, _, _]) (p_had (T := T) (tb := tb) hj hc hs hh hH) m_X12_249 dX12_byStyles_38 rfl rfl rfl rfl rfl rfl rfl (fun _ => rfl) (by decide) (by decide) (by decide) (by decide) (Nat.le_of_ble_eq_true rfl) (by omega) (by omega) (by omega) rfl (fun z38 hx38 => ?_)
  obtain ⟨i38, x38⟩ := z38
  dsimp only at hx38 ⊢
  refine q_ireturn dX12_byStyles_41 rfl ?_
  exact pE.mk (i38, x38) hx38 rfl rfl
def plR (m st : Sc) (p th : Int32) : Nat → Sc
  | 0 => fun _ => 0
  | n + 1 => fun j => if rCan (nI j) = 0 then 0 else hdB m st (plR m st p th n) p th j
theorem plR_s (m st : Sc) (p th : Int32) (n j : Nat) : plR m st p th (n + 1) j = if rCan (nI j) = 0 then 0 else hdB m st (plR m st p th n) p th j := rfl
theorem cp_full (f h : Sc) (n : Nat) : ∀ j, j < n → cp f h n j = h j := fun j hj => if_pos hj
theorem rCan_or (k : Int32) : rCan k = 0 ∨ rCan k = 1 := by unfold rCan; split <;> simp
theorem p_plays0 {l : Launch} {g : Gh} {q : Nat} {A : Nat → Nat} {i m x st : Sc} {R B : Nat} {f h : Sc} {p th : Int32} {n : Nat} (hn : n ≤ 30) (hst : stOK st) (hH : HOK m) :
    Ce l g yX12_plays0 (Cond.code yX12_plays0 cX12_plays0 8 none) 6 [.ref q, .int p, .int th, .int (nI n), .ref R, .ref B] [(q, ob 12 i (rM A)), (A 1, aI g 2616 m), (A 16, aI g 9 x), (A 19, aI g 30976 st), (R, aI g 15488 f), (B, aI g 15488 h)]
      (fun z : Sc × Sc × Sc => none) (fun z : Sc × Sc × Sc => [(q, ob 12 z.1 (rM A)), (A 1, aI g 2616 m), (A 16, aI g 9 z.2.1), (A 19, aI g 30976 st), (R, aI g 15488 (plR m st p th n)), (B, aI g 15488 z.2.2)]) (fun z : Sc × Sc × Sc => sm2 i z.1) := by
  refine ct_of (M := mtX12_plays0) [some (.ref q), some (.int p), some (.int th), some (.int (nI n)), some (.ref R), some (.ref B), none, none] rfl (by decide) (Nat.le_of_ble_eq_true rfl) (fun _ h => h) (fun a => ?_)
  have K26 : ∀ (c w : Nat), c + w = n → ∀ (i1 x1 b1 : Sc) (z7 : Option Value), sm2 i i1 → WPs l g mtX12_plays0 6 0 0 (pE (fun z : Sc × Sc × Sc => none) (fun z : Sc × Sc × Sc => [(q, ob 12 z.1 (rM A)), (A 1, aI g 2616 m), (A 16, aI g 9 z.2.1), (A 19, aI g 30976 st), (R, aI g 15488 (plR m st p th n)), (B, aI g 15488 z.2.2)]) (fun z : Sc × Sc × Sc => sm2 i z.1)) noX a 26 [some (.ref q), some (.int p), some (.int th), some (.int (nI n)), some (.ref R), some (.ref B), some (.int (nI w)), z7] [] [(q, ob 12 i1 (rM A)), (A 1, aI g 2616 m), (A 16, aI g 9 x1), (A 19, aI g 30976 st), (R, aI g 15488 (plR m st p th w)), (B, aI g 15488 b1)] 0 0 := by
    intro c
    induction c with
    | zero =>
      intro w hw i1 x1 b1 z7 hi
      obtain rfl : w = n := by omega
      generalize plR m st p th w = R9
      have hge : nI w ≤ nI w := Int32.le_refl _
      refine q_iload 6 28 dX12_plays0_26 rfl rfl ?_
      refine q_iload_n 3 29 dX12_plays0_28 rfl rfl rfl ?_
      refine q_icmp_ge 109 32 dX12_plays0_29 (by decide) rfl (fun h29 => ?_) (fun h29 => absurd hge h29)
      refine q_return dX12_plays0_109 rfl ?_
      exact pE.mk (i1, x1, b1) hi rfl rfl
    | succ c ih =>
      intro w hw i1 x1 b1 z7 hi
      have hge : ¬ nI n ≤ nI w := nI_ge (by omega) (by omega)
      have K9 := ih (w + 1) (by omega)
      clear ih
      have hR0 : ∀ v, rCan (nI v) = 0 → plR m st p th (w + 1) v = 0 := fun v hv => by rw [plR_s, if_pos hv]
      have hR1 : ∀ v, ¬ rCan (nI v) = 0 → plR m st p th (w + 1) v = hdB m st (plR m st p th w) p th v := fun v hv => by rw [plR_s, if_neg hv]
      generalize plR m st p th n = R9 at *
      generalize plR m st p th (w + 1) = R1 at *
      generalize plR m st p th w = R0 at *
      have K62 : ∀ (c v : Nat), c + v = 15488 → ∀ (i2 x2 : Sc), sm2 i i2 → WPs l g mtX12_plays0 6 0 0 (pE (fun z : Sc × Sc × Sc => none) (fun z : Sc × Sc × Sc => [(q, ob 12 z.1 (rM A)), (A 1, aI g 2616 m), (A 16, aI g 9 z.2.1), (A 19, aI g 30976 st), (R, aI g 15488 R9), (B, aI g 15488 z.2.2)]) (fun z : Sc × Sc × Sc => sm2 i z.1)) noX a 62 [some (.ref q), some (.int p), some (.int th), some (.int (nI n)), some (.ref R), some (.ref B), some (.int (nI w)), some (.int (nI v))] [] [(q, ob 12 i2 (rM A)), (A 1, aI g 2616 m), (A 16, aI g 9 x2), (A 19, aI g 30976 st), (R, aI g 15488 (cp R0 R1 v)), (B, aI g 15488 R0)] 0 0 := by
        intro c
        induction c with
        | zero =>
          intro v hv i2 x2 hi2
          obtain rfl : v = 15488 := by omega
          refine q_ax 4 R1 rfl (cp_full R0 R1 15488) rfl ?_
          have hge2 : (15488 : Int32) ≤ nI 15488 := by decide
          refine q_iload 7 64 dX12_plays0_62 rfl rfl ?_
          refine q_sipush 15488 67 dX12_plays0_64 sc_15488 rfl ?_
          refine q_icmp_ge 103 70 dX12_plays0_67 (by decide) rfl (fun h67 => ?_) (fun h67 => absurd hge2 h67)
          refine q_iinc 6 (nI (w + 1)) 106 (L' := [_, _, _, _, _, _, _, _]) dX12_plays0_103 rfl (inc1 (w)) (by decide) rfl rfl ?_
          refine q_goto 26 dX12_plays0_106 (by decide) ?_
          exact K9 _ _ _ _ hi2
        | succ c ih =>
          intro v hv i2 x2 hi2
          have hlt : ¬ (15488 : Int32) ≤ nI v := by rw [n15488]; exact nI_ge (by omega) (by omega)
          have K1 := fun i3 x3 h3 => ih (v + 1) (by omega) i3 x3 h3
          rw [← cp_s R0 R1 v] at K1
          clear ih
          rcases rCan_or (nI v) with hz | hz
          · rw [hR0 v hz] at K1
            refine q_iload 7 64 dX12_plays0_62 rfl rfl ?_
            refine q_sipush 15488 67 dX12_plays0_64 sc_15488 rfl ?_
            refine q_icmp_ge 103 70 dX12_plays0_67 (by decide) rfl (fun h67 => absurd h67 hlt) (fun h67 => ?_)
            refine q_aload 4 72 dX12_plays0_70 rfl rfl ?_
            refine q_iload 7 74 dX12_plays0_72 rfl rfl ?_
            refine q_iload 7 76 dX12_plays0_74 rfl rfl ?_
            refine q_cSi [] [0, 1, 2, 3, 4, 5] [0, 1, 2, 3, 4, 5] 79 (wr := [_, _, _, _, _, _]) (w1 := _) (ws' := [_, _, _, _, _, _]) p_canBe m_X12_253 dX12_plays0_76 rfl rfl rfl rfl rfl (by decide) (by decide) (by decide) (by decide) (Nat.le_of_ble_eq_true rfl) (by omega) (by omega) (by omega) rfl ?_
            refine q_if_eq 95 82 dX12_plays0_79 (by decide) rfl (fun h79 => ?_) (fun h79 => absurd hz h79)
            refine q_iconst 0 96 dX12_plays0_95 ic_0 rfl ?_
            refine q_iast 4 v 97 (w' := [_, _, _, _, _, _]) dX12_plays0_96 rfl ⟨rfl, by omega, by decide⟩ rfl rfl ?_
            refine q_iinc 7 (nI (v + 1)) 100 (L' := [_, _, _, _, _, _, _, _]) dX12_plays0_97 rfl (inc1 (v)) (by decide) rfl rfl ?_
            refine q_goto 62 dX12_plays0_100 (by decide) ?_
            exact K1 _ _ hi2
          · have hz0 : ¬ rCan (nI v) = 0 := by rw [hz]; decide
            rw [hR1 v hz0] at K1
            refine q_iload 7 64 dX12_plays0_62 rfl rfl ?_
            refine q_sipush 15488 67 dX12_plays0_64 sc_15488 rfl ?_
            refine q_icmp_ge 103 70 dX12_plays0_67 (by decide) rfl (fun h67 => absurd h67 hlt) (fun h67 => ?_)
            refine q_aload 4 72 dX12_plays0_70 rfl rfl ?_
            refine q_iload 7 74 dX12_plays0_72 rfl rfl ?_
            refine q_iload 7 76 dX12_plays0_74 rfl rfl ?_
            refine q_cSi [] [0, 1, 2, 3, 4, 5] [0, 1, 2, 3, 4, 5] 79 (wr := [_, _, _, _, _, _]) (w1 := _) (ws' := [_, _, _, _, _, _]) p_canBe m_X12_253 dX12_plays0_76 rfl rfl rfl rfl rfl (by decide) (by decide) (by decide) (by decide) (Nat.le_of_ble_eq_true rfl) (by omega) (by omega) (by omega) rfl ?_
            refine q_if_eq 95 82 dX12_plays0_79 (by decide) rfl (fun h79 => absurd h79 hz0) (fun h79 => ?_)
            refine q_aload_n 0 83 dX12_plays0_82 rfl rfl rfl ?_
            refine q_iload 7 85 dX12_plays0_83 rfl rfl ?_
            refine q_iload_n 1 86 dX12_plays0_85 rfl rfl rfl ?_
            refine q_iload_n 2 87 dX12_plays0_86 rfl rfl rfl ?_
            refine q_aload 5 89 dX12_plays0_87 rfl rfl ?_
            refine q_xVi 0 [0, 1, 2, 3, 5] [4] [1, 2, 3, 4, 0, 5] 92 (wr := [_]) (w1 := _) (ws' := fun _ => [_, _, _, _, _, _]) (p_byStyles (by omega) hz0 hst hH) m_X12_256 dX12_plays0_89 rfl rfl rfl rfl rfl rfl rfl (fun _ => rfl) (by decide) (by decide) (by decide) (by decide) (Nat.le_of_ble_eq_true rfl) (by omega) (by omega) (by omega) rfl (fun z89 hx89 => ?_)
            obtain ⟨i89, x89⟩ := z89
            dsimp only at hx89 ⊢
            refine q_goto 96 dX12_plays0_92 (by decide) ?_
            refine q_iast 4 v 97 (w' := [_, _, _, _, _, _]) dX12_plays0_96 rfl ⟨rfl, by omega, by decide⟩ rfl rfl ?_
            refine q_iinc 7 (nI (v + 1)) 100 (L' := [_, _, _, _, _, _, _, _]) dX12_plays0_97 rfl (inc1 (v)) (by decide) rfl rfl ?_
            refine q_goto 62 dX12_plays0_100 (by decide) ?_
            exact K1 _ _ (hi2.tr hx89)
      have K35 : ∀ (c v : Nat), c + v = 15488 → WPs l g mtX12_plays0 6 0 0 (pE (fun z : Sc × Sc × Sc => none) (fun z : Sc × Sc × Sc => [(q, ob 12 z.1 (rM A)), (A 1, aI g 2616 m), (A 16, aI g 9 z.2.1), (A 19, aI g 30976 st), (R, aI g 15488 R9), (B, aI g 15488 z.2.2)]) (fun z : Sc × Sc × Sc => sm2 i z.1)) noX a 35 [some (.ref q), some (.int p), some (.int th), some (.int (nI n)), some (.ref R), some (.ref B), some (.int (nI w)), some (.int (nI v))] [] [(q, ob 12 i1 (rM A)), (A 1, aI g 2616 m), (A 16, aI g 9 x1), (A 19, aI g 30976 st), (R, aI g 15488 R0), (B, aI g 15488 (cp b1 R0 v))] 0 0 := by
        intro c
        induction c with
        | zero =>
          intro v hv
          obtain rfl : v = 15488 := by omega
          refine q_ax 5 R0 rfl (cp_full b1 R0 15488) rfl ?_
          have hge2 : (15488 : Int32) ≤ nI 15488 := by decide
          have K1 := K62 15488 0 rfl i1 x1 hi
          rw [cp_0] at K1
          refine q_iload 7 37 dX12_plays0_35 rfl rfl ?_
          refine q_sipush 15488 40 dX12_plays0_37 sc_15488 rfl ?_
          refine q_icmp_ge 59 43 dX12_plays0_40 (by decide) rfl (fun h40 => ?_) (fun h40 => absurd hge2 h40)
          refine q_iconst 0 60 dX12_plays0_59 ic_0 rfl ?_
          refine q_istore 7 62 (L' := [_, _, _, _, _, _, _, _]) dX12_plays0_60 (by decide) rfl rfl ?_
          exact K1
        | succ c ih =>
          intro v hv
          have hlt : ¬ (15488 : Int32) ≤ nI v := by rw [n15488]; exact nI_ge (by omega) (by omega)
          have K1 := ih (v + 1) (by omega)
          rw [← cp_s b1 R0 v] at K1
          clear ih
          refine q_iload 7 37 dX12_plays0_35 rfl rfl ?_
          refine q_sipush 15488 40 dX12_plays0_37 sc_15488 rfl ?_
          refine q_icmp_ge 59 43 dX12_plays0_40 (by decide) rfl (fun h40 => absurd h40 hlt) (fun h40 => ?_)
          refine q_aload 5 45 dX12_plays0_43 rfl rfl ?_
          refine q_iload 7 47 dX12_plays0_45 rfl rfl ?_
          refine q_aload 4 49 dX12_plays0_47 rfl rfl ?_
          refine q_iload 7 51 dX12_plays0_49 rfl rfl ?_
          refine q_iald 4 v 52 dX12_plays0_51 rfl ⟨rfl, by omega, by decide⟩ rfl ?_
          refine q_iast 5 v 53 (w' := [_, _, _, _, _, _]) dX12_plays0_52 rfl ⟨rfl, by omega, by decide⟩ rfl rfl ?_
          refine q_iinc 7 (nI (v + 1)) 56 (L' := [_, _, _, _, _, _, _, _]) dX12_plays0_53 rfl (inc1 (v)) (by decide) rfl rfl ?_
          refine q_goto 35 dX12_plays0_56 (by decide) ?_
          exact K1
      have K1 := K35 15488 0 rfl
      rw [cp_0] at K1
      refine q_iload 6 28 dX12_plays0_26 rfl rfl ?_
      refine q_iload_n 3 29 dX12_plays0_28 rfl rfl rfl ?_
      refine q_icmp_ge 109 32 dX12_plays0_29 (by decide) rfl (fun h29 => absurd h29 hge) (fun h29 => ?_)
      refine q_iconst 0 33 dX12_plays0_32 ic_0 rfl ?_
      refine q_istore 7 35 (L' := [_, _, _, _, _, _, _, _]) dX12_plays0_33 (by decide) rfl rfl ?_
      exact K1
  have K3 : ∀ (c v : Nat), c + v = 15488 → WPs l g mtX12_plays0 6 0 0 (pE (fun z : Sc × Sc × Sc => none) (fun z : Sc × Sc × Sc => [(q, ob 12 z.1 (rM A)), (A 1, aI g 2616 m), (A 16, aI g 9 z.2.1), (A 19, aI g 30976 st), (R, aI g 15488 (plR m st p th n)), (B, aI g 15488 z.2.2)]) (fun z : Sc × Sc × Sc => sm2 i z.1)) noX a 3 [some (.ref q), some (.int p), some (.int th), some (.int (nI n)), some (.ref R), some (.ref B), some (.int (nI v)), none] [] [(q, ob 12 i (rM A)), (A 1, aI g 2616 m), (A 16, aI g 9 x), (A 19, aI g 30976 st), (R, aI g 15488 (cp f (fun _ => 0) v)), (B, aI g 15488 h)] 0 0 := by
    intro c
    induction c with
    | zero =>
      intro v hv
      obtain rfl : v = 15488 := by omega
      refine q_ax 4 (fun _ => 0) rfl (cp_full f (fun _ => 0) 15488) rfl ?_
      have hge2 : (15488 : Int32) ≤ nI 15488 := by decide
      have K1 := K26 n 0 rfl i x h none sm2.rf
      rw [show plR m st p th 0 = fun _ => 0 from rfl] at K1
      generalize plR m st p th n = R9 at *
      refine q_iload 6 5 dX12_plays0_3 rfl rfl ?_
      refine q_sipush 15488 8 dX12_plays0_5 sc_15488 rfl ?_
      refine q_icmp_ge 23 11 dX12_plays0_8 (by decide) rfl (fun h8 => ?_) (fun h8 => absurd hge2 h8)
      refine q_iconst 0 24 dX12_plays0_23 ic_0 rfl ?_
      refine q_istore 6 26 (L' := [_, _, _, _, _, _, _, _]) dX12_plays0_24 (by decide) rfl rfl ?_
      exact K1
    | succ c ih =>
      intro v hv
      have hlt : ¬ (15488 : Int32) ≤ nI v := by rw [n15488]; exact nI_ge (by omega) (by omega)
      have K1 := ih (v + 1) (by omega)
      rw [← cp_s f (fun _ => 0) v] at K1
      clear ih
      generalize plR m st p th n = R9 at *
      refine q_iload 6 5 dX12_plays0_3 rfl rfl ?_
      refine q_sipush 15488 8 dX12_plays0_5 sc_15488 rfl ?_
      refine q_icmp_ge 23 11 dX12_plays0_8 (by decide) rfl (fun h8 => absurd h8 hlt) (fun h8 => ?_)
      refine q_aload 4 13 dX12_plays0_11 rfl rfl ?_
      refine q_iload 6 15 dX12_plays0_13 rfl rfl ?_
      refine q_iconst 0 16 dX12_plays0_15 ic_0 rfl ?_
      refine q_iast 4 v 17 (w' := [_, _, _, _, _, _]) dX12_plays0_16 rfl ⟨rfl, by omega, by decide⟩ rfl rfl ?_
      refine q_iinc 6 (nI (v + 1)) 20 (L' := [_, _, _, _, _, _, _, _]) dX12_plays0_17 rfl (inc1 (v)) (by decide) rfl rfl ?_
      refine q_goto 3 dX12_plays0_20 (by decide) ?_
      exact K1
  have K0 := K3 15488 0 rfl
  rw [cp_0] at K0
  generalize plR m st p th n = R9 at *
  refine q_iconst 0 1 dX12_plays0_0 ic_0 rfl ?_
  refine q_istore 6 3 (L' := [_, _, _, _, _, _, _, _]) dX12_plays0_1 (by decide) rfl rfl ?_
  exact K0

