/-! ===== best ===== -/
theorem p_best0 {l : Launch} {g : Gh} {q : Nat} {A : Nat → Nat} {i m x : Sc} {p n b : Int32} (h0 : ¬ reT m (S m) p n = 0) : Cp l g yX12_best (Cond.code yX12_best cX12_best 12 (some .int)) 4 [.ref q, .int p, .int n, .int b] [(q, ob 12 i (rM A)), (A 1, aI g 2616 m), (A 16, aI g 9 x)] (some (.int 0)) [(q, ob 12 (upd i 0 (reT m (S m) p n)) (rM A)), (A 1, aI g 2616 m), (A 16, aI g 9 (rTake m x))] := by
  refine ct_of (M := mtX12_best) [some (.ref q), some (.int p), some (.int n), some (.int b), none, none, none, none, none, none, none, none] rfl (by decide) (Nat.le_of_ble_eq_true rfl) (fun _ h => h) (fun a => ?_)
  have hle := reT_le h0
  generalize hr : reT m (S m) p n = r at *
  refine q_aload_n 0 1 dX12_best_0 rfl rfl rfl ?_
  refine q_aload_n 0 2 dX12_best_1 rfl rfl rfl ?_
  refine q_iload_n 1 3 dX12_best_2 rfl rfl rfl ?_
  refine q_iload_n 2 4 dX12_best_3 rfl rfl rfl ?_
  refine q_cVi 0 [0, 1, 2] [] [0, 1, 2] 7 (wr := []) (w1 := _) (ws' := [_, _, _]) p_refuses m_X12_260 dX12_best_4 rfl rfl rfl rfl rfl rfl rfl rfl (by decide) (by decide) (by decide) (by decide) (Nat.le_of_ble_eq_true rfl) (by omega) (by omega) (by omega) rfl ?_
  rw [reT_S, hr]
  refine q_putI 0 10 (w' := [_, _, _]) f_X12_67 ft_X12_0 dX12_best_7 rfl rfl rfl rfl ?_
  refine q_aload_n 0 11 dX12_best_10 rfl rfl rfl ?_
  refine q_getI 0 14 f_X12_67 dX12_best_11 rfl rfl rfl ?_
  refine q_if_le 19 17 dX12_best_14 (by decide) rfl (fun h14 => absurd h14 hle) (fun h14 => ?_)
  refine q_iconst 0 18 dX12_best_17 ic_0 rfl ?_
  refine q_ireturn dX12_best_18 rfl ?_
  exact pR.rf
/-- what style s is worth to p, the other playing by the table -/
def bsV (m st tb : Sc) (p j s : Nat) : Int32 := if j / 121 % 2 = p then hdV m tb (nI p) (-1) j s (st (2 * j + 1 - p)).toNatClampNeg else hdV m tb (nI p) (-1) j (st (2 * j + 1 - p)).toNatClampNeg s
def mxS (f : Nat → Int32) : Nat → Int32
  | 0 => -1
  | s + 1 => if f s ≤ mxS f s then mxS f s else f s
def fdS (f : Nat → Int32) (c : Bool) (fd : Int32) : Nat → Int32
  | 0 => fd
  | s + 1 => if f s ≤ mxS f s then fdS f c fd s else if c then nI s else fdS f c fd s
theorem fdS_f (f : Nat → Int32) (fd : Int32) : ∀ s, fdS f false fd s = fd
  | 0 => rfl
  | s + 1 => by
    rw [fdS, fdS_f f fd s]
    split <;> rfl
def bsR (m st : Sc) (p : Nat) : Nat → Sc
  | 0 => fun _ => 0
  | n + 1 => fun j => if rCan (nI j) = 0 then bsR m st p n j else mxS (bsV m st (bsR m st p n) p j) 4
theorem bsR_s (m st : Sc) (p n j : Nat) : bsR m st p (n + 1) j = if rCan (nI j) = 0 then bsR m st p n j else mxS (bsV m st (bsR m st p n) p j) 4 := rfl
def bsF (m st : Sc) (p a0 : Nat) : Nat → Int32
  | 0 => -1
  | n + 1 => fdS (bsV m st (bsR m st p n) p a0) true (bsF m st p a0 n) 4
theorem eq_nI {a b : Nat} (ha : a < 15488) (hb : b < 15488) : (nI a = nI b) ↔ a = b := nI_eq (by omega) (by omega)
theorem p_best1 {l : Launch} {g : Gh} {q : Nat} {A : Nat → Nat} {i m tp fc x st nw ls : Sc} {p n : Nat} {b : Int32} (hM : MOK m) (hp : p ≤ 1) (hn : n ≤ 30) (h0 : reT m (S m) (nI p) (nI n) = 0) :
    Ce l g yX12_best (Cond.code yX12_best cX12_best 12 (some .int)) 34 [.ref q, .int (nI p), .int (nI n), .int b] [(q, ob 12 i (rM A)), (A 1, aI g 2616 m), (A 5, aI g 400 tp), (A 12, aI g 5 fc), (A 16, aI g 9 x), (A 19, aI g 30976 st), (A 20, aI g 15488 nw), (A 21, aI g 15488 ls)]
      (fun z : Sc × Sc × Sc × Sc × Sc × Sc => some (.int (if b = 0 then bsR m (svA m) p n (at0 m) else bsF m (svA m) p (at0 m) n))) (fun z : Sc × Sc × Sc × Sc × Sc × Sc => [(q, ob 12 z.1 (rM A)), (A 1, aI g 2616 m), (A 5, aI g 400 tp), (A 12, aI g 5 z.2.1), (A 16, aI g 9 z.2.2.1), (A 19, aI g 30976 z.2.2.2.1), (A 20, aI g 15488 z.2.2.2.2.1), (A 21, aI g 15488 z.2.2.2.2.2)]) (fun z : Sc × Sc × Sc × Sc × Sc × Sc => smK (upd i 0 0) z.1) := by
  refine ct_of (M := mtX12_best) [some (.ref q), some (.int (nI p)), some (.int (nI n)), some (.int b), none, none, none, none, none, none, none, none] rfl (by decide) (Nat.le_of_ble_eq_true rfl) (fun _ h => h) (fun a => ?_)
  obtain ⟨ha, eA, hcA, -⟩ := at0_of hM.1
  have hsv := svA_ok hM.2.2.1 hM.2.2.2
  have hH := hM.2.1
  generalize at0 m = a0 at *
  have K57 : ∀ (i5 fc5 x5 ls5 : Sc) (z6 z7 z8 z9 z10 z11 : Option Value), smK (upd i 0 0) i5 → WPs l g mtX12_best 34 0 0 (pE (fun z : Sc × Sc × Sc × Sc × Sc × Sc => some (.int (if b = 0 then bsR m (svA m) p n a0 else bsF m (svA m) p a0 n))) (fun z : Sc × Sc × Sc × Sc × Sc × Sc => [(q, ob 12 z.1 (rM A)), (A 1, aI g 2616 m), (A 5, aI g 400 tp), (A 12, aI g 5 z.2.1), (A 16, aI g 9 z.2.2.1), (A 19, aI g 30976 z.2.2.2.1), (A 20, aI g 15488 z.2.2.2.2.1), (A 21, aI g 15488 z.2.2.2.2.2)]) (fun z : Sc × Sc × Sc × Sc × Sc × Sc => smK (upd i 0 0) z.1)) noX a 57 [some (.ref q), some (.int (nI p)), some (.int (nI n)), some (.int b), some (.int (nI a0)), some (.int (-1)), z6, z7, z8, z9, z10, z11] [] [(q, ob 12 i5 (rM A)), (A 1, aI g 2616 m), (A 5, aI g 400 tp), (A 12, aI g 5 fc5), (A 16, aI g 9 x5), (A 19, aI g 30976 (svA m)), (A 20, aI g 15488 (fun _ => 0)), (A 21, aI g 15488 ls5)] 0 0 := by
    intro i5 fc5 x5 ls5 z6 z7 z8 z9 z10 z11 hi5
    generalize svA m = st5 at *
    have K60 : ∀ (c w : Nat), c + w = n → ∀ (i1 x1 b1 : Sc) (z7 z8 z9 z10 z11 : Option Value), smK (upd i 0 0) i1 → WPs l g mtX12_best 34 0 0 (pE (fun z : Sc × Sc × Sc × Sc × Sc × Sc => some (.int (if b = 0 then bsR m st5 p n a0 else bsF m st5 p a0 n))) (fun z : Sc × Sc × Sc × Sc × Sc × Sc => [(q, ob 12 z.1 (rM A)), (A 1, aI g 2616 m), (A 5, aI g 400 tp), (A 12, aI g 5 z.2.1), (A 16, aI g 9 z.2.2.1), (A 19, aI g 30976 z.2.2.2.1), (A 20, aI g 15488 z.2.2.2.2.1), (A 21, aI g 15488 z.2.2.2.2.2)]) (fun z : Sc × Sc × Sc × Sc × Sc × Sc => smK (upd i 0 0) z.1)) noX a 60 [some (.ref q), some (.int (nI p)), some (.int (nI n)), some (.int b), some (.int (nI a0)), some (.int (bsF m st5 p a0 w)), some (.int (nI w)), z7, z8, z9, z10, z11] [] [(q, ob 12 i1 (rM A)), (A 1, aI g 2616 m), (A 5, aI g 400 tp), (A 12, aI g 5 fc5), (A 16, aI g 9 x1), (A 19, aI g 30976 st5), (A 20, aI g 15488 (bsR m st5 p w)), (A 21, aI g 15488 b1)] 0 0 := by
      intro c
      induction c with
      | zero =>
        intro w hw i1 x1 b1 z7 z8 z9 z10 z11 hi
        obtain rfl : w = n := by omega
        generalize bsR m st5 p w = R9
        generalize bsF m st5 p a0 w = F9
        have hge : nI w ≤ nI w := Int32.le_refl _
        by_cases hb : b = 0
        · rw [if_pos hb]
          refine q_iload 6 62 dX12_best_60 rfl rfl ?_
          refine q_iload_n 2 63 dX12_best_62 rfl rfl rfl ?_
          refine q_icmp_ge 262 66 dX12_best_63 (by decide) rfl (fun h63 => ?_) (fun h63 => absurd hge h63)
          refine q_iload_n 3 263 dX12_best_262 rfl rfl rfl ?_
          refine q_if_eq 271 266 dX12_best_263 (by decide) rfl (fun h263 => ?_) (fun h263 => absurd hb h263)
          refine q_aload_n 0 272 dX12_best_271 rfl rfl rfl ?_
          refine q_getR 0 275 f_X12_35 dX12_best_272 rfl rfl rfl rfl ?_
          refine q_iload 4 277 dX12_best_275 rfl rfl ?_
          refine q_iald 6 a0 278 dX12_best_277 rfl ⟨rfl, by omega, by decide⟩ rfl ?_
          refine q_ireturn dX12_best_278 rfl ?_
          exact pE.mk (i1, fc5, x1, st5, R9, b1) hi rfl rfl
        · rw [if_neg hb]
          refine q_iload 6 62 dX12_best_60 rfl rfl ?_
          refine q_iload_n 2 63 dX12_best_62 rfl rfl rfl ?_
          refine q_icmp_ge 262 66 dX12_best_63 (by decide) rfl (fun h63 => ?_) (fun h63 => absurd hge h63)
          refine q_iload_n 3 263 dX12_best_262 rfl rfl rfl ?_
          refine q_if_eq 271 266 dX12_best_263 (by decide) rfl (fun h263 => absurd h263 hb) (fun h263 => ?_)
          refine q_iload 5 268 dX12_best_266 rfl rfl ?_
          refine q_goto 278 dX12_best_268 (by decide) ?_
          refine q_ireturn dX12_best_278 rfl ?_
          exact pE.mk (i1, fc5, x1, st5, R9, b1) hi rfl rfl
      | succ c ih =>
        intro w hw i1 x1 b1 z7 z8 z9 z10 z11 hi
        have hge : ¬ nI n ≤ nI w := nI_ge (by omega) (by omega)
        have K9 := ih (w + 1) (by omega)
        clear ih
        have hR0 : ∀ v, rCan (nI v) = 0 → bsR m st5 p (w + 1) v = bsR m st5 p w v := fun v hv => by rw [bsR_s, if_pos hv]
        have hR1 : ∀ v, ¬ rCan (nI v) = 0 → bsR m st5 p (w + 1) v = mxS (bsV m st5 (bsR m st5 p w) p v) 4 := fun v hv => by rw [bsR_s, if_neg hv]
        have hF1 : bsF m st5 p a0 (w + 1) = fdS (bsV m st5 (bsR m st5 p w) p a0) true (bsF m st5 p a0 w) 4 := rfl
        generalize bsR m st5 p n = R9 at *
        generalize bsR m st5 p (w + 1) = R1 at *
        generalize bsR m st5 p w = R0 at *
        generalize bsF m st5 p a0 n = F9 at *
        generalize bsF m st5 p a0 (w + 1) = F1 at *
        generalize bsF m st5 p a0 w = F0 at *
        have K100 : ∀ (c v : Nat), c + v = 15488 → ∀ (i2 x2 : Sc) (z8 z9 z10 z11 : Option Value), smK (upd i 0 0) i2 → WPs l g mtX12_best 34 0 0 (pE (fun z : Sc × Sc × Sc × Sc × Sc × Sc => some (.int (if b = 0 then R9 a0 else F9))) (fun z : Sc × Sc × Sc × Sc × Sc × Sc => [(q, ob 12 z.1 (rM A)), (A 1, aI g 2616 m), (A 5, aI g 400 tp), (A 12, aI g 5 z.2.1), (A 16, aI g 9 z.2.2.1), (A 19, aI g 30976 z.2.2.2.1), (A 20, aI g 15488 z.2.2.2.2.1), (A 21, aI g 15488 z.2.2.2.2.2)]) (fun z : Sc × Sc × Sc × Sc × Sc × Sc => smK (upd i 0 0) z.1)) noX a 100 [some (.ref q), some (.int (nI p)), some (.int (nI n)), some (.int b), some (.int (nI a0)), some (.int (if a0 < v then F1 else F0)), some (.int (nI w)), some (.int (nI v)), z8, z9, z10, z11] [] [(q, ob 12 i2 (rM A)), (A 1, aI g 2616 m), (A 5, aI g 400 tp), (A 12, aI g 5 fc5), (A 16, aI g 9 x2), (A 19, aI g 30976 st5), (A 20, aI g 15488 (cp R0 R1 v)), (A 21, aI g 15488 R0)] 0 0 := by
          intro c
          induction c with
          | zero =>
            intro v hv i2 x2 z8 z9 z10 z11 hi2
            obtain rfl : v = 15488 := by omega
            refine q_ax 6 R1 rfl (cp_full R0 R1 15488) rfl ?_
            have hge2 : (15488 : Int32) ≤ nI 15488 := by decide
            rw [if_pos ha]
            refine q_iload 7 102 dX12_best_100 rfl rfl ?_
            refine q_sipush 15488 105 dX12_best_102 sc_15488 rfl ?_
            refine q_icmp_ge 256 108 dX12_best_105 (by decide) rfl (fun h105 => ?_) (fun h105 => absurd hge2 h105)
            refine q_iinc 6 (nI (w + 1)) 259 (L' := [_, _, _, _, _, _, _, _, _, _, _, _]) dX12_best_256 rfl (inc1 (w)) (by decide) rfl rfl ?_
            refine q_goto 60 dX12_best_259 (by decide) ?_
            exact K9 _ _ _ _ _ _ _ _ hi2
          | succ c ih =>
            intro v hv i2 x2 z8 z9 z10 z11 hi2
            have hlt : ¬ (15488 : Int32) ≤ nI v := by rw [n15488]; exact nI_ge (by omega) (by omega)
            have hv9 : v < 15488 := by omega
            have K1 := fun i3 x3 z8 z9 z10 z11 h3 => ih (v + 1) (by omega) i3 x3 z8 z9 z10 z11 h3
            rw [← cp_s R0 R1 v] at K1
            clear ih
            rcases rCan_or (nI v) with hz | hz
            · rw [hR0 v hz] at K1
              have hne : v ≠ a0 := fun h => hcA (h ▸ hz)
              have e1 : (if a0 < v + 1 then F1 else F0) = (if a0 < v then F1 else F0) := by
                by_cases h1 : a0 < v
                · rw [if_pos h1, if_pos (by omega)]
                · rw [if_neg h1, if_neg (by omega)]
              have e2 : upd (cp R0 R1 v) v (R0 v) = cp R0 R1 v := by
                funext k
                by_cases hk : k = v
                · subst hk
                  rw [pk_us]
                  exact (if_neg (Nat.lt_irrefl _)).symm
                · rw [pk_un hk]
              rw [e1, e2] at K1
              refine q_iload 7 102 dX12_best_100 rfl rfl ?_
              refine q_sipush 15488 105 dX12_best_102 sc_15488 rfl ?_
              refine q_icmp_ge 256 108 dX12_best_105 (by decide) rfl (fun h105 => absurd h105 hlt) (fun h105 => ?_)
              refine q_iload 7 110 dX12_best_108 rfl rfl ?_
              refine q_cSi [] [0, 1, 2, 3, 4, 5, 6, 7] [0, 1, 2, 3, 4, 5, 6, 7] 113 (wr := [_, _, _, _, _, _, _, _]) (w1 := _) (ws' := [_, _, _, _, _, _, _, _]) p_canBe m_X12_253 dX12_best_110 rfl rfl rfl rfl rfl (by decide) (by decide) (by decide) (by decide) (Nat.le_of_ble_eq_true rfl) (by omega) (by omega) (by omega) rfl ?_
              refine q_if_ne 119 116 dX12_best_113 (by decide) rfl (fun h113 => absurd hz h113) (fun h113 => ?_)
              refine q_goto 250 dX12_best_116 (by decide) ?_
              refine q_iinc 7 (nI (v + 1)) 253 (L' := [_, _, _, _, _, _, _, _, _, _, _, _]) dX12_best_250 rfl (inc1 (v)) (by decide) rfl rfl ?_
              refine q_goto 100 dX12_best_253 (by decide) ?_
              exact K1 _ _ _ _ _ _ hi2
            · have hz0 : ¬ rCan (nI v) = 0 := by rw [hz]; decide
              rw [hR1 v hz0] at K1
              obtain ⟨sg, hsg, esg⟩ := hsv (2 * v + 1 - p) (by omega)
              have ep : nI (2 * v) + 1 - nI p = nI (2 * v + 1 - p) := by rw [nI_1, pk_sub (by omega)]
              have hb9 : 2 * v + 1 - p < 30976 := by omega
              have hf1 : v / 121 % 2 = p → ∀ s, bsV m st5 R0 p v s = hdV m R0 (nI p) (-1) v s sg := fun h s => by unfold bsV; rw [if_pos h, esg, nI_clamp (by omega)]
              have hf0 : ¬ v / 121 % 2 = p → ∀ s, bsV m st5 R0 p v s = hdV m R0 (nI p) (-1) v sg s := fun h s => by unfold bsV; rw [if_neg h, esg, nI_clamp (by omega)]
              have hfe : fdS (bsV m st5 R0 p v) (decide (v = a0)) (if a0 < v then F1 else F0) 4 = (if a0 < v + 1 then F1 else F0) := by
                by_cases h1 : v = a0
                · subst h1
                  rw [if_neg (Nat.lt_irrefl _), if_pos (by omega), decide_eq_true rfl]
                  exact hF1.symm
                · rw [decide_eq_false h1, fdS_f]
                  by_cases h2 : a0 < v
                  · rw [if_pos h2, if_pos (by omega)]
                  · rw [if_neg h2, if_neg (by omega)]
              rw [← hfe] at K1
              have hcs : (nI v = nI a0) ↔ v = a0 := eq_nI hv9 ha
              generalize (if a0 < v then F1 else F0) = fd at *
              generalize hfv : bsV m st5 R0 p v = fv at *
              have K134 : ∀ (c s : Nat), c + s = 4 → ∀ (i3 x3 : Sc) (z11 : Option Value), smK (upd i 0 0) i3 → WPs l g mtX12_best 34 0 0 (pE (fun z : Sc × Sc × Sc × Sc × Sc × Sc => some (.int (if b = 0 then R9 a0 else F9))) (fun z : Sc × Sc × Sc × Sc × Sc × Sc => [(q, ob 12 z.1 (rM A)), (A 1, aI g 2616 m), (A 5, aI g 400 tp), (A 12, aI g 5 z.2.1), (A 16, aI g 9 z.2.2.1), (A 19, aI g 30976 z.2.2.2.1), (A 20, aI g 15488 z.2.2.2.2.1), (A 21, aI g 15488 z.2.2.2.2.2)]) (fun z : Sc × Sc × Sc × Sc × Sc × Sc => smK (upd i 0 0) z.1)) noX a 134 [some (.ref q), some (.int (nI p)), some (.int (nI n)), some (.int b), some (.int (nI a0)), some (.int (fdS fv (decide (v = a0)) fd s)), some (.int (nI w)), some (.int (nI v)), some (.int (nI (v / 121 % 2))), some (.int (mxS fv s)), some (.int (nI s)), z11] [] [(q, ob 12 i3 (rM A)), (A 1, aI g 2616 m), (A 5, aI g 400 tp), (A 12, aI g 5 fc5), (A 16, aI g 9 x3), (A 19, aI g 30976 st5), (A 20, aI g 15488 (cp R0 R1 v)), (A 21, aI g 15488 R0)] 0 0 := by
                intro c
                induction c with
                | zero =>
                  intro s hs i3 x3 z11 hi3
                  obtain rfl : s = 4 := by omega
                  generalize mxS fv 4 = mx at *
                  generalize fdS fv (decide (v = a0)) fd 4 = fe at *
                  refine q_iload 10 136 dX12_best_134 rfl rfl ?_
                  refine q_iconst 4 137 dX12_best_136 ic_4 rfl ?_
                  refine q_icmp_ge 241 140 dX12_best_137 (by decide) rfl (fun h137 => ?_) (fun h137 => absurd (by decide) h137)
                  refine q_aload_n 0 242 dX12_best_241 rfl rfl rfl ?_
                  refine q_getR 0 245 f_X12_35 dX12_best_242 rfl rfl rfl rfl ?_
                  refine q_iload 7 247 dX12_best_245 rfl rfl ?_
                  refine q_iload 9 249 dX12_best_247 rfl rfl ?_
                  refine q_iast 6 v 250 (w' := [_, _, _, _, _, _, _, _]) dX12_best_249 rfl ⟨rfl, by omega, by decide⟩ rfl rfl ?_
                  refine q_iinc 7 (nI (v + 1)) 253 (L' := [_, _, _, _, _, _, _, _, _, _, _, _]) dX12_best_250 rfl (inc1 (v)) (by decide) rfl rfl ?_
                  refine q_goto 100 dX12_best_253 (by decide) ?_
                  exact K1 _ _ _ _ _ _ hi3
                | succ c ih =>
                  intro s hs i3 x3 z11 hi3
                  have hl4 : ¬ (4 : Int32) ≤ nI s := by rw [show (4 : Int32) = nI 4 from by decide]; exact nI_ge (by omega) (by omega)
                  have K2 := fun i3 x3 z11 h => ih (s + 1) (by omega) i3 x3 z11 h
                  rw [mxS, fdS] at K2
                  clear ih
                  have K203 : ∀ (i4 x4 : Sc), smK (upd i 0 0) i4 → WPs l g mtX12_best 34 0 0 (pE (fun z : Sc × Sc × Sc × Sc × Sc × Sc => some (.int (if b = 0 then R9 a0 else F9))) (fun z : Sc × Sc × Sc × Sc × Sc × Sc => [(q, ob 12 z.1 (rM A)), (A 1, aI g 2616 m), (A 5, aI g 400 tp), (A 12, aI g 5 z.2.1), (A 16, aI g 9 z.2.2.1), (A 19, aI g 30976 z.2.2.2.1), (A 20, aI g 15488 z.2.2.2.2.1), (A 21, aI g 15488 z.2.2.2.2.2)]) (fun z : Sc × Sc × Sc × Sc × Sc × Sc => smK (upd i 0 0) z.1)) noX a 203 [some (.ref q), some (.int (nI p)), some (.int (nI n)), some (.int b), some (.int (nI a0)), some (.int (fdS fv (decide (v = a0)) fd s)), some (.int (nI w)), some (.int (nI v)), some (.int (nI (v / 121 % 2))), some (.int (mxS fv s)), some (.int (nI s)), z11] [.int (fv s)] [(q, ob 12 i4 (rM A)), (A 1, aI g 2616 m), (A 5, aI g 400 tp), (A 12, aI g 5 fc5), (A 16, aI g 9 x4), (A 19, aI g 30976 st5), (A 20, aI g 15488 (cp R0 R1 v)), (A 21, aI g 15488 R0)] 0 0 := by
                    intro i4 x4 hi4
                    by_cases hle : fv s ≤ mxS fv s
                    · rw [if_pos hle, if_pos hle] at K2
                      refine q_istore 11 205 (L' := [_, _, _, _, _, _, _, _, _, _, _, _]) dX12_best_203 (by decide) rfl rfl ?_
                      refine q_iload 11 207 dX12_best_205 rfl rfl ?_
                      refine q_iload 9 209 dX12_best_207 rfl rfl ?_
                      refine q_icmp_gt 215 212 dX12_best_209 (by decide) rfl (fun h209 => absurd h209 (Int32.not_lt.mpr hle)) (fun h209 => ?_)
                      refine q_goto 235 dX12_best_212 (by decide) ?_
                      refine q_iinc 10 (nI (s + 1)) 238 (L' := [_, _, _, _, _, _, _, _, _, _, _, _]) dX12_best_235 rfl (inc1 (s)) (by decide) rfl rfl ?_
                      refine q_goto 134 dX12_best_238 (by decide) ?_
                      exact K2 _ _ _ hi4
                    · rw [if_neg hle, if_neg hle] at K2
                      by_cases hva : v = a0
                      · rw [show (if decide (v = a0) = true then nI s else fdS fv (decide (v = a0)) fd s) = nI s from if_pos (decide_eq_true hva)] at K2
                        refine q_istore 11 205 (L' := [_, _, _, _, _, _, _, _, _, _, _, _]) dX12_best_203 (by decide) rfl rfl ?_
                        refine q_iload 11 207 dX12_best_205 rfl rfl ?_
                        refine q_iload 9 209 dX12_best_207 rfl rfl ?_
                        refine q_icmp_gt 215 212 dX12_best_209 (by decide) rfl (fun h209 => ?_) (fun h209 => absurd (Int32.not_le.mp hle) h209)
                        refine q_iload 11 217 dX12_best_215 rfl rfl ?_
                        refine q_istore 9 219 (L' := [_, _, _, _, _, _, _, _, _, _, _, _]) dX12_best_217 (by decide) rfl rfl ?_
                        refine q_iload 7 221 dX12_best_219 rfl rfl ?_
                        refine q_iload 4 223 dX12_best_221 rfl rfl ?_
                        refine q_icmp_ne 231 226 dX12_best_223 (by decide) rfl (fun h223 => absurd (hcs.mpr hva) h223) (fun h223 => ?_)
                        refine q_iload 10 228 dX12_best_226 rfl rfl ?_
                        refine q_goto 233 dX12_best_228 (by decide) ?_
                        refine q_istore 5 235 (L' := [_, _, _, _, _, _, _, _, _, _, _, _]) dX12_best_233 (by decide) rfl rfl ?_
                        refine q_iinc 10 (nI (s + 1)) 238 (L' := [_, _, _, _, _, _, _, _, _, _, _, _]) dX12_best_235 rfl (inc1 (s)) (by decide) rfl rfl ?_
                        refine q_goto 134 dX12_best_238 (by decide) ?_
                        exact K2 _ _ _ hi4
                      · rw [show (if decide (v = a0) = true then nI s else fdS fv (decide (v = a0)) fd s) = fdS fv (decide (v = a0)) fd s from if_neg (by rw [decide_eq_false hva]; exact Bool.noConfusion)] at K2
                        refine q_istore 11 205 (L' := [_, _, _, _, _, _, _, _, _, _, _, _]) dX12_best_203 (by decide) rfl rfl ?_
                        refine q_iload 11 207 dX12_best_205 rfl rfl ?_
                        refine q_iload 9 209 dX12_best_207 rfl rfl ?_
                        refine q_icmp_gt 215 212 dX12_best_209 (by decide) rfl (fun h209 => ?_) (fun h209 => absurd (Int32.not_le.mp hle) h209)
                        refine q_iload 11 217 dX12_best_215 rfl rfl ?_
                        refine q_istore 9 219 (L' := [_, _, _, _, _, _, _, _, _, _, _, _]) dX12_best_217 (by decide) rfl rfl ?_
                        refine q_iload 7 221 dX12_best_219 rfl rfl ?_
                        refine q_iload 4 223 dX12_best_221 rfl rfl ?_
                        refine q_icmp_ne 231 226 dX12_best_223 (by decide) rfl (fun h223 => ?_) (fun h223 => absurd h223 (fun h => hva (hcs.mp h)))
                        refine q_iload 5 233 dX12_best_231 rfl rfl ?_
                        refine q_istore 5 235 (L' := [_, _, _, _, _, _, _, _, _, _, _, _]) dX12_best_233 (by decide) rfl rfl ?_
                        refine q_iinc 10 (nI (s + 1)) 238 (L' := [_, _, _, _, _, _, _, _, _, _, _, _]) dX12_best_235 rfl (inc1 (s)) (by decide) rfl rfl ?_
                        refine q_goto 134 dX12_best_238 (by decide) ?_
                        exact K2 _ _ _ hi4
                  by_cases hsp : v / 121 % 2 = p
                  · have e3 := hf1 hsp s
                    rw [e3] at K203
                    refine q_iload 10 136 dX12_best_134 rfl rfl ?_
                    refine q_iconst 4 137 dX12_best_136 ic_4 rfl ?_
                    refine q_icmp_ge 241 140 dX12_best_137 (by decide) rfl (fun h137 => absurd h137 hl4) (fun h137 => ?_)
                    refine q_iload 8 142 dX12_best_140 rfl rfl ?_
                    refine q_iload_n 1 143 dX12_best_142 rfl rfl rfl ?_
                    refine q_icmp_ne 176 146 dX12_best_143 (by decide) rfl (fun h143 => absurd (by rw [hsp]) h143) (fun h143 => ?_)
                    refine q_aload_n 0 147 dX12_best_146 rfl rfl rfl ?_
                    refine q_iload 7 149 dX12_best_147 rfl rfl ?_
                    refine q_iload 10 151 dX12_best_149 rfl rfl ?_
                    refine q_aload_n 0 152 dX12_best_151 rfl rfl rfl ?_
                    refine q_getR 0 155 f_X12_32 dX12_best_152 rfl rfl rfl rfl ?_
                    refine q_iconst 2 156 dX12_best_155 ic_2 rfl ?_
                    refine q_iload 7 158 dX12_best_156 rfl rfl ?_
                    refine q_imul 159 dX12_best_158 rfl ?_
                    rw [n2k]
                    refine q_iconst 1 160 dX12_best_159 ic_1 rfl ?_
                    refine q_iadd 161 dX12_best_160 rfl ?_
                    refine q_iload_n 1 162 dX12_best_161 rfl rfl rfl ?_
                    refine q_isub 163 dX12_best_162 rfl ?_
                    rw [ep]
                    generalize hix : 2 * v + 1 - p = ix at *
                    refine q_iald 5 ix 164 dX12_best_163 rfl ⟨rfl, by omega, by decide⟩ rfl ?_
                    rw [esg]
                    refine q_iload_n 1 165 dX12_best_164 rfl rfl rfl ?_
                    refine q_iconst (-1) 166 dX12_best_165 ic_m1 rfl ?_
                    refine q_aload_n 0 167 dX12_best_166 rfl rfl rfl ?_
                    refine q_getR 0 170 f_X12_38 dX12_best_167 rfl rfl rfl rfl ?_
                    refine q_xVi 0 [0, 1, 4, 7] [2, 3, 5, 6] [4, 5, 0, 1, 6, 2, 3, 7] 173 (wr := [_, _, _, _]) (w1 := _) (ws' := fun _ => [_, _, _, _, _, _, _, _]) (p_had hv9 hz0 (by omega) hsg hH) m_X12_249 dX12_best_170 rfl rfl rfl rfl rfl rfl rfl (fun _ => rfl) (by decide) (by decide) (by decide) (by decide) (Nat.le_of_ble_eq_true rfl) (by omega) (by omega) (by omega) rfl (fun z170 hx170 => ?_)
                    obtain ⟨i170, x170⟩ := z170
                    dsimp only at hx170 ⊢
                    refine q_goto 203 dX12_best_173 (by decide) ?_
                    exact K203 _ _ (hi3.tr hx170.K)
                  · have e3 := hf0 hsp s
                    rw [e3] at K203
                    refine q_iload 10 136 dX12_best_134 rfl rfl ?_
                    refine q_iconst 4 137 dX12_best_136 ic_4 rfl ?_
                    refine q_icmp_ge 241 140 dX12_best_137 (by decide) rfl (fun h137 => absurd h137 hl4) (fun h137 => ?_)
                    refine q_iload 8 142 dX12_best_140 rfl rfl ?_
                    refine q_iload_n 1 143 dX12_best_142 rfl rfl rfl ?_
                    refine q_icmp_ne 176 146 dX12_best_143 (by decide) rfl (fun h143 => ?_) (fun h143 => absurd h143 (fun h => hsp ((nI_eq (by omega) (by omega)).mp h)))
                    refine q_aload_n 0 177 dX12_best_176 rfl rfl rfl ?_
                    refine q_iload 7 179 dX12_best_177 rfl rfl ?_
                    refine q_aload_n 0 180 dX12_best_179 rfl rfl rfl ?_
                    refine q_getR 0 183 f_X12_32 dX12_best_180 rfl rfl rfl rfl ?_
                    refine q_iconst 2 184 dX12_best_183 ic_2 rfl ?_
                    refine q_iload 7 186 dX12_best_184 rfl rfl ?_
                    refine q_imul 187 dX12_best_186 rfl ?_
                    rw [n2k]
                    refine q_iconst 1 188 dX12_best_187 ic_1 rfl ?_
                    refine q_iadd 189 dX12_best_188 rfl ?_
                    refine q_iload_n 1 190 dX12_best_189 rfl rfl rfl ?_
                    refine q_isub 191 dX12_best_190 rfl ?_
                    rw [ep]
                    generalize hix : 2 * v + 1 - p = ix at *
                    refine q_iald 5 ix 192 dX12_best_191 rfl ⟨rfl, by omega, by decide⟩ rfl ?_
                    rw [esg]
                    refine q_iload 10 194 dX12_best_192 rfl rfl ?_
                    refine q_iload_n 1 195 dX12_best_194 rfl rfl rfl ?_
                    refine q_iconst (-1) 196 dX12_best_195 ic_m1 rfl ?_
                    refine q_aload_n 0 197 dX12_best_196 rfl rfl rfl ?_
                    refine q_getR 0 200 f_X12_38 dX12_best_197 rfl rfl rfl rfl ?_
                    refine q_xVi 0 [0, 1, 4, 7] [2, 3, 5, 6] [4, 5, 0, 1, 6, 2, 3, 7] 203 (wr := [_, _, _, _]) (w1 := _) (ws' := fun _ => [_, _, _, _, _, _, _, _]) (p_had hv9 hz0 hsg (by omega) hH) m_X12_249 dX12_best_200 rfl rfl rfl rfl rfl rfl rfl (fun _ => rfl) (by decide) (by decide) (by decide) (by decide) (Nat.le_of_ble_eq_true rfl) (by omega) (by omega) (by omega) rfl (fun z200 hx200 => ?_)
                    obtain ⟨i200, x200⟩ := z200
                    dsimp only at hx200 ⊢
                    exact K203 _ _ (hi3.tr hx200.K)
              have K3 := K134 4 0 rfl i2 x2
              rw [mxS, fdS] at K3
              refine q_iload 7 102 dX12_best_100 rfl rfl ?_
              refine q_sipush 15488 105 dX12_best_102 sc_15488 rfl ?_
              refine q_icmp_ge 256 108 dX12_best_105 (by decide) rfl (fun h105 => absurd h105 hlt) (fun h105 => ?_)
              refine q_iload 7 110 dX12_best_108 rfl rfl ?_
              refine q_cSi [] [0, 1, 2, 3, 4, 5, 6, 7] [0, 1, 2, 3, 4, 5, 6, 7] 113 (wr := [_, _, _, _, _, _, _, _]) (w1 := _) (ws' := [_, _, _, _, _, _, _, _]) p_canBe m_X12_253 dX12_best_110 rfl rfl rfl rfl rfl (by decide) (by decide) (by decide) (by decide) (Nat.le_of_ble_eq_true rfl) (by omega) (by omega) (by omega) rfl ?_
              refine q_if_ne 119 116 dX12_best_113 (by decide) rfl (fun h113 => ?_) (fun h113 => absurd h113 hz0)
              refine q_iload 7 121 dX12_best_119 rfl rfl ?_
              refine q_bipush 121 123 dX12_best_121 bc_121 rfl ?_
              refine q_idiv 124 dX12_best_123 (by decide) rfl ?_
              refine q_iconst 2 125 dX12_best_124 ic_2 rfl ?_
              refine q_irem 126 dX12_best_125 (by decide) rfl ?_
              rw [n121 hv9]
              refine q_istore 8 128 (L' := [_, _, _, _, _, _, _, _, _, _, _, _]) dX12_best_126 (by decide) rfl rfl ?_
              refine q_iconst (-1) 129 dX12_best_128 ic_m1 rfl ?_
              refine q_istore 9 131 (L' := [_, _, _, _, _, _, _, _, _, _, _, _]) dX12_best_129 (by decide) rfl rfl ?_
              refine q_iconst 0 132 dX12_best_131 ic_0 rfl ?_
              refine q_istore 10 134 (L' := [_, _, _, _, _, _, _, _, _, _, _, _]) dX12_best_132 (by decide) rfl rfl ?_
              exact K3 _ hi2
        have K69 : ∀ (c v : Nat), c + v = 15488 → ∀ (z8 z9 z10 z11 : Option Value), WPs l g mtX12_best 34 0 0 (pE (fun z : Sc × Sc × Sc × Sc × Sc × Sc => some (.int (if b = 0 then R9 a0 else F9))) (fun z : Sc × Sc × Sc × Sc × Sc × Sc => [(q, ob 12 z.1 (rM A)), (A 1, aI g 2616 m), (A 5, aI g 400 tp), (A 12, aI g 5 z.2.1), (A 16, aI g 9 z.2.2.1), (A 19, aI g 30976 z.2.2.2.1), (A 20, aI g 15488 z.2.2.2.2.1), (A 21, aI g 15488 z.2.2.2.2.2)]) (fun z : Sc × Sc × Sc × Sc × Sc × Sc => smK (upd i 0 0) z.1)) noX a 69 [some (.ref q), some (.int (nI p)), some (.int (nI n)), some (.int b), some (.int (nI a0)), some (.int F0), some (.int (nI w)), some (.int (nI v)), z8, z9, z10, z11] [] [(q, ob 12 i1 (rM A)), (A 1, aI g 2616 m), (A 5, aI g 400 tp), (A 12, aI g 5 fc5), (A 16, aI g 9 x1), (A 19, aI g 30976 st5), (A 20, aI g 15488 R0), (A 21, aI g 15488 (cp b1 R0 v))] 0 0 := by
          intro c
          induction c with
          | zero =>
            intro v hv z8 z9 z10 z11
            obtain rfl : v = 15488 := by omega
            refine q_ax 7 R0 rfl (cp_full b1 R0 15488) rfl ?_
            have hge2 : (15488 : Int32) ≤ nI 15488 := by decide
            have K1 := K100 15488 0 rfl i1 x1
            rw [cp_0, if_neg (Nat.not_lt_zero _)] at K1
            refine q_iload 7 71 dX12_best_69 rfl rfl ?_
            refine q_sipush 15488 74 dX12_best_71 sc_15488 rfl ?_
            refine q_icmp_ge 97 77 dX12_best_74 (by decide) rfl (fun h74 => ?_) (fun h74 => absurd hge2 h74)
            refine q_iconst 0 98 dX12_best_97 ic_0 rfl ?_
            refine q_istore 7 100 (L' := [_, _, _, _, _, _, _, _, _, _, _, _]) dX12_best_98 (by decide) rfl rfl ?_
            exact K1 _ _ _ _ hi
          | succ c ih =>
            intro v hv z8 z9 z10 z11
            have hlt : ¬ (15488 : Int32) ≤ nI v := by rw [n15488]; exact nI_ge (by omega) (by omega)
            have K1 := ih (v + 1) (by omega)
            rw [← cp_s b1 R0 v] at K1
            clear ih
            refine q_iload 7 71 dX12_best_69 rfl rfl ?_
            refine q_sipush 15488 74 dX12_best_71 sc_15488 rfl ?_
            refine q_icmp_ge 97 77 dX12_best_74 (by decide) rfl (fun h74 => absurd h74 hlt) (fun h74 => ?_)
            refine q_aload_n 0 78 dX12_best_77 rfl rfl rfl ?_
            refine q_getR 0 81 f_X12_38 dX12_best_78 rfl rfl rfl rfl ?_
            refine q_iload 7 83 dX12_best_81 rfl rfl ?_
            refine q_aload_n 0 84 dX12_best_83 rfl rfl rfl ?_
            refine q_getR 0 87 f_X12_35 dX12_best_84 rfl rfl rfl rfl ?_
            refine q_iload 7 89 dX12_best_87 rfl rfl ?_
            refine q_iald 6 v 90 dX12_best_89 rfl ⟨rfl, by omega, by decide⟩ rfl ?_
            refine q_iast 7 v 91 (w' := [_, _, _, _, _, _, _, _]) dX12_best_90 rfl ⟨rfl, by omega, by decide⟩ rfl rfl ?_
            refine q_iinc 7 (nI (v + 1)) 94 (L' := [_, _, _, _, _, _, _, _, _, _, _, _]) dX12_best_91 rfl (inc1 (v)) (by decide) rfl rfl ?_
            refine q_goto 69 dX12_best_94 (by decide) ?_
            exact K1 _ _ _ _
        have K1 := K69 15488 0 rfl
        rw [cp_0] at K1
        refine q_iload 6 62 dX12_best_60 rfl rfl ?_
        refine q_iload_n 2 63 dX12_best_62 rfl rfl rfl ?_
        refine q_icmp_ge 262 66 dX12_best_63 (by decide) rfl (fun h63 => absurd h63 hge) (fun h63 => ?_)
        refine q_iconst 0 67 dX12_best_66 ic_0 rfl ?_
        refine q_istore 7 69 (L' := [_, _, _, _, _, _, _, _, _, _, _, _]) dX12_best_67 (by decide) rfl rfl ?_
        exact K1 _ _ _ _
    have K1 := K60 n 0 rfl i5 x5 ls5
    rw [show bsR m st5 p 0 = fun _ => 0 from rfl, show bsF m st5 p a0 0 = -1 from rfl] at K1
    refine q_iconst 0 58 dX12_best_57 ic_0 rfl ?_
    refine q_istore 6 60 (L' := [_, _, _, _, _, _, _, _, _, _, _, _]) dX12_best_58 (by decide) rfl rfl ?_
    exact K1 _ _ _ _ _ hi5
  generalize hVAL : (if b = 0 then bsR m (svA m) p n a0 else bsF m (svA m) p a0 n) = V9 at *
  have K35 : ∀ (i5 fc5 x5 ls5 : Sc), smK (upd i 0 0) i5 → ∀ (c v : Nat), c + v = 15488 → WPs l g mtX12_best 34 0 0 (pE (fun z : Sc × Sc × Sc × Sc × Sc × Sc => some (.int V9)) (fun z : Sc × Sc × Sc × Sc × Sc × Sc => [(q, ob 12 z.1 (rM A)), (A 1, aI g 2616 m), (A 5, aI g 400 tp), (A 12, aI g 5 z.2.1), (A 16, aI g 9 z.2.2.1), (A 19, aI g 30976 z.2.2.2.1), (A 20, aI g 15488 z.2.2.2.2.1), (A 21, aI g 15488 z.2.2.2.2.2)]) (fun z : Sc × Sc × Sc × Sc × Sc × Sc => smK (upd i 0 0) z.1)) noX a 35 [some (.ref q), some (.int (nI p)), some (.int (nI n)), some (.int b), some (.int (nI a0)), some (.int (-1)), some (.int (nI v)), none, none, none, none, none] [] [(q, ob 12 i5 (rM A)), (A 1, aI g 2616 m), (A 5, aI g 400 tp), (A 12, aI g 5 fc5), (A 16, aI g 9 x5), (A 19, aI g 30976 (svA m)), (A 20, aI g 15488 (cp nw (fun _ => 0) v)), (A 21, aI g 15488 ls5)] 0 0 := by
    intro i5 fc5 x5 ls5 hi5 c
    induction c with
    | zero =>
      intro v hv
      obtain rfl : v = 15488 := by omega
      refine q_ax 6 (fun _ => 0) rfl (cp_full nw (fun _ => 0) 15488) rfl ?_
      have hge2 : (15488 : Int32) ≤ nI 15488 := by decide
      refine q_iload 6 37 dX12_best_35 rfl rfl ?_
      refine q_sipush 15488 40 dX12_best_37 sc_15488 rfl ?_
      refine q_icmp_ge 57 43 dX12_best_40 (by decide) rfl (fun h40 => ?_) (fun h40 => absurd hge2 h40)
      exact K57 _ _ _ _ _ _ _ _ _ _ hi5
    | succ c ih =>
      intro v hv
      have hlt : ¬ (15488 : Int32) ≤ nI v := by rw [n15488]; exact nI_ge (by omega) (by omega)
      have K1 := ih (v + 1) (by omega)
      rw [← cp_s nw (fun _ => 0) v] at K1
      clear ih
      refine q_iload 6 37 dX12_best_35 rfl rfl ?_
      refine q_sipush 15488 40 dX12_best_37 sc_15488 rfl ?_
      refine q_icmp_ge 57 43 dX12_best_40 (by decide) rfl (fun h40 => absurd h40 hlt) (fun h40 => ?_)
      refine q_aload_n 0 44 dX12_best_43 rfl rfl rfl ?_
      refine q_getR 0 47 f_X12_35 dX12_best_44 rfl rfl rfl rfl ?_
      refine q_iload 6 49 dX12_best_47 rfl rfl ?_
      refine q_iconst 0 50 dX12_best_49 ic_0 rfl ?_
      refine q_iast 6 v 51 (w' := [_, _, _, _, _, _, _, _]) dX12_best_50 rfl ⟨rfl, by omega, by decide⟩ rfl rfl ?_
      refine q_iinc 6 (nI (v + 1)) 54 (L' := [_, _, _, _, _, _, _, _, _, _, _, _]) dX12_best_51 rfl (inc1 (v)) (by decide) rfl rfl ?_
      refine q_goto 35 dX12_best_54 (by decide) ?_
      exact K1
  refine q_aload_n 0 1 dX12_best_0 rfl rfl rfl ?_
  refine q_aload_n 0 2 dX12_best_1 rfl rfl rfl ?_
  refine q_iload_n 1 3 dX12_best_2 rfl rfl rfl ?_
  refine q_iload_n 2 4 dX12_best_3 rfl rfl rfl ?_
  refine q_cVi 0 [0, 1, 4] [2, 3, 5, 6, 7] [5, 6, 0, 1, 7, 2, 3, 4] 7 (wr := [_, _, _, _, _]) (w1 := _) (ws' := [_, _, _, _, _, _, _, _]) p_refuses m_X12_260 dX12_best_4 rfl rfl rfl rfl rfl rfl rfl rfl (by decide) (by decide) (by decide) (by decide) (Nat.le_of_ble_eq_true rfl) (by omega) (by omega) (by omega) rfl ?_
  rw [reT_S, h0]
  refine q_putI 0 10 (w' := [_, _, _, _, _, _, _, _]) f_X12_67 ft_X12_0 dX12_best_7 rfl rfl rfl rfl ?_
  refine q_aload_n 0 11 dX12_best_10 rfl rfl rfl ?_
  refine q_getI 0 14 f_X12_67 dX12_best_11 rfl rfl rfl ?_
  refine q_if_le 19 17 dX12_best_14 (by decide) rfl (fun h14 => ?_) (fun h14 => absurd z_le h14)
  refine q_aload_n 0 20 dX12_best_19 rfl rfl rfl ?_
  refine q_ax 3 (fz fc) rfl (fz_eq fc) rfl ?_
  refine q_cVv 0 [0, 1, 2, 3, 4, 5] [6, 7] [2, 3, 4, 5, 6, 7, 0, 1] 23 (wr := [_, _]) (w1 := _) (ws' := [_, _, _, _, _, _, _, _]) (p_allStyles hM.2.2.1 hM.2.2.2) m_X12_263 dX12_best_20 rfl rfl rfl rfl rfl rfl rfl rfl (by decide) (by decide) (by decide) (by decide) (Nat.le_of_ble_eq_true rfl) (by omega) (by omega) (by omega) rfl ?_
  have hi5 := alI_K (upd i 0 0) m (fz fc) (rTake m x) 15488
  refine q_ax 5 (svA m) rfl (fun k hk => alS_sv (fz_O fc) 15488 k (by omega)) rfl ?_
  generalize alI (upd i 0 0) m (fz fc) (rTake m x) 15488 = i5 at *
  generalize alF m (fz fc) (rTake m x) 15488 = fc5 at *
  generalize alX m (rTake m x) 15488 = x5 at *
  refine q_aload_n 0 24 dX12_best_23 rfl rfl rfl ?_
  refine q_cVi 0 [0, 1, 4] [2, 3, 5, 6, 7] [5, 6, 0, 1, 7, 2, 3, 4] 27 (wr := [_, _, _, _, _]) (w1 := _) (ws' := [_, _, _, _, _, _, _, _]) p_atNow m_X12_270 dX12_best_24 rfl rfl rfl rfl rfl rfl rfl rfl (by decide) (by decide) (by decide) (by decide) (Nat.le_of_ble_eq_true rfl) (by omega) (by omega) (by omega) rfl ?_
  rw [rNum_c (take_S m x5), eA]
  refine q_istore 4 29 (L' := [_, _, _, _, _, _, _, _, _, _, _, _]) dX12_best_27 (by decide) rfl rfl ?_
  refine q_iconst (-1) 30 dX12_best_29 ic_m1 rfl ?_
  refine q_istore 5 32 (L' := [_, _, _, _, _, _, _, _, _, _, _, _]) dX12_best_30 (by decide) rfl rfl ?_
  refine q_iconst 0 33 dX12_best_32 ic_0 rfl ?_
  refine q_istore 6 35 (L' := [_, _, _, _, _, _, _, _, _, _, _, _]) dX12_best_33 (by decide) rfl rfl ?_
  have K1 := K35 i5 fc5 (rTake m x5) ls hi5 15488 0 rfl
  rw [cp_0] at K1
  exact K1

