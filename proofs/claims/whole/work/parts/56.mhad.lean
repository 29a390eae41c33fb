/-! ===== had ===== -/
/-- the object's ints but for the winner and whose point it was -/
def sm2 (i j : Sc) : Prop := ∀ z, z ≠ 17 → z ≠ 18 → j z = i z
theorem sm2.rf {i : Sc} : sm2 i i := fun _ _ _ => rfl
theorem sm2.tr {i j k : Sc} (h : sm2 i j) (h2 : sm2 j k) : sm2 i k := fun z a b => (h2 z a b).trans (h z a b)
theorem sm2_iPt (i x : Sc) (p : Int32) : sm2 i (iPt i x p) := by
  intro z h1 h2
  unfold iPt iPtE
  split <;> simp [upd, h1, h2]
theorem sm2_iRal (i m x : Sc) (how : Int32) : sm2 i (iRal i m x how) := by
  intro z h1 h2
  unfold iRal iGive
  split
  · simp [i0, upd, h1, h2]
  · rw [sm2_iPt _ _ _ z h1 h2]
    simp [i0, upd, h1, h2]
/-- who wins the game by the rally, or -1 -/
def rWn (m x : Sc) (how : Int32) : Int32 := if rWho m x how = 0 then -1 else if sWins (sPt1 (sPt0 x (rP x (rWho m x how)))) (rP x (rWho m x how)) = 0 then -1 else rP x (rWho m x how)
theorem iRal_17 (i m x : Sc) (how : Int32) : iRal i m x how 17 = rWn m x how := by
  unfold iRal iGive rWn
  by_cases h : rWho m x how = 0
  · rw [if_pos h, if_pos h]; rfl
  · rw [if_neg h, if_neg h]
    unfold iPt iPtE
    by_cases h2 : sWins (sPt1 (sPt0 x (rP x (rWho m x how)))) (rP x (rWho m x how)) = 0
    · rw [if_pos h2, if_pos h2]; rfl
    · rw [if_neg h2, if_neg h2]; rfl
def hdC (m : Sc) (s h w : Nat) : Int32 := m (12 * (4 * s + h) + w)
def hdT (m tb : Sc) (p th : Int32) (j s h w : Nat) : Int64 :=
  if hdC m s h w = 0 then 0 else if rWn m (U m (nI j)) (nI w) = -1 then (hdC m s h w).toInt64 * (tb (rNum (rRal m (U m (nI j)) (nI w))).toNatClampNeg).toInt64
  else if rWn m (U m (nI j)) (nI w) = p ∧ (th = -1 ∨ rRal m (U m (nI j)) (nI w) 2 = th) then (hdC m s h w).toInt64 * 1000000000 else 0
def hdS (m tb : Sc) (p th : Int32) (j s h : Nat) : Nat → Int64
  | 0 => 0
  | w + 1 => hdS m tb p th j s h w + hdT m tb p th j s h w
def hdV (m tb : Sc) (p th : Int32) (j s h : Nat) : Int32 := (hdS m tb p th j s h 12 / 100).toInt32
theorem hdS_0 {m tb : Sc} {p th : Int32} {j s h w : Nat} {v : Int64} (hT : hdT m tb p th j s h w = v) : hdS m tb p th j s h (w + 1) = hdS m tb p th j s h w + v := by rw [← hT]; rfl
theorem l_add0 (a : Int64) : a + 0 = a := Int64.add_zero a
theorem ix_ch (s h w : Nat) : (0 : Int32) + 12 * (4 * nI s + nI h) + nI w = nI (12 * (4 * s + h) + w) := by
  rw [Int32.zero_add, show (4 : Int32) = nI 4 from by decide, show (12 : Int32) = nI 12 from by decide, pk_mul, nI_add, pk_mul, nI_add]
theorem p_had {l : Launch} {g : Gh} {q T : Nat} {A : Nat → Nat} {i m x tb : Sc} {p th : Int32} {j s h : Nat} (hj : j < 15488) (hc : ¬ rCan (nI j) = 0) (hs : s < 4) (hh : h < 4) (hH : HOK m) :
    Ce l g yX12_had (Cond.code yX12_had cX12_had 11 (some .int)) 4 [.ref q, .int (nI j), .int (nI s), .int (nI h), .int p, .int th, .ref T] [(q, ob 12 i (rM A)), (A 1, aI g 2616 m), (A 16, aI g 9 x), (T, aI g 15488 tb)]
      (fun _ : Sc × Sc => some (.int (hdV m tb p th j s h))) (fun z : Sc × Sc => [(q, ob 12 z.1 (rM A)), (A 1, aI g 2616 m), (A 16, aI g 9 z.2), (T, aI g 15488 tb)]) (fun z : Sc × Sc => sm2 i z.1) := by
  refine ct_of (M := mtX12_had) [some (.ref q), some (.int (nI j)), some (.int (nI s)), some (.int (nI h)), some (.int p), some (.int th), some (.ref T), none, none, none, none] rfl (by decide) (Nat.le_of_ble_eq_true rfl) (fun _ h => h) (fun a => ?_)
  have hV := U_Val m hj hc
  have K : ∀ (c w : Nat), c + w = 12 → ∀ (i1 x1 : Sc) (z : Option Value), sm2 i i1 → WPs l g mtX12_had 4 0 0 (pE (fun _ : Sc × Sc => some (.int (hdV m tb p th j s h))) (fun z : Sc × Sc => [(q, ob 12 z.1 (rM A)), (A 1, aI g 2616 m), (A 16, aI g 9 z.2), (T, aI g 15488 tb)]) (fun z : Sc × Sc => sm2 i z.1)) noX a 6 [some (.ref q), some (.int (nI j)), some (.int (nI s)), some (.int (nI h)), some (.int p), some (.int th), some (.ref T), some (.long (hdS m tb p th j s h w)), none, some (.int (nI w)), z] [] [(q, ob 12 i1 (rM A)), (A 1, aI g 2616 m), (A 16, aI g 9 x1), (T, aI g 15488 tb)] 0 0 := by
    intro c
    induction c with
    | zero =>
      intro w hw i1 x1 z hi
      obtain rfl : w = 12 := by omega
      unfold hdV
      generalize hdS m tb p th j s h 12 = v
      refine q_iload 9 8 dX12_had_6 rfl rfl ?_
      refine q_bipush 12 10 dX12_had_8 bc_12 rfl ?_
      refine q_icmp_ge 124 13 dX12_had_10 (by decide) rfl (fun h10 => ?_) (fun h10 => absurd (by decide) h10)
      refine q_lload 7 126 dX12_had_124 rfl rfl ?_
      refine q_ldc2 100 129 k_X12_247 dX12_had_126 rfl ?_
      refine q_ldiv 130 dX12_had_129 (by decide) rfl ?_
      refine q_l2i 131 dX12_had_130 rfl ?_
      refine q_ireturn dX12_had_131 rfl ?_
      exact pE.mk (i1, x1) hi rfl rfl
    | succ c ih =>
      intro w hw i1 x1 z hi
      have hlt : ¬ (12 : Int32) ≤ nI w := by rw [show (12 : Int32) = nI 12 from by decide]; exact nI_ge (by omega) (by omega)
      have hN : rWn m (U m (nI j)) (nI w) = -1 → ∃ j2 : Nat, j2 < 15488 ∧ rNum (rRal m (U m (nI j)) (nI w)) = nI j2 := by
        intro _
        have hv : Val (rRal m (U m (nI j)) (nI w)) := by
          refine Val_rRal hH hV (fun _ h2 => ?_)
          have h2' : ¬ w < 2 := fun h9 => h2 (nI_lt (a := w) (b := 2) h9 (by decide))
          rw [show (2 : Int32) = nI 2 from by decide, pk_sub (by omega)]
          exact ⟨nI_pos' (by omega), nI_le (a := w - 2) (b := 9) (by omega) (by decide)⟩
        obtain ⟨j2, h1, h2, -⟩ := num_of (m := m) hv
        exact ⟨j2, h1, h2⟩
      have hT0 : hdC m s h w = 0 → hdT m tb p th j s h w = 0 := fun h0 => if_pos h0
      have hT1 : ¬ hdC m s h w = 0 → rWn m (U m (nI j)) (nI w) = -1 → ∀ j2 : Nat, j2 < 15488 → rNum (rRal m (U m (nI j)) (nI w)) = nI j2 → hdT m tb p th j s h w = (hdC m s h w).toInt64 * (tb j2).toInt64 := by
        intro h0 h1 j2 h2 h3
        unfold hdT
        rw [if_neg h0, if_pos h1, h3, nI_clamp (by omega)]
      have hT2 : ¬ hdC m s h w = 0 → ¬ rWn m (U m (nI j)) (nI w) = -1 → rWn m (U m (nI j)) (nI w) = p ∧ (th = -1 ∨ rRal m (U m (nI j)) (nI w) 2 = th) → hdT m tb p th j s h w = (hdC m s h w).toInt64 * 1000000000 := by
        intro h0 h1 h2
        unfold hdT
        rw [if_neg h0, if_neg h1, if_pos h2]
      have hT3 : ¬ hdC m s h w = 0 → ¬ rWn m (U m (nI j)) (nI w) = -1 → ¬ (rWn m (U m (nI j)) (nI w) = p ∧ (th = -1 ∨ rRal m (U m (nI j)) (nI w) 2 = th)) → hdT m tb p th j s h w = 0 := by
        intro h0 h1 h2
        unfold hdT
        rw [if_neg h0, if_neg h1, if_neg h2]
      have K1 := ih (w + 1) (by omega)
      clear ih
      unfold hdV at K1 ⊢
      generalize hdS m tb p th j s h 12 = v at *
      have hS : ∀ v : Int64, hdT m tb p th j s h w = v → hdS m tb p th j s h (w + 1) = hdS m tb p th j s h w + v := fun v hv => hdS_0 hv
      generalize hdS m tb p th j s h (w + 1) = v1 at *
      generalize hdS m tb p th j s h w = v0 at *
      generalize hdT m tb p th j s h w = t0 at *
      have K2 : ∀ (i2 x2 : Sc) (v2 : Int64) (c2 : Int32), sm2 i i2 → v1 = v2 → WPs l g mtX12_had 4 0 0 (pE (fun _ : Sc × Sc => some (.int (v / 100).toInt32)) (fun z : Sc × Sc => [(q, ob 12 z.1 (rM A)), (A 1, aI g 2616 m), (A 16, aI g 9 z.2), (T, aI g 15488 tb)]) (fun z : Sc × Sc => sm2 i z.1)) noX a 118 [some (.ref q), some (.int (nI j)), some (.int (nI s)), some (.int (nI h)), some (.int p), some (.int th), some (.ref T), some (.long v2), none, some (.int (nI w)), some (.int c2)] [] [(q, ob 12 i2 (rM A)), (A 1, aI g 2616 m), (A 16, aI g 9 x2), (T, aI g 15488 tb)] 0 0 := by
        intro i2 x2 v2 c2 hi2 hv2
        subst hv2
        refine q_iinc 9 (nI (w + 1)) 121 (L' := [_, _, _, _, _, _, _, _, _, _, _]) dX12_had_118 rfl (inc1 (w)) (by decide) rfl rfl ?_
        refine q_goto 6 dX12_had_121 (by decide) ?_
        exact K1 _ _ _ hi2
      have e12 : m (12 * (4 * s + h) + w) = hdC m s h w := rfl
      by_cases h0 : hdC m s h w = 0
      · skip
        refine q_iload 9 8 dX12_had_6 rfl rfl ?_
        refine q_bipush 12 10 dX12_had_8 bc_12 rfl ?_
        refine q_icmp_ge 124 13 dX12_had_10 (by decide) rfl (fun h10 => absurd h10 hlt) (fun h10 => ?_)
        refine q_aload_n 0 14 dX12_had_13 rfl rfl rfl ?_
        refine q_getR 0 17 f_X12_7 dX12_had_14 rfl rfl rfl rfl ?_
        refine q_iconst 0 18 dX12_had_17 ic_0 rfl ?_
        refine q_bipush 12 20 dX12_had_18 bc_12 rfl ?_
        refine q_iconst 4 21 dX12_had_20 ic_4 rfl ?_
        refine q_iload_n 2 22 dX12_had_21 rfl rfl rfl ?_
        refine q_imul 23 dX12_had_22 rfl ?_
        refine q_iload_n 3 24 dX12_had_23 rfl rfl rfl ?_
        refine q_iadd 25 dX12_had_24 rfl ?_
        refine q_imul 26 dX12_had_25 rfl ?_
        refine q_iadd 27 dX12_had_26 rfl ?_
        refine q_iload 9 29 dX12_had_27 rfl rfl ?_
        refine q_iadd 30 dX12_had_29 rfl ?_
        rw [ix_ch]
        generalize hix : 12 * (4 * s + h) + w = ix at *
        refine q_iald 1 ix 31 dX12_had_30 rfl ⟨rfl, by omega, by decide⟩ rfl ?_
        refine q_istore 10 33 (L' := [_, _, _, _, _, _, _, _, _, _, _]) dX12_had_31 (by decide) rfl rfl ?_
        refine q_iload 10 35 dX12_had_33 rfl rfl ?_
        refine q_if_ne 41 38 dX12_had_35 (by decide) rfl (fun h35 => absurd (by rw [e12]; exact h0) h35) (fun h35 => ?_)
        refine q_goto 118 dX12_had_38 (by decide) ?_
        exact K2 _ _ _ _ hi (by rw [hS 0 (hT0 h0)]; exact l_add0 _)
      · generalize hu : U m (nI j) = u at *
        refine q_iload 9 8 dX12_had_6 rfl rfl ?_
        refine q_bipush 12 10 dX12_had_8 bc_12 rfl ?_
        refine q_icmp_ge 124 13 dX12_had_10 (by decide) rfl (fun h10 => absurd h10 hlt) (fun h10 => ?_)
        refine q_aload_n 0 14 dX12_had_13 rfl rfl rfl ?_
        refine q_getR 0 17 f_X12_7 dX12_had_14 rfl rfl rfl rfl ?_
        refine q_iconst 0 18 dX12_had_17 ic_0 rfl ?_
        refine q_bipush 12 20 dX12_had_18 bc_12 rfl ?_
        refine q_iconst 4 21 dX12_had_20 ic_4 rfl ?_
        refine q_iload_n 2 22 dX12_had_21 rfl rfl rfl ?_
        refine q_imul 23 dX12_had_22 rfl ?_
        refine q_iload_n 3 24 dX12_had_23 rfl rfl rfl ?_
        refine q_iadd 25 dX12_had_24 rfl ?_
        refine q_imul 26 dX12_had_25 rfl ?_
        refine q_iadd 27 dX12_had_26 rfl ?_
        refine q_iload 9 29 dX12_had_27 rfl rfl ?_
        refine q_iadd 30 dX12_had_29 rfl ?_
        rw [ix_ch]
        generalize hix : 12 * (4 * s + h) + w = ix at *
        refine q_iald 1 ix 31 dX12_had_30 rfl ⟨rfl, by omega, by decide⟩ rfl ?_
        rw [e12]
        refine q_istore 10 33 (L' := [_, _, _, _, _, _, _, _, _, _, _]) dX12_had_31 (by decide) rfl rfl ?_
        refine q_iload 10 35 dX12_had_33 rfl rfl ?_
        refine q_if_ne 41 38 dX12_had_35 (by decide) rfl (fun h35 => ?_) (fun h35 => absurd h35 h0)
        refine q_aload_n 0 42 dX12_had_41 rfl rfl rfl ?_
        refine q_iload_n 1 43 dX12_had_42 rfl rfl rfl ?_
        refine q_cVv 0 [0, 1, 2] [3] [1, 2, 3, 0] 46 (wr := [_]) (w1 := _) (ws' := [_, _, _, _]) c_M_unnumber m_X12_239 dX12_had_43 rfl rfl rfl rfl rfl rfl rfl rfl (by decide) (by decide) (by decide) (by decide) (Nat.le_of_ble_eq_true rfl) (by omega) (by omega) (by omega) rfl ?_
        refine q_ax 2 u rfl (fun k hk => (U_eq m x1 (nI j) k hk).trans (congrFun hu k)) rfl ?_
        refine q_aload_n 0 47 dX12_had_46 rfl rfl rfl ?_
        refine q_iload 9 49 dX12_had_47 rfl rfl ?_
        refine q_cVv 0 [0, 1, 2] [3] [1, 2, 3, 0] 52 (wr := [_]) (w1 := _) (ws' := [_, _, _, _]) (c_M_rallies hV.2.1) m_X12_230 dX12_had_49 rfl rfl rfl rfl rfl rfl rfl rfl (by decide) (by decide) (by decide) (by decide) (Nat.le_of_ble_eq_true rfl) (by omega) (by omega) (by omega) rfl ?_
        refine q_aload_n 0 53 dX12_had_52 rfl rfl rfl ?_
        refine q_getI 0 56 f_X12_215 dX12_had_53 rfl rfl rfl ?_
        rw [iRal_17]
        refine q_iconst (-1) 57 dX12_had_56 ic_m1 rfl ?_
        refine q_icmp_ne 80 60 dX12_had_57 (by decide) rfl (fun hn => ?_) (fun hn => ?_)
        · refine q_aload_n 0 81 dX12_had_80 rfl rfl rfl ?_
          refine q_getI 0 84 f_X12_215 dX12_had_81 rfl rfl rfl ?_
          rw [iRal_17]
          refine q_iload 4 86 dX12_had_84 rfl rfl ?_
          refine q_icmp_ne 118 89 dX12_had_86 (by decide) rfl (fun ha => ?_) (fun ha => ?_)
          · first
              | (refine K2 _ _ _ _ (hi.tr (sm2_iRal _ _ _ _)) (hS _ (hT1 h0 hn j2 hj2 ej2)))
              | (refine K2 _ _ _ _ (hi.tr (sm2_iRal _ _ _ _)) (hS _ (hT2 h0 hn ⟨ha, Or.inl hb⟩)))
              | (refine K2 _ _ _ _ (hi.tr (sm2_iRal _ _ _ _)) (hS _ (hT2 h0 hn ⟨ha, Or.inr hd⟩)))
              | (refine K2 _ _ _ _ (hi.tr (sm2_iRal _ _ _ _)) ((hS 0 (hT3 h0 hn (fun z => ha z.1))).trans (l_add0 _)))
              | (refine K2 _ _ _ _ (hi.tr (sm2_iRal _ _ _ _)) ((hS 0 (hT3 h0 hn (fun z => z.2.elim hb hd))).trans (l_add0 _)))
          · refine q_iload 5 91 dX12_had_89 rfl rfl ?_
            refine q_iconst (-1) 92 dX12_had_91 ic_m1 rfl ?_
            refine q_icmp_eq 106 95 dX12_had_92 (by decide) rfl (fun hb => ?_) (fun hb => ?_)
            · refine q_lload 7 108 dX12_had_106 rfl rfl ?_
              refine q_iload 10 110 dX12_had_108 rfl rfl ?_
              refine q_i2l 111 dX12_had_110 rfl ?_
              refine q_ldc2 1000000000 114 k_X12_245 dX12_had_111 rfl ?_
              refine q_lmul 115 dX12_had_114 rfl ?_
              refine q_ladd 116 dX12_had_115 rfl ?_
              refine q_lstore 7 118 (L' := [_, _, _, _, _, _, _, _, _, _, _]) dX12_had_116 (by decide) rfl rfl ?_
              first
                | (refine K2 _ _ _ _ (hi.tr (sm2_iRal _ _ _ _)) (hS _ (hT1 h0 hn j2 hj2 ej2)))
                | (refine K2 _ _ _ _ (hi.tr (sm2_iRal _ _ _ _)) (hS _ (hT2 h0 hn ⟨ha, Or.inl hb⟩)))
                | (refine K2 _ _ _ _ (hi.tr (sm2_iRal _ _ _ _)) (hS _ (hT2 h0 hn ⟨ha, Or.inr hd⟩)))
                | (refine K2 _ _ _ _ (hi.tr (sm2_iRal _ _ _ _)) ((hS 0 (hT3 h0 hn (fun z => ha z.1))).trans (l_add0 _)))
                | (refine K2 _ _ _ _ (hi.tr (sm2_iRal _ _ _ _)) ((hS 0 (hT3 h0 hn (fun z => z.2.elim hb hd))).trans (l_add0 _)))
            · refine q_aload_n 0 96 dX12_had_95 rfl rfl rfl ?_
              refine q_getR 0 99 f_X12_29 dX12_had_96 rfl rfl rfl rfl ?_
              refine q_iconst 2 100 dX12_had_99 ic_2 rfl ?_
              refine q_iald 2 2 101 dX12_had_100 rfl ⟨by decide, by decide, by decide⟩ rfl ?_
              refine q_iload 5 103 dX12_had_101 rfl rfl ?_
              refine q_icmp_ne 118 106 dX12_had_103 (by decide) rfl (fun hd => ?_) (fun hd => ?_)
              · first
                  | (refine K2 _ _ _ _ (hi.tr (sm2_iRal _ _ _ _)) (hS _ (hT1 h0 hn j2 hj2 ej2)))
                  | (refine K2 _ _ _ _ (hi.tr (sm2_iRal _ _ _ _)) (hS _ (hT2 h0 hn ⟨ha, Or.inl hb⟩)))
                  | (refine K2 _ _ _ _ (hi.tr (sm2_iRal _ _ _ _)) (hS _ (hT2 h0 hn ⟨ha, Or.inr hd⟩)))
                  | (refine K2 _ _ _ _ (hi.tr (sm2_iRal _ _ _ _)) ((hS 0 (hT3 h0 hn (fun z => ha z.1))).trans (l_add0 _)))
                  | (refine K2 _ _ _ _ (hi.tr (sm2_iRal _ _ _ _)) ((hS 0 (hT3 h0 hn (fun z => z.2.elim hb hd))).trans (l_add0 _)))
              · refine q_lload 7 108 dX12_had_106 rfl rfl ?_
                refine q_iload 10 110 dX12_had_108 rfl rfl ?_
                refine q_i2l 111 dX12_had_110 rfl ?_
                refine q_ldc2 1000000000 114 k_X12_245 dX12_had_111 rfl ?_
                refine q_lmul 115 dX12_had_114 rfl ?_
                refine q_ladd 116 dX12_had_115 rfl ?_
                refine q_lstore 7 118 (L' := [_, _, _, _, _, _, _, _, _, _, _]) dX12_had_116 (by decide) rfl rfl ?_
                first
                  | (refine K2 _ _ _ _ (hi.tr (sm2_iRal _ _ _ _)) (hS _ (hT1 h0 hn j2 hj2 ej2)))
                  | (refine K2 _ _ _ _ (hi.tr (sm2_iRal _ _ _ _)) (hS _ (hT2 h0 hn ⟨ha, Or.inl hb⟩)))
                  | (refine K2 _ _ _ _ (hi.tr (sm2_iRal _ _ _ _)) (hS _ (hT2 h0 hn ⟨ha, Or.inr hd⟩)))
                  | (refine K2 _ _ _ _ (hi.tr (sm2_iRal _ _ _ _)) ((hS 0 (hT3 h0 hn (fun z => ha z.1))).trans (l_add0 _)))
                  | (refine K2 _ _ _ _ (hi.tr (sm2_iRal _ _ _ _)) ((hS 0 (hT3 h0 hn (fun z => z.2.elim hb hd))).trans (l_add0 _)))
        · obtain ⟨j2, hj2, ej2⟩ := hN hn
          refine q_lload 7 62 dX12_had_60 rfl rfl ?_
          refine q_iload 10 64 dX12_had_62 rfl rfl ?_
          refine q_i2l 65 dX12_had_64 rfl ?_
          refine q_aload 6 67 dX12_had_65 rfl rfl ?_
          refine q_aload_n 0 68 dX12_had_67 rfl rfl rfl ?_
          refine q_cVi 0 [0, 2] [1, 3] [2, 0, 3, 1] 71 (wr := [_, _]) (w1 := _) (ws' := [_, _, _, _]) c_M_number m_X12_242 dX12_had_68 rfl rfl rfl rfl rfl rfl rfl rfl (by decide) (by decide) (by decide) (by decide) (Nat.le_of_ble_eq_true rfl) (by omega) (by omega) (by omega) rfl ?_
          rw [ej2]
          refine q_iald 3 j2 72 dX12_had_71 rfl ⟨rfl, by omega, by decide⟩ rfl ?_
          refine q_i2l 73 dX12_had_72 rfl ?_
          refine q_lmul 74 dX12_had_73 rfl ?_
          refine q_ladd 75 dX12_had_74 rfl ?_
          refine q_lstore 7 77 (L' := [_, _, _, _, _, _, _, _, _, _, _]) dX12_had_75 (by decide) rfl rfl ?_
          refine q_goto 118 dX12_had_77 (by decide) ?_
          first
            | (refine K2 _ _ _ _ (hi.tr (sm2_iRal _ _ _ _)) (hS _ (hT1 h0 hn j2 hj2 ej2)))
            | (refine K2 _ _ _ _ (hi.tr (sm2_iRal _ _ _ _)) (hS _ (hT2 h0 hn ⟨ha, Or.inl hb⟩)))
            | (refine K2 _ _ _ _ (hi.tr (sm2_iRal _ _ _ _)) (hS _ (hT2 h0 hn ⟨ha, Or.inr hd⟩)))
            | (refine K2 _ _ _ _ (hi.tr (sm2_iRal _ _ _ _)) ((hS 0 (hT3 h0 hn (fun z => ha z.1))).trans (l_add0 _)))
            | (refine K2 _ _ _ _ (hi.tr (sm2_iRal _ _ _ _)) ((hS 0 (hT3 h0 hn (fun z => z.2.elim hb hd))).trans (l_add0 _)))
  have K0 := K 12 0 rfl i x
  generalize hdV m tb p th j s h = v at *
  refine q_lconst 0 1 dX12_had_0 (by decide) rfl ?_
  refine q_lstore 7 3 (L' := [_, _, _, _, _, _, _, _, _, _, _]) dX12_had_1 (by decide) rfl rfl ?_
  refine q_iconst 0 4 dX12_had_3 ic_0 rfl ?_
  refine q_istore 9 6 (L' := [_, _, _, _, _, _, _, _, _, _, _]) dX12_had_4 (by decide) rfl rfl ?_
  exact K0 none sm2.rf

