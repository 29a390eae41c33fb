/-! ===== play ===== -/
def pyT (n wh : Int32) : Int32 := if rIn n 0 200 = 0 then 1 else if rIn wh 0 10 = 0 then 2 else 0
theorem p_play0 {l : Launch} {g : Gh} {q : Nat} {A : Nat → Nat} {i : Sc} {sd n wh : Int32} (h0 : ¬ pyT n wh = 0) : Cp l g yX12_play (Cond.code yX12_play cX12_play 11 (some .int)) 3 [.ref q, .int sd, .int n, .int wh] [(q, ob 12 i (rM A))] (some (.int 0)) [(q, ob 12 (upd i 0 (pyT n wh)) (rM A))] := by
  refine ct_of (M := mtX12_play) [some (.ref q), some (.int sd), some (.int n), some (.int wh), none, none, none, none, none, none, none] rfl (by decide) (Nat.le_of_ble_eq_true rfl) (fun _ h => h) (fun a => ?_)
  by_cases h1 : rIn n 0 200 = 0
  · rw [show pyT n wh = 1 from if_pos h1]
    refine q_aload_n 0 1 dX12_play_0 rfl rfl rfl ?_
    refine q_iload_n 2 2 dX12_play_1 rfl rfl rfl ?_
    refine q_iconst 0 3 dX12_play_2 ic_0 rfl ?_
    refine q_sipush 200 6 dX12_play_3 sc_200 rfl ?_
    refine q_cSi [] [0] [0] 9 (wr := [_]) (w1 := _) (ws' := [_]) c_isIn m_X12_70 dX12_play_6 rfl rfl rfl rfl rfl (by decide) (by decide) (by decide) (by decide) (Nat.le_of_ble_eq_true rfl) (by omega) (by omega) (by omega) rfl ?_
    refine q_if_ne 16 12 dX12_play_9 (by decide) rfl (fun h9 => absurd h1 h9) (fun h9 => ?_)
    refine q_iconst 1 13 dX12_play_12 ic_1 rfl ?_
    refine q_goto 31 dX12_play_13 (by decide) ?_
    refine q_putI 0 34 (w' := [_]) f_X12_67 ft_X12_0 dX12_play_31 rfl rfl rfl rfl ?_
    refine q_aload_n 0 35 dX12_play_34 rfl rfl rfl ?_
    refine q_getI 0 38 f_X12_67 dX12_play_35 rfl rfl rfl ?_
    refine q_if_le 43 41 dX12_play_38 (by decide) rfl (fun h38 => absurd h38 (by show ¬ (1 : Int32) ≤ 0; decide)) (fun h38 => ?_)
    refine q_iconst 0 42 dX12_play_41 ic_0 rfl ?_
    refine q_ireturn dX12_play_42 rfl ?_
    exact pR.rf
  · by_cases h2 : rIn wh 0 10 = 0
    · rw [show pyT n wh = 2 from (if_neg h1).trans (if_pos h2)]
      refine q_aload_n 0 1 dX12_play_0 rfl rfl rfl ?_
      refine q_iload_n 2 2 dX12_play_1 rfl rfl rfl ?_
      refine q_iconst 0 3 dX12_play_2 ic_0 rfl ?_
      refine q_sipush 200 6 dX12_play_3 sc_200 rfl ?_
      refine q_cSi [] [0] [0] 9 (wr := [_]) (w1 := _) (ws' := [_]) c_isIn m_X12_70 dX12_play_6 rfl rfl rfl rfl rfl (by decide) (by decide) (by decide) (by decide) (Nat.le_of_ble_eq_true rfl) (by omega) (by omega) (by omega) rfl ?_
      refine q_if_ne 16 12 dX12_play_9 (by decide) rfl (fun h9 => ?_) (fun h9 => absurd h9 h1)
      refine q_iload_n 3 17 dX12_play_16 rfl rfl rfl ?_
      refine q_iconst 0 18 dX12_play_17 ic_0 rfl ?_
      refine q_bipush 10 20 dX12_play_18 bc_10 rfl ?_
      refine q_cSi [] [0] [0] 23 (wr := [_]) (w1 := _) (ws' := [_]) c_isIn m_X12_70 dX12_play_20 rfl rfl rfl rfl rfl (by decide) (by decide) (by decide) (by decide) (Nat.le_of_ble_eq_true rfl) (by omega) (by omega) (by omega) rfl ?_
      refine q_if_ne 30 26 dX12_play_23 (by decide) rfl (fun h23 => absurd h2 h23) (fun h23 => ?_)
      refine q_iconst 2 27 dX12_play_26 ic_2 rfl ?_
      refine q_goto 31 dX12_play_27 (by decide) ?_
      refine q_putI 0 34 (w' := [_]) f_X12_67 ft_X12_0 dX12_play_31 rfl rfl rfl rfl ?_
      refine q_aload_n 0 35 dX12_play_34 rfl rfl rfl ?_
      refine q_getI 0 38 f_X12_67 dX12_play_35 rfl rfl rfl ?_
      refine q_if_le 43 41 dX12_play_38 (by decide) rfl (fun h38 => absurd h38 (by show ¬ (2 : Int32) ≤ 0; decide)) (fun h38 => ?_)
      refine q_iconst 0 42 dX12_play_41 ic_0 rfl ?_
      refine q_ireturn dX12_play_42 rfl ?_
      exact pR.rf
    · exact absurd ((if_neg h1).trans (if_neg h2)) h0
theorem pyT_0 {n wh : Int32} (h : pyT n wh = 0) : ¬ rIn n 0 200 = 0 ∧ ¬ rIn wh 0 10 = 0 := by
  unfold pyT at h
  by_cases h1 : rIn n 0 200 = 0
  · rw [if_pos h1] at h; exact absurd h (by decide)
  · rw [if_neg h1] at h
    by_cases h2 : rIn wh 0 10 = 0
    · rw [if_pos h2] at h; exact absurd h (by decide)
    · exact ⟨h1, h2⟩
/-- chances added up to outcome k -/
def cu (m : Sc) (b : Nat) : Nat → Int32
  | 0 => m b
  | k + 1 => cu m b k + m (b + (k + 1))
def SumOK (m : Sc) : Prop := ∀ pr, pr < 16 → cu m (12 * pr) 11 = 100
def drH (m : Sc) (b : Nat) (dr : Int32) : Nat → Nat → Nat
  | 0, h => h
  | c + 1, h => if dr < cu m b h then h else drH m b dr c (h + 1)
theorem drH_le (m : Sc) (b : Nat) (dr : Int32) : ∀ c h, drH m b dr c h ≤ c + h
  | 0, h => by rw [drH]; omega
  | c + 1, h => by
    rw [drH]
    split
    · omega
    · have := drH_le m b dr c (h + 1); omega
def pySd (s : Int32) : Int32 := 1103515245 * s + 12345
def pyE (s : Int32) : Int32 := (s.toUInt32 >>> (Int32.toUInt32 16 &&& Int32.toUInt32 31)).toInt32 &&& 32767
def pyDr (s : Int32) : Int32 := pyE s - pyE s / 100 * 100
theorem pyDr_lt (s : Int32) : ∃ j : Nat, j < 100 ∧ pyDr s = nI j := by
  obtain ⟨j, hj, e⟩ := pk_andE (s.toUInt32 >>> (Int32.toUInt32 16 &&& Int32.toUInt32 31)).toInt32 (m := 32767) 15 (by decide)
  refine ⟨j % 100, by omega, ?_⟩
  unfold pyDr
  rw [show pyE s = nI j from e]
  exact nI_rem (d := 100) (by decide) (by omega) (by decide) (by decide)
def svr (x : Sc) : Nat := (x 2).toNatClampNeg
def pyB (m x : Sc) : Nat := 12 * (4 * (svV m x (svr x)).toNatClampNeg + (svV m x (1 - svr x)).toNatClampNeg)
def pyX (m : Sc) : Nat → Sc → Int32 → Nat → Sc × Nat
  | 0, x, _, d => (x, d)
  | c + 1, x, s, d => if rOver m x = 0 then pyX m c (rRal m x (nI (drH m (pyB m x) (pyDr (pySd s)) 11 0))) (pySd s) (d + 1) else (x, d)
def pyV (m : Sc) (sd wh : Int32) (n : Nat) : Int32 := if wh = 10 then nI (pyX m n (S m) sd 0).2 else rTold (pyX m n (S m) sd 0).1 wh.toNatClampNeg
theorem ix_c0 (s h : Nat) : (0 : Int32) + 12 * (4 * nI s + nI h) = nI (12 * (4 * s + h)) := by
  rw [Int32.zero_add, show (4 : Int32) = nI 4 from by decide, show (12 : Int32) = nI 12 from by decide, pk_mul, nI_add, pk_mul]
theorem stH_p {m : Sc} (h0 : stH m 0) (h1 : stH m 1) {p : Nat} (hp : p ≤ 1) : stH m p := by
  match p, hp with
  | 0, _ => exact h0
  | 1, _ => exact h1
  | (p + 2), hp => omega
theorem p_play1 {l : Launch} {g : Gh} {q : Nat} {A : Nat → Nat} {i m tp fc x : Sc} {sd wh : Int32} {n : Nat} (hM : MOK m) (hS : SumOK m) (hn : n ≤ 200) (h0 : pyT (nI n) wh = 0) :
    Ce l g yX12_play (Cond.code yX12_play cX12_play 11 (some .int)) 34 [.ref q, .int sd, .int (nI n), .int wh] [(q, ob 12 i (rM A)), (A 1, aI g 2616 m), (A 5, aI g 400 tp), (A 12, aI g 5 fc), (A 16, aI g 9 x)]
      (fun z : Sc × Sc × Sc => some (.int (pyV m sd wh n))) (fun z : Sc × Sc × Sc => [(q, ob 12 z.1 (rM A)), (A 1, aI g 2616 m), (A 5, aI g 400 tp), (A 12, aI g 5 z.2.1), (A 16, aI g 9 z.2.2)]) (fun z : Sc × Sc × Sc => smK (upd i 0 0) z.1) := by
  refine ct_of (M := mtX12_play) [some (.ref q), some (.int sd), some (.int (nI n)), some (.int wh), none, none, none, none, none, none, none] rfl (by decide) (Nat.le_of_ble_eq_true rfl) (fun _ h => h) (fun a => ?_)
  obtain ⟨h1, h2⟩ := pyT_0 h0
  have hwr : 0 ≤ wh ∧ wh ≤ 10 := by
    unfold rIn at h2
    by_cases h9 : 0 ≤ wh ∧ wh ≤ 10
    · exact h9
    · rw [if_neg h9] at h2; exact absurd rfl h2
  unfold pyV
  generalize hF : pyX m n (S m) sd 0 = F
  have K53 : ∀ (c d : Nat), c + d = n → ∀ (i1 fc1 x1 : Sc) (s1 : Int32) (z6 z7 z8 z9 z10 : Option Value), Val x1 → pyX m c x1 s1 d = F → smK (upd i 0 0) i1 → WPs l g mtX12_play 34 0 0 (pE (fun z : Sc × Sc × Sc => some (.int (if wh = 10 then nI F.2 else rTold F.1 wh.toNatClampNeg))) (fun z : Sc × Sc × Sc => [(q, ob 12 z.1 (rM A)), (A 1, aI g 2616 m), (A 5, aI g 400 tp), (A 12, aI g 5 z.2.1), (A 16, aI g 9 z.2.2)]) (fun z : Sc × Sc × Sc => smK (upd i 0 0) z.1)) noX a 53 [some (.ref q), some (.int sd), some (.int (nI n)), some (.int wh), some (.int s1), some (.int (nI d)), z6, z7, z8, z9, z10] [] [(q, ob 12 i1 (rM A)), (A 1, aI g 2616 m), (A 5, aI g 400 tp), (A 12, aI g 5 fc1), (A 16, aI g 9 x1)] 0 0 := by
    intro c
    induction c with
    | zero =>
      intro d hd i1 fc1 x1 s1 z6 z7 z8 z9 z10 hx hr hi
      obtain rfl : d = n := by omega
      have hr : (x1, d) = F := hr
      subst hr
      have hge : nI d ≤ nI d := Int32.le_refl _
      dsimp only
      by_cases hw : wh = 10
      · rw [if_pos hw]
        refine q_iload 5 55 dX12_play_53 rfl rfl ?_
        refine q_iload_n 2 56 dX12_play_55 rfl rfl rfl ?_
        refine q_icmp_ge 190 59 dX12_play_56 (by decide) rfl (fun h56 => ?_) (fun h56 => absurd hge h56)
        refine q_iload_n 3 191 dX12_play_190 rfl rfl rfl ?_
        refine q_bipush 10 193 dX12_play_191 bc_10 rfl ?_
        refine q_icmp_ne 201 196 dX12_play_193 (by decide) rfl (fun h193 => absurd hw h193) (fun h193 => ?_)
        refine q_iload 5 198 dX12_play_196 rfl rfl ?_
        refine q_goto 206 dX12_play_198 (by decide) ?_
        refine q_ireturn dX12_play_206 rfl ?_
        exact pE.mk (_, _, _) hi rfl rfl
      · rw [if_neg hw]
        obtain ⟨w, hw8, rfl⟩ := nat_to (n := 10) hwr.1 hwr.2 (by decide)
        have hw9 : w < 10 := by
          rcases Nat.lt_or_ge w 10 with h | h
          · exact h
          · obtain rfl : w = 10 := by omega
            exact absurd rfl hw
        rw [nI_clamp (by omega)]
        refine q_iload 5 55 dX12_play_53 rfl rfl ?_
        refine q_iload_n 2 56 dX12_play_55 rfl rfl rfl ?_
        refine q_icmp_ge 190 59 dX12_play_56 (by decide) rfl (fun h56 => ?_) (fun h56 => absurd hge h56)
        refine q_iload_n 3 191 dX12_play_190 rfl rfl rfl ?_
        refine q_bipush 10 193 dX12_play_191 bc_10 rfl ?_
        refine q_icmp_ne 201 196 dX12_play_193 (by decide) rfl (fun h193 => ?_) (fun h193 => absurd h193 hw)
        refine q_aload_n 0 202 dX12_play_201 rfl rfl rfl ?_
        refine q_iload_n 3 203 dX12_play_202 rfl rfl rfl ?_
        refine q_cVi 0 [0, 4] [1, 2, 3] [3, 0, 1, 2, 4] 206 (wr := [_, _, _]) (w1 := _) (ws' := [_, _, _, _, _]) (c_M_told (w := w) rfl hw9) m_X12_209 dX12_play_203 rfl rfl rfl rfl rfl rfl rfl rfl (by decide) (by decide) (by decide) (by decide) (Nat.le_of_ble_eq_true rfl) (by omega) (by omega) (by omega) rfl ?_
        refine q_ireturn dX12_play_206 rfl ?_
        exact pE.mk (_, _, _) hi rfl rfl
    | succ c ih =>
      intro d hd i1 fc1 x1 s1 z6 z7 z8 z9 z10 hx hr hi
      have hlt : ¬ nI n ≤ nI d := nI_ge (by omega) (by omega)
      rw [pyX] at hr
      by_cases ho : rOver m x1 = 0
      · rw [if_pos ho] at hr
        obtain ⟨p, hp, e2⟩ : ∃ p : Nat, p ≤ 1 ∧ x1 2 = nI p := by
          rcases hx.2.1 with h | h
          · exact ⟨0, by decide, h⟩
          · exact ⟨1, by decide, h⟩
        have es : svr x1 = p := by unfold svr; rw [e2, nI_clamp (by omega)]
        have e3 : (1 : Int32) - nI p = nI (1 - p) := pk_sub hp
        have hHp := stH_p hM.2.2.1 hM.2.2.2 hp
        have hHq := stH_p hM.2.2.1 hM.2.2.2 (show 1 - p ≤ 1 by omega)
        obtain ⟨sa, hsa, esa⟩ : ∃ s : Nat, s < 4 ∧ svV m x1 p = nI s := soV_4 hHp
        obtain ⟨sb, hsb, esb⟩ : ∃ s : Nat, s < 4 ∧ svV m x1 (1 - p) = nI s := soV_4 hHq
        have eB : pyB m x1 = 12 * (4 * sa + sb) := by unfold pyB; rw [es, esa, esb, nI_clamp (by omega), nI_clamp (by omega)]
        obtain ⟨jd, hjd, ejd⟩ := pyDr_lt (pySd s1)
        rw [eB, ejd] at hr
        have hh := drH_le m (12 * (4 * sa + sb)) (nI jd) 11 0
        have hV2 : Val (rRal m x1 (nI (drH m (12 * (4 * sa + sb)) (nI jd) 11 0))) := by
          refine Val_rRal hM.2.1 hx (fun _ h2 => ?_)
          generalize drH m (12 * (4 * sa + sb)) (nI jd) 11 0 = w at *
          have h2' : ¬ w < 2 := fun h9 => h2 (nI_lt (a := w) (b := 2) h9 (by decide))
          rw [show (2 : Int32) = nI 2 from by decide, pk_sub (by omega)]
          exact ⟨nI_pos' (by omega), nI_le (a := w - 2) (b := 9) (by omega) (by decide)⟩
        have K1 := fun i2 fc2 z6 z7 z8 z9 z10 h => ih (d + 1) (by omega) i2 fc2 _ (pySd s1) z6 z7 z8 z9 z10 hV2 hr h
        clear ih hr hV2
        have hc11 : cu m (12 * (4 * sa + sb)) 11 = 100 := hS _ (by omega)
        have K140 : ∀ (c h : Nat), c + h = 11 → ∀ (i2 fc2 : Sc), drH m (12 * (4 * sa + sb)) (nI jd) c h = drH m (12 * (4 * sa + sb)) (nI jd) 11 0 → smK (upd i 0 0) i2 → WPs l g mtX12_play 34 0 0 (pE (fun z : Sc × Sc × Sc => some (.int (if wh = 10 then nI F.2 else rTold F.1 wh.toNatClampNeg))) (fun z : Sc × Sc × Sc => [(q, ob 12 z.1 (rM A)), (A 1, aI g 2616 m), (A 5, aI g 400 tp), (A 12, aI g 5 z.2.1), (A 16, aI g 9 z.2.2)]) (fun z : Sc × Sc × Sc => smK (upd i 0 0) z.1)) noX a 140 [some (.ref q), some (.int sd), some (.int (nI n)), some (.int wh), some (.int (pySd s1)), some (.int (nI d)), some (.int (nI sa)), some (.int (nI sb)), some (.int (nI jd)), some (.int (nI h)), some (.int (cu m (12 * (4 * sa + sb)) h))] [] [(q, ob 12 i2 (rM A)), (A 1, aI g 2616 m), (A 5, aI g 400 tp), (A 12, aI g 5 fc2), (A 16, aI g 9 x1)] 0 0 := by
          generalize (if wh = 10 then nI F.2 else rTold F.1 wh.toNatClampNeg) = V9 at *
          have K178 : ∀ (h : Nat) (i2 fc2 : Sc) (cc : Int32), h = drH m (12 * (4 * sa + sb)) (nI jd) 11 0 → smK (upd i 0 0) i2 → WPs l g mtX12_play 34 0 0 (pE (fun z : Sc × Sc × Sc => some (.int V9)) (fun z : Sc × Sc × Sc => [(q, ob 12 z.1 (rM A)), (A 1, aI g 2616 m), (A 5, aI g 400 tp), (A 12, aI g 5 z.2.1), (A 16, aI g 9 z.2.2)]) (fun z : Sc × Sc × Sc => smK (upd i 0 0) z.1)) noX a 178 [some (.ref q), some (.int sd), some (.int (nI n)), some (.int wh), some (.int (pySd s1)), some (.int (nI d)), some (.int (nI sa)), some (.int (nI sb)), some (.int (nI jd)), some (.int (nI h)), some (.int cc)] [] [(q, ob 12 i2 (rM A)), (A 1, aI g 2616 m), (A 5, aI g 400 tp), (A 12, aI g 5 fc2), (A 16, aI g 9 x1)] 0 0 := by
            intro h i2 fc2 cc hh2 hi2
            rw [← hh2] at K1
            refine q_aload_n 0 179 dX12_play_178 rfl rfl rfl ?_
            refine q_iload 9 181 dX12_play_179 rfl rfl ?_
            refine q_cVv 0 [0, 1, 4] [2, 3] [2, 3, 0, 1, 4] 184 (wr := [_, _]) (w1 := _) (ws' := [_, _, _, _, _]) (c_M_rallies hx.2.1) m_X12_230 dX12_play_181 rfl rfl rfl rfl rfl rfl rfl rfl (by decide) (by decide) (by decide) (by decide) (Nat.le_of_ble_eq_true rfl) (by omega) (by omega) (by omega) rfl ?_
            refine q_iinc 5 (nI (d + 1)) 187 (L' := [_, _, _, _, _, _, _, _, _, _, _]) dX12_play_184 rfl (inc1 (d)) (by decide) rfl rfl ?_
            refine q_goto 53 dX12_play_187 (by decide) ?_
            exact K1 _ _ _ _ _ _ _ (hi2.tr (sm2_iRal _ _ _ _).K)
          clear K1
          intro c
          induction c with
          | zero =>
            intro h hh2 i2 fc2 he hi2
            obtain rfl : h = 11 := by omega
            rw [hc11]
            have hl : nI jd < 100 := nI_lt (b := 100) hjd (by decide)
            have K2 := K178 11 i2 fc2 100 he hi2
            refine q_iload 8 142 dX12_play_140 rfl rfl ?_
            refine q_iload 10 144 dX12_play_142 rfl rfl ?_
            refine q_icmp_lt 178 147 dX12_play_144 (by decide) rfl (fun h144 => ?_) (fun h144 => absurd hl h144)
            exact K2
          | succ c ih =>
            intro h hh2 i2 fc2 he hi2
            rw [drH] at he
            by_cases hl : nI jd < cu m (12 * (4 * sa + sb)) h
            · rw [if_pos hl] at he
              have K2 := K178 h i2 fc2 (cu m (12 * (4 * sa + sb)) h) he hi2
              clear ih
              refine q_iload 8 142 dX12_play_140 rfl rfl ?_
              refine q_iload 10 144 dX12_play_142 rfl rfl ?_
              refine q_icmp_lt 178 147 dX12_play_144 (by decide) rfl (fun h144 => ?_) (fun h144 => absurd hl h144)
              exact K2
            · rw [if_neg hl] at he
              have K2 := ih (h + 1) (by omega) i2 fc2 he hi2
              rw [cu] at K2
              clear ih
              have hix : 12 * (4 * sa + sb) + (h + 1) < 2616 := by omega
              refine q_iload 8 142 dX12_play_140 rfl rfl ?_
              refine q_iload 10 144 dX12_play_142 rfl rfl ?_
              refine q_icmp_lt 178 147 dX12_play_144 (by decide) rfl (fun h144 => absurd h144 hl) (fun h144 => ?_)
              refine q_iinc 9 (nI (h + 1)) 150 (L' := [_, _, _, _, _, _, _, _, _, _, _]) dX12_play_147 rfl (inc1 (h)) (by decide) rfl rfl ?_
              refine q_iload 10 152 dX12_play_150 rfl rfl ?_
              refine q_aload_n 0 153 dX12_play_152 rfl rfl rfl ?_
              refine q_getR 0 156 f_X12_7 dX12_play_153 rfl rfl rfl rfl ?_
              refine q_iconst 0 157 dX12_play_156 ic_0 rfl ?_
              refine q_bipush 12 159 dX12_play_157 bc_12 rfl ?_
              refine q_iconst 4 160 dX12_play_159 ic_4 rfl ?_
              refine q_iload 6 162 dX12_play_160 rfl rfl ?_
              refine q_imul 163 dX12_play_162 rfl ?_
              refine q_iload 7 165 dX12_play_163 rfl rfl ?_
              refine q_iadd 166 dX12_play_165 rfl ?_
              refine q_imul 167 dX12_play_166 rfl ?_
              refine q_iadd 168 dX12_play_167 rfl ?_
              refine q_iload 9 170 dX12_play_168 rfl rfl ?_
              refine q_iadd 171 dX12_play_170 rfl ?_
              rw [ix_ch]
              generalize 12 * (4 * sa + sb) + (h + 1) = ix at *
              refine q_iald 1 ix 172 dX12_play_171 rfl ⟨rfl, by omega, by decide⟩ rfl ?_
              refine q_iadd 173 dX12_play_172 rfl ?_
              refine q_istore 10 175 (L' := [_, _, _, _, _, _, _, _, _, _, _]) dX12_play_173 (by decide) rfl rfl ?_
              refine q_goto 140 dX12_play_175 (by decide) ?_
              exact K2
        generalize (if wh = 10 then nI F.2 else rTold F.1 wh.toNatClampNeg) = V9 at *
        have K2 := fun i2 fc2 h => K140 11 0 rfl i2 fc2 rfl h
        rw [show cu m (12 * (4 * sa + sb)) 0 = m (12 * (4 * sa + sb)) from rfl] at K2
        clear K1 K140
        have hix : 12 * (4 * sa + sb) < 2616 := by omega
        refine q_iload 5 55 dX12_play_53 rfl rfl ?_
        refine q_iload_n 2 56 dX12_play_55 rfl rfl rfl ?_
        refine q_icmp_ge 190 59 dX12_play_56 (by decide) rfl (fun h56 => absurd h56 hlt) (fun h56 => ?_)
        refine q_aload_n 0 60 dX12_play_59 rfl rfl rfl ?_
        refine q_cVi 0 [0, 1, 4] [2, 3] [2, 3, 0, 1, 4] 63 (wr := [_, _]) (w1 := _) (ws' := [_, _, _, _, _]) c_M_isOver m_X12_227 dX12_play_60 rfl rfl rfl rfl rfl rfl rfl rfl (by decide) (by decide) (by decide) (by decide) (Nat.le_of_ble_eq_true rfl) (by omega) (by omega) (by omega) rfl ?_
        refine q_if_ne 190 66 dX12_play_63 (by decide) rfl (fun h63 => absurd ho h63) (fun h63 => ?_)
        refine q_aload_n 0 67 dX12_play_66 rfl rfl rfl ?_
        refine q_aload_n 0 68 dX12_play_67 rfl rfl rfl ?_
        refine q_getR 0 71 f_X12_29 dX12_play_68 rfl rfl rfl rfl ?_
        refine q_iconst 2 72 dX12_play_71 ic_2 rfl ?_
        refine q_iald 4 2 73 dX12_play_72 rfl ⟨by decide, by decide, by decide⟩ rfl ?_
        rw [e2]
        refine q_ax 3 (fz fc1) rfl (fz_eq fc1) rfl ?_
        refine q_cVi 0 [0, 1, 2, 3, 4] [] [0, 1, 2, 3, 4] 76 (wr := []) (w1 := _) (ws' := [_, _, _, _, _]) (p_styleOf hp hHp) m_X12_203 dX12_play_73 rfl rfl rfl rfl rfl rfl rfl rfl (by decide) (by decide) (by decide) (by decide) (Nat.le_of_ble_eq_true rfl) (by omega) (by omega) (by omega) rfl ?_
        have hi2 := soI_K i1 m (fz fc1) x1 p
        rw [soV_z hp (fz_O fc1) (fun _ _ => rfl), esa]
        generalize soI i1 m (fz fc1) x1 p = i2 at *
        generalize soF m (fz fc1) x1 p = fc2 at *
        refine q_istore 6 78 (L' := [_, _, _, _, _, _, _, _, _, _, _]) dX12_play_76 (by decide) rfl rfl ?_
        refine q_aload_n 0 79 dX12_play_78 rfl rfl rfl ?_
        refine q_iconst 1 80 dX12_play_79 ic_1 rfl ?_
        refine q_aload_n 0 81 dX12_play_80 rfl rfl rfl ?_
        refine q_getR 0 84 f_X12_29 dX12_play_81 rfl rfl rfl rfl ?_
        refine q_iconst 2 85 dX12_play_84 ic_2 rfl ?_
        refine q_iald 4 2 86 dX12_play_85 rfl ⟨by decide, by decide, by decide⟩ rfl ?_
        refine q_isub 87 dX12_play_86 rfl ?_
        rw [e2, e3]
        refine q_ax 3 (fz fc2) rfl (fz_eq fc2) rfl ?_
        refine q_cVi 0 [0, 1, 2, 3, 4] [] [0, 1, 2, 3, 4] 90 (wr := []) (w1 := _) (ws' := [_, _, _, _, _]) (p_styleOf (by omega) hHq) m_X12_203 dX12_play_87 rfl rfl rfl rfl rfl rfl rfl rfl (by decide) (by decide) (by decide) (by decide) (Nat.le_of_ble_eq_true rfl) (by omega) (by omega) (by omega) rfl ?_
        have hi3 := soI_K i2 m (fz fc2) x1 (1 - p)
        rw [soV_z (by omega) (fz_O fc2) (fun _ _ => rfl), esb]
        generalize soI i2 m (fz fc2) x1 (1 - p) = i3 at *
        generalize soF m (fz fc2) x1 (1 - p) = fc3 at *
        refine q_istore 7 92 (L' := [_, _, _, _, _, _, _, _, _, _, _]) dX12_play_90 (by decide) rfl rfl ?_
        refine q_ldcw 1103515245 95 k_X12_308 dX12_play_92 rfl ?_
        refine q_iload 4 97 dX12_play_95 rfl rfl ?_
        refine q_imul 98 dX12_play_97 rfl ?_
        refine q_sipush 12345 101 dX12_play_98 sc_12345 rfl ?_
        refine q_iadd 102 dX12_play_101 rfl ?_
        rw [show (1103515245 : Int32) * s1 + 12345 = pySd s1 from rfl]
        refine q_istore 4 104 (L' := [_, _, _, _, _, _, _, _, _, _, _]) dX12_play_102 (by decide) rfl rfl ?_
        refine q_iload 4 106 dX12_play_104 rfl rfl ?_
        refine q_bipush 16 108 dX12_play_106 bc_16 rfl ?_
        refine q_iushr 109 dX12_play_108 rfl ?_
        refine q_sipush 32767 112 dX12_play_109 sc_32767 rfl ?_
        refine q_iand 113 dX12_play_112 rfl ?_
        refine q_bipush 100 115 dX12_play_113 bc_100 rfl ?_
        refine q_irem 116 dX12_play_115 (by decide) rfl ?_
        rw [show ((pySd s1).toUInt32 >>> (Int32.toUInt32 16 &&& Int32.toUInt32 31)).toInt32 &&& 32767 = pyE (pySd s1) from rfl, show pyE (pySd s1) - pyE (pySd s1) / 100 * 100 = pyDr (pySd s1) from rfl, ejd]
        refine q_istore 8 118 (L' := [_, _, _, _, _, _, _, _, _, _, _]) dX12_play_116 (by decide) rfl rfl ?_
        refine q_iconst 0 119 dX12_play_118 ic_0 rfl ?_
        refine q_istore 9 121 (L' := [_, _, _, _, _, _, _, _, _, _, _]) dX12_play_119 (by decide) rfl rfl ?_
        refine q_aload_n 0 122 dX12_play_121 rfl rfl rfl ?_
        refine q_getR 0 125 f_X12_7 dX12_play_122 rfl rfl rfl rfl ?_
        refine q_iconst 0 126 dX12_play_125 ic_0 rfl ?_
        refine q_bipush 12 128 dX12_play_126 bc_12 rfl ?_
        refine q_iconst 4 129 dX12_play_128 ic_4 rfl ?_
        refine q_iload 6 131 dX12_play_129 rfl rfl ?_
        refine q_imul 132 dX12_play_131 rfl ?_
        refine q_iload 7 134 dX12_play_132 rfl rfl ?_
        refine q_iadd 135 dX12_play_134 rfl ?_
        refine q_imul 136 dX12_play_135 rfl ?_
        refine q_iadd 137 dX12_play_136 rfl ?_
        rw [ix_c0]
        generalize 12 * (4 * sa + sb) = ix at *
        refine q_iald 1 ix 138 dX12_play_137 rfl ⟨rfl, by omega, by decide⟩ rfl ?_
        refine q_istore 10 140 (L' := [_, _, _, _, _, _, _, _, _, _, _]) dX12_play_138 (by decide) rfl rfl ?_
        exact K2 _ _ ((hi.tr hi2).tr hi3)
      · rw [if_neg ho] at hr
        subst hr
        dsimp only
        clear ih
        by_cases hw : wh = 10
        · rw [if_pos hw]
          refine q_iload 5 55 dX12_play_53 rfl rfl ?_
          refine q_iload_n 2 56 dX12_play_55 rfl rfl rfl ?_
          refine q_icmp_ge 190 59 dX12_play_56 (by decide) rfl (fun h56 => absurd h56 hlt) (fun h56 => ?_)
          refine q_aload_n 0 60 dX12_play_59 rfl rfl rfl ?_
          refine q_cVi 0 [0, 1, 4] [2, 3] [2, 3, 0, 1, 4] 63 (wr := [_, _]) (w1 := _) (ws' := [_, _, _, _, _]) c_M_isOver m_X12_227 dX12_play_60 rfl rfl rfl rfl rfl rfl rfl rfl (by decide) (by decide) (by decide) (by decide) (Nat.le_of_ble_eq_true rfl) (by omega) (by omega) (by omega) rfl ?_
          refine q_if_ne 190 66 dX12_play_63 (by decide) rfl (fun h63 => ?_) (fun h63 => absurd h63 ho)
          refine q_iload_n 3 191 dX12_play_190 rfl rfl rfl ?_
          refine q_bipush 10 193 dX12_play_191 bc_10 rfl ?_
          refine q_icmp_ne 201 196 dX12_play_193 (by decide) rfl (fun h193 => absurd hw h193) (fun h193 => ?_)
          refine q_iload 5 198 dX12_play_196 rfl rfl ?_
          refine q_goto 206 dX12_play_198 (by decide) ?_
          refine q_ireturn dX12_play_206 rfl ?_
          exact pE.mk (_, _, _) hi rfl rfl
        · rw [if_neg hw]
          obtain ⟨w, hw8, rfl⟩ := nat_to (n := 10) hwr.1 hwr.2 (by decide)
          have hw9 : w < 10 := by
            rcases Nat.lt_or_ge w 10 with h | h
            · exact h
            · obtain rfl : w = 10 := by omega
              exact absurd rfl hw
          rw [nI_clamp (by omega)]
          refine q_iload 5 55 dX12_play_53 rfl rfl ?_
          refine q_iload_n 2 56 dX12_play_55 rfl rfl rfl ?_
          refine q_icmp_ge 190 59 dX12_play_56 (by decide) rfl (fun h56 => absurd h56 hlt) (fun h56 => ?_)
          refine q_aload_n 0 60 dX12_play_59 rfl rfl rfl ?_
          refine q_cVi 0 [0, 1, 4] [2, 3] [2, 3, 0, 1, 4] 63 (wr := [_, _]) (w1 := _) (ws' := [_, _, _, _, _]) c_M_isOver m_X12_227 dX12_play_60 rfl rfl rfl rfl rfl rfl rfl rfl (by decide) (by decide) (by decide) (by decide) (Nat.le_of_ble_eq_true rfl) (by omega) (by omega) (by omega) rfl ?_
          refine q_if_ne 190 66 dX12_play_63 (by decide) rfl (fun h63 => ?_) (fun h63 => absurd h63 ho)
          refine q_iload_n 3 191 dX12_play_190 rfl rfl rfl ?_
          refine q_bipush 10 193 dX12_play_191 bc_10 rfl ?_
          refine q_icmp_ne 201 196 dX12_play_193 (by decide) rfl (fun h193 => ?_) (fun h193 => absurd h193 hw)
          refine q_aload_n 0 202 dX12_play_201 rfl rfl rfl ?_
          refine q_iload_n 3 203 dX12_play_202 rfl rfl rfl ?_
          refine q_cVi 0 [0, 4] [1, 2, 3] [3, 0, 1, 2, 4] 206 (wr := [_, _, _]) (w1 := _) (ws' := [_, _, _, _, _]) (c_M_told (w := w) rfl hw9) m_X12_209 dX12_play_203 rfl rfl rfl rfl rfl rfl rfl rfl (by decide) (by decide) (by decide) (by decide) (Nat.le_of_ble_eq_true rfl) (by omega) (by omega) (by omega) rfl ?_
          refine q_ireturn dX12_play_206 rfl ?_
          exact pE.mk (_, _, _) hi rfl rfl
  have K1 := fun z6 z7 z8 z9 z10 => K53 n 0 rfl (upd i 0 0) fc (S m) sd z6 z7 z8 z9 z10 hM.1 hF smK.rf
  clear K53
  generalize (if wh = 10 then nI F.2 else rTold F.1 wh.toNatClampNeg) = V9 at *
  refine q_aload_n 0 1 dX12_play_0 rfl rfl rfl ?_
  refine q_iload_n 2 2 dX12_play_1 rfl rfl rfl ?_
  refine q_iconst 0 3 dX12_play_2 ic_0 rfl ?_
  refine q_sipush 200 6 dX12_play_3 sc_200 rfl ?_
  refine q_cSi [] [0, 1, 2, 3, 4] [0, 1, 2, 3, 4] 9 (wr := [_, _, _, _, _]) (w1 := _) (ws' := [_, _, _, _, _]) c_isIn m_X12_70 dX12_play_6 rfl rfl rfl rfl rfl (by decide) (by decide) (by decide) (by decide) (Nat.le_of_ble_eq_true rfl) (by omega) (by omega) (by omega) rfl ?_
  refine q_if_ne 16 12 dX12_play_9 (by decide) rfl (fun h9 => ?_) (fun h9 => absurd h9 h1)
  refine q_iload_n 3 17 dX12_play_16 rfl rfl rfl ?_
  refine q_iconst 0 18 dX12_play_17 ic_0 rfl ?_
  refine q_bipush 10 20 dX12_play_18 bc_10 rfl ?_
  refine q_cSi [] [0, 1, 2, 3, 4] [0, 1, 2, 3, 4] 23 (wr := [_, _, _, _, _]) (w1 := _) (ws' := [_, _, _, _, _]) c_isIn m_X12_70 dX12_play_20 rfl rfl rfl rfl rfl (by decide) (by decide) (by decide) (by decide) (Nat.le_of_ble_eq_true rfl) (by omega) (by omega) (by omega) rfl ?_
  refine q_if_ne 30 26 dX12_play_23 (by decide) rfl (fun h23 => ?_) (fun h23 => absurd h23 h2)
  refine q_iconst 0 31 dX12_play_30 ic_0 rfl ?_
  refine q_putI 0 34 (w' := [_, _, _, _, _]) f_X12_67 ft_X12_0 dX12_play_31 rfl rfl rfl rfl ?_
  refine q_aload_n 0 35 dX12_play_34 rfl rfl rfl ?_
  refine q_getI 0 38 f_X12_67 dX12_play_35 rfl rfl rfl ?_
  refine q_if_le 43 41 dX12_play_38 (by decide) rfl (fun h38 => ?_) (fun h38 => absurd z_le h38)
  refine q_aload_n 0 44 dX12_play_43 rfl rfl rfl ?_
  refine q_cVv 0 [0, 1, 4] [2, 3] [2, 3, 0, 1, 4] 47 (wr := [_, _]) (w1 := _) (ws' := [_, _, _, _, _]) c_M_takes m_X12_200 dX12_play_44 rfl rfl rfl rfl rfl rfl rfl rfl (by decide) (by decide) (by decide) (by decide) (Nat.le_of_ble_eq_true rfl) (by omega) (by omega) (by omega) rfl ?_
  refine q_ax 4 (S m) rfl (take_S m _) rfl ?_
  refine q_iload_n 1 48 dX12_play_47 rfl rfl rfl ?_
  refine q_istore 4 50 (L' := [_, _, _, _, _, _, _, _, _, _, _]) dX12_play_48 (by decide) rfl rfl ?_
  refine q_iconst 0 51 dX12_play_50 ic_0 rfl ?_
  refine q_istore 5 53 (L' := [_, _, _, _, _, _, _, _, _, _, _]) dX12_play_51 (by decide) rfl rfl ?_
  exact K1 _ _ _ _ _
/-! ===== image, back, count ===== -/
theorem p_image {l : Launch} {g : Gh} {q : Nat} {A : Nat → Nat} {i m kp : Sc} : Cp l g yX12_image (Cond.code yX12_image cX12_image 2 none) 1 [.ref q] [(q, ob 12 i (rM A)), (A 1, aI g 2616 m), (A 2, aI g 2616 kp)] none [(q, ob 12 (upd (upd i 0 0) 3 1) (rM A)), (A 1, aI g 2616 m), (A 2, aI g 2616 m)] := by
  refine ct_of (M := mtX12_image) [some (.ref q), none] rfl (by decide) (Nat.le_of_ble_eq_true rfl) (fun _ h => h) (fun a => ?_)
  have K : ∀ (c j : Nat), c + j = 2616 → WPs l g mtX12_image 1 0 0 (pR none [(q, ob 12 (upd (upd i 0 0) 3 1) (rM A)), (A 1, aI g 2616 m), (A 2, aI g 2616 m)]) noX a 7 [some (.ref q), some (.int (nI j))] [] [(q, ob 12 (upd i 0 0) (rM A)), (A 1, aI g 2616 m), (A 2, aI g 2616 (cp kp m j))] 0 0 := by
    intro c
    induction c with
    | zero =>
      intro j hj
      obtain rfl : j = 2616 := by omega
      refine q_ax 2 m rfl (cp_full kp m 2616) rfl ?_
      have hge : (2616 : Int32) ≤ nI 2616 := by decide
      refine q_iload_n 1 8 dX12_image_7 rfl rfl rfl ?_
      refine q_sipush 2616 11 dX12_image_8 sc_2616 rfl ?_
      refine q_icmp_ge 32 14 dX12_image_11 (by decide) rfl (fun h11 => ?_) (fun h11 => absurd hge h11)
      refine q_aload_n 0 33 dX12_image_32 rfl rfl rfl ?_
      refine q_iconst 1 34 dX12_image_33 ic_1 rfl ?_
      refine q_putZ 0 37 (w' := [_, _, _]) f_X12_309 ft_X12_3 dX12_image_34 rfl rfl (Or.inr rfl) rfl rfl ?_
      refine q_return dX12_image_37 rfl ?_
      exact pR.rf
    | succ c ih =>
      intro j hj
      have hlt : ¬ (2616 : Int32) ≤ nI j := by rw [show (2616 : Int32) = nI 2616 from by decide]; exact nI_ge (by omega) (by omega)
      have K1 := ih (j + 1) (by omega)
      rw [← cp_s kp m j] at K1
      clear ih
      refine q_iload_n 1 8 dX12_image_7 rfl rfl rfl ?_
      refine q_sipush 2616 11 dX12_image_8 sc_2616 rfl ?_
      refine q_icmp_ge 32 14 dX12_image_11 (by decide) rfl (fun h11 => absurd h11 hlt) (fun h11 => ?_)
      refine q_aload_n 0 15 dX12_image_14 rfl rfl rfl ?_
      refine q_getR 0 18 f_X12_13 dX12_image_15 rfl rfl rfl rfl ?_
      refine q_iload_n 1 19 dX12_image_18 rfl rfl rfl ?_
      refine q_aload_n 0 20 dX12_image_19 rfl rfl rfl ?_
      refine q_getR 0 23 f_X12_7 dX12_image_20 rfl rfl rfl rfl ?_
      refine q_iload_n 1 24 dX12_image_23 rfl rfl rfl ?_
      refine q_iald 1 j 25 dX12_image_24 rfl ⟨rfl, by omega, by decide⟩ rfl ?_
      refine q_iast 2 j 26 (w' := [_, _, _]) dX12_image_25 rfl ⟨rfl, by omega, by decide⟩ rfl rfl ?_
      refine q_iinc 1 (nI (j + 1)) 29 (L' := [_, _]) dX12_image_26 rfl (inc1 (j)) (by decide) rfl rfl ?_
      refine q_goto 7 dX12_image_29 (by decide) ?_
      exact K1
  have K0 := K 2616 0 rfl
  rw [cp_0] at K0
  refine q_aload_n 0 1 dX12_image_0 rfl rfl rfl ?_
  refine q_iconst 0 2 dX12_image_1 ic_0 rfl ?_
  refine q_putI 0 5 (w' := [_, _, _]) f_X12_67 ft_X12_0 dX12_image_2 rfl rfl rfl rfl ?_
  refine q_iconst 0 6 dX12_image_5 ic_0 rfl ?_
  refine q_istore_n 1 7 (L' := [_, _]) dX12_image_6 rfl (by decide) rfl rfl ?_
  exact K0
theorem p_back0 {l : Launch} {g : Gh} {q : Nat} {A : Nat → Nat} {i : Sc} (h : i 3 = 0) : Cp l g yX12_back (Cond.code yX12_back cX12_back 2 (some .boolean)) 1 [.ref q] [(q, ob 12 i (rM A))] (some (.int 0)) [(q, ob 12 (upd i 0 0) (rM A))] := by
  refine ct_of (M := mtX12_back) [some (.ref q), none] rfl (by decide) (Nat.le_of_ble_eq_true rfl) (fun _ h => h) (fun a => ?_)
  refine q_aload_n 0 1 dX12_back_0 rfl rfl rfl ?_
  refine q_iconst 0 2 dX12_back_1 ic_0 rfl ?_
  refine q_putI 0 5 (w' := [_]) f_X12_67 ft_X12_0 dX12_back_2 rfl rfl rfl rfl ?_
  refine q_aload_n 0 6 dX12_back_5 rfl rfl rfl ?_
  refine q_getI 0 9 f_X12_309 dX12_back_6 rfl rfl rfl ?_
  refine q_if_ne 14 12 dX12_back_9 (by decide) rfl (fun h9 => absurd h h9) (fun h9 => ?_)
  refine q_iconst 0 13 dX12_back_12 ic_0 rfl ?_
  refine q_zreturn dX12_back_13 rfl (Or.inl rfl) ?_
  exact pR.rf
theorem p_back1 {l : Launch} {g : Gh} {q : Nat} {A : Nat → Nat} {i m kp : Sc} (h : ¬ i 3 = 0) : Cp l g yX12_back (Cond.code yX12_back cX12_back 2 (some .boolean)) 1 [.ref q] [(q, ob 12 i (rM A)), (A 1, aI g 2616 m), (A 2, aI g 2616 kp)] (some (.int 1)) [(q, ob 12 (upd i 0 0) (rM A)), (A 1, aI g 2616 kp), (A 2, aI g 2616 kp)] := by
  refine ct_of (M := mtX12_back) [some (.ref q), none] rfl (by decide) (Nat.le_of_ble_eq_true rfl) (fun _ h => h) (fun a => ?_)
  have K : ∀ (c j : Nat), c + j = 2616 → WPs l g mtX12_back 1 0 0 (pR (some (.int 1)) [(q, ob 12 (upd i 0 0) (rM A)), (A 1, aI g 2616 kp), (A 2, aI g 2616 kp)]) noX a 16 [some (.ref q), some (.int (nI j))] [] [(q, ob 12 (upd i 0 0) (rM A)), (A 1, aI g 2616 (cp m kp j)), (A 2, aI g 2616 kp)] 0 0 := by
    intro c
    induction c with
    | zero =>
      intro j hj
      obtain rfl : j = 2616 := by omega
      refine q_ax 1 kp rfl (cp_full m kp 2616) rfl ?_
      have hge : (2616 : Int32) ≤ nI 2616 := by decide
      refine q_iload_n 1 17 dX12_back_16 rfl rfl rfl ?_
      refine q_sipush 2616 20 dX12_back_17 sc_2616 rfl ?_
      refine q_icmp_ge 41 23 dX12_back_20 (by decide) rfl (fun h20 => ?_) (fun h20 => absurd hge h20)
      refine q_iconst 1 42 dX12_back_41 ic_1 rfl ?_
      refine q_zreturn dX12_back_42 rfl (Or.inr rfl) ?_
      exact pR.rf
    | succ c ih =>
      intro j hj
      have hlt : ¬ (2616 : Int32) ≤ nI j := by rw [show (2616 : Int32) = nI 2616 from by decide]; exact nI_ge (by omega) (by omega)
      have K1 := ih (j + 1) (by omega)
      rw [← cp_s m kp j] at K1
      clear ih
      refine q_iload_n 1 17 dX12_back_16 rfl rfl rfl ?_
      refine q_sipush 2616 20 dX12_back_17 sc_2616 rfl ?_
      refine q_icmp_ge 41 23 dX12_back_20 (by decide) rfl (fun h20 => absurd h20 hlt) (fun h20 => ?_)
      refine q_aload_n 0 24 dX12_back_23 rfl rfl rfl ?_
      refine q_getR 0 27 f_X12_7 dX12_back_24 rfl rfl rfl rfl ?_
      refine q_iload_n 1 28 dX12_back_27 rfl rfl rfl ?_
      refine q_aload_n 0 29 dX12_back_28 rfl rfl rfl ?_
      refine q_getR 0 32 f_X12_13 dX12_back_29 rfl rfl rfl rfl ?_
      refine q_iload_n 1 33 dX12_back_32 rfl rfl rfl ?_
      refine q_iald 2 j 34 dX12_back_33 rfl ⟨rfl, by omega, by decide⟩ rfl ?_
      refine q_iast 1 j 35 (w' := [_, _, _]) dX12_back_34 rfl ⟨rfl, by omega, by decide⟩ rfl rfl ?_
      refine q_iinc 1 (nI (j + 1)) 38 (L' := [_, _]) dX12_back_35 rfl (inc1 (j)) (by decide) rfl rfl ?_
      refine q_goto 16 dX12_back_38 (by decide) ?_
      exact K1
  have K0 := K 2616 0 rfl
  rw [cp_0] at K0
  refine q_aload_n 0 1 dX12_back_0 rfl rfl rfl ?_
  refine q_iconst 0 2 dX12_back_1 ic_0 rfl ?_
  refine q_putI 0 5 (w' := [_, _, _]) f_X12_67 ft_X12_0 dX12_back_2 rfl rfl rfl rfl ?_
  refine q_aload_n 0 6 dX12_back_5 rfl rfl rfl ?_
  refine q_getI 0 9 f_X12_309 dX12_back_6 rfl rfl rfl ?_
  refine q_if_ne 14 12 dX12_back_9 (by decide) rfl (fun h9 => ?_) (fun h9 => absurd h9 h)
  refine q_iconst 0 15 dX12_back_14 ic_0 rfl ?_
  refine q_istore_n 1 16 (L' := [_, _]) dX12_back_15 rfl (by decide) rfl rfl ?_
  exact K0
def ctV (m : Sc) (w : Int32) : Int32 := if w = 0 then m 192 else if w = 1 then m 193 else if w = 2 then m 194 else if w = 3 then m 195 else if w = 4 then m 196 else if w = 5 then m 197 else if w = 6 then m 198 else -1
theorem p_count {l : Launch} {g : Gh} {q : Nat} {A : Nat → Nat} {i m : Sc} {w : Int32} : Cp l g yX12_count (Cond.code yX12_count cX12_count 2 (some .int)) 1 [.ref q, .int w] [(q, ob 12 i (rM A)), (A 1, aI g 2616 m)] (some (.int (ctV m w))) [(q, ob 12 (upd i 0 0) (rM A)), (A 1, aI g 2616 m)] := by
  refine ct_of (M := mtX12_count) [some (.ref q), some (.int w)] rfl (by decide) (Nat.le_of_ble_eq_true rfl) (fun _ h => h) (fun a => ?_)
  unfold ctV
  refine q_aload_n 0 1 dX12_count_0 rfl rfl rfl ?_
  refine q_iconst 0 2 dX12_count_1 ic_0 rfl ?_
  refine q_putI 0 5 (w' := [_, _]) f_X12_67 ft_X12_0 dX12_count_2 rfl rfl rfl rfl ?_
  refine q_iload_n 1 6 dX12_count_5 rfl rfl rfl ?_
  refine q_if_ne 20 9 dX12_count_6 (by decide) rfl (fun h0 => ?_) (fun h0 => ?_)
  · refine q_iload_n 1 21 dX12_count_20 rfl rfl rfl ?_
    refine q_iconst 1 22 dX12_count_21 ic_1 rfl ?_
    refine q_icmp_ne 36 25 dX12_count_22 (by decide) rfl (fun h1 => ?_) (fun h1 => ?_)
    · refine q_iload_n 1 37 dX12_count_36 rfl rfl rfl ?_
      refine q_iconst 2 38 dX12_count_37 ic_2 rfl ?_
      refine q_icmp_ne 52 41 dX12_count_38 (by decide) rfl (fun h2 => ?_) (fun h2 => ?_)
      · refine q_iload_n 1 53 dX12_count_52 rfl rfl rfl ?_
        refine q_iconst 3 54 dX12_count_53 ic_3 rfl ?_
        refine q_icmp_ne 68 57 dX12_count_54 (by decide) rfl (fun h3 => ?_) (fun h3 => ?_)
        · refine q_iload_n 1 69 dX12_count_68 rfl rfl rfl ?_
          refine q_iconst 4 70 dX12_count_69 ic_4 rfl ?_
          refine q_icmp_ne 84 73 dX12_count_70 (by decide) rfl (fun h4 => ?_) (fun h4 => ?_)
          · refine q_iload_n 1 85 dX12_count_84 rfl rfl rfl ?_
            refine q_iconst 5 86 dX12_count_85 ic_5 rfl ?_
            refine q_icmp_ne 100 89 dX12_count_86 (by decide) rfl (fun h5 => ?_) (fun h5 => ?_)
            · refine q_iload_n 1 101 dX12_count_100 rfl rfl rfl ?_
              refine q_bipush 6 103 dX12_count_101 bc_6 rfl ?_
              refine q_icmp_ne 117 106 dX12_count_103 (by decide) rfl (fun h6 => ?_) (fun h6 => ?_)
              · refine q_iconst (-1) 118 dX12_count_117 ic_m1 rfl ?_
                refine q_ireturn dX12_count_118 rfl ?_
                first
                  | (rw [if_pos h0]; exact pR.rf)
                  | (rw [if_neg h0, if_pos h1]; exact pR.rf)
                  | (rw [if_neg h0, if_neg h1, if_pos h2]; exact pR.rf)
                  | (rw [if_neg h0, if_neg h1, if_neg h2, if_pos h3]; exact pR.rf)
                  | (rw [if_neg h0, if_neg h1, if_neg h2, if_neg h3, if_pos h4]; exact pR.rf)
                  | (rw [if_neg h0, if_neg h1, if_neg h2, if_neg h3, if_neg h4, if_pos h5]; exact pR.rf)
                  | (rw [if_neg h0, if_neg h1, if_neg h2, if_neg h3, if_neg h4, if_neg h5, if_pos h6]; exact pR.rf)
                  | (rw [if_neg h0, if_neg h1, if_neg h2, if_neg h3, if_neg h4, if_neg h5, if_neg h6]; exact pR.rf)
              · refine q_aload_n 0 107 dX12_count_106 rfl rfl rfl ?_
                refine q_getR 0 110 f_X12_7 dX12_count_107 rfl rfl rfl rfl ?_
                refine q_sipush 198 113 dX12_count_110 sc_198 rfl ?_
                refine q_iald 1 198 114 dX12_count_113 rfl ⟨by decide, by decide, by decide⟩ rfl ?_
                refine q_goto 118 dX12_count_114 (by decide) ?_
                refine q_ireturn dX12_count_118 rfl ?_
                first
                  | (rw [if_pos h0]; exact pR.rf)
                  | (rw [if_neg h0, if_pos h1]; exact pR.rf)
                  | (rw [if_neg h0, if_neg h1, if_pos h2]; exact pR.rf)
                  | (rw [if_neg h0, if_neg h1, if_neg h2, if_pos h3]; exact pR.rf)
                  | (rw [if_neg h0, if_neg h1, if_neg h2, if_neg h3, if_pos h4]; exact pR.rf)
                  | (rw [if_neg h0, if_neg h1, if_neg h2, if_neg h3, if_neg h4, if_pos h5]; exact pR.rf)
                  | (rw [if_neg h0, if_neg h1, if_neg h2, if_neg h3, if_neg h4, if_neg h5, if_pos h6]; exact pR.rf)
                  | (rw [if_neg h0, if_neg h1, if_neg h2, if_neg h3, if_neg h4, if_neg h5, if_neg h6]; exact pR.rf)
            · refine q_aload_n 0 90 dX12_count_89 rfl rfl rfl ?_
              refine q_getR 0 93 f_X12_7 dX12_count_90 rfl rfl rfl rfl ?_
              refine q_sipush 197 96 dX12_count_93 sc_197 rfl ?_
              refine q_iald 1 197 97 dX12_count_96 rfl ⟨by decide, by decide, by decide⟩ rfl ?_
              refine q_goto 118 dX12_count_97 (by decide) ?_
              refine q_ireturn dX12_count_118 rfl ?_
              first
                | (rw [if_pos h0]; exact pR.rf)
                | (rw [if_neg h0, if_pos h1]; exact pR.rf)
                | (rw [if_neg h0, if_neg h1, if_pos h2]; exact pR.rf)
                | (rw [if_neg h0, if_neg h1, if_neg h2, if_pos h3]; exact pR.rf)
                | (rw [if_neg h0, if_neg h1, if_neg h2, if_neg h3, if_pos h4]; exact pR.rf)
                | (rw [if_neg h0, if_neg h1, if_neg h2, if_neg h3, if_neg h4, if_pos h5]; exact pR.rf)
                | (rw [if_neg h0, if_neg h1, if_neg h2, if_neg h3, if_neg h4, if_neg h5, if_pos h6]; exact pR.rf)
                | (rw [if_neg h0, if_neg h1, if_neg h2, if_neg h3, if_neg h4, if_neg h5, if_neg h6]; exact pR.rf)
          · refine q_aload_n 0 74 dX12_count_73 rfl rfl rfl ?_
            refine q_getR 0 77 f_X12_7 dX12_count_74 rfl rfl rfl rfl ?_
            refine q_sipush 196 80 dX12_count_77 sc_196 rfl ?_
            refine q_iald 1 196 81 dX12_count_80 rfl ⟨by decide, by decide, by decide⟩ rfl ?_
            refine q_goto 118 dX12_count_81 (by decide) ?_
            refine q_ireturn dX12_count_118 rfl ?_
            first
              | (rw [if_pos h0]; exact pR.rf)
              | (rw [if_neg h0, if_pos h1]; exact pR.rf)
              | (rw [if_neg h0, if_neg h1, if_pos h2]; exact pR.rf)
              | (rw [if_neg h0, if_neg h1, if_neg h2, if_pos h3]; exact pR.rf)
              | (rw [if_neg h0, if_neg h1, if_neg h2, if_neg h3, if_pos h4]; exact pR.rf)
              | (rw [if_neg h0, if_neg h1, if_neg h2, if_neg h3, if_neg h4, if_pos h5]; exact pR.rf)
              | (rw [if_neg h0, if_neg h1, if_neg h2, if_neg h3, if_neg h4, if_neg h5, if_pos h6]; exact pR.rf)
              | (rw [if_neg h0, if_neg h1, if_neg h2, if_neg h3, if_neg h4, if_neg h5, if_neg h6]; exact pR.rf)
        · refine q_aload_n 0 58 dX12_count_57 rfl rfl rfl ?_
          refine q_getR 0 61 f_X12_7 dX12_count_58 rfl rfl rfl rfl ?_
          refine q_sipush 195 64 dX12_count_61 sc_195 rfl ?_
          refine q_iald 1 195 65 dX12_count_64 rfl ⟨by decide, by decide, by decide⟩ rfl ?_
          refine q_goto 118 dX12_count_65 (by decide) ?_
          refine q_ireturn dX12_count_118 rfl ?_
          first
            | (rw [if_pos h0]; exact pR.rf)
            | (rw [if_neg h0, if_pos h1]; exact pR.rf)
            | (rw [if_neg h0, if_neg h1, if_pos h2]; exact pR.rf)
            | (rw [if_neg h0, if_neg h1, if_neg h2, if_pos h3]; exact pR.rf)
            | (rw [if_neg h0, if_neg h1, if_neg h2, if_neg h3, if_pos h4]; exact pR.rf)
            | (rw [if_neg h0, if_neg h1, if_neg h2, if_neg h3, if_neg h4, if_pos h5]; exact pR.rf)
            | (rw [if_neg h0, if_neg h1, if_neg h2, if_neg h3, if_neg h4, if_neg h5, if_pos h6]; exact pR.rf)
            | (rw [if_neg h0, if_neg h1, if_neg h2, if_neg h3, if_neg h4, if_neg h5, if_neg h6]; exact pR.rf)
      · refine q_aload_n 0 42 dX12_count_41 rfl rfl rfl ?_
        refine q_getR 0 45 f_X12_7 dX12_count_42 rfl rfl rfl rfl ?_
        refine q_sipush 194 48 dX12_count_45 sc_194 rfl ?_
        refine q_iald 1 194 49 dX12_count_48 rfl ⟨by decide, by decide, by decide⟩ rfl ?_
        refine q_goto 118 dX12_count_49 (by decide) ?_
        refine q_ireturn dX12_count_118 rfl ?_
        first
          | (rw [if_pos h0]; exact pR.rf)
          | (rw [if_neg h0, if_pos h1]; exact pR.rf)
          | (rw [if_neg h0, if_neg h1, if_pos h2]; exact pR.rf)
          | (rw [if_neg h0, if_neg h1, if_neg h2, if_pos h3]; exact pR.rf)
          | (rw [if_neg h0, if_neg h1, if_neg h2, if_neg h3, if_pos h4]; exact pR.rf)
          | (rw [if_neg h0, if_neg h1, if_neg h2, if_neg h3, if_neg h4, if_pos h5]; exact pR.rf)
          | (rw [if_neg h0, if_neg h1, if_neg h2, if_neg h3, if_neg h4, if_neg h5, if_pos h6]; exact pR.rf)
          | (rw [if_neg h0, if_neg h1, if_neg h2, if_neg h3, if_neg h4, if_neg h5, if_neg h6]; exact pR.rf)
    · refine q_aload_n 0 26 dX12_count_25 rfl rfl rfl ?_
      refine q_getR 0 29 f_X12_7 dX12_count_26 rfl rfl rfl rfl ?_
      refine q_sipush 193 32 dX12_count_29 sc_193 rfl ?_
      refine q_iald 1 193 33 dX12_count_32 rfl ⟨by decide, by decide, by decide⟩ rfl ?_
      refine q_goto 118 dX12_count_33 (by decide) ?_
      refine q_ireturn dX12_count_118 rfl ?_
      first
        | (rw [if_pos h0]; exact pR.rf)
        | (rw [if_neg h0, if_pos h1]; exact pR.rf)
        | (rw [if_neg h0, if_neg h1, if_pos h2]; exact pR.rf)
        | (rw [if_neg h0, if_neg h1, if_neg h2, if_pos h3]; exact pR.rf)
        | (rw [if_neg h0, if_neg h1, if_neg h2, if_neg h3, if_pos h4]; exact pR.rf)
        | (rw [if_neg h0, if_neg h1, if_neg h2, if_neg h3, if_neg h4, if_pos h5]; exact pR.rf)
        | (rw [if_neg h0, if_neg h1, if_neg h2, if_neg h3, if_neg h4, if_neg h5, if_pos h6]; exact pR.rf)
        | (rw [if_neg h0, if_neg h1, if_neg h2, if_neg h3, if_neg h4, if_neg h5, if_neg h6]; exact pR.rf)
  · refine q_aload_n 0 10 dX12_count_9 rfl rfl rfl ?_
    refine q_getR 0 13 f_X12_7 dX12_count_10 rfl rfl rfl rfl ?_
    refine q_sipush 192 16 dX12_count_13 sc_192 rfl ?_
    refine q_iald 1 192 17 dX12_count_16 rfl ⟨by decide, by decide, by decide⟩ rfl ?_
    refine q_goto 118 dX12_count_17 (by decide) ?_
    refine q_ireturn dX12_count_118 rfl ?_
    first
      | (rw [if_pos h0]; exact pR.rf)
      | (rw [if_neg h0, if_pos h1]; exact pR.rf)
      | (rw [if_neg h0, if_neg h1, if_pos h2]; exact pR.rf)
      | (rw [if_neg h0, if_neg h1, if_neg h2, if_pos h3]; exact pR.rf)
      | (rw [if_neg h0, if_neg h1, if_neg h2, if_neg h3, if_pos h4]; exact pR.rf)
      | (rw [if_neg h0, if_neg h1, if_neg h2, if_neg h3, if_neg h4, if_pos h5]; exact pR.rf)
      | (rw [if_neg h0, if_neg h1, if_neg h2, if_neg h3, if_neg h4, if_neg h5, if_pos h6]; exact pR.rf)
      | (rw [if_neg h0, if_neg h1, if_neg h2, if_neg h3, if_neg h4, if_neg h5, if_neg h6]; exact pR.rf)

