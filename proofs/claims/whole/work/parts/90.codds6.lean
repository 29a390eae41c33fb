/-! ===== Odds: places ===== -/
def KyO (K : List Int32) : Prop := ∀ k ∈ K, ∃ c, c < 15488 ∧ k = nI c
/-- places of scores -/
def PlB (P : PlS) : Prop := PlO P ∧ plN P ≤ 16384 ∧ KyO (plK P)
theorem KyO.len {K : List Int32} (hn : K.Nodup) (h : KyO K) : K.length ≤ 15488 := by
  have h1 := nd_len 15488 (K.map (fun k => k.toNatClampNeg)) (List.pairwise_iff_getElem.mpr fun i j h1 h2 hij e => by
    rw [List.length_map] at h1 h2
    rw [List.getElem_map, List.getElem_map] at e
    obtain ⟨c1, d1, e1⟩ := h _ (List.getElem_mem h1)
    obtain ⟨c2, d2, e2⟩ := h _ (List.getElem_mem h2)
    rw [e1, e2, nI_clamp (by omega), nI_clamp (by omega)] at e
    have := (List.getElem_inj hn).mp (e1.trans ((congrArg nI e).trans e2.symm))
    omega) (fun x hx => by
    obtain ⟨k, hk, rfl⟩ := List.mem_map.mp hx
    obtain ⟨c, hc, e⟩ := h k hk
    rw [e, nI_clamp (by omega)]
    exact hc)
  rw [List.length_map] at h1
  exact h1
theorem PlB.len {P : PlS} (h : PlB P) : (plK P).length ≤ 15488 := h.2.2.len h.1.2.1.2.1
theorem KyO.put {K : List Int32} {key : Int32} (h : KyO K) (hk : ∃ c, c < 15488 ∧ key = nI c) : KyO (kPut K key) := by
  unfold kPut
  by_cases hm : key ∈ K
  · rw [if_pos hm]; exact h
  · rw [if_neg hm]
    intro k hk2
    rcases List.mem_append.mp hk2 with h1 | h1
    · exact h k h1
    · rw [List.mem_singleton.mp h1]; exact hk
theorem gr_f {P : PlS} (h : PlB P) : gC (plK P).length (plN P) + plN P ≤ gN (plK P).length (plN P) ∧ gS (plK P).length (plN P) + 10 * plN P = 10 * gN (plK P).length (plN P) ∧ gN (plK P).length (plN P) ≤ 16384 := by
  have hl := h.len
  obtain ⟨⟨_, _, _, m, hm, hN⟩, h2, _⟩ := h
  obtain ⟨p1, p2, p3⟩ := pow_16 hm hN
  unfold gC gS gN
  by_cases hg : plN P ≤ (plK P).length
  · rw [if_pos hg, if_pos hg, if_pos hg]
    refine ⟨by omega, by omega, ?_⟩
    rcases Nat.lt_or_ge m 10 with h10 | h10
    · have h9 : 2 ^ m ≤ 2 ^ 9 := Nat.pow_le_pow_right (by decide) (by omega)
      omega
    · have h9 : 2 ^ 10 ≤ 2 ^ m := Nat.pow_le_pow_right (by decide) h10
      omega
  · rw [if_neg hg, if_neg hg, if_neg hg]
    exact ⟨by omega, by omega, h2⟩
theorem c_X2_placeOf {l : Launch} {g : Gh} {q sc : Nat} {r : Nat → Nat} {i s : Sc} {P : PlS} (h : PlB P) (hs : ∃ c, c < 15488 ∧ sCode s = nI c) : Cn l g yX2_placeOf (Cond.code yX2_placeOf cX2_placeOf 2 (some .int)) 5 (16384 - plN P) (10 * (16384 - plN P)) [.ref q, .ref sc] [(q, ob 2 i (rO r)), ((r 0), ob 3 (plI P) (rPl (plKe P) (plTa P))), (plKe P, aI g (plN P) (plKf P)), (plTa P, aI g (4 * plN P) (plTb P)), (sc, ob 8 s [])] (fun _ : PlS => some (.int (nI (4 + (plK P).idxOf (sCode s))))) (fun P : PlS => [(q, ob 2 i (rO r)), ((r 0), ob 3 (plI P) (rPl (plKe P) (plTa P))), (plKe P, aI g (plN P) (plKf P)), (plTa P, aI g (4 * plN P) (plTb P)), (sc, ob 8 s [])]) (fun P' k n => PlB P' ∧ plK P' = kPut (plK P) (sCode s) ∧ k + plN P ≤ plN P' ∧ n + 10 * plN P = 10 * plN P') := by
  refine ct_of (M := mtX2_placeOf) [some (.ref q), some (.ref sc)] rfl (by decide) (Nat.le_of_ble_eq_true rfl) (fun _ h => h) (fun a => ?_)
  obtain ⟨g1, g2, g3⟩ := gr_f h
  have hl := h.len
  have e4 : (4 : Int32) + nI ((plK P).idxOf (sCode s)) = nI (4 + (plK P).idxOf (sCode s)) := by rw [show (4 : Int32) = nI 4 by decide, nI_add]
  refine q_iconst 4 1 dX2_placeOf_0 ic_4 rfl ?_
  refine q_aload_n 0 2 dX2_placeOf_1 rfl rfl rfl ?_
  refine q_getR 0 5 f_X2_12 dX2_placeOf_2 rfl rfl rfl rfl ?_
  refine q_aload_n 1 6 dX2_placeOf_5 rfl rfl rfl ?_
  refine q_cVi 4 [4] [0, 1, 2, 3] [0, 1, 2, 3, 4] 9 (wr := [_, _, _, _]) (w1 := _) (ws' := [_, _, _, _, _]) c_X8_code m_X2_85 dX2_placeOf_6 rfl rfl rfl rfl rfl rfl rfl rfl (by decide) (by decide) (by decide) (by decide) (Nat.le_of_ble_eq_true rfl) (by omega) (by omega) (by omega) rfl ?_
  refine q_yVi 1 [1, 2, 3] [0, 4] [0, 2, 3, 4, 1] 12 (wr := [_, _]) (w1 := _) (ws' := fun _ => [_, _, _, _, _]) (c_X3_pl h.1 (by omega)) m_X2_89 dX2_placeOf_9 rfl rfl rfl rfl rfl rfl rfl (fun _ => rfl) (by decide) (by decide) (by decide) (by decide) (Nat.le_of_ble_eq_true rfl) (by omega) (by omega) (by omega) rfl (fun P9 k9 n9 hx9 => ?_)
  refine q_iadd 13 dX2_placeOf_12 rfl ?_
  rw [e4]
  refine q_ireturn dX2_placeOf_13 rfl ?_
  exact pX.mk P9 (by obtain ⟨h1, h2, h3, h4, h5⟩ := hx9; exact ⟨⟨h1, by omega, by rw [h2]; exact h.2.2.put hs⟩, h2, by omega, by omega⟩) rfl rfl
/-- where a rally leads: a way of the game's end, or a score -/
def tgt (sf sb : Sc) : Nat ⊕ Int32 := if sf 7 < sb 7 then .inl (sb 2).toNatClampNeg else if sf 8 < sb 8 then .inl (2 + (sb 2).toNatClampNeg) else .inr (sCode sb)
def plc (K : List Int32) : Nat ⊕ Int32 → Nat
  | .inl w => w
  | .inr k => 4 + K.idxOf k
def tgK (K : List Int32) : Nat ⊕ Int32 → List Int32
  | .inl _ => K
  | .inr k => kPut K k
theorem c_X2_placeBehind {l : Launch} {g : Gh} {q v : Nat} {r : Nat → Nat} {i sf sb : Sc} {P : PlS} (h : PlB P) (hv : sb 2 = nI v) (hv1 : v ≤ 1) (hs : ∀ k, tgt sf sb = .inr k → ∃ c, c < 15488 ∧ k = nI c) : Cn l g yX2_placeBehind (Cond.code yX2_placeBehind cX2_placeBehind 1 (some .int)) 6 (16384 - plN P) (10 * (16384 - plN P)) [.ref q] [(q, ob 2 i (rO r)), ((r 0), ob 3 (plI P) (rPl (plKe P) (plTa P))), (plKe P, aI g (plN P) (plKf P)), (plTa P, aI g (4 * plN P) (plTb P)), (r 1, ob 8 sf []), (r 2, ob 8 sb [])] (fun _ : PlS => some (.int (nI (plc (plK P) (tgt sf sb))))) (fun P : PlS => [(q, ob 2 i (rO r)), ((r 0), ob 3 (plI P) (rPl (plKe P) (plTa P))), (plKe P, aI g (plN P) (plKf P)), (plTa P, aI g (4 * plN P) (plTb P)), (r 1, ob 8 sf []), (r 2, ob 8 sb [])]) (fun P' k n => PlB P' ∧ plK P' = tgK (plK P) (tgt sf sb) ∧ k + plN P ≤ plN P' ∧ n + 10 * plN P = 10 * plN P') := by
  refine ct_of (M := mtX2_placeBehind) [some (.ref q)] rfl (by decide) (Nat.le_of_ble_eq_true rfl) (fun _ h => h) (fun a => ?_)
  have hcl : (sb 2).toNatClampNeg = v := by rw [hv, nI_clamp (by omega)]
  by_cases h7 : sf 7 < sb 7
  · have ht : tgt sf sb = .inl v := by unfold tgt; rw [if_pos h7, hcl]
    have hle : ¬ sb 7 ≤ sf 7 := Int32.not_le.mpr h7
    rw [ht]
    refine q_aload_n 0 1 dX2_placeBehind_0 rfl rfl rfl ?_
    refine q_getR 0 4 f_X2_25 dX2_placeBehind_1 rfl rfl rfl rfl ?_
    refine q_getI 5 7 f_X2_177 dX2_placeBehind_4 rfl rfl rfl ?_
    refine q_aload_n 0 8 dX2_placeBehind_7 rfl rfl rfl ?_
    refine q_getR 0 11 f_X2_21 dX2_placeBehind_8 rfl rfl rfl rfl ?_
    refine q_getI 4 14 f_X2_177 dX2_placeBehind_11 rfl rfl rfl ?_
    refine q_icmp_le 25 17 dX2_placeBehind_14 (by decide) rfl (fun h14 => absurd h14 hle) (fun h14 => ?_)
    refine q_aload_n 0 18 dX2_placeBehind_17 rfl rfl rfl ?_
    refine q_getR 0 21 f_X2_25 dX2_placeBehind_18 rfl rfl rfl rfl ?_
    refine q_getI 5 24 f_X2_155 dX2_placeBehind_21 rfl rfl rfl ?_
    refine q_ireturn dX2_placeBehind_24 rfl ?_
    exact pX.mk P ⟨h, rfl, by omega, by omega⟩ (by rw [hv]; rfl) rfl
  · have hle : sb 7 ≤ sf 7 := Int32.not_lt.mp h7
    by_cases h8 : sf 8 < sb 8
    · have ht : tgt sf sb = .inl (2 + v) := by unfold tgt; rw [if_neg h7, if_pos h8, hcl]
      have hle8 : ¬ sb 8 ≤ sf 8 := Int32.not_le.mpr h8
      rw [ht]
      have e2 : (2 : Int32) + sb 2 = nI (2 + v) := by rw [hv, show (2 : Int32) = nI 2 by decide, nI_add]
      refine q_aload_n 0 1 dX2_placeBehind_0 rfl rfl rfl ?_
      refine q_getR 0 4 f_X2_25 dX2_placeBehind_1 rfl rfl rfl rfl ?_
      refine q_getI 5 7 f_X2_177 dX2_placeBehind_4 rfl rfl rfl ?_
      refine q_aload_n 0 8 dX2_placeBehind_7 rfl rfl rfl ?_
      refine q_getR 0 11 f_X2_21 dX2_placeBehind_8 rfl rfl rfl rfl ?_
      refine q_getI 4 14 f_X2_177 dX2_placeBehind_11 rfl rfl rfl ?_
      refine q_icmp_le 25 17 dX2_placeBehind_14 (by decide) rfl (fun h14 => ?_) (fun h14 => absurd hle h14)
      refine q_aload_n 0 26 dX2_placeBehind_25 rfl rfl rfl ?_
      refine q_getR 0 29 f_X2_25 dX2_placeBehind_26 rfl rfl rfl rfl ?_
      refine q_getI 5 32 f_X2_180 dX2_placeBehind_29 rfl rfl rfl ?_
      refine q_aload_n 0 33 dX2_placeBehind_32 rfl rfl rfl ?_
      refine q_getR 0 36 f_X2_21 dX2_placeBehind_33 rfl rfl rfl rfl ?_
      refine q_getI 4 39 f_X2_180 dX2_placeBehind_36 rfl rfl rfl ?_
      refine q_icmp_le 52 42 dX2_placeBehind_39 (by decide) rfl (fun h39 => absurd h39 hle8) (fun h39 => ?_)
      refine q_iconst 2 43 dX2_placeBehind_42 ic_2 rfl ?_
      refine q_aload_n 0 44 dX2_placeBehind_43 rfl rfl rfl ?_
      refine q_getR 0 47 f_X2_25 dX2_placeBehind_44 rfl rfl rfl rfl ?_
      refine q_getI 5 50 f_X2_155 dX2_placeBehind_47 rfl rfl rfl ?_
      refine q_iadd 51 dX2_placeBehind_50 rfl ?_
      rw [e2]
      refine q_ireturn dX2_placeBehind_51 rfl ?_
      exact pX.mk P ⟨h, rfl, by omega, by omega⟩ rfl rfl
    · have ht : tgt sf sb = .inr (sCode sb) := by unfold tgt; rw [if_neg h7, if_neg h8]
      have hle8 : sb 8 ≤ sf 8 := Int32.not_lt.mp h8
      have hs2 := hs _ ht
      rw [ht]
      refine q_aload_n 0 1 dX2_placeBehind_0 rfl rfl rfl ?_
      refine q_getR 0 4 f_X2_25 dX2_placeBehind_1 rfl rfl rfl rfl ?_
      refine q_getI 5 7 f_X2_177 dX2_placeBehind_4 rfl rfl rfl ?_
      refine q_aload_n 0 8 dX2_placeBehind_7 rfl rfl rfl ?_
      refine q_getR 0 11 f_X2_21 dX2_placeBehind_8 rfl rfl rfl rfl ?_
      refine q_getI 4 14 f_X2_177 dX2_placeBehind_11 rfl rfl rfl ?_
      refine q_icmp_le 25 17 dX2_placeBehind_14 (by decide) rfl (fun h14 => ?_) (fun h14 => absurd hle h14)
      refine q_aload_n 0 26 dX2_placeBehind_25 rfl rfl rfl ?_
      refine q_getR 0 29 f_X2_25 dX2_placeBehind_26 rfl rfl rfl rfl ?_
      refine q_getI 5 32 f_X2_180 dX2_placeBehind_29 rfl rfl rfl ?_
      refine q_aload_n 0 33 dX2_placeBehind_32 rfl rfl rfl ?_
      refine q_getR 0 36 f_X2_21 dX2_placeBehind_33 rfl rfl rfl rfl ?_
      refine q_getI 4 39 f_X2_180 dX2_placeBehind_36 rfl rfl rfl ?_
      refine q_icmp_le 52 42 dX2_placeBehind_39 (by decide) rfl (fun h39 => ?_) (fun h39 => absurd hle8 h39)
      refine q_aload_n 0 53 dX2_placeBehind_52 rfl rfl rfl ?_
      refine q_aload_n 0 54 dX2_placeBehind_53 rfl rfl rfl ?_
      refine q_getR 0 57 f_X2_25 dX2_placeBehind_54 rfl rfl rfl rfl ?_
      refine q_yVi 0 [0, 1, 2, 3, 5] [4] [1, 2, 3, 4, 0, 5] 60 (wr := [_]) (w1 := _) (ws' := fun _ => [_, _, _, _, _, _]) (c_X2_placeOf h hs2) m_X2_183 dX2_placeBehind_57 rfl rfl rfl rfl rfl rfl rfl (fun _ => rfl) (by decide) (by decide) (by decide) (by decide) (Nat.le_of_ble_eq_true rfl) (by omega) (by omega) (by omega) rfl (fun P57 k57 n57 hx57 => ?_)
      refine q_ireturn dX2_placeBehind_60 rfl ?_
      exact pX.mk P57 (by obtain ⟨h1, h2, h3, h4⟩ := hx57; exact ⟨h1, h2, by omega, by omega⟩) rfl rfl

