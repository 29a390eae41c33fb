/-! ===== Places, the rest ===== -/
/-- places: keys in order, room, the cells of keys and table, fields, keys, table -/
abbrev PlS : Type := List Int32 × Nat × Nat × Nat × Sc × Sc × Sc
abbrev plK (P : PlS) : List Int32 := P.1
abbrev plN (P : PlS) : Nat := P.2.1
abbrev plKe (P : PlS) : Nat := P.2.2.1
abbrev plTa (P : PlS) : Nat := P.2.2.2.1
abbrev plI (P : PlS) : Sc := P.2.2.2.2.1
abbrev plKf (P : PlS) : Sc := P.2.2.2.2.2.1
abbrev plTb (P : PlS) : Sc := P.2.2.2.2.2.2
def PlO (P : PlS) : Prop := plI P 2 = nI (plK P).length ∧ keysO (plK P) (plN P) (plKf P) ∧ TbR (plK P) (plK P).length (4 * plN P) (plTb P) ∧ ∃ m, m ≤ 18 ∧ plN P = 16 * 2 ^ m
theorem pow_16 {N m : Nat} (hm : m ≤ 18) (h : N = 16 * 2 ^ m) : N ≤ 2 ^ 22 ∧ 16 ≤ N ∧ 4 * N = 2 ^ (m + 6) := by
  have h1 : 2 ^ m ≤ 2 ^ 18 := Nat.pow_le_pow_right (by decide) hm
  have h2 : 1 ≤ 2 ^ m := Nat.one_le_two_pow
  refine ⟨by omega, by omega, ?_⟩
  rw [Nat.pow_add, h]
  omega
theorem c_X3_grow {l : Launch} {g : Gh} {q N ke ta : Nat} {i kf tb : Sc} {K : List Int32} (h : PlO (K, N, ke, ta, i, kf, tb)) (hN : N ≤ 2 ^ 20) : Cn l g yX3_grow (Cond.code yX3_grow cX3_grow 2 none) 3 2 (10 * N) [.ref q] [(q, ob 3 i (rPl ke ta)), (ke, aI g (N) kf), (ta, aI g (4 * (N)) tb)] (fun _ : PlS => none) (fun P : PlS => [(q, ob 3 (plI P) (rPl (plKe P) (plTa P))), (plKe P, aI g (plN P) (plKf P)), (plTa P, aI g (4 * plN P) (plTb P))]) (fun P k n => PlO P ∧ plK P = K ∧ plN P = N * 2 ∧ k = 2 ∧ n = 10 * N) := by
  refine ct_of (M := mtX3_grow) [some (.ref q), none] rfl (by decide) (Nat.le_of_ble_eq_true rfl) (fun _ h => h) (fun a => ?_)
  obtain ⟨h1, h2, h3, m, hm, hNm⟩ := h
  have h1 : i 2 = nI K.length := h1
  have h2 : keysO K N kf := h2
  have hNm : N = 16 * 2 ^ m := hNm
  obtain ⟨p1, p2, p3⟩ := pow_16 hm hNm
  have hm2 : m + 1 ≤ 18 := by
    refine Classical.byContradiction fun hc => ?_
    have : 2 ^ 18 ≤ 2 ^ m := Nat.pow_le_pow_right (by decide) (by omega)
    omega
  have hN2 : N * 2 = 16 * 2 ^ (m + 1) := by rw [Nat.pow_succ, hNm]; omega
  obtain ⟨p4, p5, p6⟩ := pow_16 hm2 hN2
  have hk3 : keysO K (N * 2) (ext kf N (N * 2)) := ⟨by have := h2.1; omega, h2.2.1, fun z hz => by
    have := h2.1
    rw [ext_lt kf (by omega) (by omega)]
    exact h2.2.2 z hz⟩
  have e2 : nI N * 2 = nI (N * 2) := by rw [show (2 : Int32) = nI 2 by decide, pk_mul]
  have e4 : nI (N * 2) * 4 = nI (4 * (N * 2)) := by rw [show (4 : Int32) = nI 4 by decide, pk_mul, Nat.mul_comm]
  have hkl := h2.1
  have K33 : ∀ (kf2 : Sc), keysO K (N * 2) kf2 → ∀ (r t2 kk nn : Nat), kk = 2 → nn = 10 * N → ∀ (c9 c : Nat) (tb : Sc), c9 + c = K.length → TbR K c (4 * (N * 2)) tb → WPs l g mtX3_grow 3 2 (10 * N) (pX (fun _ : PlS => none) (fun P : PlS => [(q, ob 3 (plI P) (rPl (plKe P) (plTa P))), (plKe P, aI g (plN P) (plKf P)), (plTa P, aI g (4 * plN P) (plTb P))]) (fun P k n => PlO P ∧ plK P = K ∧ plN P = N * 2 ∧ k = 2 ∧ n = 10 * N)) noX a 33 [some (.ref q), some (.int (nI c))] [] [(q, ob 3 i (rPl r t2)), (r, aI g (N * 2) kf2), (t2, aI g (4 * (N * 2)) tb)] kk nn := by
    intro kf2 hk2 r t2 kk nn hk hn c9
    induction c9 with
    | zero =>
      intro c tb hc hT
      obtain rfl : c = K.length := by omega
      have hge : i 2 ≤ nI K.length := by rw [h1]; exact Int32.le_refl _
      refine q_iload_n 1 34 dX3_grow_33 rfl rfl rfl ?_
      refine q_aload_n 0 35 dX3_grow_34 rfl rfl rfl ?_
      refine q_getI 0 38 f_X3_22 dX3_grow_35 rfl rfl rfl ?_
      refine q_icmp_ge 65 41 dX3_grow_38 (by decide) rfl (fun h38 => ?_) (fun h38 => absurd hge h38)
      refine q_return dX3_grow_65 rfl ?_
      exact pX.mk (K, N * 2, r, t2, i, kf2, tb) ⟨⟨h1, hk2, hT, m + 1, hm2, hN2⟩, rfl, rfl, hk, hn⟩ rfl rfl
    | succ c9 ih =>
      intro c tb hc hT
      have hlt : ¬ i 2 ≤ nI c := by rw [h1]; exact nI_ge (by omega) (by omega)
      have K1 := ih (c + 1)
      clear ih
      refine q_iload_n 1 34 dX3_grow_33 rfl rfl rfl ?_
      refine q_aload_n 0 35 dX3_grow_34 rfl rfl rfl ?_
      refine q_getI 0 38 f_X3_22 dX3_grow_35 rfl rfl rfl ?_
      refine q_icmp_ge 65 41 dX3_grow_38 (by decide) rfl (fun h38 => absurd h38 hlt) (fun h38 => ?_)
      refine q_aload_n 0 42 dX3_grow_41 rfl rfl rfl ?_
      refine q_getR 0 45 f_X3_13 dX3_grow_42 rfl rfl rfl rfl ?_
      refine q_aload_n 0 46 dX3_grow_45 rfl rfl rfl ?_
      refine q_aload_n 0 47 dX3_grow_46 rfl rfl rfl ?_
      refine q_getR 0 50 f_X3_7 dX3_grow_47 rfl rfl rfl rfl ?_
      refine q_iload_n 1 51 dX3_grow_50 rfl rfl rfl ?_
      refine q_iald 1 c 52 dX3_grow_51 rfl ⟨rfl, by omega, by omega⟩ rfl ?_
      rw [hk2.2.2 c (by omega)]
      refine q_xVi 0 [0, 1, 2] [] [0, 1, 2] 55 (wr := []) (w1 := _) (ws' := fun _ => [_, _, _]) (c_X3_slotOf (m := m + 1 + 6) p6 (by omega) (by omega) hk2 (by omega) (by omega) hT) m_X3_29 dX3_grow_52 rfl rfl rfl rfl rfl rfl rfl (fun _ => rfl) (by decide) (by decide) (by decide) (by decide) (Nat.le_of_ble_eq_true rfl) (by omega) (by omega) (by omega) rfl (fun s52 hx52 => ?_)
      refine q_iload_n 1 56 dX3_grow_55 rfl rfl rfl ?_
      refine q_iconst 1 57 dX3_grow_56 ic_1 rfl ?_
      refine q_iadd 58 dX3_grow_57 rfl ?_
      rw [nI_1]; have hsl := hx52.1
      refine q_iast 2 s52 59 (w' := [_, _, _]) dX3_grow_58 rfl ⟨rfl, by omega, by omega⟩ rfl rfl ?_
      refine q_iinc 1 (nI (c + 1)) 62 (L' := [_, _]) dX3_grow_59 rfl (inc1 (c)) (by decide) rfl rfl ?_
      refine q_goto 33 dX3_grow_62 (by decide) ?_
      refine K1 _ (by omega) ?_
      rcases hx52.2 with ⟨i9, hi9, e9, _⟩ | ⟨_, h0, hp⟩
      · have := kAt_inj hk2.2.1 (by omega) (by omega) e9
        omega
      · exact TbR_put hT (by omega) (by omega) hsl h0 hp
  refine q_aload_n 0 1 dX3_grow_0 rfl rfl rfl ?_
  refine q_aload_n 0 2 dX3_grow_1 rfl rfl rfl ?_
  refine q_getR 0 5 f_X3_7 dX3_grow_2 rfl rfl rfl rfl ?_
  refine q_aload_n 0 6 dX3_grow_5 rfl rfl rfl ?_
  refine q_getR 0 9 f_X3_7 dX3_grow_6 rfl rfl rfl rfl ?_
  refine q_alenI 1 _ 10 dX3_grow_9 rfl rfl rfl ?_
  refine q_iconst 2 11 dX3_grow_10 ic_2 rfl ?_
  refine q_imul 12 dX3_grow_11 rfl ?_
  rw [e2]
  refine q_ySr [1] [0, 2] [0, 2, 1, 3] 15 (wr := [_, _]) (w1 := _) (ws' := fun _ => [_, _, _, _]) (c_copyI (n := N) (N := N * 2) (by omega) (by omega) (by omega)) m_X3_34 dX3_grow_12 rfl rfl rfl rfl (fun _ => rfl) (by decide) (by decide) (by decide) (by decide) (Nat.le_of_ble_eq_true rfl) (by omega) (by omega) (by omega) rfl (fun q912 k12 n12 hx12 => ?_)
  refine q_putR 0 18 (w' := [_, _, _, _]) (r' := [_, _, _]) f_X3_7 ft_X3_0 dX3_grow_15 rfl rfl (Nat.le_of_ble_eq_true rfl) rfl rfl rfl rfl rfl ?_
  refine q_aload_n 0 19 dX3_grow_18 rfl rfl rfl ?_
  refine q_aload_n 0 20 dX3_grow_19 rfl rfl rfl ?_
  refine q_getR 0 23 f_X3_7 dX3_grow_20 rfl rfl rfl rfl ?_
  refine q_alenI 3 _ 24 dX3_grow_23 rfl rfl rfl ?_
  refine q_iconst 4 25 dX3_grow_24 ic_4 rfl ?_
  refine q_imul 26 dX3_grow_25 rfl ?_
  rw [e4]
  refine q_newI 28 dX3_grow_26 rfl (by omega) (by omega) (by omega) rfl (fun q26 => ?_)
  refine q_putR 0 31 (w' := [_, _, _, _, _]) (r' := [_, _, _]) f_X3_13 ft_X3_1 dX3_grow_28 rfl rfl (Nat.le_of_ble_eq_true rfl) rfl rfl rfl rfl rfl ?_
  refine q_iconst 0 32 dX3_grow_31 ic_0 rfl ?_
  refine q_istore_n 1 33 (L' := [_, _]) dX3_grow_32 rfl (by decide) rfl rfl ?_
  refine q_sub (ws' := [_, _, _]) [0, 3, 4] rfl rfl ?_
  exact K33 _ hk3 _ _ _ _ (by omega) (by omega) K.length 0 _ (by omega) (TbR_0 K _)
theorem PlO.gr {l : Launch} {g : Gh} {q : Nat} {P : PlS} (h : PlO P) (hN : plN P ≤ 2 ^ 20) : Cn l g yX3_grow (Cond.code yX3_grow cX3_grow 2 none) 3 2 (10 * plN P) [.ref q] [(q, ob 3 (plI P) (rPl (plKe P) (plTa P))), (plKe P, aI g (plN P) (plKf P)), (plTa P, aI g (4 * plN P) (plTb P))] (fun _ : PlS => none) (fun P : PlS => [(q, ob 3 (plI P) (rPl (plKe P) (plTa P))), (plKe P, aI g (plN P) (plKf P)), (plTa P, aI g (4 * plN P) (plTb P))]) (fun P' k n => PlO P' ∧ plK P' = plK P ∧ plN P' = plN P * 2 ∧ k = 2 ∧ n = 10 * plN P) := by
  obtain ⟨K, N, ke, ta, i, kf, tb⟩ := P
  exact c_X3_grow h hN
def kPut (K : List Int32) (key : Int32) : List Int32 := if key ∈ K then K else K ++ [key]
/-- by how many cells and slots it grows, and to what room -/
def gC (c N : Nat) : Nat := if N ≤ c then 2 else 0
def gS (c N : Nat) : Nat := if N ≤ c then 10 * N else 0
def gN (c N : Nat) : Nat := if N ≤ c then N * 2 else N
theorem kAt_mem {K : List Int32} {i : Nat} (h : i < K.length) : kAt K i ∈ K := by
  unfold kAt
  rw [List.getD_eq_getElem?_getD, List.getElem?_eq_getElem h]
  exact List.getElem_mem h
theorem kAt_idx {K : List Int32} {i : Nat} (hn : K.Nodup) (h : i < K.length) : K.idxOf (kAt K i) = i := by
  unfold kAt
  rw [List.getD_eq_getElem?_getD, List.getElem?_eq_getElem h]
  exact hn.idxOf_getElem i h
theorem mem_kAt {K : List Int32} {key : Int32} (h : key ∈ K) : ∃ i, i < K.length ∧ kAt K i = key := by
  obtain ⟨i, hi, e⟩ := List.getElem_of_mem h
  refine ⟨i, hi, ?_⟩
  unfold kAt
  rw [List.getD_eq_getElem?_getD, List.getElem?_eq_getElem hi]
  exact e
theorem kAt_app {K : List Int32} {v : Int32} {i : Nat} (h : i < K.length) : kAt (K ++ [v]) i = kAt K i := by
  unfold kAt; simp [List.getD, List.getElem?_append_left h]
theorem kAt_end (K : List Int32) (v : Int32) : kAt (K ++ [v]) K.length = v := by
  unfold kAt; simp [List.getD]
theorem keysO_app {K : List Int32} {N : Nat} {kf : Sc} {key : Int32} (h : keysO K N kf) (hl : K.length < N) (hk : ¬ key ∈ K) : keysO (K ++ [key]) N (upd kf K.length key) := by
  refine ⟨by rw [List.length_append]; exact hl, ?_, fun z hz => ?_⟩
  · rw [List.nodup_append]
    refine ⟨h.2.1, by simp, fun a ha b hb e => ?_⟩
    rw [List.mem_singleton] at hb
    subst hb
    exact hk (e ▸ ha)
  · rw [List.length_append] at hz
    have hz : z < K.length + 1 := hz
    by_cases e : z = K.length
    · rw [e, kAt_end, pk_us]
    · rw [pk_un e, kAt_app (by omega)]
      exact h.2.2 z (by omega)
theorem c_X3_placeOf {l : Launch} {g : Gh} {q N0 ke0 ta0 : Nat} {i0 kf0 tb0 : Sc} {K : List Int32} {key : Int32} (h : PlO (K, N0, ke0, ta0, i0, kf0, tb0)) (hl : K.length ≤ 2 ^ 20) : Ct l g yX3_placeOf (Cond.code yX3_placeOf cX3_placeOf 3 (some .int)) 4 (gC K.length N0) (gS K.length N0) [.ref q, .int key] [(q, ob 3 i0 (rPl ke0 ta0)), (ke0, aI g (N0) kf0), (ta0, aI g (4 * (N0)) tb0)] (pX (fun _ : PlS => some (.int (nI (K.idxOf key)))) (fun P : PlS => [(q, ob 3 (plI P) (rPl (plKe P) (plTa P))), (plKe P, aI g (plN P) (plKf P)), (plTa P, aI g (4 * plN P) (plTb P))]) (fun P k n => PlO P ∧ plK P = kPut K key ∧ plN P = gN K.length N0 ∧ k = gC K.length N0 ∧ n = gS K.length N0)) noX := by
  refine ct_of (M := mtX3_placeOf) [some (.ref q), some (.int key), none] rfl (by decide) (Nat.le_of_ble_eq_true rfl) (fun _ h => h) (fun a => ?_)
  have K16 : ∀ (N ke ta : Nat) (i kf tb : Sc) (kk nn : Nat), PlO (K, N, ke, ta, i, kf, tb) → K.length < N → N = gN K.length N0 → kk = gC K.length N0 → nn = gS K.length N0 → WPs l g mtX3_placeOf 4 (gC K.length N0) (gS K.length N0) (pX (fun _ : PlS => some (.int (nI (K.idxOf key)))) (fun P : PlS => [(q, ob 3 (plI P) (rPl (plKe P) (plTa P))), (plKe P, aI g (plN P) (plKf P)), (plTa P, aI g (4 * plN P) (plTb P))]) (fun P k n => PlO P ∧ plK P = kPut K key ∧ plN P = gN K.length N0 ∧ k = gC K.length N0 ∧ n = gS K.length N0)) noX a 16 [some (.ref q), some (.int key), none] [] [(q, ob 3 i (rPl ke ta)), (ke, aI g (N) kf), (ta, aI g (4 * (N)) tb)] kk nn := by
    intro N ke ta i kf tb kk nn hP hlN hN hk hn
    have hP0 := hP
    obtain ⟨h1, h2, h3, m, hm, hNm⟩ := hP
    have h1 : i 2 = nI K.length := h1
    have h2 : keysO K N kf := h2
    have h3 : TbR K K.length (4 * N) tb := h3
    have hNm : N = 16 * 2 ^ m := hNm
    obtain ⟨p1, p2, p3⟩ := pow_16 hm hNm
    refine q_aload_n 0 17 dX3_placeOf_16 rfl rfl rfl ?_
    refine q_iload_n 1 18 dX3_placeOf_17 rfl rfl rfl ?_
    refine q_xVi 0 [0, 1, 2] [] [0, 1, 2] 21 (wr := []) (w1 := _) (ws' := fun _ => [_, _, _]) (c_X3_slotOf (m := m + 6) p3 (by omega) (by omega) h2 (Nat.le_refl _) (by omega) h3) m_X3_29 dX3_placeOf_18 rfl rfl rfl rfl rfl rfl rfl (fun _ => rfl) (by decide) (by decide) (by decide) (by decide) (Nat.le_of_ble_eq_true rfl) (by omega) (by omega) (by omega) rfl (fun s18 hx18 => ?_)
    refine q_istore_n 2 22 (L' := [_, _, _]) dX3_placeOf_21 rfl (by decide) rfl rfl ?_
    skip
    have hsl := hx18.1
    rcases hx18.2 with ⟨j, hj, ej, etb⟩ | ⟨hno, h0, hp⟩
    · have hne : ¬ tb s18 = 0 := by rw [etb]; exact nI_ne0 (by omega) (by omega)
      have hmem : key ∈ K := by rw [← ej]; exact kAt_mem hj
      have hix : K.idxOf key = j := by rw [← ej]; exact kAt_idx h2.2.1 hj
      have hput : kPut K key = K := if_pos hmem
      refine q_aload_n 0 23 dX3_placeOf_22 rfl rfl rfl ?_
      refine q_getR 0 26 f_X3_13 dX3_placeOf_23 rfl rfl rfl rfl ?_
      refine q_iload_n 2 27 dX3_placeOf_26 rfl rfl rfl ?_
      refine q_iald 2 s18 28 dX3_placeOf_27 rfl ⟨rfl, by omega, by omega⟩ rfl ?_
      refine q_if_ne 58 31 dX3_placeOf_28 (by decide) rfl (fun h28 => ?_) (fun h28 => absurd h28 hne)
      refine q_aload_n 0 59 dX3_placeOf_58 rfl rfl rfl ?_
      refine q_getR 0 62 f_X3_13 dX3_placeOf_59 rfl rfl rfl rfl ?_
      refine q_iload_n 2 63 dX3_placeOf_62 rfl rfl rfl ?_
      refine q_iald 2 s18 64 dX3_placeOf_63 rfl ⟨rfl, by omega, by omega⟩ rfl ?_
      rw [etb]
      refine q_iconst 1 65 dX3_placeOf_64 ic_1 rfl ?_
      refine q_isub 66 dX3_placeOf_65 rfl ?_
      rw [nI_pred]
      refine q_ireturn dX3_placeOf_66 rfl ?_
      exact pX.mk (K, N, ke, ta, i, kf, tb) ⟨hP0, hput.symm, hN, hk, hn⟩ (by rw [hix]) rfl
    · have hmem : ¬ key ∈ K := fun hh => by
        obtain ⟨j, hj, ej⟩ := mem_kAt hh
        exact hno j hj ej
      have hix : K.idxOf key = K.length := List.idxOf_eq_length hmem
      have hput : kPut K key = K ++ [key] := if_neg hmem
      have hKa := keysO_app h2 hlN hmem
      have hTa : TbR (K ++ [key]) (K.length + 1) (4 * N) (upd tb s18 (nI (K.length + 1))) := TbR_put (TbR_app h3 (Nat.le_refl _)) (by omega) (by omega) hsl h0 (by rw [kAt_end]; exact hp)
      have hla : (K ++ [key]).length = K.length + 1 := by rw [List.length_append]; rfl
      rw [hix]
      generalize hcl : K.length = c at *
      refine q_aload_n 0 23 dX3_placeOf_22 rfl rfl rfl ?_
      refine q_getR 0 26 f_X3_13 dX3_placeOf_23 rfl rfl rfl rfl ?_
      refine q_iload_n 2 27 dX3_placeOf_26 rfl rfl rfl ?_
      refine q_iald 2 s18 28 dX3_placeOf_27 rfl ⟨rfl, by omega, by omega⟩ rfl ?_
      refine q_if_ne 58 31 dX3_placeOf_28 (by decide) rfl (fun h28 => absurd h0 h28) (fun h28 => ?_)
      refine q_aload_n 0 32 dX3_placeOf_31 rfl rfl rfl ?_
      refine q_getR 0 35 f_X3_7 dX3_placeOf_32 rfl rfl rfl rfl ?_
      refine q_aload_n 0 36 dX3_placeOf_35 rfl rfl rfl ?_
      refine q_dup 37 dX3_placeOf_36 rfl rfl ?_
      refine q_getI 0 40 f_X3_22 dX3_placeOf_37 rfl rfl rfl ?_
      refine q_dup_x1 41 dX3_placeOf_40 rfl rfl rfl ?_
      refine q_iconst 1 42 dX3_placeOf_41 ic_1 rfl ?_
      rw [h1]
      refine q_iadd 43 dX3_placeOf_42 rfl ?_
      rw [nI_1]
      refine q_putI 0 46 (w' := [_, _, _]) f_X3_22 ft_X3_2 dX3_placeOf_43 rfl rfl rfl rfl ?_
      refine q_iload_n 1 47 dX3_placeOf_46 rfl rfl rfl ?_
      refine q_iast 1 c 48 (w' := [_, _, _]) dX3_placeOf_47 rfl ⟨rfl, by omega, by omega⟩ rfl rfl ?_
      refine q_aload_n 0 49 dX3_placeOf_48 rfl rfl rfl ?_
      refine q_getR 0 52 f_X3_13 dX3_placeOf_49 rfl rfl rfl rfl ?_
      refine q_iload_n 2 53 dX3_placeOf_52 rfl rfl rfl ?_
      refine q_aload_n 0 54 dX3_placeOf_53 rfl rfl rfl ?_
      refine q_getI 0 57 f_X3_22 dX3_placeOf_54 rfl rfl rfl ?_
      rw [show upd i 2 (nI (c + 1)) 2 = nI (c + 1) from pk_us]
      refine q_iast 2 s18 58 (w' := [_, _, _]) dX3_placeOf_57 rfl ⟨rfl, by omega, by omega⟩ rfl rfl ?_
      refine q_aload_n 0 59 dX3_placeOf_58 rfl rfl rfl ?_
      refine q_getR 0 62 f_X3_13 dX3_placeOf_59 rfl rfl rfl rfl ?_
      refine q_iload_n 2 63 dX3_placeOf_62 rfl rfl rfl ?_
      refine q_iald 2 s18 64 dX3_placeOf_63 rfl ⟨rfl, by omega, by omega⟩ rfl ?_
      rw [pk_us]
      refine q_iconst 1 65 dX3_placeOf_64 ic_1 rfl ?_
      refine q_isub 66 dX3_placeOf_65 rfl ?_
      rw [nI_pred]
      refine q_ireturn dX3_placeOf_66 rfl ?_
      exact pX.mk (K ++ [key], N, ke, ta, upd i 2 (nI (c + 1)), upd kf c key, upd tb s18 (nI (c + 1))) ⟨⟨by show upd i 2 (nI (c + 1)) 2 = _; rw [pk_us]; show _ = nI (K ++ [key]).length; rw [hla], hKa, by show TbR (K ++ [key]) (K ++ [key]).length _ _; rw [hla]; exact hTa, m, hm, hNm⟩, hput.symm, hN, hk, hn⟩ rfl rfl
  have h1 : i0 2 = nI K.length := h.1
  have hle : K.length ≤ N0 := h.2.1.1
  obtain ⟨m, hm, hNm⟩ := h.2.2.2
  have hNm : N0 = 16 * 2 ^ m := hNm
  obtain ⟨p1, p2, p3⟩ := pow_16 hm hNm
  by_cases hg : N0 ≤ K.length
  · have hge : ¬ i0 2 < nI N0 := by rw [h1]; exact nI_nlt hg (by omega)
    have gc : gC K.length N0 = 2 := if_pos hg
    have gs : gS K.length N0 = 10 * N0 := if_pos hg
    have gn : gN K.length N0 = N0 * 2 := if_pos hg
    rw [gc, gs] at K16 ⊢
    refine q_aload_n 0 1 dX3_placeOf_0 rfl rfl rfl ?_
    refine q_getI 0 4 f_X3_22 dX3_placeOf_1 rfl rfl rfl ?_
    refine q_aload_n 0 5 dX3_placeOf_4 rfl rfl rfl ?_
    refine q_getR 0 8 f_X3_7 dX3_placeOf_5 rfl rfl rfl rfl ?_
    refine q_alenI 1 _ 9 dX3_placeOf_8 rfl rfl rfl ?_
    refine q_icmp_lt 16 12 dX3_placeOf_9 (by decide) rfl (fun h9 => absurd h9 hge) (fun h9 => ?_)
    refine q_aload_n 0 13 dX3_placeOf_12 rfl rfl rfl ?_
    refine q_yVv 0 [0, 1, 2] [] [0, 1, 2] 16 (wr := []) (w1 := _) (ws' := fun _ => [_, _, _]) (c_X3_grow h (by omega)) m_X3_26 dX3_placeOf_13 rfl rfl rfl rfl rfl rfl rfl (fun _ => rfl) (by decide) (by decide) (by decide) (by decide) (Nat.le_of_ble_eq_true rfl) (by omega) (by omega) (by omega) rfl (fun P13 k13 n13 hx13 => ?_)
    skip
    obtain ⟨hP, eK, eN, ek, en⟩ := hx13
    obtain ⟨K9, N9, ke9, ta9, i9, kf9, tb9⟩ := P13
    have eK : K9 = K := eK
    subst eK
    have eN : N9 = N0 * 2 := eN
    exact K16 N9 ke9 ta9 i9 kf9 tb9 _ _ hP (by omega) (by rw [gn, eN]) (by omega) (by omega)
  · have hlt : i0 2 < nI N0 := by rw [h1]; exact nI_lt (by omega) (by omega)
    refine q_aload_n 0 1 dX3_placeOf_0 rfl rfl rfl ?_
    refine q_getI 0 4 f_X3_22 dX3_placeOf_1 rfl rfl rfl ?_
    refine q_aload_n 0 5 dX3_placeOf_4 rfl rfl rfl ?_
    refine q_getR 0 8 f_X3_7 dX3_placeOf_5 rfl rfl rfl rfl ?_
    refine q_alenI 1 _ 9 dX3_placeOf_8 rfl rfl rfl ?_
    refine q_icmp_lt 16 12 dX3_placeOf_9 (by decide) rfl (fun h9 => ?_) (fun h9 => absurd hlt h9)
    exact K16 _ _ _ _ _ _ _ _ h (by omega) (if_neg hg).symm (if_neg hg).symm (if_neg hg).symm
theorem c_X3_pl {l : Launch} {g : Gh} {q : Nat} {P : PlS} {key : Int32} (h : PlO P) (hl : (plK P).length ≤ 2 ^ 20) : Cn l g yX3_placeOf (Cond.code yX3_placeOf cX3_placeOf 3 (some .int)) 4 (gC (plK P).length (plN P)) (gS (plK P).length (plN P)) [.ref q, .int key] [(q, ob 3 (plI P) (rPl (plKe P) (plTa P))), (plKe P, aI g (plN P) (plKf P)), (plTa P, aI g (4 * plN P) (plTb P))] (fun _ : PlS => some (.int (nI ((plK P).idxOf key)))) (fun P : PlS => [(q, ob 3 (plI P) (rPl (plKe P) (plTa P))), (plKe P, aI g (plN P) (plKf P)), (plTa P, aI g (4 * plN P) (plTb P))]) (fun P' k n => PlO P' ∧ plK P' = kPut (plK P) key ∧ plN P' = gN (plK P).length (plN P) ∧ k = gC (plK P).length (plN P) ∧ n = gS (plK P).length (plN P)) := by
  obtain ⟨K, N, ke, ta, i, kf, tb⟩ := P
  exact c_X3_placeOf h hl
/-- no places, in the same room -/
def plC (P : PlS) : PlS := ([], plN P, plKe P, plTa P, upd (plI P) 2 0, plKf P, fun _ => 0)
theorem plC_O {P : PlS} (h : PlO P) : PlO (plC P) := by
  obtain ⟨h1, h2, h3, h4⟩ := h
  refine ⟨(show upd (plI P) 2 0 2 = nI 0 from pk_us.trans (by decide)), ⟨Nat.zero_le _, List.nodup_nil, fun z hz => absurd hz (Nat.not_lt_zero _)⟩, TbR_0 _ _, h4⟩
theorem c_X3_clear {l : Launch} {g : Gh} {q : Nat} {P : PlS} (h : PlO P) : Cp l g yX3_clear (Cond.code yX3_clear cX3_clear 1 none) 2 [.ref q] [(q, ob 3 (plI P) (rPl (plKe P) (plTa P))), (plKe P, aI g (plN P) (plKf P)), (plTa P, aI g (4 * plN P) (plTb P))] none [(q, ob 3 (plI (plC P)) (rPl (plKe (plC P)) (plTa (plC P)))), (plKe (plC P), aI g (plN (plC P)) (plKf (plC P))), (plTa (plC P), aI g (4 * plN (plC P)) (plTb (plC P)))] := by
  refine ct_of (M := mtX3_clear) [some (.ref q)] rfl (by decide) (Nat.le_of_ble_eq_true rfl) (fun _ h => h) (fun a => ?_)
  obtain ⟨m, hm, hNm⟩ := h.2.2.2
  obtain ⟨p1, p2, p3⟩ := pow_16 hm hNm
  refine q_aload_n 0 1 dX3_clear_0 rfl rfl rfl ?_
  refine q_getR 0 4 f_X3_13 dX3_clear_1 rfl rfl rfl rfl ?_
  refine q_iconst 0 5 dX3_clear_4 ic_0 rfl ?_
  refine q_cSv [2] [0, 1] [0, 1, 2] 8 (wr := [_, _]) (w1 := _) (ws' := [_, _, _]) (c_fill (by omega)) m_X3_16 dX3_clear_5 rfl rfl rfl rfl rfl (by decide) (by decide) (by decide) (by decide) (Nat.le_of_ble_eq_true rfl) (by omega) (by omega) (by omega) rfl ?_
  refine q_aload_n 0 9 dX3_clear_8 rfl rfl rfl ?_
  refine q_iconst 0 10 dX3_clear_9 ic_0 rfl ?_
  refine q_putI 0 13 (w' := [_, _, _]) f_X3_22 ft_X3_2 dX3_clear_10 rfl rfl rfl rfl ?_
  refine q_return dX3_clear_13 rfl ?_
  exact pR.rf
theorem c_X3_room {l : Launch} {g : Gh} {q ke ta N : Nat} {i kf : Sc} : Cp l g yX3_room (Cond.code yX3_room cX3_room 1 (some .int)) 1 [.ref q] [(q, ob 3 i (rPl ke ta)), (ke, aI g N kf)] (some (.int (nI N))) [(q, ob 3 i (rPl ke ta)), (ke, aI g N kf)] := by
  refine ct_of (M := mtX3_room) [some (.ref q)] rfl (by decide) (Nat.le_of_ble_eq_true rfl) (fun _ h => h) (fun a => ?_)
  refine q_aload_n 0 1 dX3_room_0 rfl rfl rfl ?_
  refine q_getR 0 4 f_X3_7 dX3_room_1 rfl rfl rfl rfl ?_
  refine q_alenI 1 _ 5 dX3_room_4 rfl rfl rfl ?_
  refine q_ireturn dX3_room_5 rfl ?_
  exact pR.rf
theorem c_X3_keyAt {l : Launch} {g : Gh} {q ke ta N z : Nat} {i kf : Sc} (hz : z < N) (hN : N < 2 ^ 31) : Cp l g yX3_keyAt (Cond.code yX3_keyAt cX3_keyAt 2 (some .int)) 1 [.ref q, .int (nI z)] [(q, ob 3 i (rPl ke ta)), (ke, aI g N kf)] (some (.int (kf z))) [(q, ob 3 i (rPl ke ta)), (ke, aI g N kf)] := by
  refine ct_of (M := mtX3_keyAt) [some (.ref q), some (.int (nI z))] rfl (by decide) (Nat.le_of_ble_eq_true rfl) (fun _ h => h) (fun a => ?_)
  refine q_aload_n 0 1 dX3_keyAt_0 rfl rfl rfl ?_
  refine q_getR 0 4 f_X3_7 dX3_keyAt_1 rfl rfl rfl rfl ?_
  refine q_iload_n 1 5 dX3_keyAt_4 rfl rfl rfl ?_
  refine q_iald 1 z 6 dX3_keyAt_5 rfl ⟨rfl, hz, hN⟩ rfl ?_
  refine q_ireturn dX3_keyAt_6 rfl ?_
  exact pR.rf
def pl0 (ke ta : Nat) : PlS := ([], 16, ke, ta, fun _ => 0, fun _ => 0, fun _ => 0)
theorem pl0_O (ke ta : Nat) : PlO (pl0 ke ta) := ⟨(by decide : (0 : Int32) = nI 0), ⟨Nat.zero_le _, List.nodup_nil, fun z hz => absurd hz (Nat.not_lt_zero _)⟩, TbR_0 _ _, 0, by decide, rfl⟩
theorem c_X3_init {l : Launch} {g : Gh} {q : Nat} : Cn l g yX3_init (Cond.code yX3_init cX3_init 1 none) 1 2 80 [.ref q] [(q, ob 3 (fun _ => 0) (List.replicate 3 none))] (fun _ : Nat × Nat => none) (fun z : Nat × Nat => [(q, ob 3 (fun _ => 0) (rPl z.1 z.2)), (z.1, aI g 16 (fun _ => 0)), (z.2, aI g 64 (fun _ => 0))]) (fun _ k m => k = 2 ∧ m = 80) := by
  refine ct_of (M := mtX3_init) [some (.ref q)] rfl (by decide) (Nat.le_of_ble_eq_true rfl) (fun _ h => h) (fun a => ?_)
  refine q_aload_n 0 1 dX3_init_0 rfl rfl rfl ?_
  refine q_objInit 4 m_X3_1 dX3_init_1 (Nat.le_of_ble_eq_true rfl) (by decide) rfl ?_
  refine q_aload_n 0 5 dX3_init_4 rfl rfl rfl ?_
  refine q_bipush 16 7 dX3_init_5 bc_16 rfl ?_
  refine q_newI (N := 16) 9 dX3_init_7 rfl (by decide) (by omega) (by omega) rfl (fun q7 => ?_)
  refine q_putR 0 12 (w' := [_, _]) (r' := [_, _, _]) f_X3_7 ft_X3_0 dX3_init_9 rfl rfl (Nat.le_of_ble_eq_true rfl) rfl rfl rfl rfl rfl ?_
  refine q_aload_n 0 13 dX3_init_12 rfl rfl rfl ?_
  refine q_bipush 64 15 dX3_init_13 bc_64 rfl ?_
  refine q_newI (N := 64) 17 dX3_init_15 rfl (by decide) (by omega) (by omega) rfl (fun q15 => ?_)
  refine q_putR 0 20 (w' := [_, _, _]) (r' := [_, _, _]) f_X3_13 ft_X3_1 dX3_init_17 rfl rfl (Nat.le_of_ble_eq_true rfl) rfl rfl rfl rfl rfl ?_
  refine q_return dX3_init_20 rfl ?_
  exact pX.mk (_, _) ⟨rfl, rfl⟩ rfl rfl

