/-! ===== Places ===== -/
abbrev rPl (ke ta : Nat) : List (Option Nat) := [some ke, some ta, none]
theorem nd_len : ∀ (c : Nat) (l : List Nat), l.Nodup → (∀ x ∈ l, x < c) → l.length ≤ c
  | 0, l, _, h => by
    cases l with
    | nil => exact Nat.le_refl _
    | cons a l => exact absurd (h a List.mem_cons_self) (Nat.not_lt_zero _)
  | c + 1, l, hn, h => by
    have h1 := nd_len c (l.erase c) (hn.erase c) (fun x hx => by
      have h2 := (hn.mem_erase_iff).mp hx
      have h3 := h x h2.2
      have h4 := h2.1
      omega)
    by_cases hc : c ∈ l
    · rw [List.length_erase_of_mem hc] at h1; omega
    · rw [List.erase_of_not_mem hc] at h1; omega
theorem pig {M c : Nat} (f : Nat → Nat) (hf : ∀ s, s < M → f s < c) (hi : ∀ s s', s < M → s' < M → f s = f s' → s = s') : M ≤ c := by
  have h := nd_len c ((List.range M).map f) (List.pairwise_iff_getElem.mpr fun i j h1 h2 hij e => by
    rw [List.length_map, List.length_range] at h1 h2
    rw [List.getElem_map, List.getElem_map, List.getElem_range, List.getElem_range] at e
    have := hi i j h1 h2 e
    omega) (fun x hx => by
    obtain ⟨s, hs, rfl⟩ := List.mem_map.mp hx
    exact hf s (List.mem_range.mp hs))
  rw [List.length_map, List.length_range] at h
  exact h
/-- where a key's search begins -/
def hsX (key : Int32) : Int32 := ((key * (-1640531535)).toUInt32 >>> (Int32.toUInt32 7 &&& Int32.toUInt32 31)).toInt32
def hs (key : Int32) (M : Nat) : Nat := (hsX key).toBitVec.toNat % M
def kAt (K : List Int32) (i : Nat) : Int32 := K.getD i 0
/-- the table has the first c keys -/
def TbR (K : List Int32) (c M : Nat) (tb : Sc) : Prop := (∀ s, s < M → tb s = 0 ∨ ∃ i, i < c ∧ tb s = nI (i + 1)) ∧ (∀ s s', s < M → s' < M → tb s = tb s' → ¬ tb s = 0 → s = s') ∧ (∀ i, i < c → ∃ t, tb ((hs (kAt K i) M + t) % M) = nI (i + 1) ∧ ∀ t', t' < t → ¬ tb ((hs (kAt K i) M + t') % M) = 0)
theorem slot_ex {K : List Int32} {c M : Nat} {tb : Sc} {key : Int32} (hT : TbR K c M tb) (hc : c < M) (hM : M < 2 ^ 31) : ∃ t, t < M ∧ tb ((hs key M + t) % M) = 0 := by
  refine Classical.byContradiction fun hno => ?_
  have hh : hs key M < M := Nat.mod_lt _ (by omega)
  have hall : ∀ s, s < M → ¬ tb s = 0 := by
    intro s hs9 h0
    rcases Nat.lt_or_ge s (hs key M) with h | h
    · refine hno ⟨s + M - hs key M, by omega, ?_⟩
      rw [show hs key M + (s + M - hs key M) = s + M by omega, Nat.add_mod_right, Nat.mod_eq_of_lt hs9]
      exact h0
    · refine hno ⟨s - hs key M, by omega, ?_⟩
      rw [show hs key M + (s - hs key M) = s by omega, Nat.mod_eq_of_lt hs9]
      exact h0
  have := pig (M := M) (c := c) (fun s => (tb s).toNatClampNeg - 1) (fun s hs9 => by
    rcases hT.1 s hs9 with h | ⟨i, hi, e⟩
    · exact absurd h (hall s hs9)
    · show (tb s).toNatClampNeg - 1 < c
      rw [e, nI_clamp (by omega)]
      omega) (fun s s' h1 h2 e => by
    rcases hT.1 s h1 with h | ⟨i, hi, e1⟩
    · exact absurd h (hall s h1)
    · rcases hT.1 s' h2 with h | ⟨i', hi', e2⟩
      · exact absurd h (hall s' h2)
      · have e : (tb s).toNatClampNeg - 1 = (tb s').toNatClampNeg - 1 := e
        rw [e1, e2, nI_clamp (by omega), nI_clamp (by omega)] at e
        have hii : i = i' := by omega
        exact hT.2.1 s s' h1 h2 (by rw [e1, e2, hii]) (hall s h1))
  omega
/-- a slot that has the key, or the free one where it belongs -/
def SlO (K : List Int32) (c M : Nat) (tb : Sc) (key : Int32) (s : Nat) : Prop := s < M ∧ ((∃ i, i < c ∧ kAt K i = key ∧ tb s = nI (i + 1)) ∨ ((∀ i, i < c → ¬ kAt K i = key) ∧ tb s = 0 ∧ ∃ t, s = (hs key M + t) % M ∧ ∀ t', t' < t → ¬ tb ((hs key M + t') % M) = 0))
theorem TbR_put {K : List Int32} {c M s : Nat} {tb : Sc} (hT : TbR K c M tb) (hcM : c < M) (hM : M < 2 ^ 31) (hs9 : s < M) (h0 : tb s = 0) (hp : ∃ t, s = (hs (kAt K c) M + t) % M ∧ ∀ t', t' < t → ¬ tb ((hs (kAt K c) M + t') % M) = 0) : TbR K (c + 1) M (upd tb s (nI (c + 1))) := by
  have hn0 : ¬ nI (c + 1) = 0 := nI_ne0 (by omega) (by omega)
  refine ⟨fun z hz => ?_, fun z z' h1 h2 e hne => ?_, fun i hi => ?_⟩
  · by_cases hzs : z = s
    · subst hzs
      exact Or.inr ⟨c, by omega, pk_us⟩
    · rw [pk_un hzs]
      rcases hT.1 z hz with h | ⟨i, h1, h2⟩
      · exact Or.inl h
      · exact Or.inr ⟨i, by omega, h2⟩
  · by_cases hzs : z = s
    · by_cases hzs' : z' = s
      · rw [hzs, hzs']
      · subst hzs
        rw [pk_us, pk_un hzs'] at e
        rcases hT.1 z' h2 with h | ⟨i, h3, h4⟩
        · rw [h] at e; exact absurd e hn0
        · rw [h4] at e
          have := (nI_eq (a := c + 1) (b := i + 1) (by omega) (by omega)).mp e
          omega
    · by_cases hzs' : z' = s
      · subst hzs'
        rw [pk_us, pk_un hzs] at e
        rcases hT.1 z h1 with h | ⟨i, h3, h4⟩
        · rw [h] at e; exact absurd e.symm hn0
        · rw [h4] at e
          have := (nI_eq (a := i + 1) (b := c + 1) (by omega) (by omega)).mp e
          omega
      · rw [pk_un hzs, pk_un hzs'] at e
        rw [pk_un hzs] at hne
        exact hT.2.1 z z' h1 h2 e hne
  · by_cases hic : i = c
    · subst hic
      obtain ⟨t, e1, e2⟩ := hp
      refine ⟨t, by rw [← e1, pk_us], fun t' ht' h => ?_⟩
      by_cases hq : (hs (kAt K i) M + t') % M = s
      · rw [hq, pk_us] at h; exact hn0 h
      · rw [pk_un hq] at h; exact e2 t' ht' h
    · obtain ⟨t, e1, e2⟩ := hT.2.2 i (by omega)
      refine ⟨t, ?_, fun t' ht' h => ?_⟩
      · by_cases hq : (hs (kAt K i) M + t) % M = s
        · rw [hq] at e1
          rw [h0] at e1
          exact absurd e1.symm (nI_ne0 (by omega) (by omega))
        · rw [pk_un hq]; exact e1
      · by_cases hq : (hs (kAt K i) M + t') % M = s
        · rw [hq, pk_us] at h; exact hn0 h
        · rw [pk_un hq] at h; exact e2 t' ht' h
theorem TbR_app {K : List Int32} {c M : Nat} {tb : Sc} {v : Int32} (h : TbR K c M tb) (hc : c ≤ K.length) : TbR (K ++ [v]) c M tb := by
  refine ⟨h.1, h.2.1, fun i hi => ?_⟩
  have e : kAt (K ++ [v]) i = kAt K i := by unfold kAt; simp [List.getD, List.getElem?_append_left (show i < K.length by omega)]
  rw [e]
  exact h.2.2 i hi
theorem TbR_0 (K : List Int32) (M : Nat) : TbR K 0 M (fun _ => 0) := ⟨fun _ _ => Or.inl rfl, fun _ _ _ _ _ h => absurd rfl h, fun i hi => absurd hi (Nat.not_lt_zero _)⟩
def keysO (K : List Int32) (N : Nat) (kf : Sc) : Prop := K.length ≤ N ∧ K.Nodup ∧ ∀ z, z < K.length → kf z = kAt K z
theorem kAt_inj {K : List Int32} (h : K.Nodup) {i j : Nat} (hi : i < K.length) (hj : j < K.length) (e : kAt K i = kAt K j) : i = j := by
  unfold kAt at e
  refine (List.getElem?_inj hi h).mp ?_
  simp only [List.getD, List.getElem?_eq_getElem hi, List.getElem?_eq_getElem hj, Option.getD_some] at e
  rw [List.getElem?_eq_getElem hi, List.getElem?_eq_getElem hj, e]
theorem c_X3_slotOf {l : Launch} {g : Gh} {q ke ta N M m c : Nat} {i kf tb : Sc} {K : List Int32} {key : Int32} (hM : M = 2 ^ m) (hm : m ≤ 30) (hN : N < 2 ^ 31) (hK : keysO K N kf) (hc : c ≤ K.length) (hcM : c < M) (hT : TbR K c M tb) :
    Ce l g yX3_slotOf (Cond.code yX3_slotOf cX3_slotOf 4 (some .int)) 1 [.ref q, .int key] [(q, ob 3 i (rPl ke ta)), (ke, aI g N kf), (ta, aI g M tb)] (fun s : Nat => some (.int (nI s))) (fun _ : Nat => [(q, ob 3 i (rPl ke ta)), (ke, aI g N kf), (ta, aI g M tb)]) (fun s : Nat => SlO K c M tb key s) := by
  refine ct_of (M := mtX3_slotOf) [some (.ref q), some (.int key), none, none] rfl (by decide) (Nat.le_of_ble_eq_true rfl) (fun _ h => h) (fun a => ?_)
  have hM31 : M < 2 ^ 31 := by rw [hM]; exact Nat.lt_of_le_of_lt (Nat.pow_le_pow_right (by decide) hm) (by decide)
  have hmk : (nI (M - 1)).toBitVec.toNat = 2 ^ m - 1 := by rw [pk_tn (by omega), hM]
  have es : nI M - 1 = nI (M - 1) := by rw [show (1 : Int32) = nI 1 from rfl, pk_sub (by omega)]
  have ha0 : hsX key &&& nI (M - 1) = nI (hs key M) := by rw [pk_and _ m hmk, ← hM]; rfl
  have haN : ∀ z, z < 2 ^ 32 → nI z &&& nI (M - 1) = nI (z % M) := fun z hz => by rw [pk_andN hz m hmk, ← hM]
  have K18 : ∀ (c9 t : Nat), c9 + t = M → (∀ t', t' < t → ¬ tb ((hs key M + t') % M) = 0 ∧ ∀ i, i < c → tb ((hs key M + t') % M) = nI (i + 1) → ¬ kAt K i = key) → WPs l g mtX3_slotOf 1 0 0 (pE (fun s : Nat => some (.int (nI s))) (fun _ : Nat => [(q, ob 3 i (rPl ke ta)), (ke, aI g N kf), (ta, aI g M tb)]) (fun s : Nat => SlO K c M tb key s)) noX a 18 [some (.ref q), some (.int key), some (.int (nI ((hs key M + t) % M))), some (.int (nI t))] [] [(q, ob 3 i (rPl ke ta)), (ke, aI g N kf), (ta, aI g M tb)] 0 0 := by
    intro c9
    induction c9 with
    | zero =>
      intro t ht hall
      obtain ⟨t0, h1, h2⟩ := slot_ex (key := key) hT hcM hM31
      exact absurd h2 (hall t0 (by omega)).1
    | succ c9 ih =>
      intro t ht hall
      have hlt : ¬ nI M ≤ nI t := nI_ge (by omega) hM31
      have hsl : (hs key M + t) % M < M := Nat.mod_lt _ (by omega)
      have hnx : ((hs key M + t) % M + 1) % M = (hs key M + (t + 1)) % M := by rw [Nat.mod_add_mod]; rfl
      have K1 := ih (t + 1) (by omega)
      rw [← hnx] at K1
      clear ih
      rcases hT.1 _ hsl with h0 | ⟨i0, hi0, e0⟩
      · have hS : SlO K c M tb key ((hs key M + t) % M) := by
          refine ⟨hsl, Or.inr ⟨fun i hi he => ?_, h0, t, rfl, fun t' ht' => (hall t' ht').1⟩⟩
          obtain ⟨ti, e1, e2⟩ := hT.2.2 i hi
          rw [he] at e1 e2
          rcases Nat.lt_trichotomy ti t with h | h | h
          · exact (hall ti h).2 i hi e1 he
          · rw [h, h0] at e1; exact absurd e1.symm (nI_ne0 (by omega) (by omega))
          · exact e2 t h h0
        clear K1
        generalize (hs key M + t) % M = s at *
        refine q_iload_n 3 19 dX3_slotOf_18 rfl rfl rfl ?_
        refine q_aload_n 0 20 dX3_slotOf_19 rfl rfl rfl ?_
        refine q_getR 0 23 f_X3_13 dX3_slotOf_20 rfl rfl rfl rfl ?_
        refine q_alenI 2 _ 24 dX3_slotOf_23 rfl rfl rfl ?_
        refine q_icmp_ge 73 27 dX3_slotOf_24 (by decide) rfl (fun h24 => absurd h24 hlt) (fun h24 => ?_)
        refine q_aload_n 0 28 dX3_slotOf_27 rfl rfl rfl ?_
        refine q_getR 0 31 f_X3_13 dX3_slotOf_28 rfl rfl rfl rfl ?_
        refine q_iload_n 2 32 dX3_slotOf_31 rfl rfl rfl ?_
        refine q_iald 2 s 33 dX3_slotOf_32 rfl ⟨rfl, by omega, by omega⟩ rfl ?_
        refine q_if_eq 53 36 dX3_slotOf_33 (by decide) rfl (fun h33 => ?_) (fun h33 => absurd h0 h33)
        refine q_iload_n 2 54 dX3_slotOf_53 rfl rfl rfl ?_
        refine q_ireturn dX3_slotOf_54 rfl ?_
        exact pE.mk s hS rfl rfl
      · have hne0 : ¬ tb ((hs key M + t) % M) = 0 := by rw [e0]; exact nI_ne0 (by omega) (by omega)
        have hkl := hK.1
        have ekf : kf i0 = kAt K i0 := hK.2.2 i0 (by omega)
        have ep : nI (i0 + 1) - 1 = nI i0 := nI_pred i0
        by_cases hk : kAt K i0 = key
        · have hS : SlO K c M tb key ((hs key M + t) % M) := ⟨hsl, Or.inl ⟨i0, hi0, hk, e0⟩⟩
          clear K1
          generalize (hs key M + t) % M = s at *
          refine q_iload_n 3 19 dX3_slotOf_18 rfl rfl rfl ?_
          refine q_aload_n 0 20 dX3_slotOf_19 rfl rfl rfl ?_
          refine q_getR 0 23 f_X3_13 dX3_slotOf_20 rfl rfl rfl rfl ?_
          refine q_alenI 2 _ 24 dX3_slotOf_23 rfl rfl rfl ?_
          refine q_icmp_ge 73 27 dX3_slotOf_24 (by decide) rfl (fun h24 => absurd h24 hlt) (fun h24 => ?_)
          refine q_aload_n 0 28 dX3_slotOf_27 rfl rfl rfl ?_
          refine q_getR 0 31 f_X3_13 dX3_slotOf_28 rfl rfl rfl rfl ?_
          refine q_iload_n 2 32 dX3_slotOf_31 rfl rfl rfl ?_
          refine q_iald 2 s 33 dX3_slotOf_32 rfl ⟨rfl, by omega, by omega⟩ rfl ?_
          refine q_if_eq 53 36 dX3_slotOf_33 (by decide) rfl (fun h33 => absurd h33 hne0) (fun h33 => ?_)
          refine q_aload_n 0 37 dX3_slotOf_36 rfl rfl rfl ?_
          refine q_getR 0 40 f_X3_7 dX3_slotOf_37 rfl rfl rfl rfl ?_
          refine q_aload_n 0 41 dX3_slotOf_40 rfl rfl rfl ?_
          refine q_getR 0 44 f_X3_13 dX3_slotOf_41 rfl rfl rfl rfl ?_
          refine q_iload_n 2 45 dX3_slotOf_44 rfl rfl rfl ?_
          refine q_iald 2 s 46 dX3_slotOf_45 rfl ⟨rfl, by omega, by omega⟩ rfl ?_
          rw [e0]
          refine q_iconst 1 47 dX3_slotOf_46 ic_1 rfl ?_
          refine q_isub 48 dX3_slotOf_47 rfl ?_
          refine q_iald 1 i0 49 dX3_slotOf_48 rfl ⟨ep, by omega, by omega⟩ rfl ?_
          refine q_iload_n 1 50 dX3_slotOf_49 rfl rfl rfl ?_
          refine q_icmp_ne 55 53 dX3_slotOf_50 (by decide) rfl (fun h50 => absurd (ekf.trans hk) h50) (fun h50 => ?_)
          refine q_iload_n 2 54 dX3_slotOf_53 rfl rfl rfl ?_
          refine q_ireturn dX3_slotOf_54 rfl ?_
          exact pE.mk s hS rfl rfl
        · have K2 := K1 (by
            intro t' ht'
            by_cases htt : t' = t
            · subst htt
              refine ⟨hne0, fun i hi e => ?_⟩
              rw [e0] at e
              have hii := (nI_eq (a := i0 + 1) (b := i + 1) (by omega) (by omega)).mp e
              rw [show i = i0 by omega]
              exact hk
            · exact hall t' (by omega))
          clear K1
          have ha1 := haN ((hs key M + t) % M + 1) (by omega)
          generalize (hs key M + t) % M = s at *
          refine q_iload_n 3 19 dX3_slotOf_18 rfl rfl rfl ?_
          refine q_aload_n 0 20 dX3_slotOf_19 rfl rfl rfl ?_
          refine q_getR 0 23 f_X3_13 dX3_slotOf_20 rfl rfl rfl rfl ?_
          refine q_alenI 2 _ 24 dX3_slotOf_23 rfl rfl rfl ?_
          refine q_icmp_ge 73 27 dX3_slotOf_24 (by decide) rfl (fun h24 => absurd h24 hlt) (fun h24 => ?_)
          refine q_aload_n 0 28 dX3_slotOf_27 rfl rfl rfl ?_
          refine q_getR 0 31 f_X3_13 dX3_slotOf_28 rfl rfl rfl rfl ?_
          refine q_iload_n 2 32 dX3_slotOf_31 rfl rfl rfl ?_
          refine q_iald 2 s 33 dX3_slotOf_32 rfl ⟨rfl, by omega, by omega⟩ rfl ?_
          refine q_if_eq 53 36 dX3_slotOf_33 (by decide) rfl (fun h33 => absurd h33 hne0) (fun h33 => ?_)
          refine q_aload_n 0 37 dX3_slotOf_36 rfl rfl rfl ?_
          refine q_getR 0 40 f_X3_7 dX3_slotOf_37 rfl rfl rfl rfl ?_
          refine q_aload_n 0 41 dX3_slotOf_40 rfl rfl rfl ?_
          refine q_getR 0 44 f_X3_13 dX3_slotOf_41 rfl rfl rfl rfl ?_
          refine q_iload_n 2 45 dX3_slotOf_44 rfl rfl rfl ?_
          refine q_iald 2 s 46 dX3_slotOf_45 rfl ⟨rfl, by omega, by omega⟩ rfl ?_
          rw [e0]
          refine q_iconst 1 47 dX3_slotOf_46 ic_1 rfl ?_
          refine q_isub 48 dX3_slotOf_47 rfl ?_
          refine q_iald 1 i0 49 dX3_slotOf_48 rfl ⟨ep, by omega, by omega⟩ rfl ?_
          refine q_iload_n 1 50 dX3_slotOf_49 rfl rfl rfl ?_
          refine q_icmp_ne 55 53 dX3_slotOf_50 (by decide) rfl (fun h50 => ?_) (fun h50 => absurd h50 (fun z => hk (ekf.symm.trans z)))
          refine q_iload_n 2 56 dX3_slotOf_55 rfl rfl rfl ?_
          refine q_iconst 1 57 dX3_slotOf_56 ic_1 rfl ?_
          refine q_iadd 58 dX3_slotOf_57 rfl ?_
          rw [nI_1]
          refine q_aload_n 0 59 dX3_slotOf_58 rfl rfl rfl ?_
          refine q_getR 0 62 f_X3_13 dX3_slotOf_59 rfl rfl rfl rfl ?_
          refine q_alenI 2 _ 63 dX3_slotOf_62 rfl rfl rfl ?_
          refine q_iconst 1 64 dX3_slotOf_63 ic_1 rfl ?_
          refine q_isub 65 dX3_slotOf_64 rfl ?_
          rw [es]
          refine q_iand 66 dX3_slotOf_65 rfl ?_
          rw [ha1]
          refine q_istore_n 2 67 (L' := [_, _, _, _]) dX3_slotOf_66 rfl (by decide) rfl rfl ?_
          refine q_iinc 3 (nI (t + 1)) 70 (L' := [_, _, _, _]) dX3_slotOf_67 rfl (inc1 (t)) (by decide) rfl rfl ?_
          refine q_goto 18 dX3_slotOf_70 (by decide) ?_
          exact K2
  have K1 := K18 M 0 rfl (fun t' ht' => absurd ht' (Nat.not_lt_zero _))
  rw [Nat.add_zero, show hs key M % M = hs key M from Nat.mod_mod _ _] at K1
  clear K18
  refine q_iload_n 1 1 dX3_slotOf_0 rfl rfl rfl ?_
  refine q_ldc (-1640531535) 3 k_X3_33 dX3_slotOf_1 rfl ?_
  refine q_imul 4 dX3_slotOf_3 rfl ?_
  refine q_bipush 7 6 dX3_slotOf_4 bc_7 rfl ?_
  refine q_iushr 7 dX3_slotOf_6 rfl ?_
  rw [show ((key * (-1640531535)).toUInt32 >>> (Int32.toUInt32 7 &&& Int32.toUInt32 31)).toInt32 = hsX key from rfl]
  refine q_aload_n 0 8 dX3_slotOf_7 rfl rfl rfl ?_
  refine q_getR 0 11 f_X3_13 dX3_slotOf_8 rfl rfl rfl rfl ?_
  refine q_alenI 2 _ 12 dX3_slotOf_11 rfl rfl rfl ?_
  refine q_iconst 1 13 dX3_slotOf_12 ic_1 rfl ?_
  refine q_isub 14 dX3_slotOf_13 rfl ?_
  rw [es]
  refine q_iand 15 dX3_slotOf_14 rfl ?_
  rw [ha0]
  refine q_istore_n 2 16 (L' := [_, _, _, _]) dX3_slotOf_15 rfl (by decide) rfl rfl ?_
  refine q_iconst 0 17 dX3_slotOf_16 ic_0 rfl ?_
  refine q_istore_n 3 18 (L' := [_, _, _, _]) dX3_slotOf_17 rfl (by decide) rfl rfl ?_
  exact K1

