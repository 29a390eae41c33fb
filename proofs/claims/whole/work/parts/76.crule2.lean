/-! ===== RuleReader: conditions ===== -/
def jnC (L : List Tok) (e : Nat) (v : Int32) (f : Nat → PR) : Nat → Nat → PR
  | 0, k => (1, k, [])
  | c + 1, k => if isT L e k v then (if (f (k + 1)).1 = 0 then (0, (f (k + 1)).2.1, []) else ((jnC L e v f c (f (k + 1)).2.1).1, (jnC L e v f c (f (k + 1)).2.1).2.1, (f (k + 1)).2.2 ++ v :: (jnC L e v f c (f (k + 1)).2.1).2.2)) else (1, k, [])
def lsC (L : List Tok) (e : Nat) (v : Int32) (f : Nat → PR) (k : Nat) : PR := if (f k).1 = 0 then (0, (f k).2.1, []) else ((jnC L e v f 400 (f k).2.1).1, (jnC L e v f 400 (f k).2.1).2.1, (f k).2.2 ++ (jnC L e v f 400 (f k).2.1).2.2)
def anyC (L : List Tok) (e : Nat) (f : Nat → PR) : Nat → PR := lsC L e 11 (lsC L e 12 f)
def atC (L : List Tok) (e : Nat) : Nat → Nat → PR
  | 0, k => if (tA L e k).1 = 13 ∨ (tA L e k).1 = 140 then (0, k, []) else if (tA L e k).1 = 14 ∨ (tA L e k).1 = 15 then (1, k + 1, [(tA L e k).1]) else cmpC L e k
  | d + 1, k =>
    if (tA L e k).1 = 13 then (if (atC L e d (k + 1)).1 = 0 then (0, (atC L e d (k + 1)).2.1, []) else (1, (atC L e d (k + 1)).2.1, (atC L e d (k + 1)).2.2 ++ [13]))
    else if (tA L e k).1 = 140 then (if (anyC L e (atC L e d) (k + 1)).1 = 0 then (0, (anyC L e (atC L e d) (k + 1)).2.1, []) else if isT L e (anyC L e (atC L e d) (k + 1)).2.1 141 then (1, (anyC L e (atC L e d) (k + 1)).2.1 + 1, (anyC L e (atC L e d) (k + 1)).2.2) else (0, (anyC L e (atC L e d) (k + 1)).2.1, []))
    else if (tA L e k).1 = 14 ∨ (tA L e k).1 = 15 then (1, k + 1, [(tA L e k).1]) else cmpC L e k
theorem jnC_ok {L : List Tok} {e : Nat} {v : Int32} {f : Nat → PR} (hf : ∀ k, k ≤ L.length → okP L k (f k)) : ∀ c k, k ≤ L.length → okP L k (jnC L e v f c k)
  | 0, k, hk => ⟨Or.inr rfl, Nat.le_refl _, hk, fun _ => by show 0 + k ≤ k; omega⟩
  | c + 1, k, hk => by
    rw [jnC]
    by_cases h1 : isT L e k v
    · rw [if_pos h1]
      obtain ⟨a1, a2, a3, a4⟩ := hf (k + 1) h1.1
      by_cases h2 : (f (k + 1)).1 = 0
      · rw [if_pos h2]
        exact ⟨Or.inl rfl, by dsimp only; omega, a3, fun h => absurd rfl h⟩
      · rw [if_neg h2]
        obtain ⟨b1, b2, b3, b4⟩ := jnC_ok hf c (f (k + 1)).2.1 a3
        have a4 := a4 h2
        refine ⟨b1, by dsimp only; omega, b3, fun h => ?_⟩
        have b4 := b4 h
        dsimp only
        rw [List.length_append, List.length_cons]
        omega
    · rw [if_neg h1]
      exact ⟨Or.inr rfl, Nat.le_refl _, hk, fun _ => by show 0 + k ≤ k; omega⟩
theorem lsC_ok {L : List Tok} {e : Nat} {v : Int32} {f : Nat → PR} (hf : ∀ k, k ≤ L.length → okP L k (f k)) (k : Nat) (hk : k ≤ L.length) : okP L k (lsC L e v f k) := by
  unfold lsC
  obtain ⟨a1, a2, a3, a4⟩ := hf k hk
  by_cases h : (f k).1 = 0
  · rw [if_pos h]
    exact ⟨Or.inl rfl, a2, a3, fun h => absurd rfl h⟩
  · rw [if_neg h]
    obtain ⟨b1, b2, b3, b4⟩ := jnC_ok (e := e) (v := v) hf 400 (f k).2.1 a3
    have a4 := a4 h
    refine ⟨b1, by dsimp only; omega, b3, fun h => ?_⟩
    have b4 := b4 h
    dsimp only
    rw [List.length_append]
    omega
theorem anyC_ok {L : List Tok} {e : Nat} {f : Nat → PR} (hf : ∀ k, k ≤ L.length → okP L k (f k)) (k : Nat) (hk : k ≤ L.length) : okP L k (anyC L e f k) := lsC_ok (lsC_ok hf) k hk
theorem fl_ok {L : List Tok} {e k : Nat} (h : (tA L e k).1 = 14 ∨ (tA L e k).1 = 15) : okP L k (1, k + 1, [(tA L e k).1]) := by
  have hlt : k < L.length := tA_lt (e := e) (fun h0 => by rw [h0] at h; rcases h with h | h <;> exact absurd h (by decide))
  exact ⟨Or.inr rfl, by dsimp only; omega, hlt, fun _ => by show 1 + k ≤ k + 1; omega⟩
theorem atC_ok {L : List Tok} {e : Nat} : ∀ d k, k ≤ L.length → okP L k (atC L e d k)
  | 0, k, hk => by
    rw [atC]
    split
    · exact ⟨Or.inl rfl, Nat.le_refl _, hk, fun h => absurd rfl h⟩
    · split
      · rename_i h; exact fl_ok h
      · exact cmpC_ok hk
  | d + 1, k, hk => by
    rw [atC]
    by_cases h13 : (tA L e k).1 = 13
    · rw [if_pos h13]
      have hlt : k < L.length := tA_lt (e := e) (fun h0 => by rw [h0] at h13; exact absurd h13 (by decide))
      obtain ⟨a1, a2, a3, a4⟩ := atC_ok (e := e) d (k + 1) hlt
      by_cases h : (atC L e d (k + 1)).1 = 0
      · rw [if_pos h]
        exact ⟨Or.inl rfl, by dsimp only; omega, a3, fun h => absurd rfl h⟩
      · rw [if_neg h]
        have a4 := a4 h
        exact ⟨Or.inr rfl, by dsimp only; omega, a3, fun _ => by dsimp only; rw [List.length_append, List.length_singleton]; omega⟩
    · rw [if_neg h13]
      by_cases h14 : (tA L e k).1 = 140
      · rw [if_pos h14]
        have hlt : k < L.length := tA_lt (e := e) (fun h0 => by rw [h0] at h14; exact absurd h14 (by decide))
        obtain ⟨a1, a2, a3, a4⟩ := anyC_ok (e := e) (fun k hk => atC_ok (e := e) d k hk) (k + 1) hlt
        by_cases h : (anyC L e (atC L e d) (k + 1)).1 = 0
        · rw [if_pos h]
          exact ⟨Or.inl rfl, by dsimp only; omega, a3, fun h => absurd rfl h⟩
        · rw [if_neg h]
          have a4 := a4 h
          by_cases h2 : isT L e (anyC L e (atC L e d) (k + 1)).2.1 141
          · rw [if_pos h2]
            exact ⟨Or.inr rfl, by dsimp only; omega, h2.1, fun _ => by dsimp only; omega⟩
          · rw [if_neg h2]
            exact ⟨Or.inl rfl, by dsimp only; omega, a3, fun h => absurd rfl h⟩
      · rw [if_neg h14]
        split
        · rename_i h; exact fl_ok h
        · exact cmpC_ok hk
/-- a contract of readAtom, readAll or readAny at a depth -/
def RdC (l : Launch) (g : Gh) (y : MethodName) (hd : Cond) (D : Nat) (dep : Int32) (r cd q t b n x : Nat) (j th be nu : Sc) (L : List Tok) (f : Nat → PR) : Prop := ∀ (k : Nat) (i co : Sc) (Cc : List Int32), k ≤ L.length → CoR Cc i co → Cc.length ≤ k → Ce l g y hd D [.ref r, .int dep] [(r, ob 5 i (rR cd q)), (cd, aI g 400 co), (q, ob 7 (upd j 6 (nI k)) (rS t b n x)), (t, aI g 401 th), (b, aI g 401 be), (n, aI g 401 nu)] (fun _ : Sc × Sc => some (.int (f k).1)) (fun z : Sc × Sc => [(r, ob 5 z.1 (rR cd q)), (cd, aI g 400 z.2), (q, ob 7 (upd j 6 (nI (f k).2.1)) (rS t b n x)), (t, aI g 401 th), (b, aI g 401 be), (n, aI g 401 nu)]) (fun z : Sc × Sc => (¬ (f k).1 = 0 → CoR (Cc ++ (f k).2.2) z.1 z.2 ∧ z.1 2 = i 2))
theorem c_X5_readAll {l : Launch} {g : Gh} {r cd q t b n x e : Nat} {j th be nu : Sc} {L : List Tok} {D : Nat} {dep : Int32} {f : Nat → PR} (hR : RepT L e j th be nu) (hD : 1 ≤ D) (hF : RdC l g yX5_readAtom (Cond.code yX5_readAtom cX5_readAtom 3 (some .boolean)) D dep r cd q t b n x j th be nu L f) (hok : ∀ k, k ≤ L.length → okP L k (f k)) : RdC l g yX5_readAll (Cond.code yX5_readAll cX5_readAll 3 (some .boolean)) (D + 1) dep r cd q t b n x j th be nu L (lsC L e 12 f) := by
  intro k i co Cc hk hC hl
  refine ct_of (M := mtX5_readAll) [some (.ref r), some (.int dep), none] rfl (by decide) (Nat.le_of_ble_eq_true rfl) (fun _ h => h) (fun a => ?_)
  have hL4 := hR.2.1
  have K12 : ∀ (c m : Nat), c + m = 400 → ∀ (k : Nat) (i1 co1 : Sc) (C1 C0 : List Int32) (R R0 : PR), k ≤ L.length → CoR C1 i1 co1 → C1.length ≤ k → i1 2 = i 2 → jnC L e 12 f c k = R → R0.1 = R.1 → R0.2.1 = R.2.1 → (¬ R.1 = 0 → C0 ++ R0.2.2 = C1 ++ R.2.2) → WPs l g mtX5_readAll (D + 1) 0 0 (pE (fun _ : Sc × Sc => some (.int R0.1)) (fun z : Sc × Sc => [(r, ob 5 z.1 (rR cd q)), (cd, aI g 400 z.2), (q, ob 7 (upd j 6 (nI R0.2.1)) (rS t b n x)), (t, aI g 401 th), (b, aI g 401 be), (n, aI g 401 nu)]) (fun z : Sc × Sc => (¬ R0.1 = 0 → CoR (C0 ++ R0.2.2) z.1 z.2 ∧ z.1 2 = i 2))) noX a 12 [some (.ref r), some (.int dep), some (.int (nI m))] [] [(r, ob 5 i1 (rR cd q)), (cd, aI g 400 co1), (q, ob 7 (upd j 6 (nI k)) (rS t b n x)), (t, aI g 401 th), (b, aI g 401 be), (n, aI g 401 nu)] 0 0 := by
    intro c
    induction c with
    | zero =>
      intro m hm k i1 co1 C1 C0 R R0 hk hC hl hi2 hr e1 e2 e3
      obtain rfl : m = 400 := by omega
      subst hr
      have hge : (400 : Int32) ≤ nI 400 := by decide
      rw [jnC] at e1 e2 e3
      dsimp only at e1 e2 e3
      rw [e1, e2]
      have e3 := e3 (by decide)
      rw [List.append_nil] at e3
      rw [e3]
      refine q_iload_n 2 13 dX5_readAll_12 rfl rfl rfl ?_
      refine q_sipush 400 16 dX5_readAll_13 sc_400 rfl ?_
      refine q_icmp_ge 53 19 dX5_readAll_16 (by decide) rfl (fun h16 => ?_) (fun h16 => absurd hge h16)
      refine q_iconst 1 54 dX5_readAll_53 ic_1 rfl ?_
      refine q_zreturn dX5_readAll_54 rfl (Or.inr rfl) ?_
      exact pE.mk (_, _) (fun _ => ⟨hC, hi2⟩) rfl rfl
    | succ c ih =>
      intro m hm k i1 co1 C1 C0 R R0 hk hC hl hi2 hr e1 e2 e3
      rw [jnC] at hr
      have hlt : ¬ (400 : Int32) ≤ nI m := nI_ge (b := 400) (by omega) (by decide)
      by_cases h1 : isT L e k 12
      · rw [if_pos h1] at hr
        have hb : ¬ psB L e k 12 = 0 := by rw [show psB L e k 12 = 1 from if_pos h1]; decide
        have hkk : psK L e k 12 = k + 1 := if_pos h1
        obtain ⟨a1, a2, a3, a4⟩ := hok (k + 1) h1.1
        have hc1 := hF (k + 1) i1 co1 C1 h1.1 hC (by omega)
        by_cases h2 : (f (k + 1)).1 = 0
        · rw [if_pos h2] at hr
          subst hr
          dsimp only at e1 e2
          rw [e1, e2]
          clear ih
          generalize f (k + 1) = f1 at *
          refine q_iload_n 2 13 dX5_readAll_12 rfl rfl rfl ?_
          refine q_sipush 400 16 dX5_readAll_13 sc_400 rfl ?_
          refine q_icmp_ge 53 19 dX5_readAll_16 (by decide) rfl (fun h16 => absurd h16 hlt) (fun h16 => ?_)
          refine q_aload_n 0 20 dX5_readAll_19 rfl rfl rfl ?_
          refine q_getR 0 23 f_X5_15 dX5_readAll_20 rfl rfl rfl rfl ?_
          refine q_bipush 12 25 dX5_readAll_23 bc_12 rfl ?_
          refine q_cVi 2 [2, 3, 4, 5] [0, 1] [0, 1, 2, 3, 4, 5] 28 (wr := [_, _]) (w1 := _) (ws' := [_, _, _, _, _, _]) (c_X7_passes hR hk) m_X5_33 dX5_readAll_25 rfl rfl rfl rfl rfl rfl rfl rfl (by decide) (by decide) (by decide) (by decide) (Nat.le_of_ble_eq_true rfl) (by omega) (by omega) (by omega) rfl ?_
          refine q_if_eq 53 31 dX5_readAll_28 (by decide) rfl (fun h28 => absurd h28 hb) (fun h28 => ?_)
          rw [hkk]
          refine q_aload_n 0 32 dX5_readAll_31 rfl rfl rfl ?_
          refine q_iload_n 1 33 dX5_readAll_32 rfl rfl rfl ?_
          refine q_xVi 0 [0, 1, 2, 3, 4, 5] [] [0, 1, 2, 3, 4, 5] 36 (wr := []) (w1 := _) (ws' := fun _ => [_, _, _, _, _, _]) hc1 m_X5_63 dX5_readAll_33 rfl rfl rfl rfl rfl rfl rfl (fun _ => rfl) (by decide) (by decide) (by decide) (by decide) (Nat.le_of_ble_eq_true rfl) (by omega) (by omega) (by omega) rfl (fun z1 hz1 => ?_)
          obtain ⟨i2, co2⟩ := z1
          dsimp only at hz1 ⊢
          refine q_if_ne 41 39 dX5_readAll_36 (by decide) rfl (fun h36 => absurd h2 h36) (fun h36 => ?_)
          refine q_iconst 0 40 dX5_readAll_39 ic_0 rfl ?_
          refine q_zreturn dX5_readAll_40 rfl (Or.inl rfl) ?_
          exact pE.mk (_, _) (fun h => absurd rfl h) rfl rfl
        · rw [if_neg h2] at hr
          have a4 := a4 h2
          subst hr
          dsimp only at e1 e2 e3
          have hlen : (C1 ++ (f (k + 1)).2.2).length < 400 := by rw [List.length_append]; omega
          have K1 := fun (i2 co2 : Sc) (hC2 : CoR (C1 ++ (f (k + 1)).2.2) i2 co2) (h22 : i2 2 = i1 2) => ih (m + 1) (by omega) (f (k + 1)).2.1 _ _ (C1 ++ (f (k + 1)).2.2 ++ [12]) C0 _ R0 a3 (CoR_push (v := 12) hC2 hlen) (by rw [List.length_append, List.length_append, List.length_singleton]; omega) (show upd i2 1 _ 2 = i 2 from h22.trans hi2) rfl e1 e2 (fun h => by rw [e3 h, List.append_assoc, List.append_assoc]; rfl)
          clear ih e1 e2 e3
          generalize f (k + 1) = f1 at *
          refine q_iload_n 2 13 dX5_readAll_12 rfl rfl rfl ?_
          refine q_sipush 400 16 dX5_readAll_13 sc_400 rfl ?_
          refine q_icmp_ge 53 19 dX5_readAll_16 (by decide) rfl (fun h16 => absurd h16 hlt) (fun h16 => ?_)
          refine q_aload_n 0 20 dX5_readAll_19 rfl rfl rfl ?_
          refine q_getR 0 23 f_X5_15 dX5_readAll_20 rfl rfl rfl rfl ?_
          refine q_bipush 12 25 dX5_readAll_23 bc_12 rfl ?_
          refine q_cVi 2 [2, 3, 4, 5] [0, 1] [0, 1, 2, 3, 4, 5] 28 (wr := [_, _]) (w1 := _) (ws' := [_, _, _, _, _, _]) (c_X7_passes hR hk) m_X5_33 dX5_readAll_25 rfl rfl rfl rfl rfl rfl rfl rfl (by decide) (by decide) (by decide) (by decide) (Nat.le_of_ble_eq_true rfl) (by omega) (by omega) (by omega) rfl ?_
          refine q_if_eq 53 31 dX5_readAll_28 (by decide) rfl (fun h28 => absurd h28 hb) (fun h28 => ?_)
          rw [hkk]
          refine q_aload_n 0 32 dX5_readAll_31 rfl rfl rfl ?_
          refine q_iload_n 1 33 dX5_readAll_32 rfl rfl rfl ?_
          refine q_xVi 0 [0, 1, 2, 3, 4, 5] [] [0, 1, 2, 3, 4, 5] 36 (wr := []) (w1 := _) (ws' := fun _ => [_, _, _, _, _, _]) hc1 m_X5_63 dX5_readAll_33 rfl rfl rfl rfl rfl rfl rfl (fun _ => rfl) (by decide) (by decide) (by decide) (by decide) (Nat.le_of_ble_eq_true rfl) (by omega) (by omega) (by omega) rfl (fun z1 hz1 => ?_)
          obtain ⟨i2, co2⟩ := z1
          dsimp only at hz1 ⊢
          refine q_if_ne 41 39 dX5_readAll_36 (by decide) rfl (fun h36 => ?_) (fun h36 => absurd h36 h2)
          refine q_aload_n 0 42 dX5_readAll_41 rfl rfl rfl ?_
          refine q_bipush 12 44 dX5_readAll_42 bc_12 rfl ?_
          refine q_cVv 0 [0, 1] [2, 3, 4, 5] [4, 5, 0, 1, 2, 3] 47 (wr := [_, _, _, _]) (w1 := _) (ws' := [_, _, _, _, _, _]) (c_X5_write (hz1 h2).1 hlen) m_X5_56 dX5_readAll_44 rfl rfl rfl rfl rfl rfl rfl rfl (by decide) (by decide) (by decide) (by decide) (Nat.le_of_ble_eq_true rfl) (by omega) (by omega) (by omega) rfl ?_
          refine q_iinc 2 (nI (m + 1)) 50 (L' := [_, _, _]) dX5_readAll_47 rfl (inc1 (m)) (by decide) rfl rfl ?_
          refine q_goto 12 dX5_readAll_50 (by decide) ?_
          exact K1 _ _ (hz1 h2).1 (hz1 h2).2
      · rw [if_neg h1] at hr
        have hb : psB L e k 12 = 0 := if_neg h1
        have hkk : psK L e k 12 = k := if_neg h1
        subst hr
        dsimp only at e1 e2 e3
        rw [e1, e2]
        have e3 := e3 (by decide)
        rw [List.append_nil] at e3
        rw [e3]
        clear ih
        refine q_iload_n 2 13 dX5_readAll_12 rfl rfl rfl ?_
        refine q_sipush 400 16 dX5_readAll_13 sc_400 rfl ?_
        refine q_icmp_ge 53 19 dX5_readAll_16 (by decide) rfl (fun h16 => absurd h16 hlt) (fun h16 => ?_)
        refine q_aload_n 0 20 dX5_readAll_19 rfl rfl rfl ?_
        refine q_getR 0 23 f_X5_15 dX5_readAll_20 rfl rfl rfl rfl ?_
        refine q_bipush 12 25 dX5_readAll_23 bc_12 rfl ?_
        refine q_cVi 2 [2, 3, 4, 5] [0, 1] [0, 1, 2, 3, 4, 5] 28 (wr := [_, _]) (w1 := _) (ws' := [_, _, _, _, _, _]) (c_X7_passes hR hk) m_X5_33 dX5_readAll_25 rfl rfl rfl rfl rfl rfl rfl rfl (by decide) (by decide) (by decide) (by decide) (Nat.le_of_ble_eq_true rfl) (by omega) (by omega) (by omega) rfl ?_
        refine q_if_eq 53 31 dX5_readAll_28 (by decide) rfl (fun h28 => ?_) (fun h28 => absurd hb h28)
        rw [hkk]
        refine q_iconst 1 54 dX5_readAll_53 ic_1 rfl ?_
        refine q_zreturn dX5_readAll_54 rfl (Or.inr rfl) ?_
        exact pE.mk (_, _) (fun _ => ⟨hC, hi2⟩) rfl rfl
  unfold lsC
  obtain ⟨a1, a2, a3, a4⟩ := hok k hk
  have hc1 := hF k i co Cc hk hC hl
  by_cases h2 : (f k).1 = 0
  · rw [if_pos h2]
    clear K12
    generalize f k = f1 at *
    refine q_aload_n 0 1 dX5_readAll_0 rfl rfl rfl ?_
    refine q_iload_n 1 2 dX5_readAll_1 rfl rfl rfl ?_
    refine q_xVi 0 [0, 1, 2, 3, 4, 5] [] [0, 1, 2, 3, 4, 5] 5 (wr := []) (w1 := _) (ws' := fun _ => [_, _, _, _, _, _]) hc1 m_X5_63 dX5_readAll_2 rfl rfl rfl rfl rfl rfl rfl (fun _ => rfl) (by decide) (by decide) (by decide) (by decide) (Nat.le_of_ble_eq_true rfl) (by omega) (by omega) (by omega) rfl (fun z1 hz1 => ?_)
    obtain ⟨i2, co2⟩ := z1
    dsimp only at hz1 ⊢
    refine q_if_ne 10 8 dX5_readAll_5 (by decide) rfl (fun h5 => absurd h2 h5) (fun h5 => ?_)
    refine q_iconst 0 9 dX5_readAll_8 ic_0 rfl ?_
    refine q_zreturn dX5_readAll_9 rfl (Or.inl rfl) ?_
    exact pE.mk (_, _) (fun h => absurd rfl h) rfl rfl
  · rw [if_neg h2]
    have a4 := a4 h2
    have K1 := fun (i2 co2 : Sc) (hC2 : CoR (Cc ++ (f k).2.2) i2 co2) (h22 : i2 2 = i 2) => K12 400 0 rfl (f k).2.1 i2 co2 (Cc ++ (f k).2.2) Cc _ ((jnC L e 12 f 400 (f k).2.1).1, (jnC L e 12 f 400 (f k).2.1).2.1, (f k).2.2 ++ (jnC L e 12 f 400 (f k).2.1).2.2) a3 hC2 (by rw [List.length_append]; omega) h22 rfl rfl rfl (fun _ => by rw [List.append_assoc])
    clear K12
    generalize jnC L e 12 f 400 (f k).2.1 = r9 at *
    generalize f k = f1 at *
    refine q_aload_n 0 1 dX5_readAll_0 rfl rfl rfl ?_
    refine q_iload_n 1 2 dX5_readAll_1 rfl rfl rfl ?_
    refine q_xVi 0 [0, 1, 2, 3, 4, 5] [] [0, 1, 2, 3, 4, 5] 5 (wr := []) (w1 := _) (ws' := fun _ => [_, _, _, _, _, _]) hc1 m_X5_63 dX5_readAll_2 rfl rfl rfl rfl rfl rfl rfl (fun _ => rfl) (by decide) (by decide) (by decide) (by decide) (Nat.le_of_ble_eq_true rfl) (by omega) (by omega) (by omega) rfl (fun z1 hz1 => ?_)
    obtain ⟨i2, co2⟩ := z1
    dsimp only at hz1 ⊢
    refine q_if_ne 10 8 dX5_readAll_5 (by decide) rfl (fun h5 => ?_) (fun h5 => absurd h5 h2)
    refine q_iconst 0 11 dX5_readAll_10 ic_0 rfl ?_
    refine q_istore_n 2 12 (L' := [_, _, _]) dX5_readAll_11 rfl (by decide) rfl rfl ?_
    exact K1 _ _ (hz1 h2).1 (hz1 h2).2
theorem c_X5_readAny {l : Launch} {g : Gh} {r cd q t b n x e : Nat} {j th be nu : Sc} {L : List Tok} {D : Nat} {dep : Int32} {f : Nat → PR} (hR : RepT L e j th be nu) (hD : 1 ≤ D) (hF : RdC l g yX5_readAll (Cond.code yX5_readAll cX5_readAll 3 (some .boolean)) D dep r cd q t b n x j th be nu L f) (hok : ∀ k, k ≤ L.length → okP L k (f k)) : RdC l g yX5_readAny (Cond.code yX5_readAny cX5_readAny 3 (some .boolean)) (D + 1) dep r cd q t b n x j th be nu L (lsC L e 11 f) := by
  intro k i co Cc hk hC hl
  refine ct_of (M := mtX5_readAny) [some (.ref r), some (.int dep), none] rfl (by decide) (Nat.le_of_ble_eq_true rfl) (fun _ h => h) (fun a => ?_)
  have hL4 := hR.2.1
  have K12 : ∀ (c m : Nat), c + m = 400 → ∀ (k : Nat) (i1 co1 : Sc) (C1 C0 : List Int32) (R R0 : PR), k ≤ L.length → CoR C1 i1 co1 → C1.length ≤ k → i1 2 = i 2 → jnC L e 11 f c k = R → R0.1 = R.1 → R0.2.1 = R.2.1 → (¬ R.1 = 0 → C0 ++ R0.2.2 = C1 ++ R.2.2) → WPs l g mtX5_readAny (D + 1) 0 0 (pE (fun _ : Sc × Sc => some (.int R0.1)) (fun z : Sc × Sc => [(r, ob 5 z.1 (rR cd q)), (cd, aI g 400 z.2), (q, ob 7 (upd j 6 (nI R0.2.1)) (rS t b n x)), (t, aI g 401 th), (b, aI g 401 be), (n, aI g 401 nu)]) (fun z : Sc × Sc => (¬ R0.1 = 0 → CoR (C0 ++ R0.2.2) z.1 z.2 ∧ z.1 2 = i 2))) noX a 12 [some (.ref r), some (.int dep), some (.int (nI m))] [] [(r, ob 5 i1 (rR cd q)), (cd, aI g 400 co1), (q, ob 7 (upd j 6 (nI k)) (rS t b n x)), (t, aI g 401 th), (b, aI g 401 be), (n, aI g 401 nu)] 0 0 := by
    intro c
    induction c with
    | zero =>
      intro m hm k i1 co1 C1 C0 R R0 hk hC hl hi2 hr e1 e2 e3
      obtain rfl : m = 400 := by omega
      subst hr
      have hge : (400 : Int32) ≤ nI 400 := by decide
      rw [jnC] at e1 e2 e3
      dsimp only at e1 e2 e3
      rw [e1, e2]
      have e3 := e3 (by decide)
      rw [List.append_nil] at e3
      rw [e3]
      refine q_iload_n 2 13 dX5_readAny_12 rfl rfl rfl ?_
      refine q_sipush 400 16 dX5_readAny_13 sc_400 rfl ?_
      refine q_icmp_ge 53 19 dX5_readAny_16 (by decide) rfl (fun h16 => ?_) (fun h16 => absurd hge h16)
      refine q_iconst 1 54 dX5_readAny_53 ic_1 rfl ?_
      refine q_zreturn dX5_readAny_54 rfl (Or.inr rfl) ?_
      exact pE.mk (_, _) (fun _ => ⟨hC, hi2⟩) rfl rfl
    | succ c ih =>
      intro m hm k i1 co1 C1 C0 R R0 hk hC hl hi2 hr e1 e2 e3
      rw [jnC] at hr
      have hlt : ¬ (400 : Int32) ≤ nI m := nI_ge (b := 400) (by omega) (by decide)
      by_cases h1 : isT L e k 11
      · rw [if_pos h1] at hr
        have hb : ¬ psB L e k 11 = 0 := by rw [show psB L e k 11 = 1 from if_pos h1]; decide
        have hkk : psK L e k 11 = k + 1 := if_pos h1
        obtain ⟨a1, a2, a3, a4⟩ := hok (k + 1) h1.1
        have hc1 := hF (k + 1) i1 co1 C1 h1.1 hC (by omega)
        by_cases h2 : (f (k + 1)).1 = 0
        · rw [if_pos h2] at hr
          subst hr
          dsimp only at e1 e2
          rw [e1, e2]
          clear ih
          generalize f (k + 1) = f1 at *
          refine q_iload_n 2 13 dX5_readAny_12 rfl rfl rfl ?_
          refine q_sipush 400 16 dX5_readAny_13 sc_400 rfl ?_
          refine q_icmp_ge 53 19 dX5_readAny_16 (by decide) rfl (fun h16 => absurd h16 hlt) (fun h16 => ?_)
          refine q_aload_n 0 20 dX5_readAny_19 rfl rfl rfl ?_
          refine q_getR 0 23 f_X5_15 dX5_readAny_20 rfl rfl rfl rfl ?_
          refine q_bipush 11 25 dX5_readAny_23 bc_11 rfl ?_
          refine q_cVi 2 [2, 3, 4, 5] [0, 1] [0, 1, 2, 3, 4, 5] 28 (wr := [_, _]) (w1 := _) (ws' := [_, _, _, _, _, _]) (c_X7_passes hR hk) m_X5_33 dX5_readAny_25 rfl rfl rfl rfl rfl rfl rfl rfl (by decide) (by decide) (by decide) (by decide) (Nat.le_of_ble_eq_true rfl) (by omega) (by omega) (by omega) rfl ?_
          refine q_if_eq 53 31 dX5_readAny_28 (by decide) rfl (fun h28 => absurd h28 hb) (fun h28 => ?_)
          rw [hkk]
          refine q_aload_n 0 32 dX5_readAny_31 rfl rfl rfl ?_
          refine q_iload_n 1 33 dX5_readAny_32 rfl rfl rfl ?_
          refine q_xVi 0 [0, 1, 2, 3, 4, 5] [] [0, 1, 2, 3, 4, 5] 36 (wr := []) (w1 := _) (ws' := fun _ => [_, _, _, _, _, _]) hc1 m_X5_60 dX5_readAny_33 rfl rfl rfl rfl rfl rfl rfl (fun _ => rfl) (by decide) (by decide) (by decide) (by decide) (Nat.le_of_ble_eq_true rfl) (by omega) (by omega) (by omega) rfl (fun z1 hz1 => ?_)
          obtain ⟨i2, co2⟩ := z1
          dsimp only at hz1 ⊢
          refine q_if_ne 41 39 dX5_readAny_36 (by decide) rfl (fun h36 => absurd h2 h36) (fun h36 => ?_)
          refine q_iconst 0 40 dX5_readAny_39 ic_0 rfl ?_
          refine q_zreturn dX5_readAny_40 rfl (Or.inl rfl) ?_
          exact pE.mk (_, _) (fun h => absurd rfl h) rfl rfl
        · rw [if_neg h2] at hr
          have a4 := a4 h2
          subst hr
          dsimp only at e1 e2 e3
          have hlen : (C1 ++ (f (k + 1)).2.2).length < 400 := by rw [List.length_append]; omega
          have K1 := fun (i2 co2 : Sc) (hC2 : CoR (C1 ++ (f (k + 1)).2.2) i2 co2) (h22 : i2 2 = i1 2) => ih (m + 1) (by omega) (f (k + 1)).2.1 _ _ (C1 ++ (f (k + 1)).2.2 ++ [11]) C0 _ R0 a3 (CoR_push (v := 11) hC2 hlen) (by rw [List.length_append, List.length_append, List.length_singleton]; omega) (show upd i2 1 _ 2 = i 2 from h22.trans hi2) rfl e1 e2 (fun h => by rw [e3 h, List.append_assoc, List.append_assoc]; rfl)
          clear ih e1 e2 e3
          generalize f (k + 1) = f1 at *
          refine q_iload_n 2 13 dX5_readAny_12 rfl rfl rfl ?_
          refine q_sipush 400 16 dX5_readAny_13 sc_400 rfl ?_
          refine q_icmp_ge 53 19 dX5_readAny_16 (by decide) rfl (fun h16 => absurd h16 hlt) (fun h16 => ?_)
          refine q_aload_n 0 20 dX5_readAny_19 rfl rfl rfl ?_
          refine q_getR 0 23 f_X5_15 dX5_readAny_20 rfl rfl rfl rfl ?_
          refine q_bipush 11 25 dX5_readAny_23 bc_11 rfl ?_
          refine q_cVi 2 [2, 3, 4, 5] [0, 1] [0, 1, 2, 3, 4, 5] 28 (wr := [_, _]) (w1 := _) (ws' := [_, _, _, _, _, _]) (c_X7_passes hR hk) m_X5_33 dX5_readAny_25 rfl rfl rfl rfl rfl rfl rfl rfl (by decide) (by decide) (by decide) (by decide) (Nat.le_of_ble_eq_true rfl) (by omega) (by omega) (by omega) rfl ?_
          refine q_if_eq 53 31 dX5_readAny_28 (by decide) rfl (fun h28 => absurd h28 hb) (fun h28 => ?_)
          rw [hkk]
          refine q_aload_n 0 32 dX5_readAny_31 rfl rfl rfl ?_
          refine q_iload_n 1 33 dX5_readAny_32 rfl rfl rfl ?_
          refine q_xVi 0 [0, 1, 2, 3, 4, 5] [] [0, 1, 2, 3, 4, 5] 36 (wr := []) (w1 := _) (ws' := fun _ => [_, _, _, _, _, _]) hc1 m_X5_60 dX5_readAny_33 rfl rfl rfl rfl rfl rfl rfl (fun _ => rfl) (by decide) (by decide) (by decide) (by decide) (Nat.le_of_ble_eq_true rfl) (by omega) (by omega) (by omega) rfl (fun z1 hz1 => ?_)
          obtain ⟨i2, co2⟩ := z1
          dsimp only at hz1 ⊢
          refine q_if_ne 41 39 dX5_readAny_36 (by decide) rfl (fun h36 => ?_) (fun h36 => absurd h36 h2)
          refine q_aload_n 0 42 dX5_readAny_41 rfl rfl rfl ?_
          refine q_bipush 11 44 dX5_readAny_42 bc_11 rfl ?_
          refine q_cVv 0 [0, 1] [2, 3, 4, 5] [4, 5, 0, 1, 2, 3] 47 (wr := [_, _, _, _]) (w1 := _) (ws' := [_, _, _, _, _, _]) (c_X5_write (hz1 h2).1 hlen) m_X5_56 dX5_readAny_44 rfl rfl rfl rfl rfl rfl rfl rfl (by decide) (by decide) (by decide) (by decide) (Nat.le_of_ble_eq_true rfl) (by omega) (by omega) (by omega) rfl ?_
          refine q_iinc 2 (nI (m + 1)) 50 (L' := [_, _, _]) dX5_readAny_47 rfl (inc1 (m)) (by decide) rfl rfl ?_
          refine q_goto 12 dX5_readAny_50 (by decide) ?_
          exact K1 _ _ (hz1 h2).1 (hz1 h2).2
      · rw [if_neg h1] at hr
        have hb : psB L e k 11 = 0 := if_neg h1
        have hkk : psK L e k 11 = k := if_neg h1
        subst hr
        dsimp only at e1 e2 e3
        rw [e1, e2]
        have e3 := e3 (by decide)
        rw [List.append_nil] at e3
        rw [e3]
        clear ih
        refine q_iload_n 2 13 dX5_readAny_12 rfl rfl rfl ?_
        refine q_sipush 400 16 dX5_readAny_13 sc_400 rfl ?_
        refine q_icmp_ge 53 19 dX5_readAny_16 (by decide) rfl (fun h16 => absurd h16 hlt) (fun h16 => ?_)
        refine q_aload_n 0 20 dX5_readAny_19 rfl rfl rfl ?_
        refine q_getR 0 23 f_X5_15 dX5_readAny_20 rfl rfl rfl rfl ?_
        refine q_bipush 11 25 dX5_readAny_23 bc_11 rfl ?_
        refine q_cVi 2 [2, 3, 4, 5] [0, 1] [0, 1, 2, 3, 4, 5] 28 (wr := [_, _]) (w1 := _) (ws' := [_, _, _, _, _, _]) (c_X7_passes hR hk) m_X5_33 dX5_readAny_25 rfl rfl rfl rfl rfl rfl rfl rfl (by decide) (by decide) (by decide) (by decide) (Nat.le_of_ble_eq_true rfl) (by omega) (by omega) (by omega) rfl ?_
        refine q_if_eq 53 31 dX5_readAny_28 (by decide) rfl (fun h28 => ?_) (fun h28 => absurd hb h28)
        rw [hkk]
        refine q_iconst 1 54 dX5_readAny_53 ic_1 rfl ?_
        refine q_zreturn dX5_readAny_54 rfl (Or.inr rfl) ?_
        exact pE.mk (_, _) (fun _ => ⟨hC, hi2⟩) rfl rfl
  unfold lsC
  obtain ⟨a1, a2, a3, a4⟩ := hok k hk
  have hc1 := hF k i co Cc hk hC hl
  by_cases h2 : (f k).1 = 0
  · rw [if_pos h2]
    clear K12
    generalize f k = f1 at *
    refine q_aload_n 0 1 dX5_readAny_0 rfl rfl rfl ?_
    refine q_iload_n 1 2 dX5_readAny_1 rfl rfl rfl ?_
    refine q_xVi 0 [0, 1, 2, 3, 4, 5] [] [0, 1, 2, 3, 4, 5] 5 (wr := []) (w1 := _) (ws' := fun _ => [_, _, _, _, _, _]) hc1 m_X5_60 dX5_readAny_2 rfl rfl rfl rfl rfl rfl rfl (fun _ => rfl) (by decide) (by decide) (by decide) (by decide) (Nat.le_of_ble_eq_true rfl) (by omega) (by omega) (by omega) rfl (fun z1 hz1 => ?_)
    obtain ⟨i2, co2⟩ := z1
    dsimp only at hz1 ⊢
    refine q_if_ne 10 8 dX5_readAny_5 (by decide) rfl (fun h5 => absurd h2 h5) (fun h5 => ?_)
    refine q_iconst 0 9 dX5_readAny_8 ic_0 rfl ?_
    refine q_zreturn dX5_readAny_9 rfl (Or.inl rfl) ?_
    exact pE.mk (_, _) (fun h => absurd rfl h) rfl rfl
  · rw [if_neg h2]
    have a4 := a4 h2
    have K1 := fun (i2 co2 : Sc) (hC2 : CoR (Cc ++ (f k).2.2) i2 co2) (h22 : i2 2 = i 2) => K12 400 0 rfl (f k).2.1 i2 co2 (Cc ++ (f k).2.2) Cc _ ((jnC L e 11 f 400 (f k).2.1).1, (jnC L e 11 f 400 (f k).2.1).2.1, (f k).2.2 ++ (jnC L e 11 f 400 (f k).2.1).2.2) a3 hC2 (by rw [List.length_append]; omega) h22 rfl rfl rfl (fun _ => by rw [List.append_assoc])
    clear K12
    generalize jnC L e 11 f 400 (f k).2.1 = r9 at *
    generalize f k = f1 at *
    refine q_aload_n 0 1 dX5_readAny_0 rfl rfl rfl ?_
    refine q_iload_n 1 2 dX5_readAny_1 rfl rfl rfl ?_
    refine q_xVi 0 [0, 1, 2, 3, 4, 5] [] [0, 1, 2, 3, 4, 5] 5 (wr := []) (w1 := _) (ws' := fun _ => [_, _, _, _, _, _]) hc1 m_X5_60 dX5_readAny_2 rfl rfl rfl rfl rfl rfl rfl (fun _ => rfl) (by decide) (by decide) (by decide) (by decide) (Nat.le_of_ble_eq_true rfl) (by omega) (by omega) (by omega) rfl (fun z1 hz1 => ?_)
    obtain ⟨i2, co2⟩ := z1
    dsimp only at hz1 ⊢
    refine q_if_ne 10 8 dX5_readAny_5 (by decide) rfl (fun h5 => ?_) (fun h5 => absurd h5 h2)
    refine q_iconst 0 11 dX5_readAny_10 ic_0 rfl ?_
    refine q_istore_n 2 12 (L' := [_, _, _]) dX5_readAny_11 rfl (by decide) rfl rfl ?_
    exact K1 _ _ (hz1 h2).1 (hz1 h2).2
theorem c_X5_atom0 {l : Launch} {g : Gh} {r cd q t b n x e : Nat} {j th be nu : Sc} {L : List Tok} (hR : RepT L e j th be nu) : RdC l g yX5_readAtom (Cond.code yX5_readAtom cX5_readAtom 3 (some .boolean)) 4 6 r cd q t b n x j th be nu L (atC L e 0) := by
  intro k i co Cc hk hC hl
  refine ct_of (M := mtX5_readAtom) [some (.ref r), some (.int 6), none] rfl (by decide) (Nat.le_of_ble_eq_true rfl) (fun _ h => h) (fun a => ?_)
  have hL4 := hR.2.1
  have K44 : ¬ (tA L e k).1 = 13 → ¬ (tA L e k).1 = 140 → WPs l g mtX5_readAtom 4 0 0 (pE (fun _ : Sc × Sc => some (.int (if (tA L e k).1 = 14 ∨ (tA L e k).1 = 15 then ((1 : Int32), k + 1, [(tA L e k).1]) else cmpC L e k).1)) (fun z : Sc × Sc => [(r, ob 5 z.1 (rR cd q)), (cd, aI g 400 z.2), (q, ob 7 (upd j 6 (nI (if (tA L e k).1 = 14 ∨ (tA L e k).1 = 15 then ((1 : Int32), k + 1, [(tA L e k).1]) else cmpC L e k).2.1)) (rS t b n x)), (t, aI g 401 th), (b, aI g 401 be), (n, aI g 401 nu)]) (fun z : Sc × Sc => (¬ (if (tA L e k).1 = 14 ∨ (tA L e k).1 = 15 then ((1 : Int32), k + 1, [(tA L e k).1]) else cmpC L e k).1 = 0 → CoR (Cc ++ (if (tA L e k).1 = 14 ∨ (tA L e k).1 = 15 then ((1 : Int32), k + 1, [(tA L e k).1]) else cmpC L e k).2.2) z.1 z.2 ∧ z.1 2 = i 2))) noX a 44 [some (.ref r), some (.int 6), some (.int (tA L e k).1)] [] [(r, ob 5 i (rR cd q)), (cd, aI g 400 co), (q, ob 7 (upd j 6 (nI k)) (rS t b n x)), (t, aI g 401 th), (b, aI g 401 be), (n, aI g 401 nu)] 0 0 := by
    intro _ _
    by_cases h5 : (tA L e k).1 = 14 ∨ (tA L e k).1 = 15
    · rw [if_pos h5]
      have hlt : k < L.length := tA_lt (e := e) (fun h0 => by rw [h0] at h5; rcases h5 with h | h <;> exact absurd h (by decide))
      have hpk : pK1 L k = k + 1 := if_pos hlt
      have hlen : Cc.length < 400 := by omega
      rcases h5 with h5 | h5
      · skip
        refine q_iload_n 2 45 dX5_readAtom_44 rfl rfl rfl ?_
        refine q_bipush 14 47 dX5_readAtom_45 bc_14 rfl ?_
        refine q_icmp_eq 56 50 dX5_readAtom_47 (by decide) rfl (fun h47 => ?_) (fun h47 => absurd h5 h47)
        refine q_aload_n 0 57 dX5_readAtom_56 rfl rfl rfl ?_
        refine q_iload_n 2 58 dX5_readAtom_57 rfl rfl rfl ?_
        refine q_cVv 0 [0, 1] [2, 3, 4, 5] [4, 5, 0, 1, 2, 3] 61 (wr := [_, _, _, _]) (w1 := _) (ws' := [_, _, _, _, _, _]) (c_X5_write hC hlen) m_X5_56 dX5_readAtom_58 rfl rfl rfl rfl rfl rfl rfl rfl (by decide) (by decide) (by decide) (by decide) (Nat.le_of_ble_eq_true rfl) (by omega) (by omega) (by omega) rfl ?_
        refine q_aload_n 0 62 dX5_readAtom_61 rfl rfl rfl ?_
        refine q_getR 0 65 f_X5_15 dX5_readAtom_62 rfl rfl rfl rfl ?_
        refine q_cVv 2 [2, 3, 4, 5] [0, 1] [0, 1, 2, 3, 4, 5] 68 (wr := [_, _]) (w1 := _) (ws' := [_, _, _, _, _, _]) (c_X7_pass hR hk) m_X5_70 dX5_readAtom_65 rfl rfl rfl rfl rfl rfl rfl rfl (by decide) (by decide) (by decide) (by decide) (Nat.le_of_ble_eq_true rfl) (by omega) (by omega) (by omega) rfl ?_
        rw [hpk]
        refine q_iconst 1 69 dX5_readAtom_68 ic_1 rfl ?_
        refine q_zreturn dX5_readAtom_69 rfl (Or.inr rfl) ?_
        exact pE.mk (_, _) (fun _ => ⟨CoR_push hC hlen, rfl⟩) rfl rfl
      · have h6 : ¬ (tA L e k).1 = 14 := by rw [h5]; decide
        refine q_iload_n 2 45 dX5_readAtom_44 rfl rfl rfl ?_
        refine q_bipush 14 47 dX5_readAtom_45 bc_14 rfl ?_
        refine q_icmp_eq 56 50 dX5_readAtom_47 (by decide) rfl (fun h47 => absurd h47 h6) (fun h47 => ?_)
        refine q_iload_n 2 51 dX5_readAtom_50 rfl rfl rfl ?_
        refine q_bipush 15 53 dX5_readAtom_51 bc_15 rfl ?_
        refine q_icmp_ne 70 56 dX5_readAtom_53 (by decide) rfl (fun h53 => absurd h5 h53) (fun h53 => ?_)
        refine q_aload_n 0 57 dX5_readAtom_56 rfl rfl rfl ?_
        refine q_iload_n 2 58 dX5_readAtom_57 rfl rfl rfl ?_
        refine q_cVv 0 [0, 1] [2, 3, 4, 5] [4, 5, 0, 1, 2, 3] 61 (wr := [_, _, _, _]) (w1 := _) (ws' := [_, _, _, _, _, _]) (c_X5_write hC hlen) m_X5_56 dX5_readAtom_58 rfl rfl rfl rfl rfl rfl rfl rfl (by decide) (by decide) (by decide) (by decide) (Nat.le_of_ble_eq_true rfl) (by omega) (by omega) (by omega) rfl ?_
        refine q_aload_n 0 62 dX5_readAtom_61 rfl rfl rfl ?_
        refine q_getR 0 65 f_X5_15 dX5_readAtom_62 rfl rfl rfl rfl ?_
        refine q_cVv 2 [2, 3, 4, 5] [0, 1] [0, 1, 2, 3, 4, 5] 68 (wr := [_, _]) (w1 := _) (ws' := [_, _, _, _, _, _]) (c_X7_pass hR hk) m_X5_70 dX5_readAtom_65 rfl rfl rfl rfl rfl rfl rfl rfl (by decide) (by decide) (by decide) (by decide) (Nat.le_of_ble_eq_true rfl) (by omega) (by omega) (by omega) rfl ?_
        rw [hpk]
        refine q_iconst 1 69 dX5_readAtom_68 ic_1 rfl ?_
        refine q_zreturn dX5_readAtom_69 rfl (Or.inr rfl) ?_
        exact pE.mk (_, _) (fun _ => ⟨CoR_push hC hlen, rfl⟩) rfl rfl
    · rw [if_neg h5]
      have hcm := cmpC_ok (e := e) hk
      have hc1 := c_X5_readCompared (l := l) (g := g) (r := r) (cd := cd) (q := q) (t := t) (b := b) (n := n) (x := x) hR hk hC hl
      generalize cmpC L e k = R9 at *
      refine q_iload_n 2 45 dX5_readAtom_44 rfl rfl rfl ?_
      refine q_bipush 14 47 dX5_readAtom_45 bc_14 rfl ?_
      refine q_icmp_eq 56 50 dX5_readAtom_47 (by decide) rfl (fun h47 => absurd h47 (fun z => h5 (Or.inl z))) (fun h47 => ?_)
      refine q_iload_n 2 51 dX5_readAtom_50 rfl rfl rfl ?_
      refine q_bipush 15 53 dX5_readAtom_51 bc_15 rfl ?_
      refine q_icmp_ne 70 56 dX5_readAtom_53 (by decide) rfl (fun h53 => ?_) (fun h53 => absurd h53 (fun z => h5 (Or.inr z)))
      refine q_aload_n 0 71 dX5_readAtom_70 rfl rfl rfl ?_
      refine q_xVi 0 [0, 1, 2, 3, 4, 5] [] [0, 1, 2, 3, 4, 5] 74 (wr := []) (w1 := _) (ws' := fun _ => [_, _, _, _, _, _]) hc1 m_X5_73 dX5_readAtom_71 rfl rfl rfl rfl rfl rfl rfl (fun _ => rfl) (by decide) (by decide) (by decide) (by decide) (Nat.le_of_ble_eq_true rfl) (by omega) (by omega) (by omega) rfl (fun z1 hz1 => ?_)
      obtain ⟨i2, co2⟩ := z1
      dsimp only at hz1 ⊢
      refine q_zreturn dX5_readAtom_74 rfl hcm.1 ?_
      exact pE.mk (_, _) hz1 rfl rfl
  rw [atC]
  by_cases h1 : (tA L e k).1 = 13 ∨ (tA L e k).1 = 140
  · rw [if_pos h1]
    clear K44
    rcases h1 with h1 | h1
    · skip
      refine q_aload_n 0 1 dX5_readAtom_0 rfl rfl rfl ?_
      refine q_getR 0 4 f_X5_15 dX5_readAtom_1 rfl rfl rfl rfl ?_
      refine q_cVi 2 [2, 3, 4, 5] [0, 1] [0, 1, 2, 3, 4, 5] 7 (wr := [_, _]) (w1 := _) (ws' := [_, _, _, _, _, _]) (c_X7_thing hR hk) m_X5_23 dX5_readAtom_4 rfl rfl rfl rfl rfl rfl rfl rfl (by decide) (by decide) (by decide) (by decide) (Nat.le_of_ble_eq_true rfl) (by omega) (by omega) (by omega) rfl ?_
      refine q_istore_n 2 8 (L' := [_, _, _]) dX5_readAtom_7 rfl (by decide) rfl rfl ?_
      refine q_iload_n 2 9 dX5_readAtom_8 rfl rfl rfl ?_
      refine q_bipush 13 11 dX5_readAtom_9 bc_13 rfl ?_
      refine q_icmp_eq 21 14 dX5_readAtom_11 (by decide) rfl (fun h11 => ?_) (fun h11 => absurd h1 h11)
      refine q_iload_n 1 22 dX5_readAtom_21 rfl rfl rfl ?_
      refine q_bipush 6 24 dX5_readAtom_22 bc_6 rfl ?_
      refine q_icmp_ge 42 27 dX5_readAtom_24 (by decide) rfl (fun h24 => ?_) (fun h24 => absurd (by decide) h24)
      refine q_iconst 0 43 dX5_readAtom_42 ic_0 rfl ?_
      refine q_zreturn dX5_readAtom_43 rfl (Or.inl rfl) ?_
      exact pE.mk (_, _) (fun h => absurd rfl h) rfl rfl
    · have h2 : ¬ (tA L e k).1 = 13 := by rw [h1]; decide
      refine q_aload_n 0 1 dX5_readAtom_0 rfl rfl rfl ?_
      refine q_getR 0 4 f_X5_15 dX5_readAtom_1 rfl rfl rfl rfl ?_
      refine q_cVi 2 [2, 3, 4, 5] [0, 1] [0, 1, 2, 3, 4, 5] 7 (wr := [_, _]) (w1 := _) (ws' := [_, _, _, _, _, _]) (c_X7_thing hR hk) m_X5_23 dX5_readAtom_4 rfl rfl rfl rfl rfl rfl rfl rfl (by decide) (by decide) (by decide) (by decide) (Nat.le_of_ble_eq_true rfl) (by omega) (by omega) (by omega) rfl ?_
      refine q_istore_n 2 8 (L' := [_, _, _]) dX5_readAtom_7 rfl (by decide) rfl rfl ?_
      refine q_iload_n 2 9 dX5_readAtom_8 rfl rfl rfl ?_
      refine q_bipush 13 11 dX5_readAtom_9 bc_13 rfl ?_
      refine q_icmp_eq 21 14 dX5_readAtom_11 (by decide) rfl (fun h11 => absurd h11 h2) (fun h11 => ?_)
      refine q_iload_n 2 15 dX5_readAtom_14 rfl rfl rfl ?_
      refine q_sipush 140 18 dX5_readAtom_15 sc_140 rfl ?_
      refine q_icmp_ne 44 21 dX5_readAtom_18 (by decide) rfl (fun h18 => absurd h1 h18) (fun h18 => ?_)
      refine q_iload_n 1 22 dX5_readAtom_21 rfl rfl rfl ?_
      refine q_bipush 6 24 dX5_readAtom_22 bc_6 rfl ?_
      refine q_icmp_ge 42 27 dX5_readAtom_24 (by decide) rfl (fun h24 => ?_) (fun h24 => absurd (by decide) h24)
      refine q_iconst 0 43 dX5_readAtom_42 ic_0 rfl ?_
      refine q_zreturn dX5_readAtom_43 rfl (Or.inl rfl) ?_
      exact pE.mk (_, _) (fun h => absurd rfl h) rfl rfl
  · rw [if_neg h1]
    have K1 := K44 (fun z => h1 (Or.inl z)) (fun z => h1 (Or.inr z))
    clear K44
    refine q_aload_n 0 1 dX5_readAtom_0 rfl rfl rfl ?_
    refine q_getR 0 4 f_X5_15 dX5_readAtom_1 rfl rfl rfl rfl ?_
    refine q_cVi 2 [2, 3, 4, 5] [0, 1] [0, 1, 2, 3, 4, 5] 7 (wr := [_, _]) (w1 := _) (ws' := [_, _, _, _, _, _]) (c_X7_thing hR hk) m_X5_23 dX5_readAtom_4 rfl rfl rfl rfl rfl rfl rfl rfl (by decide) (by decide) (by decide) (by decide) (Nat.le_of_ble_eq_true rfl) (by omega) (by omega) (by omega) rfl ?_
    refine q_istore_n 2 8 (L' := [_, _, _]) dX5_readAtom_7 rfl (by decide) rfl rfl ?_
    refine q_iload_n 2 9 dX5_readAtom_8 rfl rfl rfl ?_
    refine q_bipush 13 11 dX5_readAtom_9 bc_13 rfl ?_
    refine q_icmp_eq 21 14 dX5_readAtom_11 (by decide) rfl (fun h11 => absurd h11 (fun z => h1 (Or.inl z))) (fun h11 => ?_)
    refine q_iload_n 2 15 dX5_readAtom_14 rfl rfl rfl ?_
    refine q_sipush 140 18 dX5_readAtom_15 sc_140 rfl ?_
    refine q_icmp_ne 44 21 dX5_readAtom_18 (by decide) rfl (fun h18 => ?_) (fun h18 => absurd h18 (fun z => h1 (Or.inr z)))
    exact K1
theorem c_X5_atomS {l : Launch} {g : Gh} {r cd q t b n x e : Nat} {j th be nu : Sc} {L : List Tok} {D d dd : Nat} (hR : RepT L e j th be nu) (hD : 4 ≤ D) (hdd : dd < 6) (hA : RdC l g yX5_readAtom (Cond.code yX5_readAtom cX5_readAtom 3 (some .boolean)) D (nI (dd + 1)) r cd q t b n x j th be nu L (atC L e d)) : RdC l g yX5_readAtom (Cond.code yX5_readAtom cX5_readAtom 3 (some .boolean)) (D + 4) (nI dd) r cd q t b n x j th be nu L (atC L e (d + 1)) := by
  intro k i co Cc hk hC hl
  have hL4 := hR.2.1
  have hAny := c_X5_readAny hR (by omega) (c_X5_readAll hR (by omega) hA (fun k hk => atC_ok d k hk)) (lsC_ok (fun k hk => atC_ok d k hk))
  have hI13 : (tA L e k).1 = 13 → Ce l g yX5_readInner (Cond.code yX5_readInner cX5_readInner 3 (some .boolean)) (D + 3) [.ref r, .int (tA L e k).1, .int (nI (dd + 1))] [(r, ob 5 i (rR cd q)), (cd, aI g 400 co), (q, ob 7 (upd j 6 (nI k)) (rS t b n x)), (t, aI g 401 th), (b, aI g 401 be), (n, aI g 401 nu)] (fun _ : Sc × Sc => some (.int (atC L e (d + 1) k).1)) (fun z : Sc × Sc => [(r, ob 5 z.1 (rR cd q)), (cd, aI g 400 z.2), (q, ob 7 (upd j 6 (nI (atC L e (d + 1) k).2.1)) (rS t b n x)), (t, aI g 401 th), (b, aI g 401 be), (n, aI g 401 nu)]) (fun z : Sc × Sc => (¬ (atC L e (d + 1) k).1 = 0 → CoR (Cc ++ (atC L e (d + 1) k).2.2) z.1 z.2 ∧ z.1 2 = i 2)) := by
    intro h1
    refine ct_of (M := mtX5_readInner) [some (.ref r), some (.int (tA L e k).1), some (.int (nI (dd + 1)))] rfl (by decide) (Nat.le_of_ble_eq_true rfl) (fun _ h => h) (fun a => ?_)
    rw [atC, if_pos h1]
    have hlt : k < L.length := tA_lt (e := e) (fun h0 => by rw [h0] at h1; exact absurd h1 (by decide))
    have hpk : pK1 L k = k + 1 := if_pos hlt
    have hne : ¬ (tA L e k).1 = 140 := by rw [h1]; decide
    obtain ⟨a1, a2, a3, a4⟩ := atC_ok (e := e) d (k + 1) hlt
    have hc1 := hA (k + 1) i co Cc hlt hC (by omega)
    generalize atC L e d (k + 1) = f1 at *
    by_cases h2 : f1.1 = 0
    · rw [if_pos h2]
      refine q_aload_n 0 1 dX5_readInner_0 rfl rfl rfl ?_
      refine q_getR 0 4 f_X5_15 dX5_readInner_1 rfl rfl rfl rfl ?_
      refine q_cVv 2 [2, 3, 4, 5] [0, 1] [0, 1, 2, 3, 4, 5] 7 (wr := [_, _]) (w1 := _) (ws' := [_, _, _, _, _, _]) (c_X7_pass hR hk) m_X5_70 dX5_readInner_4 rfl rfl rfl rfl rfl rfl rfl rfl (by decide) (by decide) (by decide) (by decide) (Nat.le_of_ble_eq_true rfl) (by omega) (by omega) (by omega) rfl ?_
      rw [hpk]
      refine q_iload_n 1 8 dX5_readInner_7 rfl rfl rfl ?_
      refine q_sipush 140 11 dX5_readInner_8 sc_140 rfl ?_
      refine q_icmp_ne 41 14 dX5_readInner_11 (by decide) rfl (fun h11 => ?_) (fun h11 => absurd h11 hne)
      refine q_aload_n 0 42 dX5_readInner_41 rfl rfl rfl ?_
      refine q_iload_n 2 43 dX5_readInner_42 rfl rfl rfl ?_
      refine q_xVi 0 [0, 1, 2, 3, 4, 5] [] [0, 1, 2, 3, 4, 5] 46 (wr := []) (w1 := _) (ws' := fun _ => [_, _, _, _, _, _]) hc1 m_X5_63 dX5_readInner_43 rfl rfl rfl rfl rfl rfl rfl (fun _ => rfl) (by decide) (by decide) (by decide) (by decide) (Nat.le_of_ble_eq_true rfl) (by omega) (by omega) (by omega) rfl (fun z1 hz1 => ?_)
      obtain ⟨i2, co2⟩ := z1
      dsimp only at hz1 ⊢
      refine q_if_ne 51 49 dX5_readInner_46 (by decide) rfl (fun h46 => absurd h2 h46) (fun h46 => ?_)
      refine q_iconst 0 50 dX5_readInner_49 ic_0 rfl ?_
      refine q_zreturn dX5_readInner_50 rfl (Or.inl rfl) ?_
      exact pE.mk (_, _) (fun h => absurd rfl h) rfl rfl
    · rw [if_neg h2]
      have a4 := a4 h2
      have hlen : (Cc ++ f1.2.2).length < 400 := by rw [List.length_append]; omega
      refine q_aload_n 0 1 dX5_readInner_0 rfl rfl rfl ?_
      refine q_getR 0 4 f_X5_15 dX5_readInner_1 rfl rfl rfl rfl ?_
      refine q_cVv 2 [2, 3, 4, 5] [0, 1] [0, 1, 2, 3, 4, 5] 7 (wr := [_, _]) (w1 := _) (ws' := [_, _, _, _, _, _]) (c_X7_pass hR hk) m_X5_70 dX5_readInner_4 rfl rfl rfl rfl rfl rfl rfl rfl (by decide) (by decide) (by decide) (by decide) (Nat.le_of_ble_eq_true rfl) (by omega) (by omega) (by omega) rfl ?_
      rw [hpk]
      refine q_iload_n 1 8 dX5_readInner_7 rfl rfl rfl ?_
      refine q_sipush 140 11 dX5_readInner_8 sc_140 rfl ?_
      refine q_icmp_ne 41 14 dX5_readInner_11 (by decide) rfl (fun h11 => ?_) (fun h11 => absurd h11 hne)
      refine q_aload_n 0 42 dX5_readInner_41 rfl rfl rfl ?_
      refine q_iload_n 2 43 dX5_readInner_42 rfl rfl rfl ?_
      refine q_xVi 0 [0, 1, 2, 3, 4, 5] [] [0, 1, 2, 3, 4, 5] 46 (wr := []) (w1 := _) (ws' := fun _ => [_, _, _, _, _, _]) hc1 m_X5_63 dX5_readInner_43 rfl rfl rfl rfl rfl rfl rfl (fun _ => rfl) (by decide) (by decide) (by decide) (by decide) (Nat.le_of_ble_eq_true rfl) (by omega) (by omega) (by omega) rfl (fun z1 hz1 => ?_)
      obtain ⟨i2, co2⟩ := z1
      dsimp only at hz1 ⊢
      refine q_if_ne 51 49 dX5_readInner_46 (by decide) rfl (fun h46 => ?_) (fun h46 => absurd h46 h2)
      refine q_aload_n 0 52 dX5_readInner_51 rfl rfl rfl ?_
      refine q_bipush 13 54 dX5_readInner_52 bc_13 rfl ?_
      refine q_cVv 0 [0, 1] [2, 3, 4, 5] [4, 5, 0, 1, 2, 3] 57 (wr := [_, _, _, _]) (w1 := _) (ws' := [_, _, _, _, _, _]) (c_X5_write (hz1 h2).1 hlen) m_X5_56 dX5_readInner_54 rfl rfl rfl rfl rfl rfl rfl rfl (by decide) (by decide) (by decide) (by decide) (Nat.le_of_ble_eq_true rfl) (by omega) (by omega) (by omega) rfl ?_
      refine q_iconst 1 58 dX5_readInner_57 ic_1 rfl ?_
      refine q_zreturn dX5_readInner_58 rfl (Or.inr rfl) ?_
      exact pE.mk (upd i2 1 (nI ((Cc ++ f1.2.2).length + 1)), upd co2 (Cc ++ f1.2.2).length 13) (fun _ => ⟨by have h9 := CoR_push (v := 13) (hz1 h2).1 hlen; rw [List.append_assoc] at h9; exact h9, (hz1 h2).2⟩) rfl rfl
  have hI14 : (tA L e k).1 = 140 → Ce l g yX5_readInner (Cond.code yX5_readInner cX5_readInner 3 (some .boolean)) (D + 3) [.ref r, .int (tA L e k).1, .int (nI (dd + 1))] [(r, ob 5 i (rR cd q)), (cd, aI g 400 co), (q, ob 7 (upd j 6 (nI k)) (rS t b n x)), (t, aI g 401 th), (b, aI g 401 be), (n, aI g 401 nu)] (fun _ : Sc × Sc => some (.int (atC L e (d + 1) k).1)) (fun z : Sc × Sc => [(r, ob 5 z.1 (rR cd q)), (cd, aI g 400 z.2), (q, ob 7 (upd j 6 (nI (atC L e (d + 1) k).2.1)) (rS t b n x)), (t, aI g 401 th), (b, aI g 401 be), (n, aI g 401 nu)]) (fun z : Sc × Sc => (¬ (atC L e (d + 1) k).1 = 0 → CoR (Cc ++ (atC L e (d + 1) k).2.2) z.1 z.2 ∧ z.1 2 = i 2)) := by
    intro h1
    refine ct_of (M := mtX5_readInner) [some (.ref r), some (.int (tA L e k).1), some (.int (nI (dd + 1)))] rfl (by decide) (Nat.le_of_ble_eq_true rfl) (fun _ h => h) (fun a => ?_)
    have hne : ¬ (tA L e k).1 = 13 := by rw [h1]; decide
    rw [atC, if_neg hne, if_pos h1]
    have hlt : k < L.length := tA_lt (e := e) (fun h0 => by rw [h0] at h1; exact absurd h1 (by decide))
    have hpk : pK1 L k = k + 1 := if_pos hlt
    obtain ⟨a1, a2, a3, a4⟩ := anyC_ok (e := e) (fun k hk => atC_ok (e := e) d k hk) (k + 1) hlt
    have hc1 := hAny (k + 1) i co Cc hlt hC (by omega)
    unfold anyC at *
    generalize lsC L e 11 (lsC L e 12 (atC L e d)) (k + 1) = f1 at *
    by_cases h2 : f1.1 = 0
    · rw [if_pos h2]
      refine q_aload_n 0 1 dX5_readInner_0 rfl rfl rfl ?_
      refine q_getR 0 4 f_X5_15 dX5_readInner_1 rfl rfl rfl rfl ?_
      refine q_cVv 2 [2, 3, 4, 5] [0, 1] [0, 1, 2, 3, 4, 5] 7 (wr := [_, _]) (w1 := _) (ws' := [_, _, _, _, _, _]) (c_X7_pass hR hk) m_X5_70 dX5_readInner_4 rfl rfl rfl rfl rfl rfl rfl rfl (by decide) (by decide) (by decide) (by decide) (Nat.le_of_ble_eq_true rfl) (by omega) (by omega) (by omega) rfl ?_
      rw [hpk]
      refine q_iload_n 1 8 dX5_readInner_7 rfl rfl rfl ?_
      refine q_sipush 140 11 dX5_readInner_8 sc_140 rfl ?_
      refine q_icmp_ne 41 14 dX5_readInner_11 (by decide) rfl (fun h11 => absurd h1 h11) (fun h11 => ?_)
      refine q_aload_n 0 15 dX5_readInner_14 rfl rfl rfl ?_
      refine q_iload_n 2 16 dX5_readInner_15 rfl rfl rfl ?_
      refine q_xVi 0 [0, 1, 2, 3, 4, 5] [] [0, 1, 2, 3, 4, 5] 19 (wr := []) (w1 := _) (ws' := fun _ => [_, _, _, _, _, _]) hc1 m_X5_37 dX5_readInner_16 rfl rfl rfl rfl rfl rfl rfl (fun _ => rfl) (by decide) (by decide) (by decide) (by decide) (Nat.le_of_ble_eq_true rfl) (by omega) (by omega) (by omega) rfl (fun z1 hz1 => ?_)
      obtain ⟨i2, co2⟩ := z1
      dsimp only at hz1 ⊢
      refine q_if_eq 39 22 dX5_readInner_19 (by decide) rfl (fun h19 => ?_) (fun h19 => absurd h2 h19)
      refine q_iconst 0 40 dX5_readInner_39 ic_0 rfl ?_
      refine q_zreturn dX5_readInner_40 rfl (Or.inl rfl) ?_
      exact pE.mk (_, _) (fun h => absurd rfl h) rfl rfl
    · rw [if_neg h2]
      by_cases h3 : isT L e f1.2.1 141
      · rw [if_pos h3]
        have hb : ¬ psB L e f1.2.1 141 = 0 := by rw [show psB L e f1.2.1 141 = 1 from if_pos h3]; decide
        have hkk : psK L e f1.2.1 141 = f1.2.1 + 1 := if_pos h3
        refine q_aload_n 0 1 dX5_readInner_0 rfl rfl rfl ?_
        refine q_getR 0 4 f_X5_15 dX5_readInner_1 rfl rfl rfl rfl ?_
        refine q_cVv 2 [2, 3, 4, 5] [0, 1] [0, 1, 2, 3, 4, 5] 7 (wr := [_, _]) (w1 := _) (ws' := [_, _, _, _, _, _]) (c_X7_pass hR hk) m_X5_70 dX5_readInner_4 rfl rfl rfl rfl rfl rfl rfl rfl (by decide) (by decide) (by decide) (by decide) (Nat.le_of_ble_eq_true rfl) (by omega) (by omega) (by omega) rfl ?_
        rw [hpk]
        refine q_iload_n 1 8 dX5_readInner_7 rfl rfl rfl ?_
        refine q_sipush 140 11 dX5_readInner_8 sc_140 rfl ?_
        refine q_icmp_ne 41 14 dX5_readInner_11 (by decide) rfl (fun h11 => absurd h1 h11) (fun h11 => ?_)
        refine q_aload_n 0 15 dX5_readInner_14 rfl rfl rfl ?_
        refine q_iload_n 2 16 dX5_readInner_15 rfl rfl rfl ?_
        refine q_xVi 0 [0, 1, 2, 3, 4, 5] [] [0, 1, 2, 3, 4, 5] 19 (wr := []) (w1 := _) (ws' := fun _ => [_, _, _, _, _, _]) hc1 m_X5_37 dX5_readInner_16 rfl rfl rfl rfl rfl rfl rfl (fun _ => rfl) (by decide) (by decide) (by decide) (by decide) (Nat.le_of_ble_eq_true rfl) (by omega) (by omega) (by omega) rfl (fun z1 hz1 => ?_)
        obtain ⟨i2, co2⟩ := z1
        dsimp only at hz1 ⊢
        refine q_if_eq 39 22 dX5_readInner_19 (by decide) rfl (fun h19 => absurd h19 h2) (fun h19 => ?_)
        refine q_aload_n 0 23 dX5_readInner_22 rfl rfl rfl ?_
        refine q_getR 0 26 f_X5_15 dX5_readInner_23 rfl rfl rfl rfl ?_
        refine q_sipush 141 29 dX5_readInner_26 sc_141 rfl ?_
        refine q_cVi 2 [2, 3, 4, 5] [0, 1] [0, 1, 2, 3, 4, 5] 32 (wr := [_, _]) (w1 := _) (ws' := [_, _, _, _, _, _]) (c_X7_passes hR a3) m_X5_33 dX5_readInner_29 rfl rfl rfl rfl rfl rfl rfl rfl (by decide) (by decide) (by decide) (by decide) (Nat.le_of_ble_eq_true rfl) (by omega) (by omega) (by omega) rfl ?_
        refine q_if_eq 39 35 dX5_readInner_32 (by decide) rfl (fun h32 => absurd h32 hb) (fun h32 => ?_)
        rw [hkk]
        refine q_iconst 1 36 dX5_readInner_35 ic_1 rfl ?_
        refine q_goto 40 dX5_readInner_36 (by decide) ?_
        refine q_zreturn dX5_readInner_40 rfl (Or.inr rfl) ?_
        exact pE.mk (_, _) (fun _ => hz1 h2) rfl rfl
      · rw [if_neg h3]
        have hb : psB L e f1.2.1 141 = 0 := if_neg h3
        have hkk : psK L e f1.2.1 141 = f1.2.1 := if_neg h3
        refine q_aload_n 0 1 dX5_readInner_0 rfl rfl rfl ?_
        refine q_getR 0 4 f_X5_15 dX5_readInner_1 rfl rfl rfl rfl ?_
        refine q_cVv 2 [2, 3, 4, 5] [0, 1] [0, 1, 2, 3, 4, 5] 7 (wr := [_, _]) (w1 := _) (ws' := [_, _, _, _, _, _]) (c_X7_pass hR hk) m_X5_70 dX5_readInner_4 rfl rfl rfl rfl rfl rfl rfl rfl (by decide) (by decide) (by decide) (by decide) (Nat.le_of_ble_eq_true rfl) (by omega) (by omega) (by omega) rfl ?_
        rw [hpk]
        refine q_iload_n 1 8 dX5_readInner_7 rfl rfl rfl ?_
        refine q_sipush 140 11 dX5_readInner_8 sc_140 rfl ?_
        refine q_icmp_ne 41 14 dX5_readInner_11 (by decide) rfl (fun h11 => absurd h1 h11) (fun h11 => ?_)
        refine q_aload_n 0 15 dX5_readInner_14 rfl rfl rfl ?_
        refine q_iload_n 2 16 dX5_readInner_15 rfl rfl rfl ?_
        refine q_xVi 0 [0, 1, 2, 3, 4, 5] [] [0, 1, 2, 3, 4, 5] 19 (wr := []) (w1 := _) (ws' := fun _ => [_, _, _, _, _, _]) hc1 m_X5_37 dX5_readInner_16 rfl rfl rfl rfl rfl rfl rfl (fun _ => rfl) (by decide) (by decide) (by decide) (by decide) (Nat.le_of_ble_eq_true rfl) (by omega) (by omega) (by omega) rfl (fun z1 hz1 => ?_)
        obtain ⟨i2, co2⟩ := z1
        dsimp only at hz1 ⊢
        refine q_if_eq 39 22 dX5_readInner_19 (by decide) rfl (fun h19 => absurd h19 h2) (fun h19 => ?_)
        refine q_aload_n 0 23 dX5_readInner_22 rfl rfl rfl ?_
        refine q_getR 0 26 f_X5_15 dX5_readInner_23 rfl rfl rfl rfl ?_
        refine q_sipush 141 29 dX5_readInner_26 sc_141 rfl ?_
        refine q_cVi 2 [2, 3, 4, 5] [0, 1] [0, 1, 2, 3, 4, 5] 32 (wr := [_, _]) (w1 := _) (ws' := [_, _, _, _, _, _]) (c_X7_passes hR a3) m_X5_33 dX5_readInner_29 rfl rfl rfl rfl rfl rfl rfl rfl (by decide) (by decide) (by decide) (by decide) (Nat.le_of_ble_eq_true rfl) (by omega) (by omega) (by omega) rfl ?_
        refine q_if_eq 39 35 dX5_readInner_32 (by decide) rfl (fun h32 => ?_) (fun h32 => absurd hb h32)
        rw [hkk]
        refine q_iconst 0 40 dX5_readInner_39 ic_0 rfl ?_
        refine q_zreturn dX5_readInner_40 rfl (Or.inl rfl) ?_
        exact pE.mk (_, _) (fun h => absurd rfl h) rfl rfl
  refine ct_of (M := mtX5_readAtom) [some (.ref r), some (.int (nI dd)), none] rfl (by decide) (Nat.le_of_ble_eq_true rfl) (fun _ h => h) (fun a => ?_)
  have hok := atC_ok (e := e) (d + 1) k hk
  have hd6 : ¬ (6 : Int32) ≤ nI dd := nI_ge (b := 6) hdd (by decide)
  have K44 : ¬ (tA L e k).1 = 13 → ¬ (tA L e k).1 = 140 → WPs l g mtX5_readAtom (D + 4) 0 0 (pE (fun _ : Sc × Sc => some (.int (if (tA L e k).1 = 14 ∨ (tA L e k).1 = 15 then ((1 : Int32), k + 1, [(tA L e k).1]) else cmpC L e k).1)) (fun z : Sc × Sc => [(r, ob 5 z.1 (rR cd q)), (cd, aI g 400 z.2), (q, ob 7 (upd j 6 (nI (if (tA L e k).1 = 14 ∨ (tA L e k).1 = 15 then ((1 : Int32), k + 1, [(tA L e k).1]) else cmpC L e k).2.1)) (rS t b n x)), (t, aI g 401 th), (b, aI g 401 be), (n, aI g 401 nu)]) (fun z : Sc × Sc => (¬ (if (tA L e k).1 = 14 ∨ (tA L e k).1 = 15 then ((1 : Int32), k + 1, [(tA L e k).1]) else cmpC L e k).1 = 0 → CoR (Cc ++ (if (tA L e k).1 = 14 ∨ (tA L e k).1 = 15 then ((1 : Int32), k + 1, [(tA L e k).1]) else cmpC L e k).2.2) z.1 z.2 ∧ z.1 2 = i 2))) noX a 44 [some (.ref r), some (.int (nI dd)), some (.int (tA L e k).1)] [] [(r, ob 5 i (rR cd q)), (cd, aI g 400 co), (q, ob 7 (upd j 6 (nI k)) (rS t b n x)), (t, aI g 401 th), (b, aI g 401 be), (n, aI g 401 nu)] 0 0 := by
    intro _ _
    by_cases h5 : (tA L e k).1 = 14 ∨ (tA L e k).1 = 15
    · rw [if_pos h5]
      have hlt : k < L.length := tA_lt (e := e) (fun h0 => by rw [h0] at h5; rcases h5 with h | h <;> exact absurd h (by decide))
      have hpk : pK1 L k = k + 1 := if_pos hlt
      have hlen : Cc.length < 400 := by omega
      rcases h5 with h5 | h5
      · skip
        refine q_iload_n 2 45 dX5_readAtom_44 rfl rfl rfl ?_
        refine q_bipush 14 47 dX5_readAtom_45 bc_14 rfl ?_
        refine q_icmp_eq 56 50 dX5_readAtom_47 (by decide) rfl (fun h47 => ?_) (fun h47 => absurd h5 h47)
        refine q_aload_n 0 57 dX5_readAtom_56 rfl rfl rfl ?_
        refine q_iload_n 2 58 dX5_readAtom_57 rfl rfl rfl ?_
        refine q_cVv 0 [0, 1] [2, 3, 4, 5] [4, 5, 0, 1, 2, 3] 61 (wr := [_, _, _, _]) (w1 := _) (ws' := [_, _, _, _, _, _]) (c_X5_write hC hlen) m_X5_56 dX5_readAtom_58 rfl rfl rfl rfl rfl rfl rfl rfl (by decide) (by decide) (by decide) (by decide) (Nat.le_of_ble_eq_true rfl) (by omega) (by omega) (by omega) rfl ?_
        refine q_aload_n 0 62 dX5_readAtom_61 rfl rfl rfl ?_
        refine q_getR 0 65 f_X5_15 dX5_readAtom_62 rfl rfl rfl rfl ?_
        refine q_cVv 2 [2, 3, 4, 5] [0, 1] [0, 1, 2, 3, 4, 5] 68 (wr := [_, _]) (w1 := _) (ws' := [_, _, _, _, _, _]) (c_X7_pass hR hk) m_X5_70 dX5_readAtom_65 rfl rfl rfl rfl rfl rfl rfl rfl (by decide) (by decide) (by decide) (by decide) (Nat.le_of_ble_eq_true rfl) (by omega) (by omega) (by omega) rfl ?_
        rw [hpk]
        refine q_iconst 1 69 dX5_readAtom_68 ic_1 rfl ?_
        refine q_zreturn dX5_readAtom_69 rfl (Or.inr rfl) ?_
        exact pE.mk (_, _) (fun _ => ⟨CoR_push hC hlen, rfl⟩) rfl rfl
      · have h6 : ¬ (tA L e k).1 = 14 := by rw [h5]; decide
        refine q_iload_n 2 45 dX5_readAtom_44 rfl rfl rfl ?_
        refine q_bipush 14 47 dX5_readAtom_45 bc_14 rfl ?_
        refine q_icmp_eq 56 50 dX5_readAtom_47 (by decide) rfl (fun h47 => absurd h47 h6) (fun h47 => ?_)
        refine q_iload_n 2 51 dX5_readAtom_50 rfl rfl rfl ?_
        refine q_bipush 15 53 dX5_readAtom_51 bc_15 rfl ?_
        refine q_icmp_ne 70 56 dX5_readAtom_53 (by decide) rfl (fun h53 => absurd h5 h53) (fun h53 => ?_)
        refine q_aload_n 0 57 dX5_readAtom_56 rfl rfl rfl ?_
        refine q_iload_n 2 58 dX5_readAtom_57 rfl rfl rfl ?_
        refine q_cVv 0 [0, 1] [2, 3, 4, 5] [4, 5, 0, 1, 2, 3] 61 (wr := [_, _, _, _]) (w1 := _) (ws' := [_, _, _, _, _, _]) (c_X5_write hC hlen) m_X5_56 dX5_readAtom_58 rfl rfl rfl rfl rfl rfl rfl rfl (by decide) (by decide) (by decide) (by decide) (Nat.le_of_ble_eq_true rfl) (by omega) (by omega) (by omega) rfl ?_
        refine q_aload_n 0 62 dX5_readAtom_61 rfl rfl rfl ?_
        refine q_getR 0 65 f_X5_15 dX5_readAtom_62 rfl rfl rfl rfl ?_
        refine q_cVv 2 [2, 3, 4, 5] [0, 1] [0, 1, 2, 3, 4, 5] 68 (wr := [_, _]) (w1 := _) (ws' := [_, _, _, _, _, _]) (c_X7_pass hR hk) m_X5_70 dX5_readAtom_65 rfl rfl rfl rfl rfl rfl rfl rfl (by decide) (by decide) (by decide) (by decide) (Nat.le_of_ble_eq_true rfl) (by omega) (by omega) (by omega) rfl ?_
        rw [hpk]
        refine q_iconst 1 69 dX5_readAtom_68 ic_1 rfl ?_
        refine q_zreturn dX5_readAtom_69 rfl (Or.inr rfl) ?_
        exact pE.mk (_, _) (fun _ => ⟨CoR_push hC hlen, rfl⟩) rfl rfl
    · rw [if_neg h5]
      have hcm := cmpC_ok (e := e) hk
      have hc1 := c_X5_readCompared (l := l) (g := g) (r := r) (cd := cd) (q := q) (t := t) (b := b) (n := n) (x := x) hR hk hC hl
      generalize cmpC L e k = R9 at *
      refine q_iload_n 2 45 dX5_readAtom_44 rfl rfl rfl ?_
      refine q_bipush 14 47 dX5_readAtom_45 bc_14 rfl ?_
      refine q_icmp_eq 56 50 dX5_readAtom_47 (by decide) rfl (fun h47 => absurd h47 (fun z => h5 (Or.inl z))) (fun h47 => ?_)
      refine q_iload_n 2 51 dX5_readAtom_50 rfl rfl rfl ?_
      refine q_bipush 15 53 dX5_readAtom_51 bc_15 rfl ?_
      refine q_icmp_ne 70 56 dX5_readAtom_53 (by decide) rfl (fun h53 => ?_) (fun h53 => absurd h53 (fun z => h5 (Or.inr z)))
      refine q_aload_n 0 71 dX5_readAtom_70 rfl rfl rfl ?_
      refine q_xVi 0 [0, 1, 2, 3, 4, 5] [] [0, 1, 2, 3, 4, 5] 74 (wr := []) (w1 := _) (ws' := fun _ => [_, _, _, _, _, _]) hc1 m_X5_73 dX5_readAtom_71 rfl rfl rfl rfl rfl rfl rfl (fun _ => rfl) (by decide) (by decide) (by decide) (by decide) (Nat.le_of_ble_eq_true rfl) (by omega) (by omega) (by omega) rfl (fun z1 hz1 => ?_)
      obtain ⟨i2, co2⟩ := z1
      dsimp only at hz1 ⊢
      refine q_zreturn dX5_readAtom_74 rfl hcm.1 ?_
      exact pE.mk (_, _) hz1 rfl rfl
  by_cases h1 : (tA L e k).1 = 13
  · have hc1 := hI13 h1
    clear hI13 hI14 K44
    generalize atC L e (d + 1) k = R9 at *
    rcases hok.1 with hz | hz
    · skip
      refine q_aload_n 0 1 dX5_readAtom_0 rfl rfl rfl ?_
      refine q_getR 0 4 f_X5_15 dX5_readAtom_1 rfl rfl rfl rfl ?_
      refine q_cVi 2 [2, 3, 4, 5] [0, 1] [0, 1, 2, 3, 4, 5] 7 (wr := [_, _]) (w1 := _) (ws' := [_, _, _, _, _, _]) (c_X7_thing hR hk) m_X5_23 dX5_readAtom_4 rfl rfl rfl rfl rfl rfl rfl rfl (by decide) (by decide) (by decide) (by decide) (Nat.le_of_ble_eq_true rfl) (by omega) (by omega) (by omega) rfl ?_
      refine q_istore_n 2 8 (L' := [_, _, _]) dX5_readAtom_7 rfl (by decide) rfl rfl ?_
      refine q_iload_n 2 9 dX5_readAtom_8 rfl rfl rfl ?_
      refine q_bipush 13 11 dX5_readAtom_9 bc_13 rfl ?_
      refine q_icmp_eq 21 14 dX5_readAtom_11 (by decide) rfl (fun h11 => ?_) (fun h11 => absurd h1 h11)
      refine q_iload_n 1 22 dX5_readAtom_21 rfl rfl rfl ?_
      refine q_bipush 6 24 dX5_readAtom_22 bc_6 rfl ?_
      refine q_icmp_ge 42 27 dX5_readAtom_24 (by decide) rfl (fun h24 => absurd h24 hd6) (fun h24 => ?_)
      refine q_aload_n 0 28 dX5_readAtom_27 rfl rfl rfl ?_
      refine q_iload_n 2 29 dX5_readAtom_28 rfl rfl rfl ?_
      refine q_iload_n 1 30 dX5_readAtom_29 rfl rfl rfl ?_
      refine q_iconst 1 31 dX5_readAtom_30 ic_1 rfl ?_
      refine q_iadd 32 dX5_readAtom_31 rfl ?_
      rw [nI_1]
      refine q_xVi 0 [0, 1, 2, 3, 4, 5] [] [0, 1, 2, 3, 4, 5] 35 (wr := []) (w1 := _) (ws' := fun _ => [_, _, _, _, _, _]) hc1 m_X5_66 dX5_readAtom_32 rfl rfl rfl rfl rfl rfl rfl (fun _ => rfl) (by decide) (by decide) (by decide) (by decide) (Nat.le_of_ble_eq_true rfl) (by omega) (by omega) (by omega) rfl (fun z1 hz1 => ?_)
      obtain ⟨i2, co2⟩ := z1
      dsimp only at hz1 ⊢
      refine q_if_eq 42 38 dX5_readAtom_35 (by decide) rfl (fun h35 => ?_) (fun h35 => absurd hz h35)
      refine q_iconst 0 43 dX5_readAtom_42 ic_0 rfl ?_
      refine q_zreturn dX5_readAtom_43 rfl (Or.inl rfl) ?_
      exact pE.mk (_, _) hz1 (by rw [hz]) rfl
    · have hz0 : ¬ R9.1 = 0 := by rw [hz]; decide
      refine q_aload_n 0 1 dX5_readAtom_0 rfl rfl rfl ?_
      refine q_getR 0 4 f_X5_15 dX5_readAtom_1 rfl rfl rfl rfl ?_
      refine q_cVi 2 [2, 3, 4, 5] [0, 1] [0, 1, 2, 3, 4, 5] 7 (wr := [_, _]) (w1 := _) (ws' := [_, _, _, _, _, _]) (c_X7_thing hR hk) m_X5_23 dX5_readAtom_4 rfl rfl rfl rfl rfl rfl rfl rfl (by decide) (by decide) (by decide) (by decide) (Nat.le_of_ble_eq_true rfl) (by omega) (by omega) (by omega) rfl ?_
      refine q_istore_n 2 8 (L' := [_, _, _]) dX5_readAtom_7 rfl (by decide) rfl rfl ?_
      refine q_iload_n 2 9 dX5_readAtom_8 rfl rfl rfl ?_
      refine q_bipush 13 11 dX5_readAtom_9 bc_13 rfl ?_
      refine q_icmp_eq 21 14 dX5_readAtom_11 (by decide) rfl (fun h11 => ?_) (fun h11 => absurd h1 h11)
      refine q_iload_n 1 22 dX5_readAtom_21 rfl rfl rfl ?_
      refine q_bipush 6 24 dX5_readAtom_22 bc_6 rfl ?_
      refine q_icmp_ge 42 27 dX5_readAtom_24 (by decide) rfl (fun h24 => absurd h24 hd6) (fun h24 => ?_)
      refine q_aload_n 0 28 dX5_readAtom_27 rfl rfl rfl ?_
      refine q_iload_n 2 29 dX5_readAtom_28 rfl rfl rfl ?_
      refine q_iload_n 1 30 dX5_readAtom_29 rfl rfl rfl ?_
      refine q_iconst 1 31 dX5_readAtom_30 ic_1 rfl ?_
      refine q_iadd 32 dX5_readAtom_31 rfl ?_
      rw [nI_1]
      refine q_xVi 0 [0, 1, 2, 3, 4, 5] [] [0, 1, 2, 3, 4, 5] 35 (wr := []) (w1 := _) (ws' := fun _ => [_, _, _, _, _, _]) hc1 m_X5_66 dX5_readAtom_32 rfl rfl rfl rfl rfl rfl rfl (fun _ => rfl) (by decide) (by decide) (by decide) (by decide) (Nat.le_of_ble_eq_true rfl) (by omega) (by omega) (by omega) rfl (fun z1 hz1 => ?_)
      obtain ⟨i2, co2⟩ := z1
      dsimp only at hz1 ⊢
      refine q_if_eq 42 38 dX5_readAtom_35 (by decide) rfl (fun h35 => absurd h35 hz0) (fun h35 => ?_)
      refine q_iconst 1 39 dX5_readAtom_38 ic_1 rfl ?_
      refine q_goto 43 dX5_readAtom_39 (by decide) ?_
      refine q_zreturn dX5_readAtom_43 rfl (Or.inr rfl) ?_
      exact pE.mk (_, _) hz1 (by rw [hz]) rfl
  · by_cases h2 : (tA L e k).1 = 140
    · have hc1 := hI14 h2
      clear hI13 hI14 K44
      generalize atC L e (d + 1) k = R9 at *
      rcases hok.1 with hz | hz
      · skip
        refine q_aload_n 0 1 dX5_readAtom_0 rfl rfl rfl ?_
        refine q_getR 0 4 f_X5_15 dX5_readAtom_1 rfl rfl rfl rfl ?_
        refine q_cVi 2 [2, 3, 4, 5] [0, 1] [0, 1, 2, 3, 4, 5] 7 (wr := [_, _]) (w1 := _) (ws' := [_, _, _, _, _, _]) (c_X7_thing hR hk) m_X5_23 dX5_readAtom_4 rfl rfl rfl rfl rfl rfl rfl rfl (by decide) (by decide) (by decide) (by decide) (Nat.le_of_ble_eq_true rfl) (by omega) (by omega) (by omega) rfl ?_
        refine q_istore_n 2 8 (L' := [_, _, _]) dX5_readAtom_7 rfl (by decide) rfl rfl ?_
        refine q_iload_n 2 9 dX5_readAtom_8 rfl rfl rfl ?_
        refine q_bipush 13 11 dX5_readAtom_9 bc_13 rfl ?_
        refine q_icmp_eq 21 14 dX5_readAtom_11 (by decide) rfl (fun h11 => absurd h11 h1) (fun h11 => ?_)
        refine q_iload_n 2 15 dX5_readAtom_14 rfl rfl rfl ?_
        refine q_sipush 140 18 dX5_readAtom_15 sc_140 rfl ?_
        refine q_icmp_ne 44 21 dX5_readAtom_18 (by decide) rfl (fun h18 => absurd h2 h18) (fun h18 => ?_)
        refine q_iload_n 1 22 dX5_readAtom_21 rfl rfl rfl ?_
        refine q_bipush 6 24 dX5_readAtom_22 bc_6 rfl ?_
        refine q_icmp_ge 42 27 dX5_readAtom_24 (by decide) rfl (fun h24 => absurd h24 hd6) (fun h24 => ?_)
        refine q_aload_n 0 28 dX5_readAtom_27 rfl rfl rfl ?_
        refine q_iload_n 2 29 dX5_readAtom_28 rfl rfl rfl ?_
        refine q_iload_n 1 30 dX5_readAtom_29 rfl rfl rfl ?_
        refine q_iconst 1 31 dX5_readAtom_30 ic_1 rfl ?_
        refine q_iadd 32 dX5_readAtom_31 rfl ?_
        rw [nI_1]
        refine q_xVi 0 [0, 1, 2, 3, 4, 5] [] [0, 1, 2, 3, 4, 5] 35 (wr := []) (w1 := _) (ws' := fun _ => [_, _, _, _, _, _]) hc1 m_X5_66 dX5_readAtom_32 rfl rfl rfl rfl rfl rfl rfl (fun _ => rfl) (by decide) (by decide) (by decide) (by decide) (Nat.le_of_ble_eq_true rfl) (by omega) (by omega) (by omega) rfl (fun z1 hz1 => ?_)
        obtain ⟨i2, co2⟩ := z1
        dsimp only at hz1 ⊢
        refine q_if_eq 42 38 dX5_readAtom_35 (by decide) rfl (fun h35 => ?_) (fun h35 => absurd hz h35)
        refine q_iconst 0 43 dX5_readAtom_42 ic_0 rfl ?_
        refine q_zreturn dX5_readAtom_43 rfl (Or.inl rfl) ?_
        exact pE.mk (_, _) hz1 (by rw [hz]) rfl
      · have hz0 : ¬ R9.1 = 0 := by rw [hz]; decide
        refine q_aload_n 0 1 dX5_readAtom_0 rfl rfl rfl ?_
        refine q_getR 0 4 f_X5_15 dX5_readAtom_1 rfl rfl rfl rfl ?_
        refine q_cVi 2 [2, 3, 4, 5] [0, 1] [0, 1, 2, 3, 4, 5] 7 (wr := [_, _]) (w1 := _) (ws' := [_, _, _, _, _, _]) (c_X7_thing hR hk) m_X5_23 dX5_readAtom_4 rfl rfl rfl rfl rfl rfl rfl rfl (by decide) (by decide) (by decide) (by decide) (Nat.le_of_ble_eq_true rfl) (by omega) (by omega) (by omega) rfl ?_
        refine q_istore_n 2 8 (L' := [_, _, _]) dX5_readAtom_7 rfl (by decide) rfl rfl ?_
        refine q_iload_n 2 9 dX5_readAtom_8 rfl rfl rfl ?_
        refine q_bipush 13 11 dX5_readAtom_9 bc_13 rfl ?_
        refine q_icmp_eq 21 14 dX5_readAtom_11 (by decide) rfl (fun h11 => absurd h11 h1) (fun h11 => ?_)
        refine q_iload_n 2 15 dX5_readAtom_14 rfl rfl rfl ?_
        refine q_sipush 140 18 dX5_readAtom_15 sc_140 rfl ?_
        refine q_icmp_ne 44 21 dX5_readAtom_18 (by decide) rfl (fun h18 => absurd h2 h18) (fun h18 => ?_)
        refine q_iload_n 1 22 dX5_readAtom_21 rfl rfl rfl ?_
        refine q_bipush 6 24 dX5_readAtom_22 bc_6 rfl ?_
        refine q_icmp_ge 42 27 dX5_readAtom_24 (by decide) rfl (fun h24 => absurd h24 hd6) (fun h24 => ?_)
        refine q_aload_n 0 28 dX5_readAtom_27 rfl rfl rfl ?_
        refine q_iload_n 2 29 dX5_readAtom_28 rfl rfl rfl ?_
        refine q_iload_n 1 30 dX5_readAtom_29 rfl rfl rfl ?_
        refine q_iconst 1 31 dX5_readAtom_30 ic_1 rfl ?_
        refine q_iadd 32 dX5_readAtom_31 rfl ?_
        rw [nI_1]
        refine q_xVi 0 [0, 1, 2, 3, 4, 5] [] [0, 1, 2, 3, 4, 5] 35 (wr := []) (w1 := _) (ws' := fun _ => [_, _, _, _, _, _]) hc1 m_X5_66 dX5_readAtom_32 rfl rfl rfl rfl rfl rfl rfl (fun _ => rfl) (by decide) (by decide) (by decide) (by decide) (Nat.le_of_ble_eq_true rfl) (by omega) (by omega) (by omega) rfl (fun z1 hz1 => ?_)
        obtain ⟨i2, co2⟩ := z1
        dsimp only at hz1 ⊢
        refine q_if_eq 42 38 dX5_readAtom_35 (by decide) rfl (fun h35 => absurd h35 hz0) (fun h35 => ?_)
        refine q_iconst 1 39 dX5_readAtom_38 ic_1 rfl ?_
        refine q_goto 43 dX5_readAtom_39 (by decide) ?_
        refine q_zreturn dX5_readAtom_43 rfl (Or.inr rfl) ?_
        exact pE.mk (_, _) hz1 (by rw [hz]) rfl
    · have K1 := K44 h1 h2
      rw [atC, if_neg h1, if_neg h2]
      clear hI13 hI14 K44
      refine q_aload_n 0 1 dX5_readAtom_0 rfl rfl rfl ?_
      refine q_getR 0 4 f_X5_15 dX5_readAtom_1 rfl rfl rfl rfl ?_
      refine q_cVi 2 [2, 3, 4, 5] [0, 1] [0, 1, 2, 3, 4, 5] 7 (wr := [_, _]) (w1 := _) (ws' := [_, _, _, _, _, _]) (c_X7_thing hR hk) m_X5_23 dX5_readAtom_4 rfl rfl rfl rfl rfl rfl rfl rfl (by decide) (by decide) (by decide) (by decide) (Nat.le_of_ble_eq_true rfl) (by omega) (by omega) (by omega) rfl ?_
      refine q_istore_n 2 8 (L' := [_, _, _]) dX5_readAtom_7 rfl (by decide) rfl rfl ?_
      refine q_iload_n 2 9 dX5_readAtom_8 rfl rfl rfl ?_
      refine q_bipush 13 11 dX5_readAtom_9 bc_13 rfl ?_
      refine q_icmp_eq 21 14 dX5_readAtom_11 (by decide) rfl (fun h11 => absurd h11 h1) (fun h11 => ?_)
      refine q_iload_n 2 15 dX5_readAtom_14 rfl rfl rfl ?_
      refine q_sipush 140 18 dX5_readAtom_15 sc_140 rfl ?_
      refine q_icmp_ne 44 21 dX5_readAtom_18 (by decide) rfl (fun h18 => ?_) (fun h18 => absurd h18 h2)
      exact K1
theorem c_X5_atoms {l : Launch} {g : Gh} {r cd q t b n x e : Nat} {j th be nu : Sc} {L : List Tok} (hR : RepT L e j th be nu) : ∀ d, d ≤ 6 → RdC l g yX5_readAtom (Cond.code yX5_readAtom cX5_readAtom 3 (some .boolean)) (4 + 4 * d) (nI (6 - d)) r cd q t b n x j th be nu L (atC L e d)
  | 0, _ => c_X5_atom0 hR
  | d + 1, hd => by
    have h := c_X5_atoms (l := l) (g := g) (r := r) (cd := cd) (q := q) (t := t) (b := b) (n := n) (x := x) hR d (by omega)
    rw [show 6 - d = (6 - (d + 1)) + 1 by omega] at h
    rw [show 4 + 4 * (d + 1) = (4 + 4 * d) + 4 by omega]
    have h4 : 4 ≤ 4 + 4 * d := by omega
    exact c_X5_atomS hR h4 (by omega) h
theorem c_X5_any {l : Launch} {g : Gh} {r cd q t b n x e : Nat} {j th be nu : Sc} {L : List Tok} (hR : RepT L e j th be nu) : RdC l g yX5_readAny (Cond.code yX5_readAny cX5_readAny 3 (some .boolean)) 30 0 r cd q t b n x j th be nu L (anyC L e (atC L e 6)) :=
  c_X5_readAny hR (by omega) (c_X5_readAll hR (by omega) (c_X5_atoms hR 6 (Nat.le_refl _)) (fun k hk => atC_ok 6 k hk)) (lsC_ok (fun k hk => atC_ok 6 k hk))

