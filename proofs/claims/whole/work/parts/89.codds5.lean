/-! ===== Odds: all levels, with one who takes ===== -/
def lvN (E : Nat → List (Nat × Sc)) (ch u : Nat) (x : Sc × Sc) : Sc := cpA x.1 (fun p => moV x.2 (E p) ch) 4 u
def lvT (E : Nat → List (Nat × Sc)) (ch : Nat) (U tk : Nat → Nat) : Nat → (Sc × Sc) × (Sc × Sc) → (Sc × Sc) × (Sc × Sc)
  | 0, x => x
  | k + 1, x => (((lvT E ch U tk k x).1.2, lvN E ch (U k) (lvT E ch U tk k x).1), ((lvT E ch U tk k x).2.2, cpA (lvT E ch U tk k x).2.1 (fun p => iMax (moV (lvT E ch U tk k x).2.2 (E p) ch) (lvN E ch (U k) (lvT E ch U tk k x).1 (tk p))) 4 (U k)))
theorem rwO.le {Nv N N2 k n : Nat} (h : rwO Nv N N2 k n) (hN : N ≤ 2 ^ 22) (hv : Nv < 2 ^ 29) : N + 5 ≤ N2 ∧ N2 < 2 ^ 30 := by
  obtain ⟨o1, _, _⟩ := h
  rw [o1]
  by_cases hg : Nv < N + 5
  · rw [if_pos hg]; omega
  · rw [if_neg hg]; omega
theorem c_X2_weighAll1 {l : Launch} {g : Gh} {q ke ta N Nv Ns Nt Nb Np ch sz n um : Nat} {r : Nat → Nat} {i ip kf uf vf us vs tf bf pf ef : Sc} {cnt : Int32} {E : Nat → List (Nat × Sc)} {U tk : Nat → Nat} (ht : ¬ i 11 = -1) (hi : i 9 = nI ch) (hch : ch ≤ 4) (hN : N ≤ 2 ^ 22) (hv : Nv < 2 ^ 29) (hv2 : Ns < 2 ^ 29) (hb : Nb < 2 ^ 30) (hp : Np < 2 ^ 30) (hnt : Nt < 2 ^ 30) (hs : ip 2 = nI sz) (hsz : sz ≤ N) (hn : n ≤ 30) (hU : ∀ k, k < n → ef (n - (k + 1)) = nI (U k) ∧ 4 ≤ U k ∧ U k ≤ um) (hum : um ≤ 4 + sz) (humt : um ≤ Nt) (hE : ∀ p, 4 ≤ p → p < um → EnO ch Nb Np (4 + sz) bf pf (E p) p) (htk : ∀ p, 4 ≤ p → p < um → tf p = nI (tk p) ∧ tk p < 4 + sz) : Cn l g yX2_weighAll (Cond.code yX2_weighAll cX2_weighAll 5 none) 4 (rwC Nv N + rwC Ns N) (rwS Nv N + rwS Ns N) [.ref q, .int (nI n), .int cnt] [(q, ob 2 i (rO r)), (r 0, ob 3 ip (rPl ke ta)), (ke, aI g N kf), ((r 13), aI g Nv uf), ((r 14), aI g Nv vf), ((r 15), aI g Ns us), ((r 16), aI g Ns vs), (r 5, aI g Nb bf), (r 7, aI g Np pf), (r 6, aI g Nt tf), (r 4, aI g 31 ef)] (fun _ : RwS × RwS => none) (fun z : RwS × RwS => [(q, ob 2 i (rO (rs4 r z.1.1 z.1.2.1 z.2.1 z.2.2.1))), (r 0, ob 3 ip (rPl ke ta)), (ke, aI g N kf), (z.1.1, aI g z.1.2.2.1 z.1.2.2.2.1), (z.1.2.1, aI g z.1.2.2.1 z.1.2.2.2.2), (z.2.1, aI g z.2.2.2.1 z.2.2.2.2.1), (z.2.2.1, aI g z.2.2.2.1 z.2.2.2.2.2), (r 5, aI g Nb bf), (r 7, aI g Np pf), (r 6, aI g Nt tf), (r 4, aI g 31 ef)]) (fun z k m => (∃ k1 n1 k2 n2, rwO Nv N z.1.2.2.1 k1 n1 ∧ rwO Ns N z.2.2.2.1 k2 n2 ∧ k = k1 + k2 ∧ m = n1 + n2) ∧ ∃ u1 v1 u2 v2 : Sc, ((z.1.2.2.2.1, z.1.2.2.2.2), (z.2.2.2.2.1, z.2.2.2.2.2)) = lvT E ch U tk n (lv0 u1 v1 cnt sz, lv0 u2 v2 cnt sz)) := by
  refine ct_of (M := mtX2_weighAll) [some (.ref q), some (.int (nI n)), some (.int cnt), none, none] rfl (by decide) (Nat.le_of_ble_eq_true rfl) (fun _ h => h) (fun a => ?_)
  have K40 : ∀ (N2 N3 kk nn : Nat) (u1 v1 u2 v2 : Sc), N + 5 ≤ N2 → N2 < 2 ^ 30 → N + 5 ≤ N3 → N3 < 2 ^ 30 → (∃ k1 n1 k2 n2, rwO Nv N N2 k1 n1 ∧ rwO Ns N N3 k2 n2 ∧ kk = k1 + k2 ∧ nn = n1 + n2) → kk ≤ rwC Nv N + rwC Ns N → nn ≤ rwS Nv N + rwS Ns N → ∀ (c k a1 b1 c1 d1 : Nat) (L4 : Option Value), c + k = n → WPs l g mtX2_weighAll 4 (rwC Nv N + rwC Ns N) (rwS Nv N + rwS Ns N) (pX (fun _ : RwS × RwS => none) (fun z : RwS × RwS => [(q, ob 2 i (rO (rs4 r z.1.1 z.1.2.1 z.2.1 z.2.2.1))), (r 0, ob 3 ip (rPl ke ta)), (ke, aI g N kf), (z.1.1, aI g z.1.2.2.1 z.1.2.2.2.1), (z.1.2.1, aI g z.1.2.2.1 z.1.2.2.2.2), (z.2.1, aI g z.2.2.2.1 z.2.2.2.2.1), (z.2.2.1, aI g z.2.2.2.1 z.2.2.2.2.2), (r 5, aI g Nb bf), (r 7, aI g Np pf), (r 6, aI g Nt tf), (r 4, aI g 31 ef)]) (fun z k m => (∃ k1 n1 k2 n2, rwO Nv N z.1.2.2.1 k1 n1 ∧ rwO Ns N z.2.2.2.1 k2 n2 ∧ k = k1 + k2 ∧ m = n1 + n2) ∧ ∃ u1 v1 u2 v2 : Sc, ((z.1.2.2.2.1, z.1.2.2.2.2), (z.2.2.2.2.1, z.2.2.2.2.2)) = lvT E ch U tk n (lv0 u1 v1 cnt sz, lv0 u2 v2 cnt sz))) noX a 40 [some (.ref q), some (.int (nI n)), some (.int cnt), some (.int (nI (k + 1))), L4] [] [(q, ob 2 i (rO (rs4 r a1 b1 c1 d1))), (r 0, ob 3 ip (rPl ke ta)), (ke, aI g N kf), (a1, aI g N2 (lvT E ch U tk k (lv0 u1 v1 cnt sz, lv0 u2 v2 cnt sz)).1.1), (b1, aI g N2 (lvT E ch U tk k (lv0 u1 v1 cnt sz, lv0 u2 v2 cnt sz)).1.2), (c1, aI g N3 (lvT E ch U tk k (lv0 u1 v1 cnt sz, lv0 u2 v2 cnt sz)).2.1), (d1, aI g N3 (lvT E ch U tk k (lv0 u1 v1 cnt sz, lv0 u2 v2 cnt sz)).2.2), (r 5, aI g Nb bf), (r 7, aI g Np pf), (r 6, aI g Nt tf), (r 4, aI g 31 ef)] kk nn := by
    intro N2 N3 kk nn u1 v1 u2 v2 hN5 hN30 hM5 hM30 hO hkk hnn c
    induction c with
    | zero =>
      intro k a1 b1 c1 d1 L4 hk
      obtain rfl : k = n := by omega
      have hgt : nI k < nI (k + 1) := nI_lt (by omega) (by omega)
      refine q_iload_n 3 41 dX2_weighAll_40 rfl rfl rfl ?_
      refine q_iload_n 1 42 dX2_weighAll_41 rfl rfl rfl ?_
      refine q_icmp_gt 83 45 dX2_weighAll_42 (by decide) rfl (fun h42 => ?_) (fun h42 => absurd hgt h42)
      refine q_return dX2_weighAll_83 rfl ?_
      exact pX.mk ((a1, b1, N2, _, _), (c1, d1, N3, _, _)) ⟨hO, u1, v1, u2, v2, rfl⟩ rfl rfl
    | succ c ih =>
      intro k a1 b1 c1 d1 L4 hk
      have hle : ¬ nI n < nI (k + 1) := nI_nlt (by omega) (by omega)
      obtain ⟨hU1, hU2, hU3⟩ := hU k (by omega)
      have K1 := fun L4 => ih (k + 1) b1 a1 d1 c1 L4 (by omega)
      clear ih
      have hE2 : ∀ p, 4 ≤ p → p < U k → EnO ch Nb Np N2 bf pf (E p) p := fun p h1 h2 => (hE p h1 (by omega)).mono (by omega)
      have hE3 : ∀ p, 4 ≤ p → p < U k → EnO ch Nb Np N3 bf pf (E p) p := fun p h1 h2 => (hE p h1 (by omega)).mono (by omega)
      have ht2 : ∀ p, 4 ≤ p → p < U k → tf p = nI (tk p) ∧ tk p < N2 := fun p h1 h2 => ⟨(htk p h1 (by omega)).1, by have := (htk p h1 (by omega)).2; omega⟩
      have es : nI n - nI (k + 1) = nI (n - (k + 1)) := pk_sub (by omega)
      generalize hd : n - (k + 1) = dd at *
      have hK1 : lvT E ch U tk (k + 1) (lv0 u1 v1 cnt sz, lv0 u2 v2 cnt sz) = (((lvT E ch U tk k (lv0 u1 v1 cnt sz, lv0 u2 v2 cnt sz)).1.2, lvN E ch (U k) (lvT E ch U tk k (lv0 u1 v1 cnt sz, lv0 u2 v2 cnt sz)).1), ((lvT E ch U tk k (lv0 u1 v1 cnt sz, lv0 u2 v2 cnt sz)).2.2, cpA (lvT E ch U tk k (lv0 u1 v1 cnt sz, lv0 u2 v2 cnt sz)).2.1 (fun p => iMax (moV (lvT E ch U tk k (lv0 u1 v1 cnt sz, lv0 u2 v2 cnt sz)).2.2 (E p) ch) (lvN E ch (U k) (lvT E ch U tk k (lv0 u1 v1 cnt sz, lv0 u2 v2 cnt sz)).1 (tk p))) 4 (U k))) := rfl
      rw [hK1] at K1
      generalize lvT E ch U tk k (lv0 u1 v1 cnt sz, lv0 u2 v2 cnt sz) = x at *
      obtain ⟨⟨x1, x2⟩, ⟨x3, x4⟩⟩ := x
      refine q_iload_n 3 41 dX2_weighAll_40 rfl rfl rfl ?_
      refine q_iload_n 1 42 dX2_weighAll_41 rfl rfl rfl ?_
      refine q_icmp_gt 83 45 dX2_weighAll_42 (by decide) rfl (fun h42 => absurd h42 hle) (fun h42 => ?_)
      refine q_aload_n 0 46 dX2_weighAll_45 rfl rfl rfl ?_
      refine q_getR 0 49 f_X2_44 dX2_weighAll_46 rfl rfl rfl rfl ?_
      refine q_astore 4 51 (L' := [_, _, _, _, _]) dX2_weighAll_49 (by decide) rfl rfl ?_
      refine q_aload_n 0 52 dX2_weighAll_51 rfl rfl rfl ?_
      refine q_aload_n 0 53 dX2_weighAll_52 rfl rfl rfl ?_
      refine q_getR 0 56 f_X2_47 dX2_weighAll_53 rfl rfl rfl rfl ?_
      refine q_putR 0 59 (w' := [_, _, _, _, _, _, _, _, _, _, _]) (r' := [_, _, _, _, _, _, _, _, _, _, _, _, _, _, _, _, _]) f_X2_44 ft_X2_13 dX2_weighAll_56 rfl rfl (Nat.le_of_ble_eq_true rfl) rfl rfl rfl rfl rfl ?_
      refine q_aload_n 0 60 dX2_weighAll_59 rfl rfl rfl ?_
      refine q_aload 4 62 dX2_weighAll_60 rfl rfl ?_
      refine q_putR 0 65 (w' := [_, _, _, _, _, _, _, _, _, _, _]) (r' := [_, _, _, _, _, _, _, _, _, _, _, _, _, _, _, _, _]) f_X2_47 ft_X2_14 dX2_weighAll_62 rfl rfl (Nat.le_of_ble_eq_true rfl) rfl rfl rfl rfl rfl ?_
      refine q_aload_n 0 66 dX2_weighAll_65 rfl rfl rfl ?_
      refine q_aload_n 0 67 dX2_weighAll_66 rfl rfl rfl ?_
      refine q_getR 0 70 f_X2_32 dX2_weighAll_67 rfl rfl rfl rfl ?_
      refine q_iload_n 1 71 dX2_weighAll_70 rfl rfl rfl ?_
      refine q_iload_n 3 72 dX2_weighAll_71 rfl rfl rfl ?_
      refine q_isub 73 dX2_weighAll_72 rfl ?_
      refine q_iald 10 dd 74 dX2_weighAll_73 rfl ⟨es, by omega, by decide⟩ rfl ?_
      rw [hU1]
      refine q_cVv 0 [0, 7, 8, 4, 3, 9, 5, 6] [1, 2, 10] [3, 0, 1, 7, 6, 9, 10, 4, 5, 8, 2] 77 (wr := [_, _, _]) (w1 := _) (ws' := [_, _, _, _, _, _, _, _, _, _, _]) (c_X2_weighLevel1 (r := rs4 r b1 a1 c1 d1) (Nv := N2) (Ns := N3) (E := E) (tk := tk) hi hch hb hp hN30 hU2 (by omega) hE2 ht hM30 (by omega) hE3 hnt (by omega) ht2) m_X2_201 dX2_weighAll_74 rfl rfl rfl rfl rfl rfl rfl rfl (by decide) (by decide) (by decide) (by decide) (Nat.le_of_ble_eq_true rfl) (by omega) (by omega) (by omega) rfl ?_
      refine q_iinc 3 (nI ((k + 1) + 1)) 80 (L' := [_, _, _, _, _]) dX2_weighAll_77 rfl (inc1 ((k + 1))) (by decide) rfl rfl ?_
      refine q_goto 40 dX2_weighAll_80 (by decide) ?_
      refine q_sub (ws' := [_, _, _, _, _, _, _, _, _, _, _]) [0, 1, 2, 4, 3, 6, 5, 7, 8, 9, 10] rfl rfl ?_
      exact K1 _
  refine q_aload_n 0 1 dX2_weighAll_0 rfl rfl rfl ?_
  refine q_yVv 0 [0, 1, 2, 3, 4, 5, 6] [7, 8, 9, 10] [4, 5, 6, 7, 8, 9, 10, 0, 1, 2, 3] 4 (wr := [_, _, _, _]) (w1 := _) (ws' := fun _ => [_, _, _, _, _, _, _, _, _, _, _]) (c_X2_makeRows1 ht hN (by omega) (by omega)) m_X2_194 dX2_weighAll_1 rfl rfl rfl rfl rfl rfl rfl (fun _ => rfl) (by decide) (by decide) (by decide) (by decide) (Nat.le_of_ble_eq_true rfl) (by omega) (by omega) (by omega) rfl (fun z1 k1 n1 hx1 => ?_)
  obtain ⟨⟨a1, b1, n1, u1, v1⟩, ⟨c1, d1, o1, x1, y1⟩⟩ := z1
  dsimp only at hx1 ⊢
  skip
  have hO := hx1
  obtain ⟨p1, p2, p3, p4, h81, h82, h83, h84⟩ := hx1
  obtain ⟨s1, s2⟩ := h81.le hN hv
  obtain ⟨s3, s4⟩ := h82.le hN hv2
  have h85 := h81.2
  have h86 := h82.2
  have K1 := K40 n1 o1 _ _ u1 v1 x1 y1 s1 s2 s3 s4 hO (by omega) (by omega) n 0 a1 b1 c1 d1 none (by omega)
  clear K40
  refine q_aload_n 0 5 dX2_weighAll_4 rfl rfl rfl ?_
  refine q_aload_n 0 6 dX2_weighAll_5 rfl rfl rfl ?_
  refine q_getR 0 9 f_X2_47 dX2_weighAll_6 rfl rfl rfl rfl ?_
  refine q_aload_n 0 10 dX2_weighAll_9 rfl rfl rfl ?_
  refine q_getR 0 13 f_X2_44 dX2_weighAll_10 rfl rfl rfl rfl ?_
  refine q_iload_n 2 14 dX2_weighAll_13 rfl rfl rfl ?_
  refine q_cVv 0 [0, 1, 4, 3] [2, 5, 6, 7, 8, 9, 10] [7, 8, 0, 10, 9, 1, 2, 3, 4, 5, 6] 17 (wr := [_, _, _, _, _, _, _]) (w1 := _) (ws' := [_, _, _, _, _, _, _, _, _, _, _]) (c_X2_fillEnds (r := rs4 r a1 b1 c1 d1) (sz := sz) hs (by omega) (by omega) (by omega) (by omega)) m_X2_197 dX2_weighAll_14 rfl rfl rfl rfl rfl rfl rfl rfl (by decide) (by decide) (by decide) (by decide) (Nat.le_of_ble_eq_true rfl) (by omega) (by omega) (by omega) rfl ?_
  refine q_aload_n 0 18 dX2_weighAll_17 rfl rfl rfl ?_
  refine q_getI 0 21 f_X2_64 dX2_weighAll_18 rfl rfl rfl ?_
  refine q_iconst (-1) 22 dX2_weighAll_21 ic_m1 rfl ?_
  refine q_icmp_eq 38 25 dX2_weighAll_22 (by decide) rfl (fun h22 => absurd h22 ht) (fun h22 => ?_)
  refine q_aload_n 0 26 dX2_weighAll_25 rfl rfl rfl ?_
  refine q_aload_n 0 27 dX2_weighAll_26 rfl rfl rfl ?_
  refine q_getR 0 30 f_X2_53 dX2_weighAll_27 rfl rfl rfl rfl ?_
  refine q_aload_n 0 31 dX2_weighAll_30 rfl rfl rfl ?_
  refine q_getR 0 34 f_X2_50 dX2_weighAll_31 rfl rfl rfl rfl ?_
  refine q_iload_n 2 35 dX2_weighAll_34 rfl rfl rfl ?_
  refine q_cVv 0 [0, 1, 6, 5] [2, 3, 4, 7, 8, 9, 10] [7, 8, 0, 1, 2, 10, 9, 3, 4, 5, 6] 38 (wr := [_, _, _, _, _, _, _]) (w1 := _) (ws' := [_, _, _, _, _, _, _, _, _, _, _]) (c_X2_fillEnds (r := rs4 r a1 b1 c1 d1) (sz := sz) hs (by omega) (by omega) (by omega) (by omega)) m_X2_197 dX2_weighAll_35 rfl rfl rfl rfl rfl rfl rfl rfl (by decide) (by decide) (by decide) (by decide) (Nat.le_of_ble_eq_true rfl) (by omega) (by omega) (by omega) rfl ?_
  refine q_iconst 1 39 dX2_weighAll_38 ic_1 rfl ?_
  refine q_istore_n 3 40 (L' := [_, _, _, _, _]) dX2_weighAll_39 rfl (by decide) rfl rfl ?_
  rw [Nat.zero_add, Nat.zero_add]
  exact K1

