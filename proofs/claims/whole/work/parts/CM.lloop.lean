/-! ===== the law's loop, and its begin ===== -/
theorem and31 (x : Int32) : ∃ t : Nat, t ≤ 31 ∧ x &&& 31 = nI t := by
  refine ⟨(x &&& 31).toBitVec.toNat, ?_, ?_⟩
  · rw [Int32.toBitVec_and, BitVec.toNat_and]
    exact Nat.and_le_right
  · unfold nI
    apply Int32.toBitVec_inj.mp
    show (x &&& 31).toBitVec = BitVec.ofNat 32 (x &&& 31).toBitVec.toNat
    rw [BitVec.ofNat_toNat]
    simp
theorem lw_end {j L9 : Nat} (hL : L9 ≤ 384) (hj : 6 * j ≤ 400) : nI L9 - 6 < nI (6 * j) ↔ ¬ 6 * j + 5 < L9 := by
  have e1 : (nI L9 - 6 : Int32).toInt = (L9 : Int) - 6 := by
    rcases Nat.lt_or_ge L9 6 with h | h
    · match L9, h with
      | 0, _ => decide
      | 1, _ => decide
      | 2, _ => decide
      | 3, _ => decide
      | 4, _ => decide
      | 5, _ => decide
      | (n + 6), h => omega
    · obtain ⟨c, rfl⟩ : ∃ c, L9 = c + 6 := ⟨L9 - 6, by omega⟩
      have e : nI (c + 6) - 6 = nI c := by
        rw [← nI_add, show (nI 6 : Int32) = 6 from by decide, Int32.add_sub_cancel]
      rw [e, nI_toInt (by omega)]
      omega
  rw [i_lt, e1, nI_toInt (by omega)]
  omega
def lwP : Pst := fun v _ k n => v = some (.int 1) ∧ k ≤ 600128 ∧ n ≤ 7301098
theorem lw_loop {l : Launch} {g : Gh} {tb : List ExceptionTableEntry} {nm : String} {a : Act} {ad A : Nat → Nat} {q o b L9 : Nat} {xs : Nat → Int32} (hX : va_X b L9 xs a.s a.s.heap) (hbl : b < a.s.heap.size) (hbA : ¬ a.A b) (hL : L9 ≤ 384) :
    ∀ (c j : Nat) (of : Nat → Int64) (i m kp tp : Sc) (f : Nat → Sc) (h : Nat → Nat → Int64) (e : Nat) (T : va_W) (K N k n : Nat) (z5 z6 z7 : Option Value), c + j = 65 → Rel g ad m kp tp (i 3) e (i 10) T K N → i 6 = nI e → f01 i → 6 * j ≤ L9 → k ≤ 64 + K + 32 * j → n ≤ 360000 + N + 2000 * j →
      WPs l g (mtL_law tb nm) 2048 600128 7301098 lwP noX a 23 [some (.ref b), some (.ref (ad 0)), some (.ref q), some (.ref o), some (.int (nI (6 * j))), z5, z6, z7] [] (((o, aJ g 1 of) :: mW g q A i m kp tp f h) ++ T) k n
  | 0, j, of, i, m, kp, tp, f, h, e, T, K, N, k, n, z5, z6, z7, hc, hR, h6, hf, hj, hk, hn => by omega
  | c + 1, j, of, i, m, kp, tp, f, h, e, T, K, N, k, n, z5, z6, z7, hc, hR, h6, hf, hj, hk, hn => by
    have hle := hR.le
    have hKM : KM9 = 98324 := rfl
    have hNM : NM9 = 3949024 := rfl
    refine q_iload 4 25 dL_law_23 rfl rfl ?_
    refine q_aload_n 0 26 dL_law_25 rfl rfl rfl ?_
    refine q_slen 27 hX hbl hbA dL_law_26 rfl ?_
    refine q_bipush 6 29 dL_law_27 bc_6 rfl ?_
    refine q_isub 30 dL_law_29 rfl ?_
    by_cases hlt : 6 * j + 5 < L9
    · refine q_icmp_gt 1772 33 dL_law_30 (by decide) rfl (fun h9 => absurd hlt ((lw_end hL (by omega)).mp h9)) (fun _ => ?_)
      refine q_aload_n 0 34 dL_law_33 rfl rfl rfl ?_
      refine q_iload 4 36 dL_law_34 rfl rfl ?_
      refine q_sld (6 * j) 37 hX hbl hbA dL_law_36 ⟨rfl, by omega, by omega⟩ rfl ?_
      refine q_bipush 31 39 dL_law_37 (by decide) rfl ?_
      refine q_iand 40 dL_law_39 rfl ?_
      have hnext : lwK l g tb nm 600128 7301098 lwP noX a ad A q o b j K N k n := by
        intro of' i' m' kp' tp' f' h' e' T' K' N' k' n' y5 y6 y7 hR' h6' hf' hk' hn'
        refine q_iinc 4 (nI (6 * (j + 1))) 1769 (L' := [_, _, _, _, _, _, _, _]) dL_law_1766 rfl (by rw [inc6]; congr 1) (Nat.le_of_ble_eq_true rfl) rfl rfl ?_
        refine q_goto 23 dL_law_1769 (by decide) ?_
        exact lw_loop hX hbl hbA hL c (j + 1) of' i' m' kp' tp' f' h' e' T' K' N' k' n' y5 y6 y7 (by omega) hR' h6' hf' (by omega) (by omega) (by omega)
      have hrc : k + (KM9 - K + 32) ≤ 600128 := by omega
      have hrs : n + (NM9 - N + 2000) ≤ 7301098 := by omega
      obtain ⟨t, ht, et⟩ := and31 (xs (6 * j))
      rw [et]
      clear et
      match t, ht with
      | 0, _ =>
        refine q_tableIn 164 dL_law_40 (by decide) (by decide) (off := 124) (by decide) (by decide) ?_
        exact lc_feed hX hbl hbA hlt hL hR h6 hf hrc hrs hnext
      | 1, _ =>
        refine q_tableIn 237 dL_law_40 (by decide) (by decide) (off := 197) (by decide) (by decide) ?_
        exact lc_end hX hbl hbA hlt hL hR h6 hf hrc hrs hnext
      | 2, _ =>
        refine q_tableIn 262 dL_law_40 (by decide) (by decide) (off := 222) (by decide) (by decide) ?_
        exact lc_court hX hbl hbA hlt hL hR h6 hf hrc hrs hnext
      | 3, _ =>
        refine q_tableIn 306 dL_law_40 (by decide) (by decide) (off := 266) (by decide) (by decide) ?_
        exact lc_rule hX hbl hbA hlt hL hR h6 hf hrc hrs hnext
      | 4, _ =>
        refine q_tableIn 350 dL_law_40 (by decide) (by decide) (off := 310) (by decide) (by decide) ?_
        exact lc_fault hX hbl hbA hlt hL hR h6 hf hrc hrs hnext
      | 5, _ =>
        refine q_tableIn 363 dL_law_40 (by decide) (by decide) (off := 323) (by decide) (by decide) ?_
        exact lc_look hX hbl hbA hlt hL hR h6 hf hrc hrs hnext
      | 6, _ =>
        refine q_tableIn 443 dL_law_40 (by decide) (by decide) (off := 403) (by decide) (by decide) ?_
        exact lc_plays hX hbl hbA hlt hL hR h6 hf hrc hrs hnext
      | 7, _ =>
        refine q_tableIn 511 dL_law_40 (by decide) (by decide) (off := 471) (by decide) (by decide) ?_
        exact lc_style hX hbl hbA hlt hL hR h6 hf hrc hrs hnext
      | 8, _ =>
        refine q_tableIn 567 dL_law_40 (by decide) (by decide) (off := 527) (by decide) (by decide) ?_
        exact lc_score hX hbl hbA hlt hL hR h6 hf hrc hrs hnext
      | 9, _ =>
        refine q_tableIn 627 dL_law_40 (by decide) (by decide) (off := 587) (by decide) (by decide) ?_
        exact lc_games hX hbl hbA hlt hL hR h6 hf hrc hrs hnext
      | 10, _ =>
        refine q_tableIn 675 dL_law_40 (by decide) (by decide) (off := 635) (by decide) (by decide) ?_
        exact lc_begin hX hbl hbA hlt hL hR h6 hf hrc hrs hnext
      | 11, _ =>
        refine q_tableIn 723 dL_law_40 (by decide) (by decide) (off := 683) (by decide) (by decide) ?_
        exact lc_stands hX hbl hbA hlt hL hR h6 hf hrc hrs hnext
      | 12, _ =>
        refine q_tableIn 779 dL_law_40 (by decide) (by decide) (off := 739) (by decide) (by decide) ?_
        exact lc_rally hX hbl hbA hlt hL hR h6 hf hrc hrs hnext
      | 13, _ =>
        refine q_tableIn 847 dL_law_40 (by decide) (by decide) (off := 807) (by decide) (by decide) ?_
        exact lc_bisque hX hbl hbA hlt hL hR h6 hf hrc hrs hnext
      | 14, _ =>
        refine q_tableIn 910 dL_law_40 (by decide) (by decide) (off := 870) (by decide) (by decide) ?_
        exact lc_chance hX hbl hbA hlt hL hR h6 hf hrc hrs hnext
      | 15, _ =>
        refine q_tableIn 978 dL_law_40 (by decide) (by decide) (off := 938) (by decide) (by decide) ?_
        exact lc_best hX hbl hbA hlt hL hR h6 hf hrc hrs hnext
      | 16, _ =>
        refine q_tableIn 1074 dL_law_40 (by decide) (by decide) (off := 1034) (by decide) (by decide) ?_
        exact lc_saves hX hbl hbA hlt hL hR h6 hf hrc hrs hnext
      | 17, _ =>
        refine q_tableIn 1154 dL_law_40 (by decide) (by decide) (off := 1114) (by decide) (by decide) ?_
        exact lc_worth hX hbl hbA hlt hL hR h6 hf hrc hrs hnext
      | 18, _ =>
        refine q_tableIn 1234 dL_law_40 (by decide) (by decide) (off := 1194) (by decide) (by decide) ?_
        exact lc_set hX hbl hbA hlt hL hR h6 hf hrc hrs hnext
      | 19, _ =>
        refine q_tableIn 1302 dL_law_40 (by decide) (by decide) (off := 1262) (by decide) (by decide) ?_
        exact lc_ways hX hbl hbA hlt hL hR h6 hf hrc hrs hnext
      | 20, _ =>
        refine q_tableIn 1394 dL_law_40 (by decide) (by decide) (off := 1354) (by decide) (by decide) ?_
        exact lc_even hX hbl hbA hlt hL hR h6 hf hrc hrs hnext
      | 21, _ =>
        refine q_tableIn 1462 dL_law_40 (by decide) (by decide) (off := 1422) (by decide) (by decide) ?_
        exact lc_log hX hbl hbA hlt hL hR h6 hf hrc hrs hnext
      | 22, _ =>
        refine q_tableIn 1518 dL_law_40 (by decide) (by decide) (off := 1478) (by decide) (by decide) ?_
        exact lc_mends hX hbl hbA hlt hL hR h6 hf hrc hrs hnext
      | 23, _ =>
        refine q_tableIn 1637 dL_law_40 (by decide) (by decide) (off := 1597) (by decide) (by decide) ?_
        exact lc_play hX hbl hbA hlt hL hR h6 hf hrc hrs hnext
      | 24, _ =>
        refine q_tableIn 1717 dL_law_40 (by decide) (by decide) (off := 1677) (by decide) (by decide) ?_
        exact lc_image hX hbl hbA hlt hL hR h6 hf hrc hrs hnext
      | 25, _ =>
        refine q_tableIn 1728 dL_law_40 (by decide) (by decide) (off := 1688) (by decide) (by decide) ?_
        exact lc_back hX hbl hbA hlt hL hR h6 hf hrc hrs hnext
      | 26, _ =>
        refine q_tableIn 1741 dL_law_40 (by decide) (by decide) (off := 1701) (by decide) (by decide) ?_
        exact lc_count hX hbl hbA hlt hL hR h6 hf hrc hrs hnext
      | (t + 27), ht =>
        refine q_tableOut 1766 dL_law_40 (Or.inr ?_) (by decide) ?_
        · rw [nI_toInt (by omega)]; omega
        · exact hnext of i m kp tp f h e T K N k n z5 z6 z7 hR h6 hf (by omega) (by omega)
    · refine q_icmp_gt 1772 33 dL_law_30 (by decide) rfl (fun _ => ?_) (fun h9 => absurd ((lw_end hL (by omega)).mpr hlt) h9)
      refine q_iconst 1 1773 dL_law_1772 ic_1 rfl ?_
      exact q_zreturn dL_law_1773 rfl (Or.inr rfl) ⟨rfl, by omega, by omega⟩
theorem m0_fin : ∀ j, j < 192 → m0 j = 0 ∨ m0 j = 50 := by decide +kernel
theorem m0_sum : ∀ j, j < 16 → su m0 (12 * j) 12 = 100 := by decide +kernel
theorem m0_eq : ∀ j, j < 192 → mI 16 j = m0 j := by decide +kernel
theorem m0_S : ∀ j, j < 9 → S m0 j = 0 := by decide +kernel
theorem SR_0 : SR m0 (upd (fun _ => 0) 1 1) (mI 16) (fun _ => 0) (fun _ => -1) (fun _ => none) (fun _ => 0) [] (fun _ => []) 0 := by
  have h0 := m0_S 0 (by decide)
  have h1 := m0_S 1 (by decide)
  have h2 := m0_S 2 (by decide)
  have h3 := m0_S 3 (by decide)
  have h6 := m0_S 6 (by decide)
  have h7 := m0_S 7 (by decide)
  have h8 := m0_S 8 (by decide)
  refine ⟨⟨⟨m0_eq, by decide +kernel, by decide +kernel, by decide +kernel⟩, ⟨fun j hj => ?_, ⟨1, by decide, by decide, by decide +kernel⟩, ⟨0, by decide, by decide +kernel⟩, ⟨0, by decide, by decide +kernel⟩⟩, m0_sum, by decide +kernel, 0, by decide, by decide +kernel⟩, ⟨rfl, by decide +kernel, ⟨by decide, fun w hw => absurd hw (Nat.not_lt_zero _), fun p _ => Or.inl rfl⟩, fun p hp => ?_, fun r hr => absurd hr (Nat.not_lt_zero _)⟩, ⟨⟨h0.symm, h1.symm, h2.symm, h3.symm, h6.symm, fun z => absurd rfl z, fun z => absurd z (show ¬ (0 : Int32) = 2 by decide)⟩, h7.symm, h8.symm, by decide +kernel, by decide +kernel⟩, ⟨⟨?_, Or.inl h2, Or.inl ⟨h3, h6⟩⟩, ⟨0, by decide, h7⟩, ⟨0, by decide, h8⟩⟩, by unfold HOK; decide +kernel⟩
  · rcases m0_fin j hj with z | z
    · exact ⟨0, by decide, z⟩
    · exact ⟨50, by decide, z⟩
  · rcases Nat.lt_or_ge p 1 with z | z
    · rw [show p = 0 by omega]; decide +kernel
    · rw [show p = 1 by omega]; decide +kernel
  · rw [h0, h1]; decide
theorem perm_lw {α : Type} (T M : List α) (x : α) : ((T ++ M) ++ [x]).Perm ((x :: M) ++ T) := by
  refine List.perm_append_comm.trans ?_
  show (x :: (T ++ M)).Perm (x :: (M ++ T))
  exact List.Perm.cons _ List.perm_append_comm
theorem law_walk {l : Launch} {g : Gh} {tb : List ExceptionTableEntry} {nm : String} {a : Act} {b L9 : Nat} {xs : Nat → Int32} (hX : va_X b L9 xs a.s a.s.heap) (hbl : b < a.s.heap.size) (hbA : ¬ a.A b) (hL : L9 ≤ 384) : WPs l g (mtL_law tb nm) 2048 600128 7301098 lwP noX a 0 [some (.ref b), none, none, none, none, none, none, none] [] [] 0 0 := by
  refine q_new (N := 11) 3 n_L_8 rfl dL_law_0 (by omega) (by omega) rfl (fun q1 => ?_)
  refine q_dup 4 dL_law_3 rfl rfl ?_
  refine q_callI (wr := []) [0] [] 7 (c_X11_init (q := q1)) m_L_92 dL_law_4 rfl rfl rfl rfl (by decide) (by decide) (by decide) (Nat.le_of_ble_eq_true rfl) (by decide) (by omega) (by omega) rfl (fun v w1 k1 n1 hx1 => ?_)
  obtain ⟨z, ⟨hk1, hn1⟩, rfl, rfl⟩ := hx1
  obtain ⟨ad, had, hR⟩ : ∃ ad : Nat → Nat, ad 0 = q1 ∧ Rel g ad m0 (fun _ => 0) (fun _ => 0) 0 0 (-1) [(q1, ob 11 (upd (fun _ => 0) 10 (-1)) [some z.1.1, some z.1.2.1, some z.2.1.1, some z.2.2.1.1, some z.2.2.2, none, none, none, none, none, none]), (z.1.1, aB g 400 (fun _ => 0)), (z.1.2.1, ob 7 (fun _ => 0) [some z.1.2.2.1, some z.1.2.2.2.1, some z.1.2.2.2.2, none, none, none, none]), (z.1.2.2.1, aI g 401 (fun _ => 0)), (z.1.2.2.2.1, aI g 401 (fun _ => 0)), (z.1.2.2.2.2, aI g 401 (fun _ => 0)), (z.2.1.1, ob 0 (upd (fun _ => 0) 1 1) (rL z.2.1.2)), (z.2.1.2, aI g 192 (mI 16)), (z.2.2.1.1, ob 10 (fun _ => 0) (rD z.2.2.1.2.1 z.2.2.1.2.2.2.1 z.2.2.1.2.2.2.2.2.2)), (z.2.2.1.2.1, ob 0 (upd (fun _ => 0) 1 1) (rL z.2.2.1.2.2.1)), (z.2.2.1.2.2.1, aI g 192 (mI 16)), (z.2.2.1.2.2.2.1, ob 6 (fun _ => 0) (rQ z.2.2.1.2.2.2.2.1 z.2.2.1.2.2.2.2.2.1)), (z.2.2.1.2.2.2.2.1, aI g 2 (fun _ => -1)), (z.2.2.1.2.2.2.2.2.1, aR g 6 (fun _ => none)), (z.2.2.1.2.2.2.2.2.2, ob 8 (fun _ => 0) []), (z.2.2.2, ob 8 (fun _ => 0) [])] 0 0 := by
    refine ⟨fun k => [q1, z.1.1, z.1.2.1, z.1.2.2.1, z.1.2.2.2.1, z.1.2.2.2.2, z.2.1.1, z.2.1.2, z.2.2.1.1, z.2.2.1.2.1, z.2.2.1.2.2.1, z.2.2.1.2.2.2.1, z.2.2.1.2.2.2.2.1, z.2.2.1.2.2.2.2.2.1, z.2.2.1.2.2.2.2.2.2, z.2.2.2].getD k 0, rfl, upd (fun _ => 0) 10 (-1), fun _ => 0, fun _ => 0, fun _ => 0, fun _ => 0, fun _ => 0, upd (fun _ => 0) 1 1, mI 16, upd (fun _ => 0) 1 1, mI 16, fun _ => 0, fun _ => -1, fun _ => 0, fun _ => 0, fun _ => none, none, none, none, none, none, [], fun _ => [], 0, rfl, ⟨rfl, by omega, fun k _ => ⟨0, by decide, rfl, rfl⟩, rfl⟩, SR_0, rfl, ⟨fun z hz => (by cases hz), fun z hz => (by cases hz)⟩, rfl, rfl⟩
  refine q_astore_n 1 8 (L' := [_, _, _, _, _, _, _, _]) dL_law_7 rfl (Nat.le_of_ble_eq_true rfl) rfl rfl ?_
  refine q_new (N := 32) 11 n_L_93 rfl dL_law_8 (by omega) (by omega) rfl (fun q2 => ?_)
  refine q_dup 12 dL_law_11 rfl rfl ?_
  refine q_callI (wr := [_, _, _, _, _, _, _, _, _, _, _, _, _, _, _, _]) [16] [0, 1, 2, 3, 4, 5, 6, 7, 8, 9, 10, 11, 12, 13, 14, 15] 15 (c_M_init (q := q2)) m_L_95 dL_law_12 rfl rfl rfl rfl (by decide) (by decide) (by decide) (Nat.le_of_ble_eq_true rfl) (by decide) (by omega) (by omega) rfl (fun v w1 k2 n2 hx2 => ?_)
  obtain ⟨A, ⟨rfl, rfl⟩, rfl, rfl⟩ := hx2
  refine q_astore_n 2 16 (L' := [_, _, _, _, _, _, _, _]) dL_law_15 rfl (Nat.le_of_ble_eq_true rfl) rfl rfl ?_
  refine q_iconst 1 17 dL_law_16 ic_1 rfl ?_
  refine q_newJ (N := 1) 19 dL_law_17 (by decide) (by decide) (by omega) (by omega) rfl (fun o => ?_)
  refine q_astore_n 3 20 (L' := [_, _, _, _, _, _, _, _]) dL_law_19 rfl (Nat.le_of_ble_eq_true rfl) rfl rfl ?_
  refine q_iconst 0 21 dL_law_20 ic_0 rfl ?_
  refine q_istore 4 23 (L' := [_, _, _, _, _, _, _, _]) dL_law_21 (Nat.le_of_ble_eq_true rfl) rfl rfl ?_
  subst had
  refine q_perm (perm_lw _ (mW g q2 A (upd (fun _ => 0) 10 (-1)) m0 (fun _ => 0) (fun _ => 0) (fun _ _ => 0) (fun _ _ => 0)) (o, aJ g 1 (fun _ => 0))) ?_
  exact lw_loop hX hbl hbA hL 65 0 (fun _ => 0) (upd (fun _ => 0) 10 (-1)) m0 (fun _ => 0) (fun _ => 0) (fun _ _ => 0) (fun _ _ => 0) 0 _ 0 0 _ _ none none none rfl hR rfl ⟨Or.inl rfl, Or.inl rfl⟩ (by omega) (by omega) (by omega)

