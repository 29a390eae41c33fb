/-! ===== the literals: String.length, String.charAt ===== -/
section Strs
variable {l : Launch} {g : Gh} {M : Mt} {d rc rs : Nat} {post : Pst} {px : Pxc} {a : Act} {pc : Nat} {L : List (Option Value)} {st st0 : List Value} {ws : va_W} {k n : Nat}
theorem q_callVS {i b maxL d' rc' rs' na : Nat} {y : MethodName} {hd : Cond} {As : List Value} {w wr : va_W} {post' : Pst} {px' : Pxc} {o9 : String} {k9 : Nat} {by9 : List Int32} (isC isR : List Nat) (pc' : Nat)
    (hM : Ct l g y hd d' rc' rs' (.ref b :: As) w post' px') (hV : VK M.own i y hd maxL RJ0 na) (hdc : decode M.cc pc = .ok (.invokevirtual i, 3)) (hst : st0 = As.reverse ++ .ref b :: st) (hna : As.length = na)
    (hsw : (o9, k9, by9) ∈ sWords) (hb9 : b = g.2.2.1 o9 k9)
    (hc : isC.map (fun i => ws[i]?) = w.map some) (hr : isR.map (fun i => ws[i]?) = wr.map some) (hnc : va_nd isC = true) (hnr : va_nd isR = true) (hdis : ∀ i ∈ isR, i ∉ isC)
    (hW : (st.map fun v => v.category).sum ≤ 8) (hd1 : d' + 1 ≤ d) (hrc : k + rc' ≤ rc) (hrs : n + rs' ≤ rs) (hp : pc + 3 = pc')
    (kx : ∀ (E : String) (w1 : va_W) (k' n' : Nat), px' E w1 k' n' → M.tb = [] ∧ px E (wr ++ w1) (k + k') (n + n'))
    (kk : ∀ (v : Option Value) (w1 : va_W) (k' n' : Nat), post' v w1 k' n' → WPs l g M d rc rs post px a pc' L (v.toList ++ st) (wr ++ w1) (k + k') (n + n')) : WPs l g M d rc rs post px a pc L st0 ws k n := by
  intro hE H locs ls hP hD hS hl
  obtain ⟨⟨hx, hb, hml, hown, hts⟩, hlk, hret, htb, hnm, hA, hK, hO, hT⟩ := id hE
  subst hp; subst hst
  obtain ⟨bytes, ret, rfl, v1, v2, v3, v4, v5, v6, v7, v8⟩ := hV
  intro T hTH X
  obtain ⟨cellB, hcB, hoB, hclB, -⟩ := (hO.2.2.1 _ hsw).1.kept hS.2.1
  rw [show g.2.2.1 (o9, k9, by9).1 (o9, k9, by9).2.1 = b from hb9.symm] at hcB
  have hKb : vx_Back l (rm d rc rs) a.p a.e a.below a.s a.args y 3 8 (ctPre g (rm d rc rs) rc' rs' (.ref b :: As) w H.size) (ctPost g post' w H.size) (ctPostX g px' w H.size) := ct_back hM hT hd1 (by show 8 + (maxL + 11) + 40 * d' ≤ 40 * d; omega) hts v1 codeOf_code v5
  rcases vx_callV X hx (C := RJ0) hown (hts _ v2) (hts _ v3) (hts _ v4) (hts _ v1) v6 hKb (by rw [hTH]; exact hcB) hoB hclB (g := F0 a.m pc ls (As.reverse ++ .ref b :: st)) rfl (hl.1.trans hml.symm) (argsL := As) (rest := st) (par_len v7 hna) rfl (by show 2 * 0 + _ ≤ 8; omega) (by rw [hb]; exact hdc)
    (q_pre (args' := .ref b :: As) hE hP hD hS hTH isC hnc hc hrc hrs) with ⟨v, vm₁, ⟨U', l2, c2, s2⟩, hW₁, X', hpo, hst⟩ | ⟨q, vm₁, ⟨U', l2, c2, s2⟩, hW₁, X', hpo, hst⟩
  · obtain ⟨t2, a1, b1⟩ := q_post (pc' := pc + 3) (st := st) hE hP hD hS hl hTH isC isR hc hr hnr hdis hpo X' kk
    exact ⟨t2, hst t2 a1, b1⟩
  · have htb0 : M.tb = [] := by
      obtain ⟨gf, mk, t, Lc, E, ce, k', n', -, -, ⟨w1, hq9, -⟩, -⟩ := hpo
      exact (kx E w1 k' n' hq9).1
    obtain ⟨t2, a1, b1⟩ := q_postX (pc := pc) (st := st) hE htb0 hP hD hS hTH isC isR hc hr hnr hdis hW₁ hpo X' (fun E w1 k' n' h => (kx E w1 k' n' h).2)
    exact ⟨t2, hst.trans a1, b1⟩

theorem q_getSV {i : Nat} {o : String} {q : Nat} {bs : List Int32} (pc' : Nat) (hw : (o, q, bs) ∈ sWords) (hf : Cond.fieldLink M.own i "java/lang/String" "value" "[B" ∈ TT) (hd : decode M.cc pc = .ok (.getfield i, 3)) (hp : pc + 3 = pc') (kk : WPs l g M d rc rs post px a pc' L (.ref (g.2.2.2 o q) :: st) ws k n) : WPs l g M d rc rs post px a pc L (.ref (g.2.2.1 o q) :: st) ws k n := by
  intro hE H locs ls hP hD hS hl
  obtain ⟨⟨hx, hb, hml, hown, hts⟩, hlk, hret, htb, hnm, hA, hK, hO, hT⟩ := id hE
  subst hp
  exact vk_getf hx hb (hO.2.2.1 _ hw).2.2.1 hS hown (hts _ hf) (fun _ h => h) hd (kk hE H locs ls hP hD hS hl)
theorem q_getSC {i : Nat} {o : String} {q : Nat} {bs : List Int32} (pc' : Nat) (hw : (o, q, bs) ∈ sWords) (hf : Cond.fieldLink M.own i "java/lang/String" "coder" "B" ∈ TT) (hd : decode M.cc pc = .ok (.getfield i, 3)) (hp : pc + 3 = pc') (kk : WPs l g M d rc rs post px a pc' L (.int 0 :: st) ws k n) : WPs l g M d rc rs post px a pc L (.ref (g.2.2.1 o q) :: st) ws k n := by
  intro hE H locs ls hP hD hS hl
  obtain ⟨⟨hx, hb, hml, hown, hts⟩, hlk, hret, htb, hnm, hA, hK, hO, hT⟩ := id hE
  subst hp
  exact vk_getf hx hb (hO.2.2.1 _ hw).2.1 hS hown (hts _ hf) (fun _ h => h) hd (kk hE H locs ls hP hD hS hl)
theorem q_lenS {o : String} {q : Nat} {bs : List Int32} (pc' : Nat) (hw : (o, q, bs) ∈ sWords) (hd : decode M.cc pc = .ok (.arraylength, 1)) (hp : pc + 1 = pc') (kk : WPs l g M d rc rs post px a pc' L (.int (nI bs.length) :: st) ws k n) : WPs l g M d rc rs post px a pc L (.ref (g.2.2.2 o q) :: st) ws k n := by
  intro hE H locs ls hP hD hS hl
  obtain ⟨⟨hx, hb, hml, hown, hts⟩, hlk, hret, htb, hnm, hA, hK, hO, hT⟩ := id hE
  subst hp
  exact va_tlen hx hb (hO.2.2.1 _ hw).2.2.2 hS rfl hd (kk hE H locs ls hP hD hS hl)
theorem q_baldS {o : String} {q : Nat} {bs : List Int32} {i : Int32} (j pc' : Nat) (hw : (o, q, bs) ∈ sWords) (hi : ix i j bs.length) (hd : decode M.cc pc = .ok (.baload, 1)) (hp : pc + 1 = pc') (kk : WPs l g M d rc rs post px a pc' L (.int (bs.getD j 0) :: st) ws k n) : WPs l g M d rc rs post px a pc L (.int i :: .ref (g.2.2.2 o q) :: st) ws k n := by
  intro hE H locs ls hP hD hS hl
  obtain ⟨⟨hx, hb, hml, hown, hts⟩, hlk, hret, htb, hnm, hA, hK, hO, hT⟩ := id hE
  subst hp
  exact va_tb hx hb (hO.2.2.1 _ hw).2.2.2 hS hi.in (by rw [hi.cl]) hd (kk hE H locs ls hP hD hS hl)
theorem q_getsC {i : Nat} (pc' : Nat) (hf : Cond.fieldLink M.own i "java/lang/String" "COMPACT_STRINGS" "Z" ∈ TT) (hd : decode M.cc pc = .ok (.getstatic i, 3)) (hp : pc + 3 = pc') (kk : WPs l g M d rc rs post px a pc' L (.int 1 :: st) ws k n) : WPs l g M d rc rs post px a pc L st ws k n := by
  intro hE H locs ls hP hD hS hl
  obtain ⟨⟨hx, hb, hml, hown, hts⟩, hlk, hret, htb, hnm, hA, hK, hO, hT⟩ := id hE
  subst hp
  exact va_gets hx hb hO.2.2.2.1 hS hown (hts _ hf) (fun _ h => h) hd (kk hE H locs ls hP hD hS hl)
theorem q_getsF {i : Nat} (pc' : Nat) (hf : Cond.fieldLink M.own i "jdk/internal/util/Preconditions" "SIOOBE_FORMATTER" "Ljava/util/function/BiFunction;" ∈ TT) (hd : decode M.cc pc = .ok (.getstatic i, 3)) (hp : pc + 3 = pc') (kn : WPs l g M d rc rs post px a pc' L (.null :: st) ws k n) (kk : ∀ q : Nat, WPs l g M d rc rs post px a pc' L (.ref q :: st) ws k n) : WPs l g M d rc rs post px a pc L st ws k n := by
  intro hE H locs ls hP hD hS hl
  obtain ⟨⟨hx, hb, hml, hown, hts⟩, hlk, hret, htb, hnm, hA, hK, hO, hT⟩ := id hE
  subst hp
  rcases hO.2.2.2.2.1 with h | ⟨q, h⟩
  · exact va_gets hx hb h hS hown (hts _ hf) (fun _ h => h) hd (kn hE H locs ls hP hD hS hl)
  · exact va_gets hx hb h hS hown (hts _ hf) (fun _ h => h) hd (kk q hE H locs ls hP hD hS hl)
end Strs
set_option maxRecDepth 20000 in
theorem fs_J0_38 : Cond.fieldLink RJ0 38 "java/lang/String" "COMPACT_STRINGS" "Z" ∈ TT := TT_2 106 rfl rfl
set_option maxRecDepth 20000 in
theorem fs_J0_1053 : Cond.fieldLink RJ0 1053 "jdk/internal/util/Preconditions" "SIOOBE_FORMATTER" "Ljava/util/function/BiFunction;" ∈ TT := TT_2 122 rfl rfl
set_option maxRecDepth 20000 in
theorem fs_J0_9 : Cond.fieldLink RJ0 9 "java/lang/String" "value" "[B" ∈ TT := TT_8 67 rfl rfl
set_option maxRecDepth 20000 in
theorem fs_J0_15 : Cond.fieldLink RJ0 15 "java/lang/String" "coder" "B" ∈ TT := TT_8 68 rfl rfl
theorem c_J3_checkN {l : Launch} {g : Gh} {i n : Int32} (hi0 : ¬ i < 0) (hi1 : i < n) : Cp l g yJ3_checkIndex_8e157 (Cond.code yJ3_checkIndex_8e157 cJ3_checkIndex_8e157 3 (some .int)) 1 [.int i, .int n, .null] [] (some (.int i)) [] := by
  refine ct_of (M := mtJ3_checkIndex_8e157) [some (.int i), some (.int n), some .null] rfl (by decide) (Nat.le_of_ble_eq_true rfl) (fun _ h => h) (fun a => ?_)
  refine q_iload_n 0 1 dJ3_checkIndex_8e157_0 rfl rfl rfl ?_
  refine q_if_lt 9 4 dJ3_checkIndex_8e157_1 (by decide) rfl (fun h1 => absurd h1 hi0) (fun h1 => ?_)
  refine q_iload_n 0 5 dJ3_checkIndex_8e157_4 rfl rfl rfl ?_
  refine q_iload_n 1 6 dJ3_checkIndex_8e157_5 rfl rfl rfl ?_
  refine q_icmp_lt 16 9 dJ3_checkIndex_8e157_6 (by decide) rfl (fun h6 => ?_) (fun h6 => absurd hi1 h6)
  refine q_iload_n 0 17 dJ3_checkIndex_8e157_16 rfl rfl rfl ?_
  refine q_ireturn dJ3_checkIndex_8e157_17 rfl ?_
  exact pR.rf
theorem c_J3_checkR {l : Launch} {g : Gh} {i n : Int32} {q : Nat} (hi0 : ¬ i < 0) (hi1 : i < n) : Cp l g yJ3_checkIndex_8e157 (Cond.code yJ3_checkIndex_8e157 cJ3_checkIndex_8e157 3 (some .int)) 1 [.int i, .int n, .ref q] [] (some (.int i)) [] := by
  refine ct_of (M := mtJ3_checkIndex_8e157) [some (.int i), some (.int n), some (.ref q)] rfl (by decide) (Nat.le_of_ble_eq_true rfl) (fun _ h => h) (fun a => ?_)
  refine q_iload_n 0 1 dJ3_checkIndex_8e157_0 rfl rfl rfl ?_
  refine q_if_lt 9 4 dJ3_checkIndex_8e157_1 (by decide) rfl (fun h1 => absurd h1 hi0) (fun h1 => ?_)
  refine q_iload_n 0 5 dJ3_checkIndex_8e157_4 rfl rfl rfl ?_
  refine q_iload_n 1 6 dJ3_checkIndex_8e157_5 rfl rfl rfl ?_
  refine q_icmp_lt 16 9 dJ3_checkIndex_8e157_6 (by decide) rfl (fun h6 => ?_) (fun h6 => absurd hi1 h6)
  refine q_iload_n 0 17 dJ3_checkIndex_8e157_16 rfl rfl rfl ?_
  refine q_ireturn dJ3_checkIndex_8e157_17 rfl ?_
  exact pR.rf
theorem c_J0_checkIndex {l : Launch} {g : Gh} {i n : Int32} (hi0 : ¬ i < 0) (hi1 : i < n) : Cp l g yJ0_checkIndex_df160 (Cond.code yJ0_checkIndex_df160 cJ0_checkIndex_df160 2 none) 2 [.int i, .int n] [] none [] := by
  refine ct_of (M := mtJ0_checkIndex_df160) [some (.int i), some (.int n)] rfl (by decide) (Nat.le_of_ble_eq_true rfl) (fun _ h => h) (fun a => ?_)
  refine q_iload_n 0 1 dJ0_checkIndex_df160_0 rfl rfl rfl ?_
  refine q_iload_n 1 2 dJ0_checkIndex_df160_1 rfl rfl rfl ?_
  refine q_getsF 5 fs_J0_1053 dJ0_checkIndex_df160_2 rfl ?_ (fun q9 => ?_)
  · refine q_cSi [] [] [] 8 (wr := []) (w1 := _) (ws' := []) (c_J3_checkN hi0 hi1) m_J0_1059 dJ0_checkIndex_df160_5 rfl rfl rfl rfl rfl (by decide) (by decide) (by decide) (by decide) (Nat.le_of_ble_eq_true rfl) (by omega) (by omega) (by omega) rfl ?_
    refine q_pop 9 dJ0_checkIndex_df160_8 rfl rfl ?_
    refine q_return dJ0_checkIndex_df160_9 rfl ?_
    exact pR.rf
  · refine q_cSi [] [] [] 8 (wr := []) (w1 := _) (ws' := []) (c_J3_checkR hi0 hi1) m_J0_1059 dJ0_checkIndex_df160_5 rfl rfl rfl rfl rfl (by decide) (by decide) (by decide) (by decide) (Nat.le_of_ble_eq_true rfl) (by omega) (by omega) (by omega) rfl ?_
    refine q_pop 9 dJ0_checkIndex_df160_8 rfl rfl ?_
    refine q_return dJ0_checkIndex_df160_9 rfl ?_
    exact pR.rf
theorem c_J0_coder {l : Launch} {g : Gh} {o : String} {q : Nat} {bs : List Int32} (hw : (o, q, bs) ∈ sWords) : Cp l g yJ0_coder_7d493 (Cond.code yJ0_coder_7d493 cJ0_coder_7d493 1 (some .byte)) 1 [.ref (g.2.2.1 o q)] [] (some (.int 0)) [] := by
  refine ct_of (M := mtJ0_coder_7d493) [some (.ref (g.2.2.1 o q))] rfl (by decide) (Nat.le_of_ble_eq_true rfl) (fun _ h => h) (fun a => ?_)
  refine q_getsC 3 fs_J0_38 dJ0_coder_7d493_0 rfl ?_
  refine q_if_eq 13 6 dJ0_coder_7d493_3 (by decide) rfl (fun h => absurd h (by decide)) (fun _ => ?_)
  refine q_aload_n 0 7 dJ0_coder_7d493_6 rfl rfl rfl ?_
  refine q_getSC 10 hw fs_J0_15 dJ0_coder_7d493_7 rfl ?_
  refine q_goto 14 dJ0_coder_7d493_10 (by decide) ?_
  refine q_creturn dJ0_coder_7d493_14 rfl rfl ?_
  exact pR.rf
theorem c_J0_isLatin1 {l : Launch} {g : Gh} {o : String} {q : Nat} {bs : List Int32} (hw : (o, q, bs) ∈ sWords) : Cp l g yJ0_isLatin1_aae02 (Cond.code yJ0_isLatin1_aae02 cJ0_isLatin1_aae02 1 (some .boolean)) 1 [.ref (g.2.2.1 o q)] [] (some (.int 1)) [] := by
  refine ct_of (M := mtJ0_isLatin1_aae02) [some (.ref (g.2.2.1 o q))] rfl (by decide) (Nat.le_of_ble_eq_true rfl) (fun _ h => h) (fun a => ?_)
  refine q_getsC 3 fs_J0_38 dJ0_isLatin1_aae02_0 rfl ?_
  refine q_if_eq 17 6 dJ0_isLatin1_aae02_3 (by decide) rfl (fun h => absurd h (by decide)) (fun _ => ?_)
  refine q_aload_n 0 7 dJ0_isLatin1_aae02_6 rfl rfl rfl ?_
  refine q_getSC 10 hw fs_J0_15 dJ0_isLatin1_aae02_7 rfl ?_
  refine q_if_ne 17 13 dJ0_isLatin1_aae02_10 (by decide) rfl (fun h => absurd rfl h) (fun _ => ?_)
  refine q_iconst 1 14 dJ0_isLatin1_aae02_13 ic_1 rfl ?_
  refine q_goto 18 dJ0_isLatin1_aae02_14 (by decide) ?_
  refine q_zreturn dJ0_isLatin1_aae02_18 rfl (Or.inr rfl) ?_
  exact pR.rf
set_option maxRecDepth 4000 in
theorem shr0 {n : Nat} (h : n < 2 ^ 31) : nI n >>> ((0 : Int32) &&& 31) = nI n := by
  have := pk_shrN h ((0 : Int32) &&& 31) 0 (by decide)
  rw [this]
  simp
theorem c_J0_length {l : Launch} {g : Gh} {o : String} {q : Nat} {bs : List Int32} (hw : (o, q, bs) ∈ sWords) (hl : bs.length < 2 ^ 31) : Cp l g yJ0_length_8abf5 (Cond.code yJ0_length_8abf5 cJ0_length_8abf5 1 (some .int)) 2 [.ref (g.2.2.1 o q)] [] (some (.int (nI bs.length))) [] := by
  refine ct_of (M := mtJ0_length_8abf5) [some (.ref (g.2.2.1 o q))] rfl (by decide) (Nat.le_of_ble_eq_true rfl) (fun _ h => h) (fun a => ?_)
  refine q_aload_n 0 1 dJ0_length_8abf5_0 rfl rfl rfl ?_
  refine q_getSV 4 hw fs_J0_9 dJ0_length_8abf5_1 rfl ?_
  refine q_lenS 5 hw dJ0_length_8abf5_4 rfl ?_
  refine q_aload_n 0 6 dJ0_length_8abf5_5 rfl rfl rfl ?_
  refine q_callVS [] [] 9 (wr := []) (c_J0_coder hw) m_J0_335 dJ0_length_8abf5_6 rfl rfl hw rfl rfl rfl rfl rfl (by decide) (Nat.le_of_ble_eq_true rfl) (by omega) (by omega) (by omega) rfl (fun _ _ _ _ h => h.elim) (fun v0 w0 k' n' h => ?_)
  obtain ⟨rfl, rfl, rfl, rfl⟩ := h
  refine q_ishr 10 dJ0_length_8abf5_9 rfl ?_
  rw [shr0 hl]
  refine q_ireturn dJ0_length_8abf5_10 rfl ?_
  exact pR.rf
theorem c255 (x : Int32) : ((x &&& 255).toUInt32 % 65536).toInt32 = x &&& 255 := by
  have e := pk_and x (m := 255) 8 (by decide)
  rw [e, pk_char, pk_tn (by omega), Nat.mod_eq_of_lt (by omega)]
theorem nar255 (x : Int32) : narrow .char (.int (x &&& 255)) = .int (x &&& 255) := by
  have h := pk_nc (x &&& 255)
  rw [c255] at h
  exact h
theorem c_J1_charAt {l : Launch} {g : Gh} {o : String} {q : Nat} {bs : List Int32} {i : Int32} {j : Nat} (hw : (o, q, bs) ∈ sWords) (hi : ix i j bs.length) : Cp l g yJ1_charAt_3b067 (Cond.code yJ1_charAt_3b067 cJ1_charAt_3b067 2 (some .char)) 3 [.ref (g.2.2.2 o q), .int i] [] (some (.int (bs.getD j 0 &&& 255))) [] := by
  refine ct_of (M := mtJ1_charAt_3b067) [some (.ref (g.2.2.2 o q)), some (.int i)] rfl (by decide) (Nat.le_of_ble_eq_true rfl) (fun _ h => h) (fun a => ?_)
  refine q_iload_n 1 1 dJ1_charAt_3b067_0 rfl rfl rfl ?_
  refine q_aload_n 0 2 dJ1_charAt_3b067_1 rfl rfl rfl ?_
  refine q_lenS 3 hw dJ1_charAt_3b067_2 rfl ?_
  refine q_cSv [] [] [] 6 (wr := []) (w1 := _) (ws' := []) (c_J0_checkIndex (by rw [hi.1]; exact nI_pos (Nat.lt_trans hi.2.1 hi.2.2)) (by rw [hi.1]; exact nI_lt hi.2.1 hi.2.2)) m_J1_9 dJ1_charAt_3b067_3 rfl rfl rfl rfl rfl (by decide) (by decide) (by decide) (by decide) (Nat.le_of_ble_eq_true rfl) (by omega) (by omega) (by omega) rfl ?_
  refine q_aload_n 0 7 dJ1_charAt_3b067_6 rfl rfl rfl ?_
  refine q_iload_n 1 8 dJ1_charAt_3b067_7 rfl rfl rfl ?_
  refine q_baldS j 9 hw hi dJ1_charAt_3b067_8 rfl ?_
  refine q_sipush 255 12 dJ1_charAt_3b067_9 sc_255 rfl ?_
  refine q_iand 13 dJ1_charAt_3b067_12 rfl ?_
  refine q_i2c 14 dJ1_charAt_3b067_13 (c255 _) rfl ?_
  refine q_creturn dJ1_charAt_3b067_14 rfl (nar255 _) ?_
  exact pR.rf
theorem c_J0_charAt {l : Launch} {g : Gh} {o : String} {q : Nat} {bs : List Int32} {i : Int32} {j : Nat} (hw : (o, q, bs) ∈ sWords) (hi : ix i j bs.length) : Cp l g yJ0_charAt_5068e (Cond.code yJ0_charAt_5068e cJ0_charAt_5068e 2 (some .char)) 4 [.ref (g.2.2.1 o q), .int i] [] (some (.int (bs.getD j 0 &&& 255))) [] := by
  refine ct_of (M := mtJ0_charAt_5068e) [some (.ref (g.2.2.1 o q)), some (.int i)] rfl (by decide) (Nat.le_of_ble_eq_true rfl) (fun _ h => h) (fun a => ?_)
  refine q_aload_n 0 1 dJ0_charAt_5068e_0 rfl rfl rfl ?_
  refine q_callVS [] [] 4 (wr := []) (c_J0_isLatin1 hw) m_J0_492 dJ0_charAt_5068e_1 rfl rfl hw rfl rfl rfl rfl rfl (by decide) (Nat.le_of_ble_eq_true rfl) (by omega) (by omega) (by omega) rfl (fun _ _ _ _ h => h.elim) (fun v0 w0 k' n' h => ?_)
  obtain ⟨rfl, rfl, rfl, rfl⟩ := h
  refine q_if_eq 16 7 dJ0_charAt_5068e_4 (by decide) rfl (fun h => absurd h (by decide)) (fun _ => ?_)
  refine q_aload_n 0 8 dJ0_charAt_5068e_7 rfl rfl rfl ?_
  refine q_getSV 11 hw fs_J0_9 dJ0_charAt_5068e_8 rfl ?_
  refine q_iload_n 1 12 dJ0_charAt_5068e_11 rfl rfl rfl ?_
  refine q_cSi [] [] [] 15 (wr := []) (w1 := _) (ws' := []) (c_J1_charAt hw hi) m_J0_495 dJ0_charAt_5068e_12 rfl rfl rfl rfl rfl (by decide) (by decide) (by decide) (by decide) (Nat.le_of_ble_eq_true rfl) (by omega) (by omega) (by omega) rfl ?_
  refine q_creturn dJ0_charAt_5068e_15 rfl (nar255 _) ?_
  exact pR.rf

