/-! ===== SetOdds.chanceOf ===== -/
/-- the sum of the first w ways over what a table should hold -/
def ssV (V : Nat → Nat → Nat → Int32) (rf : Sc) (b f s : Nat) : Nat → Int64
  | 0 => 0
  | w + 1 => ssV V rf b f s w + (rf (b + w)).toInt64 * (V (f + 1 - w / 2) (s + w / 2) (w % 2)).toInt64 / 1000000000
theorem ssV_eq {V : Nat → Nat → Nat → Int32} {tf rf : Sc} {b f s : Nat} (h1 : ∀ c, c ≤ 1 → tf (ixS (f + 1) s c) = V (f + 1) s c) (h2 : ∀ c, c ≤ 1 → tf (ixS f (s + 1) c) = V f (s + 1) c) : ∀ w, w ≤ 4 → ssS tf rf b f s w = ssV V rf b f s w
  | 0, _ => rfl
  | w + 1, hw => by
    have ih := ssV_eq (rf := rf) (b := b) h1 h2 w (by omega)
    have e : tf (ixS (f + 1 - w / 2) (s + w / 2) (w % 2)) = V (f + 1 - w / 2) (s + w / 2) (w % 2) := by
      by_cases hl : w < 2
      · have e0 : w / 2 = 0 := by omega
        rw [e0]
        exact h1 _ (by omega)
      · have e0 : w / 2 = 1 := by omega
        rw [e0]
        exact h2 _ (by omega)
    rw [ssS, ssV, ih, e]
def suV (E : Nat) (p : Int32) (f : Nat) : Int32 := if (f = E ↔ p = 0) then 1000000000 else 0
def GtV (V : Nat → Nat → Nat → Int32) (E sN : Nat) (tf : Sc) (f y : Nat) : Prop := ∀ f' s' c, f' ≤ E → sN ≤ s' → s' ≤ E → c ≤ 1 → (f < f' ∨ f = f' ∧ y ≤ s') → tf (ixS f' s' c) = V f' s' c
theorem ixS_inj {a b c a' b' c' : Nat} (hb : b ≤ 6) (hb' : b' ≤ 6) (hc : c ≤ 1) (hc' : c' ≤ 1) (h : ixS a b c = ixS a' b' c') : a = a' ∧ b = b' ∧ c = c' := by unfold ixS at h; omega
theorem GtV.put {V : Nat → Nat → Nat → Int32} {E sN f s : Nat} {tf : Sc} (hE : E ≤ 6) (hs : s ≤ E) (h : GtV V E sN tf f (s + 1)) : GtV V E sN (upd (upd tf (ixS f s 0) (V f s 0)) (ixS f s 1) (V f s 1)) f s := by
  intro f' s' c h1 h2 h3 h4 h5
  by_cases e1 : f' = f ∧ s' = s
  · obtain ⟨rfl, rfl⟩ := e1
    by_cases hc : c = 1
    · rw [hc, pk_us]
    · obtain rfl : c = 0 := by omega
      rw [pk_un (fun e => by have := (ixS_inj (by omega) (by omega) (by omega) (by omega) e).2.2; omega), pk_us]
  · have ne : ∀ c', c' ≤ 1 → ixS f' s' c ≠ ixS f s c' := fun c' hc' e => e1 (by obtain ⟨a1, a2, a3⟩ := ixS_inj (by omega) (by omega) h4 hc' e; exact ⟨a1, a2⟩)
    rw [pk_un (ne 1 (by omega)), pk_un (ne 0 (by omega))]
    exact h f' s' c h1 h2 h3 h4 (by omega)
theorem c_X9_indexOfV {l : Launch} {g : Gh} {a0 b0 c0 : Nat} {c : Int32} (hc : c = nI c0) : Cp l g yX9_indexOf (Cond.code yX9_indexOf cX9_indexOf 3 (some .int)) 1 [.int (nI a0), .int (nI b0), .int c] [] (some (.int (nI (ixS a0 b0 c0)))) [] := by
  subst hc
  exact c_X9_indexOf
theorem c_X9_sumV {l : Launch} {g : Gh} {q he fr tb ro Nr b f s : Nat} {tf rf : Sc} {bi : Int32} (hbi : bi = nI b) (hb : b + 4 ≤ Nr) (hN : Nr ≤ 8) (hf : f ≤ 5) (hs : s ≤ 5) : Cp l g yX9_sum (Cond.code yX9_sum cX9_sum 10 (some .int)) 2 [.ref q, .ref ro, .int bi, .int (nI f), .int (nI s)] [(q, ob 9 (fun _ => 0) (rSO he fr tb)), (tb, aI g 98 tf), (ro, aI g Nr rf)] (some (.int (ssS tf rf b f s 4).toInt32)) [(q, ob 9 (fun _ => 0) (rSO he fr tb)), (tb, aI g 98 tf), (ro, aI g Nr rf)] := by
  subst hbi
  exact c_X9_sum hb hN hf hs
theorem dn_lt : ∀ n, n < 7 → ∀ x, x ≤ n → nI x - 1 < nI n := by decide +kernel
theorem dn_ge : ∀ n, n < 7 → ∀ x, x < 8 → n < x → ¬ nI x - 1 < nI n := by decide +kernel
theorem dn_dn : ∀ x, x < 7 → nI x + Int32.ofInt (-1) = nI x - 1 := by decide +kernel
theorem dn_up : ∀ x, x < 7 → nI (x + 1) - 1 = nI x := by decide +kernel
theorem c_X9_chanceOf {l : Launch} {g : Gh} {q he fr tb sd la ru so cc E fN sN : Nat} {tf0 ff hf li sc : Sc} {p : Int32} {V : Nat → Nat → Nat → Int32} (hE6 : E ≤ 6) (hl : li 1 = nI E) (h7 : sc 7 = nI fN) (h8 : sc 8 = nI sN) (hfE0 : fN < E) (hsE0 : sN < E) (hV1 : ∀ f s c, f ≤ E → s ≤ E → c ≤ 1 → (f = E ∨ s = E) → V f s c = suV E p f) (hV2 : ∀ f s c, f < E → s < E → c ≤ 1 → V f s c = (ssV V ff (4 * c) f s 4).toInt32) : Ce l g yX9_chanceOf (Cond.code yX9_chanceOf cX9_chanceOf 9 (some .int)) 3 [.ref q, .int p, .ref sd] [(q, ob 9 (fun _ => 0) (rSO he fr tb)), (tb, aI g 98 tf0), (fr, aI g 8 ff), (he, aI g 4 hf), (sd, ob 10 (fun _ => 0) (rD la ru so)), (la, ob 0 li (rL cc)), (so, ob 8 sc [])] (fun _ : Sc => some (.int (ssV V hf 0 fN sN 4).toInt32)) (fun z : Sc => [(q, ob 9 (fun _ => 0) (rSO he fr tb)), (tb, aI g 98 z), (fr, aI g 8 ff), (he, aI g 4 hf), (sd, ob 10 (fun _ => 0) (rD la ru so)), (la, ob 0 li (rL cc)), (so, ob 8 sc [])]) (fun _ => True) := by
  refine ct_of (M := mtX9_chanceOf) [some (.ref q), some (.int p), some (.ref sd), none, none, none, none, none, none] rfl (by decide) (Nat.le_of_ble_eq_true rfl) (fun _ h => h) (fun a => ?_)
  have KI : ∀ (f : Nat), fN ≤ f → f ≤ E → (∀ (tf : Sc) (L7 L8 : Option Value), GtV V E sN tf f sN → WPs l g mtX9_chanceOf 3 0 0 (pE (fun _ : Sc => some (.int (ssV V hf 0 fN sN 4).toInt32)) (fun z : Sc => [(q, ob 9 (fun _ => 0) (rSO he fr tb)), (tb, aI g 98 z), (fr, aI g 8 ff), (he, aI g 4 hf), (sd, ob 10 (fun _ => 0) (rD la ru so)), (la, ob 0 li (rL cc)), (so, ob 8 sc [])]) (fun _ => True)) noX a 180 [some (.ref q), some (.int p), some (.ref sd), some (.int (nI E)), some (.int (nI fN)), some (.int (nI sN)), (some (.int (nI f))), L7, L8] [] [(q, ob 9 (fun _ => 0) (rSO he fr tb)), (tb, aI g 98 tf), (fr, aI g 8 ff), (he, aI g 4 hf), (sd, ob 10 (fun _ => 0) (rD la ru so)), (la, ob 0 li (rL cc)), (so, ob 8 sc [])] 0 0) → ∀ (c y : Nat) (tf : Sc) (L8 : Option Value), y = sN + c → y ≤ E + 1 → GtV V E sN tf f y → WPs l g mtX9_chanceOf 3 0 0 (pE (fun _ : Sc => some (.int (ssV V hf 0 fN sN 4).toInt32)) (fun z : Sc => [(q, ob 9 (fun _ => 0) (rSO he fr tb)), (tb, aI g 98 z), (fr, aI g 8 ff), (he, aI g 4 hf), (sd, ob 10 (fun _ => 0) (rD la ru so)), (la, ob 0 li (rL cc)), (so, ob 8 sc [])]) (fun _ => True)) noX a 39 [some (.ref q), some (.int p), some (.ref sd), some (.int (nI E)), some (.int (nI fN)), some (.int (nI sN)), (some (.int (nI f))), (some (.int (nI y - 1))), L8] [] [(q, ob 9 (fun _ => 0) (rSO he fr tb)), (tb, aI g 98 tf), (fr, aI g 8 ff), (he, aI g 4 hf), (sd, ob 10 (fun _ => 0) (rD la ru so)), (la, ob 0 li (rL cc)), (so, ob 8 sc [])] 0 0 := by
    intro f hf1 hf2 K180 c
    induction c with
    | zero =>
      intro y tf L8 hy hy2 hG
      have hlt : nI y - 1 < nI sN := dn_lt sN (by omega) y (by omega)
      obtain rfl : y = sN := by omega
      refine q_iload 7 41 dX9_chanceOf_39 rfl rfl ?_
      refine q_iload 5 43 dX9_chanceOf_41 rfl rfl ?_
      refine q_icmp_lt 180 46 dX9_chanceOf_43 (by decide) rfl (fun h43 => ?_) (fun h43 => absurd hlt h43)
      exact K180 _ _ _ hG
    | succ c ih =>
      intro y tf L8 hy hy2 hG
      obtain ⟨s, rfl⟩ : ∃ s, y = s + 1 := ⟨y - 1, by omega⟩
      have hge : ¬ nI (s + 1) - 1 < nI sN := dn_ge sN (by omega) _ (by omega) (by omega)
      have K39 := fun tf L8 => ih s tf L8 (by omega) (by omega)
      clear ih
      rw [dn_up s (by omega)] at hge ⊢
      have e7 : nI s + Int32.ofInt (-1) = nI s - 1 := dn_dn s (by omega)
      have hj0 : ixS f s 0 < 98 := by unfold ixS; omega
      have hj1 : ixS f s 1 < 98 := by unfold ixS; omega
      have K174 : ∀ (tf' : Sc) (L8 : Option Value), tf' = upd (upd tf (ixS f s 0) (V f s 0)) (ixS f s 1) (V f s 1) → WPs l g mtX9_chanceOf 3 0 0 (pE (fun _ : Sc => some (.int (ssV V hf 0 fN sN 4).toInt32)) (fun z : Sc => [(q, ob 9 (fun _ => 0) (rSO he fr tb)), (tb, aI g 98 z), (fr, aI g 8 ff), (he, aI g 4 hf), (sd, ob 10 (fun _ => 0) (rD la ru so)), (la, ob 0 li (rL cc)), (so, ob 8 sc [])]) (fun _ => True)) noX a 174 [some (.ref q), some (.int p), some (.ref sd), some (.int (nI E)), some (.int (nI fN)), some (.int (nI sN)), (some (.int (nI f))), (some (.int (nI s))), L8] [] [(q, ob 9 (fun _ => 0) (rSO he fr tb)), (tb, aI g 98 tf'), (fr, aI g 8 ff), (he, aI g 4 hf), (sd, ob 10 (fun _ => 0) (rD la ru so)), (la, ob 0 li (rL cc)), (so, ob 8 sc [])] 0 0 := by
        intro tf' L8 ht
        have hG2 := GtV.put (V := V) (sN := sN) hE6 (by omega) hG
        rw [← ht] at hG2
        clear ht
        refine q_iinc 7 _ 177 (L' := [_, _, _, _, _, _, _, _, _]) dX9_chanceOf_174 rfl rfl (by decide) rfl rfl ?_
        refine q_goto 39 dX9_chanceOf_177 (by decide) ?_
        rw [e7]; exact K39 _ _ hG2
      clear K39
      by_cases hA : f = E ∨ s = E
      · have K89 : ∀ su : Int32, su = suV E p f → WPs l g mtX9_chanceOf 3 0 0 (pE (fun _ : Sc => some (.int (ssV V hf 0 fN sN 4).toInt32)) (fun z : Sc => [(q, ob 9 (fun _ => 0) (rSO he fr tb)), (tb, aI g 98 z), (fr, aI g 8 ff), (he, aI g 4 hf), (sd, ob 10 (fun _ => 0) (rD la ru so)), (la, ob 0 li (rL cc)), (so, ob 8 sc [])]) (fun _ => True)) noX a 89 [some (.ref q), some (.int p), some (.ref sd), some (.int (nI E)), some (.int (nI fN)), some (.int (nI sN)), (some (.int (nI f))), (some (.int (nI s))), (some (.int su))] [] [(q, ob 9 (fun _ => 0) (rSO he fr tb)), (tb, aI g 98 tf), (fr, aI g 8 ff), (he, aI g 4 hf), (sd, ob 10 (fun _ => 0) (rD la ru so)), (la, ob 0 li (rL cc)), (so, ob 8 sc [])] 0 0 := by
          intro su hsu
          have k2 := fun L8 => K174 (upd (upd tf (ixS f s 0) su) (ixS f s 1) su) L8 (by rw [hV1 f s 0 hf2 (by omega) (by omega) hA, hV1 f s 1 hf2 (by omega) (by omega) hA, hsu])
          clear K174
          generalize e0 : ixS f s 0 = j0 at *
          generalize e1 : ixS f s 1 = j1 at *
          refine q_aload_n 0 90 dX9_chanceOf_89 rfl rfl rfl ?_
          refine q_getR 0 93 f_X9_18 dX9_chanceOf_90 rfl rfl rfl rfl ?_
          refine q_iload 6 95 dX9_chanceOf_93 rfl rfl ?_
          refine q_iload 7 97 dX9_chanceOf_95 rfl rfl ?_
          refine q_iconst 0 98 dX9_chanceOf_97 ic_0 rfl ?_
          refine q_cSi [] [0, 1, 2, 3, 4, 5, 6] [0, 1, 2, 3, 4, 5, 6] 101 (wr := [_, _, _, _, _, _, _]) (w1 := _) (ws' := [_, _, _, _, _, _, _]) (c_X9_indexOfV (c0 := 0) (by decide)) m_X9_46 dX9_chanceOf_98 rfl rfl rfl rfl rfl (by decide) (by decide) (by decide) (by decide) (Nat.le_of_ble_eq_true rfl) (by omega) (by omega) (by omega) rfl ?_
          refine q_iload 8 103 dX9_chanceOf_101 rfl rfl ?_
          rw [e0]
          refine q_iast 1 j0 104 (w' := [_, _, _, _, _, _, _]) dX9_chanceOf_103 rfl ⟨rfl, by omega, by decide⟩ rfl rfl ?_
          refine q_aload_n 0 105 dX9_chanceOf_104 rfl rfl rfl ?_
          refine q_getR 0 108 f_X9_18 dX9_chanceOf_105 rfl rfl rfl rfl ?_
          refine q_iload 6 110 dX9_chanceOf_108 rfl rfl ?_
          refine q_iload 7 112 dX9_chanceOf_110 rfl rfl ?_
          refine q_iconst 1 113 dX9_chanceOf_112 ic_1 rfl ?_
          refine q_cSi [] [0, 1, 2, 3, 4, 5, 6] [0, 1, 2, 3, 4, 5, 6] 116 (wr := [_, _, _, _, _, _, _]) (w1 := _) (ws' := [_, _, _, _, _, _, _]) (c_X9_indexOfV (c0 := 1) (by decide)) m_X9_46 dX9_chanceOf_113 rfl rfl rfl rfl rfl (by decide) (by decide) (by decide) (by decide) (Nat.le_of_ble_eq_true rfl) (by omega) (by omega) (by omega) rfl ?_
          refine q_iload 8 118 dX9_chanceOf_116 rfl rfl ?_
          rw [e1]
          refine q_iast 1 j1 119 (w' := [_, _, _, _, _, _, _]) dX9_chanceOf_118 rfl ⟨rfl, by omega, by decide⟩ rfl rfl ?_
          refine q_goto 174 dX9_chanceOf_119 (by decide) ?_
          exact k2 _
        clear K174 K180
        by_cases hfE : f = E
        · subst hfE
          by_cases hp0 : p = 0
          · have k2 := K89 1000000000 (by rw [suV, if_pos (by simp [hp0])])
            clear K89
            refine q_iload 7 41 dX9_chanceOf_39 rfl rfl ?_
            refine q_iload 5 43 dX9_chanceOf_41 rfl rfl ?_
            refine q_icmp_lt 180 46 dX9_chanceOf_43 (by decide) rfl (fun h43 => absurd h43 hge) (fun h43 => ?_)
            refine q_iload 6 48 dX9_chanceOf_46 rfl rfl ?_
            refine q_iload_n 3 49 dX9_chanceOf_48 rfl rfl rfl ?_
            refine q_icmp_eq 58 52 dX9_chanceOf_49 (by decide) rfl (fun h49 => ?_) (fun h49 => absurd rfl h49)
            refine q_iload 6 60 dX9_chanceOf_58 rfl rfl ?_
            refine q_iload_n 3 61 dX9_chanceOf_60 rfl rfl rfl ?_
            refine q_icmp_ne 68 64 dX9_chanceOf_61 (by decide) rfl (fun h61 => absurd rfl h61) (fun h61 => ?_)
            refine q_iconst 1 65 dX9_chanceOf_64 ic_1 rfl ?_
            refine q_goto 69 dX9_chanceOf_65 (by decide) ?_
            refine q_iload_n 1 70 dX9_chanceOf_69 rfl rfl rfl ?_
            refine q_if_ne 77 73 dX9_chanceOf_70 (by decide) rfl (fun h70 => absurd hp0 h70) (fun h70 => ?_)
            refine q_iconst 1 74 dX9_chanceOf_73 ic_1 rfl ?_
            refine q_goto 78 dX9_chanceOf_74 (by decide) ?_
            refine q_icmp_ne 86 81 dX9_chanceOf_78 (by decide) rfl (fun h78 => absurd (by decide) h78) (fun h78 => ?_)
            refine q_ldc 1000000000 83 k_X9_45 dX9_chanceOf_81 rfl ?_
            refine q_goto 87 dX9_chanceOf_83 (by decide) ?_
            refine q_istore 8 89 (L' := [_, _, _, _, _, _, _, _, _]) dX9_chanceOf_87 (by decide) rfl rfl ?_
            exact k2
          · have k2 := K89 0 (by rw [suV, if_neg (by simp [hp0])])
            clear K89
            refine q_iload 7 41 dX9_chanceOf_39 rfl rfl ?_
            refine q_iload 5 43 dX9_chanceOf_41 rfl rfl ?_
            refine q_icmp_lt 180 46 dX9_chanceOf_43 (by decide) rfl (fun h43 => absurd h43 hge) (fun h43 => ?_)
            refine q_iload 6 48 dX9_chanceOf_46 rfl rfl ?_
            refine q_iload_n 3 49 dX9_chanceOf_48 rfl rfl rfl ?_
            refine q_icmp_eq 58 52 dX9_chanceOf_49 (by decide) rfl (fun h49 => ?_) (fun h49 => absurd rfl h49)
            refine q_iload 6 60 dX9_chanceOf_58 rfl rfl ?_
            refine q_iload_n 3 61 dX9_chanceOf_60 rfl rfl rfl ?_
            refine q_icmp_ne 68 64 dX9_chanceOf_61 (by decide) rfl (fun h61 => absurd rfl h61) (fun h61 => ?_)
            refine q_iconst 1 65 dX9_chanceOf_64 ic_1 rfl ?_
            refine q_goto 69 dX9_chanceOf_65 (by decide) ?_
            refine q_iload_n 1 70 dX9_chanceOf_69 rfl rfl rfl ?_
            refine q_if_ne 77 73 dX9_chanceOf_70 (by decide) rfl (fun h70 => ?_) (fun h70 => absurd h70 hp0)
            refine q_iconst 0 78 dX9_chanceOf_77 ic_0 rfl ?_
            refine q_icmp_ne 86 81 dX9_chanceOf_78 (by decide) rfl (fun h78 => ?_) (fun h78 => absurd h78 (by decide))
            refine q_iconst 0 87 dX9_chanceOf_86 ic_0 rfl ?_
            refine q_istore 8 89 (L' := [_, _, _, _, _, _, _, _, _]) dX9_chanceOf_87 (by decide) rfl rfl ?_
            exact k2
        · have hsE : s = E := by omega
          have hne : ¬ nI f = nI E := fun h => hfE (nI_eqI (by omega) (by omega) h)
          subst hsE
          by_cases hp0 : p = 0
          · have k2 := K89 0 (by rw [suV, if_neg (by simp [hp0, hfE])])
            clear K89
            refine q_iload 7 41 dX9_chanceOf_39 rfl rfl ?_
            refine q_iload 5 43 dX9_chanceOf_41 rfl rfl ?_
            refine q_icmp_lt 180 46 dX9_chanceOf_43 (by decide) rfl (fun h43 => absurd h43 hge) (fun h43 => ?_)
            refine q_iload 6 48 dX9_chanceOf_46 rfl rfl ?_
            refine q_iload_n 3 49 dX9_chanceOf_48 rfl rfl rfl ?_
            refine q_icmp_eq 58 52 dX9_chanceOf_49 (by decide) rfl (fun h49 => absurd h49 hne) (fun h49 => ?_)
            refine q_iload 7 54 dX9_chanceOf_52 rfl rfl ?_
            refine q_iload_n 3 55 dX9_chanceOf_54 rfl rfl rfl ?_
            refine q_icmp_ne 122 58 dX9_chanceOf_55 (by decide) rfl (fun h55 => absurd rfl h55) (fun h55 => ?_)
            refine q_iload 6 60 dX9_chanceOf_58 rfl rfl ?_
            refine q_iload_n 3 61 dX9_chanceOf_60 rfl rfl rfl ?_
            refine q_icmp_ne 68 64 dX9_chanceOf_61 (by decide) rfl (fun h61 => ?_) (fun h61 => absurd h61 hne)
            refine q_iconst 0 69 dX9_chanceOf_68 ic_0 rfl ?_
            refine q_iload_n 1 70 dX9_chanceOf_69 rfl rfl rfl ?_
            refine q_if_ne 77 73 dX9_chanceOf_70 (by decide) rfl (fun h70 => absurd hp0 h70) (fun h70 => ?_)
            refine q_iconst 1 74 dX9_chanceOf_73 ic_1 rfl ?_
            refine q_goto 78 dX9_chanceOf_74 (by decide) ?_
            refine q_icmp_ne 86 81 dX9_chanceOf_78 (by decide) rfl (fun h78 => ?_) (fun h78 => absurd h78 (by decide))
            refine q_iconst 0 87 dX9_chanceOf_86 ic_0 rfl ?_
            refine q_istore 8 89 (L' := [_, _, _, _, _, _, _, _, _]) dX9_chanceOf_87 (by decide) rfl rfl ?_
            exact k2
          · have k2 := K89 1000000000 (by rw [suV, if_pos (by simp [hp0, hfE])])
            clear K89
            refine q_iload 7 41 dX9_chanceOf_39 rfl rfl ?_
            refine q_iload 5 43 dX9_chanceOf_41 rfl rfl ?_
            refine q_icmp_lt 180 46 dX9_chanceOf_43 (by decide) rfl (fun h43 => absurd h43 hge) (fun h43 => ?_)
            refine q_iload 6 48 dX9_chanceOf_46 rfl rfl ?_
            refine q_iload_n 3 49 dX9_chanceOf_48 rfl rfl rfl ?_
            refine q_icmp_eq 58 52 dX9_chanceOf_49 (by decide) rfl (fun h49 => absurd h49 hne) (fun h49 => ?_)
            refine q_iload 7 54 dX9_chanceOf_52 rfl rfl ?_
            refine q_iload_n 3 55 dX9_chanceOf_54 rfl rfl rfl ?_
            refine q_icmp_ne 122 58 dX9_chanceOf_55 (by decide) rfl (fun h55 => absurd rfl h55) (fun h55 => ?_)
            refine q_iload 6 60 dX9_chanceOf_58 rfl rfl ?_
            refine q_iload_n 3 61 dX9_chanceOf_60 rfl rfl rfl ?_
            refine q_icmp_ne 68 64 dX9_chanceOf_61 (by decide) rfl (fun h61 => ?_) (fun h61 => absurd h61 hne)
            refine q_iconst 0 69 dX9_chanceOf_68 ic_0 rfl ?_
            refine q_iload_n 1 70 dX9_chanceOf_69 rfl rfl rfl ?_
            refine q_if_ne 77 73 dX9_chanceOf_70 (by decide) rfl (fun h70 => ?_) (fun h70 => absurd h70 hp0)
            refine q_iconst 0 78 dX9_chanceOf_77 ic_0 rfl ?_
            refine q_icmp_ne 86 81 dX9_chanceOf_78 (by decide) rfl (fun h78 => absurd (by decide) h78) (fun h78 => ?_)
            refine q_ldc 1000000000 83 k_X9_45 dX9_chanceOf_81 rfl ?_
            refine q_goto 87 dX9_chanceOf_83 (by decide) ?_
            refine q_istore 8 89 (L' := [_, _, _, _, _, _, _, _, _]) dX9_chanceOf_87 (by decide) rfl rfl ?_
            exact k2
      · have hfE : f < E := by omega
        have hsE : s < E := by omega
        have hne : ¬ nI f = nI E := fun h => hA (Or.inl (nI_eqI (by omega) (by omega) h))
        have hne2 : ¬ nI s = nI E := fun h => hA (Or.inr (nI_eqI (by omega) (by omega) h))
        have e0V : (ssS tf ff 0 f s 4).toInt32 = V f s 0 := by
          rw [hV2 f s 0 hfE hsE (by omega), ssV_eq (V := V) (fun c hc => hG (f + 1) s c (by omega) (by omega) (by omega) hc (by omega)) (fun c hc => hG f (s + 1) c (by omega) (by omega) (by omega) hc (by omega)) 4 (by omega)]
        have e1V : (ssS (upd tf (ixS f s 0) (V f s 0)) ff 4 f s 4).toInt32 = V f s 1 := by
          have ne : ∀ f' s' c, s' ≤ 6 → c ≤ 1 → (f' ≠ f ∨ s' ≠ s) → ixS f' s' c ≠ ixS f s 0 := fun f' s' c h1 h2 h3 e => by have := ixS_inj h1 (by omega) h2 (by omega) e; omega
          rw [hV2 f s 1 hfE hsE (by omega), ssV_eq (V := V) (fun c hc => by rw [pk_un (ne _ _ c (by omega) hc (by omega))]; exact hG (f + 1) s c (by omega) (by omega) (by omega) hc (by omega)) (fun c hc => by rw [pk_un (ne _ _ c (by omega) hc (by omega))]; exact hG f (s + 1) c (by omega) (by omega) (by omega) hc (by omega)) 4 (by omega)]
        have k2 := fun L8 => K174 _ L8 rfl
        clear K174 K180
        generalize e0 : ixS f s 0 = j0 at *
        generalize e1 : ixS f s 1 = j1 at *
        generalize hv0 : V f s 0 = v0 at *
        generalize hv1 : V f s 1 = v1 at *
        refine q_iload 7 41 dX9_chanceOf_39 rfl rfl ?_
        refine q_iload 5 43 dX9_chanceOf_41 rfl rfl ?_
        refine q_icmp_lt 180 46 dX9_chanceOf_43 (by decide) rfl (fun h43 => absurd h43 hge) (fun h43 => ?_)
        refine q_iload 6 48 dX9_chanceOf_46 rfl rfl ?_
        refine q_iload_n 3 49 dX9_chanceOf_48 rfl rfl rfl ?_
        refine q_icmp_eq 58 52 dX9_chanceOf_49 (by decide) rfl (fun h49 => absurd h49 hne) (fun h49 => ?_)
        refine q_iload 7 54 dX9_chanceOf_52 rfl rfl ?_
        refine q_iload_n 3 55 dX9_chanceOf_54 rfl rfl rfl ?_
        refine q_icmp_ne 122 58 dX9_chanceOf_55 (by decide) rfl (fun h55 => ?_) (fun h55 => absurd h55 hne2)
        refine q_aload_n 0 123 dX9_chanceOf_122 rfl rfl rfl ?_
        refine q_getR 0 126 f_X9_18 dX9_chanceOf_123 rfl rfl rfl rfl ?_
        refine q_iload 6 128 dX9_chanceOf_126 rfl rfl ?_
        refine q_iload 7 130 dX9_chanceOf_128 rfl rfl ?_
        refine q_iconst 0 131 dX9_chanceOf_130 ic_0 rfl ?_
        refine q_cSi [] [0, 1, 2, 3, 4, 5, 6] [0, 1, 2, 3, 4, 5, 6] 134 (wr := [_, _, _, _, _, _, _]) (w1 := _) (ws' := [_, _, _, _, _, _, _]) (c_X9_indexOfV (c0 := 0) (by decide)) m_X9_46 dX9_chanceOf_131 rfl rfl rfl rfl rfl (by decide) (by decide) (by decide) (by decide) (Nat.le_of_ble_eq_true rfl) (by omega) (by omega) (by omega) rfl ?_
        refine q_aload_n 0 135 dX9_chanceOf_134 rfl rfl rfl ?_
        refine q_aload_n 0 136 dX9_chanceOf_135 rfl rfl rfl ?_
        refine q_getR 0 139 f_X9_15 dX9_chanceOf_136 rfl rfl rfl rfl ?_
        refine q_iconst 0 140 dX9_chanceOf_139 ic_0 rfl ?_
        refine q_iload 6 142 dX9_chanceOf_140 rfl rfl ?_
        refine q_iload 7 144 dX9_chanceOf_142 rfl rfl ?_
        refine q_cVi 0 [0, 1, 2] [3, 4, 5, 6] [4, 5, 6, 0, 1, 2, 3] 147 (wr := [_, _, _, _]) (w1 := _) (ws' := [_, _, _, _, _, _, _]) (c_X9_sumV (b := 0) (by decide) (by decide) (by decide) (by omega) (by omega)) m_X9_50 dX9_chanceOf_144 rfl rfl rfl rfl rfl rfl rfl rfl (by decide) (by decide) (by decide) (by decide) (Nat.le_of_ble_eq_true rfl) (by omega) (by omega) (by omega) rfl ?_
        rw [e0, e0V]
        refine q_iast 1 j0 148 (w' := [_, _, _, _, _, _, _]) dX9_chanceOf_147 rfl ⟨rfl, by omega, by decide⟩ rfl rfl ?_
        refine q_aload_n 0 149 dX9_chanceOf_148 rfl rfl rfl ?_
        refine q_getR 0 152 f_X9_18 dX9_chanceOf_149 rfl rfl rfl rfl ?_
        refine q_iload 6 154 dX9_chanceOf_152 rfl rfl ?_
        refine q_iload 7 156 dX9_chanceOf_154 rfl rfl ?_
        refine q_iconst 1 157 dX9_chanceOf_156 ic_1 rfl ?_
        refine q_cSi [] [0, 1, 2, 3, 4, 5, 6] [0, 1, 2, 3, 4, 5, 6] 160 (wr := [_, _, _, _, _, _, _]) (w1 := _) (ws' := [_, _, _, _, _, _, _]) (c_X9_indexOfV (c0 := 1) (by decide)) m_X9_46 dX9_chanceOf_157 rfl rfl rfl rfl rfl (by decide) (by decide) (by decide) (by decide) (Nat.le_of_ble_eq_true rfl) (by omega) (by omega) (by omega) rfl ?_
        refine q_aload_n 0 161 dX9_chanceOf_160 rfl rfl rfl ?_
        refine q_aload_n 0 162 dX9_chanceOf_161 rfl rfl rfl ?_
        refine q_getR 0 165 f_X9_15 dX9_chanceOf_162 rfl rfl rfl rfl ?_
        refine q_iconst 4 166 dX9_chanceOf_165 ic_4 rfl ?_
        refine q_iload 6 168 dX9_chanceOf_166 rfl rfl ?_
        refine q_iload 7 170 dX9_chanceOf_168 rfl rfl ?_
        refine q_cVi 0 [0, 1, 2] [3, 4, 5, 6] [4, 5, 6, 0, 1, 2, 3] 173 (wr := [_, _, _, _]) (w1 := _) (ws' := [_, _, _, _, _, _, _]) (c_X9_sumV (b := 4) (by decide) (by decide) (by decide) (by omega) (by omega)) m_X9_50 dX9_chanceOf_170 rfl rfl rfl rfl rfl rfl rfl rfl (by decide) (by decide) (by decide) (by decide) (Nat.le_of_ble_eq_true rfl) (by omega) (by omega) (by omega) rfl ?_
        rw [e1, e1V]
        refine q_iast 1 j1 174 (w' := [_, _, _, _, _, _, _]) dX9_chanceOf_173 rfl ⟨rfl, by omega, by decide⟩ rfl rfl ?_
        exact k2 _
  have KO : ∀ (c x : Nat) (tf : Sc) (L7 L8 : Option Value), x = fN + c → x ≤ E + 1 → GtV V E sN tf x sN → (∀ s c, sN ≤ s → s ≤ E → c ≤ 1 → x ≤ E → tf (ixS x s c) = V x s c) → WPs l g mtX9_chanceOf 3 0 0 (pE (fun _ : Sc => some (.int (ssV V hf 0 fN sN 4).toInt32)) (fun z : Sc => [(q, ob 9 (fun _ => 0) (rSO he fr tb)), (tb, aI g 98 z), (fr, aI g 8 ff), (he, aI g 4 hf), (sd, ob 10 (fun _ => 0) (rD la ru so)), (la, ob 0 li (rL cc)), (so, ob 8 sc [])]) (fun _ => True)) noX a 29 [some (.ref q), some (.int p), some (.ref sd), some (.int (nI E)), some (.int (nI fN)), some (.int (nI sN)), (some (.int (nI x - 1))), L7, L8] [] [(q, ob 9 (fun _ => 0) (rSO he fr tb)), (tb, aI g 98 tf), (fr, aI g 8 ff), (he, aI g 4 hf), (sd, ob 10 (fun _ => 0) (rD la ru so)), (la, ob 0 li (rL cc)), (so, ob 8 sc [])] 0 0 := by
    intro c
    induction c with
    | zero =>
      intro x tf L7 L8 hx hx2 hG hG1
      have hlt : nI x - 1 < nI fN := dn_lt fN (by omega) x (by omega)
      obtain rfl : x = fN := by omega
      have ev : ssS tf hf 0 x sN 4 = ssV V hf 0 x sN 4 := ssV_eq (fun c hc => hG _ _ _ (by omega) (by omega) (by omega) hc (by omega)) (fun c hc => hG _ _ _ (by omega) (by omega) (by omega) hc (by omega)) 4 (by omega)
      clear KI
      refine q_iload 6 31 dX9_chanceOf_29 rfl rfl ?_
      refine q_iload 4 33 dX9_chanceOf_31 rfl rfl ?_
      refine q_icmp_lt 186 36 dX9_chanceOf_33 (by decide) rfl (fun h33 => ?_) (fun h33 => absurd hlt h33)
      refine q_aload_n 0 187 dX9_chanceOf_186 rfl rfl rfl ?_
      refine q_aload_n 0 188 dX9_chanceOf_187 rfl rfl rfl ?_
      refine q_getR 0 191 f_X9_9 dX9_chanceOf_188 rfl rfl rfl rfl ?_
      refine q_iconst 0 192 dX9_chanceOf_191 ic_0 rfl ?_
      refine q_iload 4 194 dX9_chanceOf_192 rfl rfl ?_
      refine q_iload 5 196 dX9_chanceOf_194 rfl rfl ?_
      refine q_cVi 0 [0, 1, 3] [2, 4, 5, 6] [4, 5, 0, 6, 1, 2, 3] 199 (wr := [_, _, _, _]) (w1 := _) (ws' := [_, _, _, _, _, _, _]) (c_X9_sumV (b := 0) (by decide) (by decide) (by decide) (by omega) (by omega)) m_X9_50 dX9_chanceOf_196 rfl rfl rfl rfl rfl rfl rfl rfl (by decide) (by decide) (by decide) (by decide) (Nat.le_of_ble_eq_true rfl) (by omega) (by omega) (by omega) rfl ?_
      rw [ev]
      refine q_ireturn dX9_chanceOf_199 rfl ?_
      exact pE.mk tf trivial rfl rfl
    | succ c ih =>
      intro x tf L7 L8 hx hx2 hG hG1
      obtain ⟨f, rfl⟩ : ∃ f, x = f + 1 := ⟨x - 1, by omega⟩
      have hge : ¬ nI (f + 1) - 1 < nI fN := dn_ge fN (by omega) _ (by omega) (by omega)
      rw [dn_up f (by omega)] at hge ⊢
      have e6 : nI f + Int32.ofInt (-1) = nI f - 1 := dn_dn f (by omega)
      have K180 : ∀ (tf : Sc) (L7 L8 : Option Value), GtV V E sN tf f sN → WPs l g mtX9_chanceOf 3 0 0 (pE (fun _ : Sc => some (.int (ssV V hf 0 fN sN 4).toInt32)) (fun z : Sc => [(q, ob 9 (fun _ => 0) (rSO he fr tb)), (tb, aI g 98 z), (fr, aI g 8 ff), (he, aI g 4 hf), (sd, ob 10 (fun _ => 0) (rD la ru so)), (la, ob 0 li (rL cc)), (so, ob 8 sc [])]) (fun _ => True)) noX a 180 [some (.ref q), some (.int p), some (.ref sd), some (.int (nI E)), some (.int (nI fN)), some (.int (nI sN)), (some (.int (nI f))), L7, L8] [] [(q, ob 9 (fun _ => 0) (rSO he fr tb)), (tb, aI g 98 tf), (fr, aI g 8 ff), (he, aI g 4 hf), (sd, ob 10 (fun _ => 0) (rD la ru so)), (la, ob 0 li (rL cc)), (so, ob 8 sc [])] 0 0 := by
        intro tf L7 L8 hG
        have k2 := ih f tf L7 L8 (by omega) (by omega) hG (fun s c h1 h2 h3 _ => hG f s c (by omega) h1 h2 h3 (by omega))
        clear ih KI
        refine q_iinc 6 _ 183 (L' := [_, _, _, _, _, _, _, _, _]) dX9_chanceOf_180 rfl rfl (by decide) rfl rfl ?_
        refine q_goto 29 dX9_chanceOf_183 (by decide) ?_
        rw [e6]; exact k2
      have k2 := KI f (by omega) (by omega) K180 (E + 1 - sN) (E + 1) tf L8 (by omega) (by omega) (by
        intro f' s' c h1 h2 h3 h4 h5
        by_cases h6 : f' = f + 1
        · subst h6; exact hG1 s' c h2 h3 h4 (by omega)
        · exact hG f' s' c h1 h2 h3 h4 (by omega))
      rw [dn_up E (by omega)] at k2
      clear ih KI K180
      refine q_iload 6 31 dX9_chanceOf_29 rfl rfl ?_
      refine q_iload 4 33 dX9_chanceOf_31 rfl rfl ?_
      refine q_icmp_lt 186 36 dX9_chanceOf_33 (by decide) rfl (fun h33 => absurd h33 hge) (fun h33 => ?_)
      refine q_iload_n 3 37 dX9_chanceOf_36 rfl rfl rfl ?_
      refine q_istore 7 39 (L' := [_, _, _, _, _, _, _, _, _]) dX9_chanceOf_37 (by decide) rfl rfl ?_
      exact k2
  have k2 := KO (E + 1 - fN) (E + 1) tf0 none none (by omega) (by omega) (fun f' s' c h1 h2 h3 h4 h5 => by omega) (fun s c h1 h2 h3 h4 => by omega)
  rw [dn_up E (by omega)] at k2
  clear KO KI
  refine q_aload_n 2 1 dX9_chanceOf_0 rfl rfl rfl ?_
  refine q_getR 4 4 f_X9_21 dX9_chanceOf_1 rfl rfl rfl rfl ?_
  refine q_getI 5 7 f_X9_27 dX9_chanceOf_4 rfl rfl rfl ?_
  rw [hl]
  refine q_istore_n 3 8 (L' := [_, _, _, _, _, _, _, _, _]) dX9_chanceOf_7 rfl (by decide) rfl rfl ?_
  refine q_aload_n 2 9 dX9_chanceOf_8 rfl rfl rfl ?_
  refine q_getR 4 12 f_X9_33 dX9_chanceOf_9 rfl rfl rfl rfl ?_
  refine q_getI 6 15 f_X9_37 dX9_chanceOf_12 rfl rfl rfl ?_
  rw [h7]
  refine q_istore 4 17 (L' := [_, _, _, _, _, _, _, _, _]) dX9_chanceOf_15 (by decide) rfl rfl ?_
  refine q_aload_n 2 18 dX9_chanceOf_17 rfl rfl rfl ?_
  refine q_getR 4 21 f_X9_33 dX9_chanceOf_18 rfl rfl rfl rfl ?_
  refine q_getI 6 24 f_X9_42 dX9_chanceOf_21 rfl rfl rfl ?_
  rw [h8]
  refine q_istore 5 26 (L' := [_, _, _, _, _, _, _, _, _]) dX9_chanceOf_24 (by decide) rfl rfl ?_
  refine q_iload_n 3 27 dX9_chanceOf_26 rfl rfl rfl ?_
  refine q_istore 6 29 (L' := [_, _, _, _, _, _, _, _, _]) dX9_chanceOf_27 (by decide) rfl rfl ?_
  exact k2

