/-! ===== isLog, howOf, log ===== -/
abbrev lgK (tp : Sc) (k : Nat) : Prop := (tp k = 100 ∧ ¬ rIn (tp (k + 1)) 48 57 = 0) ∨ ((tp k = 119 ∨ tp k = 108) ∧ ¬ rIn (tp (k + 1)) 48 48 = 0)
def lgB (tp : Sc) : Nat → Nat → Int32
  | 0, _ => 1
  | c + 1, k => if lgK tp k then lgB tp c (k + 2) else 0
def lgV (tp : Sc) (n : Nat) : Int32 := if n % 2 = 1 then 0 else if 60 < n then 0 else lgB tp (n / 2) 0
theorem lgB_or (tp : Sc) : ∀ c k, lgB tp c k = 0 ∨ lgB tp c k = 1
  | 0, _ => Or.inr rfl
  | c + 1, k => by
    rw [lgB]
    split
    · exact lgB_or tp c (k + 2)
    · exact Or.inl rfl
theorem lgV_or (tp : Sc) (n : Nat) : lgV tp n = 0 ∨ lgV tp n = 1 := by
  unfold lgV
  split
  · exact Or.inl rfl
  · split
    · exact Or.inl rfl
    · exact lgB_or _ _ _
theorem p_isLog {l : Launch} {g : Gh} {q : Nat} {A : Nat → Nat} {i tp : Sc} {n : Nat} (hn : n ≤ 400) : Cp l g yX12_isLog (Cond.code yX12_isLog cX12_isLog 4 (some .boolean)) 2 [.ref q, .int (nI n)] [(q, ob 12 i (rM A)), (A 5, aI g 400 tp)] (some (.int (lgV tp n))) [(q, ob 12 i (rM A)), (A 5, aI g 400 tp)] := by
  refine ct_of (M := mtX12_isLog) [some (.ref q), some (.int (nI n)), none, none] rfl (by decide) (Nat.le_of_ble_eq_true rfl) (fun _ h => h) (fun a => ?_)
  have er : nI n - nI n / 2 * 2 = nI (n % 2) := nI_rem (d := 2) (by decide) (by omega) (by decide) (by decide)
  unfold lgV
  by_cases h1 : n % 2 = 1
  · rw [if_pos h1]
    rw [h1] at er
    refine q_iload_n 1 1 dX12_isLog_0 rfl rfl rfl ?_
    refine q_iconst 2 2 dX12_isLog_1 ic_2 rfl ?_
    refine q_irem 3 dX12_isLog_2 (by decide) rfl ?_
    rw [er]
    refine q_iconst 1 4 dX12_isLog_3 ic_1 rfl ?_
    refine q_icmp_eq 13 7 dX12_isLog_4 (by decide) rfl (fun h4 => ?_) (fun h4 => absurd rfl h4)
    refine q_iconst 0 14 dX12_isLog_13 ic_0 rfl ?_
    refine q_zreturn dX12_isLog_14 rfl (Or.inl rfl) ?_
    exact pR.rf
  · rw [if_neg h1]
    have e0 : n % 2 = 0 := by omega
    rw [e0] at er
    by_cases h2 : 60 < n
    · rw [if_pos h2]
      have hgt : ¬ nI n ≤ 60 := nI_ge (a := 60) h2 (by omega)
      refine q_iload_n 1 1 dX12_isLog_0 rfl rfl rfl ?_
      refine q_iconst 2 2 dX12_isLog_1 ic_2 rfl ?_
      refine q_irem 3 dX12_isLog_2 (by decide) rfl ?_
      rw [er]
      refine q_iconst 1 4 dX12_isLog_3 ic_1 rfl ?_
      refine q_icmp_eq 13 7 dX12_isLog_4 (by decide) rfl (fun h4 => absurd h4 (by decide)) (fun h4 => ?_)
      refine q_iload_n 1 8 dX12_isLog_7 rfl rfl rfl ?_
      refine q_bipush 60 10 dX12_isLog_8 bc_60 rfl ?_
      refine q_icmp_le 15 13 dX12_isLog_10 (by decide) rfl (fun h10 => absurd h10 hgt) (fun h10 => ?_)
      refine q_iconst 0 14 dX12_isLog_13 ic_0 rfl ?_
      refine q_zreturn dX12_isLog_14 rfl (Or.inl rfl) ?_
      exact pR.rf
    · rw [if_neg h2]
      have hle : nI n ≤ 60 := nI_le (b := 60) (by omega) (by decide)
      have K : ∀ (c k : Nat), 2 * c + k = n → ∀ (r : Int32) (z : Option Value), lgB tp c k = r → WPs l g mtX12_isLog 2 0 0 (pR (some (.int r)) [(q, ob 12 i (rM A)), (A 5, aI g 400 tp)]) noX a 17 [some (.ref q), some (.int (nI n)), some (.int (nI k)), z] [] [(q, ob 12 i (rM A)), (A 5, aI g 400 tp)] 0 0 := by
        intro c
        induction c with
        | zero =>
          intro k hk r z hr
          obtain rfl : k = n := by omega
          have hr : 1 = r := hr
          subst hr
          have hge : nI k ≤ nI k := Int32.le_refl _
          refine q_iload_n 2 18 dX12_isLog_17 rfl rfl rfl ?_
          refine q_iload_n 1 19 dX12_isLog_18 rfl rfl rfl ?_
          refine q_icmp_ge 102 22 dX12_isLog_19 (by decide) rfl (fun h19 => ?_) (fun h19 => absurd hge h19)
          refine q_iconst 1 103 dX12_isLog_102 ic_1 rfl ?_
          refine q_zreturn dX12_isLog_103 rfl (Or.inr rfl) ?_
          exact pR.rf
        | succ c ih =>
          intro k hk r z hr
          have hlt : ¬ nI n ≤ nI k := nI_ge (by omega) (by omega)
          rw [lgB] at hr
          have K1 : lgK tp k → ∀ z, WPs l g mtX12_isLog 2 0 0 (pR (some (.int r)) [(q, ob 12 i (rM A)), (A 5, aI g 400 tp)]) noX a 96 [some (.ref q), some (.int (nI n)), some (.int (nI k)), z] [] [(q, ob 12 i (rM A)), (A 5, aI g 400 tp)] 0 0 := by
            intro hK z
            rw [if_pos hK] at hr
            have K2 := ih (k + 2) (by omega) r
            clear ih
            refine q_iinc 2 (nI (k + 2)) 99 (L' := [_, _, _, _]) dX12_isLog_96 rfl (inc2 (k)) (by decide) rfl rfl ?_
            refine q_goto 17 dX12_isLog_99 (by decide) ?_
            exact K2 _ hr
          have K0 : ¬ lgK tp k → r = 0 := fun h => by rw [if_neg h] at hr; exact hr.symm
          clear ih hr
          by_cases hd : tp k = 100
          · by_cases hi : rIn (tp (k + 1)) 48 57 = 0
            · have hr := K0 (fun z => z.elim (fun z => z.2 hi) (fun z => z.1.elim (fun y => absurd (hd.symm.trans y) (by decide)) (fun y => absurd (hd.symm.trans y) (by decide))))
              subst hr
              refine q_iload_n 2 18 dX12_isLog_17 rfl rfl rfl ?_
              refine q_iload_n 1 19 dX12_isLog_18 rfl rfl rfl ?_
              refine q_icmp_ge 102 22 dX12_isLog_19 (by decide) rfl (fun h19 => absurd h19 hlt) (fun h19 => ?_)
              refine q_aload_n 0 23 dX12_isLog_22 rfl rfl rfl ?_
              refine q_getR 0 26 f_X12_19 dX12_isLog_23 rfl rfl rfl rfl ?_
              refine q_iload_n 2 27 dX12_isLog_26 rfl rfl rfl ?_
              refine q_iald 1 k 28 dX12_isLog_27 rfl ⟨rfl, by omega, by decide⟩ rfl ?_
              refine q_bipush 100 30 dX12_isLog_28 bc_100 rfl ?_
              refine q_icmp_ne 37 33 dX12_isLog_30 (by decide) rfl (fun h30 => absurd hd h30) (fun h30 => ?_)
              refine q_iconst 1 34 dX12_isLog_33 ic_1 rfl ?_
              refine q_goto 38 dX12_isLog_34 (by decide) ?_
              refine q_istore_n 3 39 (L' := [_, _, _, _]) dX12_isLog_38 rfl (by decide) rfl rfl ?_
              refine q_iload_n 3 40 dX12_isLog_39 rfl rfl rfl ?_
              refine q_if_ne 67 43 dX12_isLog_40 (by decide) rfl (fun h40 => ?_) (fun h40 => absurd h40 (by decide))
              refine q_aload_n 0 68 dX12_isLog_67 rfl rfl rfl ?_
              refine q_getR 0 71 f_X12_19 dX12_isLog_68 rfl rfl rfl rfl ?_
              refine q_iload_n 2 72 dX12_isLog_71 rfl rfl rfl ?_
              refine q_iconst 1 73 dX12_isLog_72 ic_1 rfl ?_
              refine q_iadd 74 dX12_isLog_73 rfl ?_
              rw [nI_1]
              refine q_iald 1 (k+1) 75 dX12_isLog_74 rfl ⟨rfl, by omega, by decide⟩ rfl ?_
              refine q_bipush 48 77 dX12_isLog_75 bc_48 rfl ?_
              refine q_iload_n 3 78 dX12_isLog_77 rfl rfl rfl ?_
              refine q_if_eq 86 81 dX12_isLog_78 (by decide) rfl (fun h78 => absurd h78 (by decide)) (fun h78 => ?_)
              refine q_bipush 57 83 dX12_isLog_81 bc_57 rfl ?_
              refine q_goto 88 dX12_isLog_83 (by decide) ?_
              refine q_cSi [] [0, 1] [0, 1] 91 (wr := [_, _]) (w1 := _) (ws' := [_, _]) c_isIn m_X12_70 dX12_isLog_88 rfl rfl rfl rfl rfl (by decide) (by decide) (by decide) (by decide) (Nat.le_of_ble_eq_true rfl) (by omega) (by omega) (by omega) rfl ?_
              refine q_if_ne 96 94 dX12_isLog_91 (by decide) rfl (fun h91 => absurd hi h91) (fun h91 => ?_)
              refine q_iconst 0 95 dX12_isLog_94 ic_0 rfl ?_
              refine q_zreturn dX12_isLog_95 rfl (Or.inl rfl) ?_
              exact pR.rf
            · have K2 := K1 (Or.inl ⟨hd, hi⟩)
              refine q_iload_n 2 18 dX12_isLog_17 rfl rfl rfl ?_
              refine q_iload_n 1 19 dX12_isLog_18 rfl rfl rfl ?_
              refine q_icmp_ge 102 22 dX12_isLog_19 (by decide) rfl (fun h19 => absurd h19 hlt) (fun h19 => ?_)
              refine q_aload_n 0 23 dX12_isLog_22 rfl rfl rfl ?_
              refine q_getR 0 26 f_X12_19 dX12_isLog_23 rfl rfl rfl rfl ?_
              refine q_iload_n 2 27 dX12_isLog_26 rfl rfl rfl ?_
              refine q_iald 1 k 28 dX12_isLog_27 rfl ⟨rfl, by omega, by decide⟩ rfl ?_
              refine q_bipush 100 30 dX12_isLog_28 bc_100 rfl ?_
              refine q_icmp_ne 37 33 dX12_isLog_30 (by decide) rfl (fun h30 => absurd hd h30) (fun h30 => ?_)
              refine q_iconst 1 34 dX12_isLog_33 ic_1 rfl ?_
              refine q_goto 38 dX12_isLog_34 (by decide) ?_
              refine q_istore_n 3 39 (L' := [_, _, _, _]) dX12_isLog_38 rfl (by decide) rfl rfl ?_
              refine q_iload_n 3 40 dX12_isLog_39 rfl rfl rfl ?_
              refine q_if_ne 67 43 dX12_isLog_40 (by decide) rfl (fun h40 => ?_) (fun h40 => absurd h40 (by decide))
              refine q_aload_n 0 68 dX12_isLog_67 rfl rfl rfl ?_
              refine q_getR 0 71 f_X12_19 dX12_isLog_68 rfl rfl rfl rfl ?_
              refine q_iload_n 2 72 dX12_isLog_71 rfl rfl rfl ?_
              refine q_iconst 1 73 dX12_isLog_72 ic_1 rfl ?_
              refine q_iadd 74 dX12_isLog_73 rfl ?_
              rw [nI_1]
              refine q_iald 1 (k+1) 75 dX12_isLog_74 rfl ⟨rfl, by omega, by decide⟩ rfl ?_
              refine q_bipush 48 77 dX12_isLog_75 bc_48 rfl ?_
              refine q_iload_n 3 78 dX12_isLog_77 rfl rfl rfl ?_
              refine q_if_eq 86 81 dX12_isLog_78 (by decide) rfl (fun h78 => absurd h78 (by decide)) (fun h78 => ?_)
              refine q_bipush 57 83 dX12_isLog_81 bc_57 rfl ?_
              refine q_goto 88 dX12_isLog_83 (by decide) ?_
              refine q_cSi [] [0, 1] [0, 1] 91 (wr := [_, _]) (w1 := _) (ws' := [_, _]) c_isIn m_X12_70 dX12_isLog_88 rfl rfl rfl rfl rfl (by decide) (by decide) (by decide) (by decide) (Nat.le_of_ble_eq_true rfl) (by omega) (by omega) (by omega) rfl ?_
              refine q_if_ne 96 94 dX12_isLog_91 (by decide) rfl (fun h91 => ?_) (fun h91 => absurd h91 hi)
              exact K2 _
          · by_cases hw : tp k = 119
            · by_cases hi : rIn (tp (k + 1)) 48 48 = 0
              · have hr := K0 (fun z => z.elim (fun z => hd z.1) (fun z => z.2 hi))
                subst hr
                refine q_iload_n 2 18 dX12_isLog_17 rfl rfl rfl ?_
                refine q_iload_n 1 19 dX12_isLog_18 rfl rfl rfl ?_
                refine q_icmp_ge 102 22 dX12_isLog_19 (by decide) rfl (fun h19 => absurd h19 hlt) (fun h19 => ?_)
                refine q_aload_n 0 23 dX12_isLog_22 rfl rfl rfl ?_
                refine q_getR 0 26 f_X12_19 dX12_isLog_23 rfl rfl rfl rfl ?_
                refine q_iload_n 2 27 dX12_isLog_26 rfl rfl rfl ?_
                refine q_iald 1 k 28 dX12_isLog_27 rfl ⟨rfl, by omega, by decide⟩ rfl ?_
                refine q_bipush 100 30 dX12_isLog_28 bc_100 rfl ?_
                refine q_icmp_ne 37 33 dX12_isLog_30 (by decide) rfl (fun h30 => ?_) (fun h30 => absurd h30 hd)
                refine q_iconst 0 38 dX12_isLog_37 ic_0 rfl ?_
                refine q_istore_n 3 39 (L' := [_, _, _, _]) dX12_isLog_38 rfl (by decide) rfl rfl ?_
                refine q_iload_n 3 40 dX12_isLog_39 rfl rfl rfl ?_
                refine q_if_ne 67 43 dX12_isLog_40 (by decide) rfl (fun h40 => absurd (by decide) h40) (fun h40 => ?_)
                refine q_aload_n 0 44 dX12_isLog_43 rfl rfl rfl ?_
                refine q_getR 0 47 f_X12_19 dX12_isLog_44 rfl rfl rfl rfl ?_
                refine q_iload_n 2 48 dX12_isLog_47 rfl rfl rfl ?_
                refine q_iald 1 k 49 dX12_isLog_48 rfl ⟨rfl, by omega, by decide⟩ rfl ?_
                refine q_bipush 119 51 dX12_isLog_49 bc_119 rfl ?_
                refine q_icmp_eq 67 54 dX12_isLog_51 (by decide) rfl (fun h51 => ?_) (fun h51 => absurd hw h51)
                refine q_aload_n 0 68 dX12_isLog_67 rfl rfl rfl ?_
                refine q_getR 0 71 f_X12_19 dX12_isLog_68 rfl rfl rfl rfl ?_
                refine q_iload_n 2 72 dX12_isLog_71 rfl rfl rfl ?_
                refine q_iconst 1 73 dX12_isLog_72 ic_1 rfl ?_
                refine q_iadd 74 dX12_isLog_73 rfl ?_
                rw [nI_1]
                refine q_iald 1 (k+1) 75 dX12_isLog_74 rfl ⟨rfl, by omega, by decide⟩ rfl ?_
                refine q_bipush 48 77 dX12_isLog_75 bc_48 rfl ?_
                refine q_iload_n 3 78 dX12_isLog_77 rfl rfl rfl ?_
                refine q_if_eq 86 81 dX12_isLog_78 (by decide) rfl (fun h78 => ?_) (fun h78 => absurd (by decide) h78)
                refine q_bipush 48 88 dX12_isLog_86 bc_48 rfl ?_
                refine q_cSi [] [0, 1] [0, 1] 91 (wr := [_, _]) (w1 := _) (ws' := [_, _]) c_isIn m_X12_70 dX12_isLog_88 rfl rfl rfl rfl rfl (by decide) (by decide) (by decide) (by decide) (Nat.le_of_ble_eq_true rfl) (by omega) (by omega) (by omega) rfl ?_
                refine q_if_ne 96 94 dX12_isLog_91 (by decide) rfl (fun h91 => absurd hi h91) (fun h91 => ?_)
                refine q_iconst 0 95 dX12_isLog_94 ic_0 rfl ?_
                refine q_zreturn dX12_isLog_95 rfl (Or.inl rfl) ?_
                exact pR.rf
              · have K2 := K1 (Or.inr ⟨Or.inl hw, hi⟩)
                refine q_iload_n 2 18 dX12_isLog_17 rfl rfl rfl ?_
                refine q_iload_n 1 19 dX12_isLog_18 rfl rfl rfl ?_
                refine q_icmp_ge 102 22 dX12_isLog_19 (by decide) rfl (fun h19 => absurd h19 hlt) (fun h19 => ?_)
                refine q_aload_n 0 23 dX12_isLog_22 rfl rfl rfl ?_
                refine q_getR 0 26 f_X12_19 dX12_isLog_23 rfl rfl rfl rfl ?_
                refine q_iload_n 2 27 dX12_isLog_26 rfl rfl rfl ?_
                refine q_iald 1 k 28 dX12_isLog_27 rfl ⟨rfl, by omega, by decide⟩ rfl ?_
                refine q_bipush 100 30 dX12_isLog_28 bc_100 rfl ?_
                refine q_icmp_ne 37 33 dX12_isLog_30 (by decide) rfl (fun h30 => ?_) (fun h30 => absurd h30 hd)
                refine q_iconst 0 38 dX12_isLog_37 ic_0 rfl ?_
                refine q_istore_n 3 39 (L' := [_, _, _, _]) dX12_isLog_38 rfl (by decide) rfl rfl ?_
                refine q_iload_n 3 40 dX12_isLog_39 rfl rfl rfl ?_
                refine q_if_ne 67 43 dX12_isLog_40 (by decide) rfl (fun h40 => absurd (by decide) h40) (fun h40 => ?_)
                refine q_aload_n 0 44 dX12_isLog_43 rfl rfl rfl ?_
                refine q_getR 0 47 f_X12_19 dX12_isLog_44 rfl rfl rfl rfl ?_
                refine q_iload_n 2 48 dX12_isLog_47 rfl rfl rfl ?_
                refine q_iald 1 k 49 dX12_isLog_48 rfl ⟨rfl, by omega, by decide⟩ rfl ?_
                refine q_bipush 119 51 dX12_isLog_49 bc_119 rfl ?_
                refine q_icmp_eq 67 54 dX12_isLog_51 (by decide) rfl (fun h51 => ?_) (fun h51 => absurd hw h51)
                refine q_aload_n 0 68 dX12_isLog_67 rfl rfl rfl ?_
                refine q_getR 0 71 f_X12_19 dX12_isLog_68 rfl rfl rfl rfl ?_
                refine q_iload_n 2 72 dX12_isLog_71 rfl rfl rfl ?_
                refine q_iconst 1 73 dX12_isLog_72 ic_1 rfl ?_
                refine q_iadd 74 dX12_isLog_73 rfl ?_
                rw [nI_1]
                refine q_iald 1 (k+1) 75 dX12_isLog_74 rfl ⟨rfl, by omega, by decide⟩ rfl ?_
                refine q_bipush 48 77 dX12_isLog_75 bc_48 rfl ?_
                refine q_iload_n 3 78 dX12_isLog_77 rfl rfl rfl ?_
                refine q_if_eq 86 81 dX12_isLog_78 (by decide) rfl (fun h78 => ?_) (fun h78 => absurd (by decide) h78)
                refine q_bipush 48 88 dX12_isLog_86 bc_48 rfl ?_
                refine q_cSi [] [0, 1] [0, 1] 91 (wr := [_, _]) (w1 := _) (ws' := [_, _]) c_isIn m_X12_70 dX12_isLog_88 rfl rfl rfl rfl rfl (by decide) (by decide) (by decide) (by decide) (Nat.le_of_ble_eq_true rfl) (by omega) (by omega) (by omega) rfl ?_
                refine q_if_ne 96 94 dX12_isLog_91 (by decide) rfl (fun h91 => ?_) (fun h91 => absurd h91 hi)
                exact K2 _
            · by_cases hl : tp k = 108
              · by_cases hi : rIn (tp (k + 1)) 48 48 = 0
                · have hr := K0 (fun z => z.elim (fun z => hd z.1) (fun z => z.2 hi))
                  subst hr
                  refine q_iload_n 2 18 dX12_isLog_17 rfl rfl rfl ?_
                  refine q_iload_n 1 19 dX12_isLog_18 rfl rfl rfl ?_
                  refine q_icmp_ge 102 22 dX12_isLog_19 (by decide) rfl (fun h19 => absurd h19 hlt) (fun h19 => ?_)
                  refine q_aload_n 0 23 dX12_isLog_22 rfl rfl rfl ?_
                  refine q_getR 0 26 f_X12_19 dX12_isLog_23 rfl rfl rfl rfl ?_
                  refine q_iload_n 2 27 dX12_isLog_26 rfl rfl rfl ?_
                  refine q_iald 1 k 28 dX12_isLog_27 rfl ⟨rfl, by omega, by decide⟩ rfl ?_
                  refine q_bipush 100 30 dX12_isLog_28 bc_100 rfl ?_
                  refine q_icmp_ne 37 33 dX12_isLog_30 (by decide) rfl (fun h30 => ?_) (fun h30 => absurd h30 hd)
                  refine q_iconst 0 38 dX12_isLog_37 ic_0 rfl ?_
                  refine q_istore_n 3 39 (L' := [_, _, _, _]) dX12_isLog_38 rfl (by decide) rfl rfl ?_
                  refine q_iload_n 3 40 dX12_isLog_39 rfl rfl rfl ?_
                  refine q_if_ne 67 43 dX12_isLog_40 (by decide) rfl (fun h40 => absurd (by decide) h40) (fun h40 => ?_)
                  refine q_aload_n 0 44 dX12_isLog_43 rfl rfl rfl ?_
                  refine q_getR 0 47 f_X12_19 dX12_isLog_44 rfl rfl rfl rfl ?_
                  refine q_iload_n 2 48 dX12_isLog_47 rfl rfl rfl ?_
                  refine q_iald 1 k 49 dX12_isLog_48 rfl ⟨rfl, by omega, by decide⟩ rfl ?_
                  refine q_bipush 119 51 dX12_isLog_49 bc_119 rfl ?_
                  refine q_icmp_eq 67 54 dX12_isLog_51 (by decide) rfl (fun h51 => absurd h51 hw) (fun h51 => ?_)
                  refine q_aload_n 0 55 dX12_isLog_54 rfl rfl rfl ?_
                  refine q_getR 0 58 f_X12_19 dX12_isLog_55 rfl rfl rfl rfl ?_
                  refine q_iload_n 2 59 dX12_isLog_58 rfl rfl rfl ?_
                  refine q_iald 1 k 60 dX12_isLog_59 rfl ⟨rfl, by omega, by decide⟩ rfl ?_
                  refine q_bipush 108 62 dX12_isLog_60 bc_108 rfl ?_
                  refine q_icmp_eq 67 65 dX12_isLog_62 (by decide) rfl (fun h62 => ?_) (fun h62 => absurd hl h62)
                  refine q_aload_n 0 68 dX12_isLog_67 rfl rfl rfl ?_
                  refine q_getR 0 71 f_X12_19 dX12_isLog_68 rfl rfl rfl rfl ?_
                  refine q_iload_n 2 72 dX12_isLog_71 rfl rfl rfl ?_
                  refine q_iconst 1 73 dX12_isLog_72 ic_1 rfl ?_
                  refine q_iadd 74 dX12_isLog_73 rfl ?_
                  rw [nI_1]
                  refine q_iald 1 (k+1) 75 dX12_isLog_74 rfl ⟨rfl, by omega, by decide⟩ rfl ?_
                  refine q_bipush 48 77 dX12_isLog_75 bc_48 rfl ?_
                  refine q_iload_n 3 78 dX12_isLog_77 rfl rfl rfl ?_
                  refine q_if_eq 86 81 dX12_isLog_78 (by decide) rfl (fun h78 => ?_) (fun h78 => absurd (by decide) h78)
                  refine q_bipush 48 88 dX12_isLog_86 bc_48 rfl ?_
                  refine q_cSi [] [0, 1] [0, 1] 91 (wr := [_, _]) (w1 := _) (ws' := [_, _]) c_isIn m_X12_70 dX12_isLog_88 rfl rfl rfl rfl rfl (by decide) (by decide) (by decide) (by decide) (Nat.le_of_ble_eq_true rfl) (by omega) (by omega) (by omega) rfl ?_
                  refine q_if_ne 96 94 dX12_isLog_91 (by decide) rfl (fun h91 => absurd hi h91) (fun h91 => ?_)
                  refine q_iconst 0 95 dX12_isLog_94 ic_0 rfl ?_
                  refine q_zreturn dX12_isLog_95 rfl (Or.inl rfl) ?_
                  exact pR.rf
                · have K2 := K1 (Or.inr ⟨Or.inr hl, hi⟩)
                  refine q_iload_n 2 18 dX12_isLog_17 rfl rfl rfl ?_
                  refine q_iload_n 1 19 dX12_isLog_18 rfl rfl rfl ?_
                  refine q_icmp_ge 102 22 dX12_isLog_19 (by decide) rfl (fun h19 => absurd h19 hlt) (fun h19 => ?_)
                  refine q_aload_n 0 23 dX12_isLog_22 rfl rfl rfl ?_
                  refine q_getR 0 26 f_X12_19 dX12_isLog_23 rfl rfl rfl rfl ?_
                  refine q_iload_n 2 27 dX12_isLog_26 rfl rfl rfl ?_
                  refine q_iald 1 k 28 dX12_isLog_27 rfl ⟨rfl, by omega, by decide⟩ rfl ?_
                  refine q_bipush 100 30 dX12_isLog_28 bc_100 rfl ?_
                  refine q_icmp_ne 37 33 dX12_isLog_30 (by decide) rfl (fun h30 => ?_) (fun h30 => absurd h30 hd)
                  refine q_iconst 0 38 dX12_isLog_37 ic_0 rfl ?_
                  refine q_istore_n 3 39 (L' := [_, _, _, _]) dX12_isLog_38 rfl (by decide) rfl rfl ?_
                  refine q_iload_n 3 40 dX12_isLog_39 rfl rfl rfl ?_
                  refine q_if_ne 67 43 dX12_isLog_40 (by decide) rfl (fun h40 => absurd (by decide) h40) (fun h40 => ?_)
                  refine q_aload_n 0 44 dX12_isLog_43 rfl rfl rfl ?_
                  refine q_getR 0 47 f_X12_19 dX12_isLog_44 rfl rfl rfl rfl ?_
                  refine q_iload_n 2 48 dX12_isLog_47 rfl rfl rfl ?_
                  refine q_iald 1 k 49 dX12_isLog_48 rfl ⟨rfl, by omega, by decide⟩ rfl ?_
                  refine q_bipush 119 51 dX12_isLog_49 bc_119 rfl ?_
                  refine q_icmp_eq 67 54 dX12_isLog_51 (by decide) rfl (fun h51 => absurd h51 hw) (fun h51 => ?_)
                  refine q_aload_n 0 55 dX12_isLog_54 rfl rfl rfl ?_
                  refine q_getR 0 58 f_X12_19 dX12_isLog_55 rfl rfl rfl rfl ?_
                  refine q_iload_n 2 59 dX12_isLog_58 rfl rfl rfl ?_
                  refine q_iald 1 k 60 dX12_isLog_59 rfl ⟨rfl, by omega, by decide⟩ rfl ?_
                  refine q_bipush 108 62 dX12_isLog_60 bc_108 rfl ?_
                  refine q_icmp_eq 67 65 dX12_isLog_62 (by decide) rfl (fun h62 => ?_) (fun h62 => absurd hl h62)
                  refine q_aload_n 0 68 dX12_isLog_67 rfl rfl rfl ?_
                  refine q_getR 0 71 f_X12_19 dX12_isLog_68 rfl rfl rfl rfl ?_
                  refine q_iload_n 2 72 dX12_isLog_71 rfl rfl rfl ?_
                  refine q_iconst 1 73 dX12_isLog_72 ic_1 rfl ?_
                  refine q_iadd 74 dX12_isLog_73 rfl ?_
                  rw [nI_1]
                  refine q_iald 1 (k+1) 75 dX12_isLog_74 rfl ⟨rfl, by omega, by decide⟩ rfl ?_
                  refine q_bipush 48 77 dX12_isLog_75 bc_48 rfl ?_
                  refine q_iload_n 3 78 dX12_isLog_77 rfl rfl rfl ?_
                  refine q_if_eq 86 81 dX12_isLog_78 (by decide) rfl (fun h78 => ?_) (fun h78 => absurd (by decide) h78)
                  refine q_bipush 48 88 dX12_isLog_86 bc_48 rfl ?_
                  refine q_cSi [] [0, 1] [0, 1] 91 (wr := [_, _]) (w1 := _) (ws' := [_, _]) c_isIn m_X12_70 dX12_isLog_88 rfl rfl rfl rfl rfl (by decide) (by decide) (by decide) (by decide) (Nat.le_of_ble_eq_true rfl) (by omega) (by omega) (by omega) rfl ?_
                  refine q_if_ne 96 94 dX12_isLog_91 (by decide) rfl (fun h91 => ?_) (fun h91 => absurd h91 hi)
                  exact K2 _
              · have hr := K0 (fun z => z.elim (fun z => hd z.1) (fun z => z.1.elim hw hl))
                subst hr
                refine q_iload_n 2 18 dX12_isLog_17 rfl rfl rfl ?_
                refine q_iload_n 1 19 dX12_isLog_18 rfl rfl rfl ?_
                refine q_icmp_ge 102 22 dX12_isLog_19 (by decide) rfl (fun h19 => absurd h19 hlt) (fun h19 => ?_)
                refine q_aload_n 0 23 dX12_isLog_22 rfl rfl rfl ?_
                refine q_getR 0 26 f_X12_19 dX12_isLog_23 rfl rfl rfl rfl ?_
                refine q_iload_n 2 27 dX12_isLog_26 rfl rfl rfl ?_
                refine q_iald 1 k 28 dX12_isLog_27 rfl ⟨rfl, by omega, by decide⟩ rfl ?_
                refine q_bipush 100 30 dX12_isLog_28 bc_100 rfl ?_
                refine q_icmp_ne 37 33 dX12_isLog_30 (by decide) rfl (fun h30 => ?_) (fun h30 => absurd h30 hd)
                refine q_iconst 0 38 dX12_isLog_37 ic_0 rfl ?_
                refine q_istore_n 3 39 (L' := [_, _, _, _]) dX12_isLog_38 rfl (by decide) rfl rfl ?_
                refine q_iload_n 3 40 dX12_isLog_39 rfl rfl rfl ?_
                refine q_if_ne 67 43 dX12_isLog_40 (by decide) rfl (fun h40 => absurd (by decide) h40) (fun h40 => ?_)
                refine q_aload_n 0 44 dX12_isLog_43 rfl rfl rfl ?_
                refine q_getR 0 47 f_X12_19 dX12_isLog_44 rfl rfl rfl rfl ?_
                refine q_iload_n 2 48 dX12_isLog_47 rfl rfl rfl ?_
                refine q_iald 1 k 49 dX12_isLog_48 rfl ⟨rfl, by omega, by decide⟩ rfl ?_
                refine q_bipush 119 51 dX12_isLog_49 bc_119 rfl ?_
                refine q_icmp_eq 67 54 dX12_isLog_51 (by decide) rfl (fun h51 => absurd h51 hw) (fun h51 => ?_)
                refine q_aload_n 0 55 dX12_isLog_54 rfl rfl rfl ?_
                refine q_getR 0 58 f_X12_19 dX12_isLog_55 rfl rfl rfl rfl ?_
                refine q_iload_n 2 59 dX12_isLog_58 rfl rfl rfl ?_
                refine q_iald 1 k 60 dX12_isLog_59 rfl ⟨rfl, by omega, by decide⟩ rfl ?_
                refine q_bipush 108 62 dX12_isLog_60 bc_108 rfl ?_
                refine q_icmp_eq 67 65 dX12_isLog_62 (by decide) rfl (fun h62 => absurd h62 hl) (fun h62 => ?_)
                refine q_iconst 0 66 dX12_isLog_65 ic_0 rfl ?_
                refine q_zreturn dX12_isLog_66 rfl (Or.inl rfl) ?_
                exact pR.rf
      have K1 := K (n / 2) 0 (by omega)
      refine q_iload_n 1 1 dX12_isLog_0 rfl rfl rfl ?_
      refine q_iconst 2 2 dX12_isLog_1 ic_2 rfl ?_
      refine q_irem 3 dX12_isLog_2 (by decide) rfl ?_
      rw [er]
      refine q_iconst 1 4 dX12_isLog_3 ic_1 rfl ?_
      refine q_icmp_eq 13 7 dX12_isLog_4 (by decide) rfl (fun h4 => absurd h4 (by decide)) (fun h4 => ?_)
      refine q_iload_n 1 8 dX12_isLog_7 rfl rfl rfl ?_
      refine q_bipush 60 10 dX12_isLog_8 bc_60 rfl ?_
      refine q_icmp_le 15 13 dX12_isLog_10 (by decide) rfl (fun h10 => ?_) (fun h10 => absurd hle h10)
      refine q_iconst 0 16 dX12_isLog_15 ic_0 rfl ?_
      refine q_istore_n 2 17 (L' := [_, _, _, _]) dX12_isLog_16 rfl (by decide) rfl rfl ?_
      exact K1 _ _ rfl
def hwF (tp : Sc) (k : Nat) : Int32 := if tp k = 119 then 0 else if tp k = 108 then 1 else 2 + tp (k + 1) - 48
theorem p_howOf {l : Launch} {g : Gh} {q : Nat} {A : Nat → Nat} {i tp : Sc} {k : Nat} (hk : k + 1 < 400) : Cp l g yX12_howOf (Cond.code yX12_howOf cX12_howOf 2 (some .int)) 1 [.ref q, .int (nI k)] [(q, ob 12 i (rM A)), (A 5, aI g 400 tp)] (some (.int (hwF tp k))) [(q, ob 12 i (rM A)), (A 5, aI g 400 tp)] := by
  refine ct_of (M := mtX12_howOf) [some (.ref q), some (.int (nI k))] rfl (by decide) (Nat.le_of_ble_eq_true rfl) (fun _ h => h) (fun a => ?_)
  unfold hwF
  refine q_aload_n 0 1 dX12_howOf_0 rfl rfl rfl ?_
  refine q_getR 0 4 f_X12_19 dX12_howOf_1 rfl rfl rfl rfl ?_
  refine q_iload_n 1 5 dX12_howOf_4 rfl rfl rfl ?_
  refine q_iald 1 k 6 dX12_howOf_5 rfl ⟨rfl, by omega, by decide⟩ rfl ?_
  refine q_bipush 119 8 dX12_howOf_6 bc_119 rfl ?_
  refine q_icmp_ne 15 11 dX12_howOf_8 (by decide) rfl (fun hw => ?_) (fun hw => ?_)
  · refine q_aload_n 0 16 dX12_howOf_15 rfl rfl rfl ?_
    refine q_getR 0 19 f_X12_19 dX12_howOf_16 rfl rfl rfl rfl ?_
    refine q_iload_n 1 20 dX12_howOf_19 rfl rfl rfl ?_
    refine q_iald 1 k 21 dX12_howOf_20 rfl ⟨rfl, by omega, by decide⟩ rfl ?_
    refine q_bipush 108 23 dX12_howOf_21 bc_108 rfl ?_
    refine q_icmp_ne 30 26 dX12_howOf_23 (by decide) rfl (fun hl => ?_) (fun hl => ?_)
    · refine q_iconst 2 31 dX12_howOf_30 ic_2 rfl ?_
      refine q_aload_n 0 32 dX12_howOf_31 rfl rfl rfl ?_
      refine q_getR 0 35 f_X12_19 dX12_howOf_32 rfl rfl rfl rfl ?_
      refine q_iload_n 1 36 dX12_howOf_35 rfl rfl rfl ?_
      refine q_iconst 1 37 dX12_howOf_36 ic_1 rfl ?_
      refine q_iadd 38 dX12_howOf_37 rfl ?_
      rw [nI_1]
      refine q_iald 1 (k+1) 39 dX12_howOf_38 rfl ⟨rfl, by omega, by decide⟩ rfl ?_
      refine q_iadd 40 dX12_howOf_39 rfl ?_
      refine q_bipush 48 42 dX12_howOf_40 bc_48 rfl ?_
      refine q_isub 43 dX12_howOf_42 rfl ?_
      refine q_ireturn dX12_howOf_43 rfl ?_
      first
        | (rw [if_neg hw, if_neg hl]; exact pR.rf)
        | (rw [if_neg hw, if_pos hl]; exact pR.rf)
        | (rw [if_pos hw]; exact pR.rf)
    · refine q_iconst 1 27 dX12_howOf_26 ic_1 rfl ?_
      refine q_goto 43 dX12_howOf_27 (by decide) ?_
      refine q_ireturn dX12_howOf_43 rfl ?_
      first
        | (rw [if_neg hw, if_neg hl]; exact pR.rf)
        | (rw [if_neg hw, if_pos hl]; exact pR.rf)
        | (rw [if_pos hw]; exact pR.rf)
  · refine q_iconst 0 12 dX12_howOf_11 ic_0 rfl ?_
    refine q_goto 43 dX12_howOf_12 (by decide) ?_
    refine q_ireturn dX12_howOf_43 rfl ?_
    first
      | (rw [if_neg hw, if_neg hl]; exact pR.rf)
      | (rw [if_neg hw, if_pos hl]; exact pR.rf)
      | (rw [if_pos hw]; exact pR.rf)
theorem hwF_ln {tp : Sc} {k : Nat} (h : lgK tp k) : ¬ hwF tp k < 2 → lnOK (hwF tp k - 2) := by
  intro h2
  unfold hwF at *
  by_cases hw : tp k = 119
  · rw [if_pos hw] at h2; exact absurd (by decide) h2
  · rw [if_neg hw] at h2 ⊢
    by_cases hl : tp k = 108
    · rw [if_pos hl] at h2; exact absurd (by decide) h2
    · rw [if_neg hl] at h2 ⊢
      rcases h with ⟨hd, hi⟩ | ⟨hx, hi⟩
      · have h3 : 48 ≤ tp (k + 1) ∧ tp (k + 1) ≤ 57 := by
          unfold rIn at hi
          by_cases h9 : 48 ≤ tp (k + 1) ∧ tp (k + 1) ≤ 57
          · exact h9
          · rw [if_neg h9] at hi; exact absurd rfl hi
        obtain ⟨j, hj, e⟩ := nat_to (n := 57) (Int32.le_trans (by decide) h3.1) h3.2 (by decide)
        have hj2 : 48 ≤ j := by
          have := h3.1
          rw [e] at this
          exact (nI_leI (a := 48) (by decide) (by omega)).mp this
        rw [e, show (2 : Int32) = nI 2 from by decide, nI_add, show (48 : Int32) = nI 48 from by decide, pk_sub (by omega), pk_sub (by omega)]
        exact ⟨nI_pos' (by omega), nI_le (b := 9) (by omega) (by decide)⟩
      · exact absurd hx (fun z => z.elim hw hl)
theorem lgB_s {tp : Sc} {c k : Nat} (h : ¬ lgB tp (c + 1) k = 0) : lgK tp k ∧ ¬ lgB tp c (k + 2) = 0 := by
  rw [lgB] at h
  by_cases hk : lgK tp k
  · rw [if_pos hk] at h; exact ⟨hk, h⟩
  · rw [if_neg hk] at h; exact absurd rfl h
/-- the log played: 2 if the set was over ahead of a rally, and the state -/
def lgR (m tp : Sc) : Nat → Nat → Sc → Int32 × Sc
  | 0, _, x => (0, x)
  | c + 1, k, x => if rOver m x = 0 then lgR m tp c (k + 2) (rRal m x (hwF tp k)) else (2, x)
theorem lgR_or (m tp : Sc) : ∀ c k x, (lgR m tp c k x).1 = 0 ∨ (lgR m tp c k x).1 = 2
  | 0, _, _ => Or.inl rfl
  | c + 1, k, x => by
    rw [lgR]
    split
    · exact lgR_or m tp c _ _
    · exact Or.inr rfl
def lgT (m tp : Sc) (n : Nat) (wh : Int32) : Int32 := if (lgR m tp (n / 2) 0 (S m)).1 = 0 then (if rIn wh 0 9 = 0 then 3 else 0) else 2
def lgW (m tp : Sc) (n : Nat) (wh : Int32) : Int32 := if lgT m tp n wh = 0 then rTold (lgR m tp (n / 2) 0 (S m)).2 wh.toNatClampNeg else 0
theorem p_log0 {l : Launch} {g : Gh} {q : Nat} {A : Nat → Nat} {i tp : Sc} {n : Nat} {wh : Int32} (hn : n ≤ 400) (h6 : i 6 = nI n) (h0 : lgV tp n = 0) : Cp l g yX12_log (Cond.code yX12_log cX12_log 4 (some .int)) 3 [.ref q, .int wh] [(q, ob 12 i (rM A)), (A 5, aI g 400 tp)] (some (.int 0)) [(q, ob 12 (upd (upd i 6 0) 0 1) (rM A)), (A 5, aI g 400 tp)] := by
  refine ct_of (M := mtX12_log) [some (.ref q), some (.int wh), none, none] rfl (by decide) (Nat.le_of_ble_eq_true rfl) (fun _ h => h) (fun a => ?_)
  refine q_aload_n 0 1 dX12_log_0 rfl rfl rfl ?_
  refine q_getI 0 4 f_X12_74 dX12_log_1 rfl rfl rfl ?_
  rw [h6]
  refine q_istore_n 2 5 (L' := [_, _, _, _]) dX12_log_4 rfl (by decide) rfl rfl ?_
  refine q_aload_n 0 6 dX12_log_5 rfl rfl rfl ?_
  refine q_iconst 0 7 dX12_log_6 ic_0 rfl ?_
  refine q_putI 0 10 (w' := [_, _]) f_X12_74 ft_X12_6 dX12_log_7 rfl rfl rfl rfl ?_
  refine q_aload_n 0 11 dX12_log_10 rfl rfl rfl ?_
  refine q_aload_n 0 12 dX12_log_11 rfl rfl rfl ?_
  refine q_iload_n 2 13 dX12_log_12 rfl rfl rfl ?_
  refine q_cVi 0 [0, 1] [] [0, 1] 16 (wr := []) (w1 := _) (ws' := [_, _]) (p_isLog hn) m_X12_284 dX12_log_13 rfl rfl rfl rfl rfl rfl rfl rfl (by decide) (by decide) (by decide) (by decide) (Nat.le_of_ble_eq_true rfl) (by omega) (by omega) (by omega) rfl ?_
  refine q_if_ne 23 19 dX12_log_16 (by decide) rfl (fun h16 => absurd h0 h16) (fun h16 => ?_)
  refine q_iconst 1 20 dX12_log_19 ic_1 rfl ?_
  refine q_goto 24 dX12_log_20 (by decide) ?_
  refine q_putI 0 27 (w' := [_, _]) f_X12_67 ft_X12_0 dX12_log_24 rfl rfl rfl rfl ?_
  refine q_aload_n 0 28 dX12_log_27 rfl rfl rfl ?_
  refine q_getI 0 31 f_X12_67 dX12_log_28 rfl rfl rfl ?_
  refine q_if_le 36 34 dX12_log_31 (by decide) rfl (fun h31 => absurd h31 (by show ¬ (1 : Int32) ≤ 0; decide)) (fun h31 => ?_)
  refine q_iconst 0 35 dX12_log_34 ic_0 rfl ?_
  refine q_ireturn dX12_log_35 rfl ?_
  exact pR.rf
theorem smK_0 {i j : Sc} {a b : Int32} (h : smK (upd i 0 a) j) : smK (upd i 0 b) (upd j 0 b) := ⟨rfl, h.2.1, h.2.2.1, h.2.2.2.1, h.2.2.2.2⟩
theorem p_log1 {l : Launch} {g : Gh} {q : Nat} {A : Nat → Nat} {i m tp x : Sc} {n : Nat} {wh : Int32} (hH : HOK m) (hV : Val (S m)) (hn : n ≤ 400) (h6 : i 6 = nI n) (h0 : ¬ lgV tp n = 0) :
    Ce l g yX12_log (Cond.code yX12_log cX12_log 4 (some .int)) 5 [.ref q, .int wh] [(q, ob 12 i (rM A)), (A 1, aI g 2616 m), (A 5, aI g 400 tp), (A 16, aI g 9 x)]
      (fun z : Sc × Sc => some (.int (lgW m tp n wh))) (fun z : Sc × Sc => [(q, ob 12 z.1 (rM A)), (A 1, aI g 2616 m), (A 5, aI g 400 tp), (A 16, aI g 9 z.2)]) (fun z : Sc × Sc => smK (upd (upd i 6 0) 0 (lgT m tp n wh)) z.1) := by
  refine ct_of (M := mtX12_log) [some (.ref q), some (.int wh), none, none] rfl (by decide) (Nat.le_of_ble_eq_true rfl) (fun _ h => h) (fun a => ?_)
  have hn60 : n ≤ 60 ∧ n % 2 = 0 ∧ ¬ lgB tp (n / 2) 0 = 0 := by
    unfold lgV at h0
    by_cases h1 : n % 2 = 1
    · rw [if_pos h1] at h0; exact absurd rfl h0
    · rw [if_neg h1] at h0
      by_cases h2 : 60 < n
      · rw [if_pos h2] at h0; exact absurd rfl h0
      · rw [if_neg h2] at h0
        exact ⟨by omega, by omega, h0⟩
  generalize ht : lgT m tp n wh = t9
  generalize hv : lgW m tp n wh = v9
  have hv0 : lgT m tp n wh = 0 → v9 = rTold (lgR m tp (n / 2) 0 (S m)).2 wh.toNatClampNeg := fun h => by rw [← hv]; unfold lgW; rw [if_pos h]
  have hv1 : ¬ lgT m tp n wh = 0 → v9 = 0 := fun h => by rw [← hv]; unfold lgW; rw [if_neg h]
  rw [ht] at hv0 hv1
  unfold lgT at ht
  have K42 : ∀ (c k : Nat), 2 * c + k = n → ∀ (i1 x1 : Sc), Val x1 → ¬ lgB tp c k = 0 → lgR m tp c k x1 = lgR m tp (n / 2) 0 (S m) → smK (upd (upd i 6 0) 0 0) i1 → WPs l g mtX12_log 5 0 0 (pE (fun z : Sc × Sc => some (.int v9)) (fun z : Sc × Sc => [(q, ob 12 z.1 (rM A)), (A 1, aI g 2616 m), (A 5, aI g 400 tp), (A 16, aI g 9 z.2)]) (fun z : Sc × Sc => smK (upd (upd i 6 0) 0 t9) z.1)) noX a 42 [some (.ref q), some (.int wh), some (.int (nI n)), some (.int (nI k))] [] [(q, ob 12 i1 (rM A)), (A 1, aI g 2616 m), (A 5, aI g 400 tp), (A 16, aI g 9 x1)] 0 0 := by
    intro c
    induction c with
    | zero =>
      intro k hk i1 x1 hx hl hr hi
      obtain rfl : k = n := by omega
      have hge : nI k ≤ nI k := Int32.le_refl _
      rw [← hr] at ht hv0
      have hr0 : (lgR m tp 0 k x1).1 = 0 := rfl
      rw [if_pos hr0] at ht
      have e2 : (lgR m tp 0 k x1).2 = x1 := rfl
      rw [e2] at hv0
      by_cases hw : rIn wh 0 9 = 0
      · rw [if_pos hw] at ht
        subst ht
        obtain rfl := hv1 (by decide)
        refine q_iload_n 3 43 dX12_log_42 rfl rfl rfl ?_
        refine q_iload_n 2 44 dX12_log_43 rfl rfl rfl ?_
        refine q_icmp_ge 84 47 dX12_log_44 (by decide) rfl (fun h44 => ?_) (fun h44 => absurd hge h44)
        refine q_aload_n 0 85 dX12_log_84 rfl rfl rfl ?_
        refine q_getI 0 88 f_X12_67 dX12_log_85 rfl rfl rfl ?_
        rw [hi.1]
        refine q_if_ne 106 91 dX12_log_88 (by decide) rfl (fun h88 => absurd rfl h88) (fun h88 => ?_)
        refine q_iload_n 1 92 dX12_log_91 rfl rfl rfl ?_
        refine q_iconst 0 93 dX12_log_92 ic_0 rfl ?_
        refine q_bipush 9 95 dX12_log_93 bc_9 rfl ?_
        refine q_cSi [] [0, 1, 2, 3] [0, 1, 2, 3] 98 (wr := [_, _, _, _]) (w1 := _) (ws' := [_, _, _, _]) c_isIn m_X12_70 dX12_log_95 rfl rfl rfl rfl rfl (by decide) (by decide) (by decide) (by decide) (Nat.le_of_ble_eq_true rfl) (by omega) (by omega) (by omega) rfl ?_
        refine q_if_ne 106 101 dX12_log_98 (by decide) rfl (fun h98 => absurd hw h98) (fun h98 => ?_)
        refine q_aload_n 0 102 dX12_log_101 rfl rfl rfl ?_
        refine q_iconst 3 103 dX12_log_102 ic_3 rfl ?_
        refine q_putI 0 106 (w' := [_, _, _, _]) f_X12_67 ft_X12_0 dX12_log_103 rfl rfl rfl rfl ?_
        refine q_aload_n 0 107 dX12_log_106 rfl rfl rfl ?_
        refine q_getI 0 110 f_X12_67 dX12_log_107 rfl rfl rfl ?_
        refine q_if_le 117 113 dX12_log_110 (by decide) rfl (fun h110 => absurd h110 (by show ¬ (3 : Int32) ≤ 0; decide)) (fun h110 => ?_)
        refine q_iconst 0 114 dX12_log_113 ic_0 rfl ?_
        refine q_goto 122 dX12_log_114 (by decide) ?_
        refine q_ireturn dX12_log_122 rfl ?_
        exact pE.mk (_, _) (smK_0 hi) rfl rfl
      · rw [if_neg hw] at ht
        subst ht
        obtain rfl := hv0 rfl
        have hw9 : 0 ≤ wh ∧ wh ≤ 9 := by
          unfold rIn at hw
          by_cases h9 : 0 ≤ wh ∧ wh ≤ 9
          · exact h9
          · rw [if_neg h9] at hw; exact absurd rfl hw
        obtain ⟨w, hw8, rfl⟩ := nat_to (n := 9) hw9.1 hw9.2 (by decide)
        rw [nI_clamp (by omega)]
        refine q_iload_n 3 43 dX12_log_42 rfl rfl rfl ?_
        refine q_iload_n 2 44 dX12_log_43 rfl rfl rfl ?_
        refine q_icmp_ge 84 47 dX12_log_44 (by decide) rfl (fun h44 => ?_) (fun h44 => absurd hge h44)
        refine q_aload_n 0 85 dX12_log_84 rfl rfl rfl ?_
        refine q_getI 0 88 f_X12_67 dX12_log_85 rfl rfl rfl ?_
        rw [hi.1]
        refine q_if_ne 106 91 dX12_log_88 (by decide) rfl (fun h88 => absurd rfl h88) (fun h88 => ?_)
        refine q_iload_n 1 92 dX12_log_91 rfl rfl rfl ?_
        refine q_iconst 0 93 dX12_log_92 ic_0 rfl ?_
        refine q_bipush 9 95 dX12_log_93 bc_9 rfl ?_
        refine q_cSi [] [0, 1, 2, 3] [0, 1, 2, 3] 98 (wr := [_, _, _, _]) (w1 := _) (ws' := [_, _, _, _]) c_isIn m_X12_70 dX12_log_95 rfl rfl rfl rfl rfl (by decide) (by decide) (by decide) (by decide) (Nat.le_of_ble_eq_true rfl) (by omega) (by omega) (by omega) rfl ?_
        refine q_if_ne 106 101 dX12_log_98 (by decide) rfl (fun h98 => ?_) (fun h98 => absurd h98 hw)
        refine q_aload_n 0 107 dX12_log_106 rfl rfl rfl ?_
        refine q_getI 0 110 f_X12_67 dX12_log_107 rfl rfl rfl ?_
        rw [hi.1]
        refine q_if_le 117 113 dX12_log_110 (by decide) rfl (fun h110 => ?_) (fun h110 => absurd z_le h110)
        refine q_aload_n 0 118 dX12_log_117 rfl rfl rfl ?_
        refine q_iload_n 1 119 dX12_log_118 rfl rfl rfl ?_
        refine q_cVi 0 [0, 3] [1, 2] [2, 0, 1, 3] 122 (wr := [_, _]) (w1 := _) (ws' := [_, _, _, _]) (c_M_told (w := w) rfl (by omega)) m_X12_209 dX12_log_119 rfl rfl rfl rfl rfl rfl rfl rfl (by decide) (by decide) (by decide) (by decide) (Nat.le_of_ble_eq_true rfl) (by omega) (by omega) (by omega) rfl ?_
        refine q_ireturn dX12_log_122 rfl ?_
        exact pE.mk (_, _) hi rfl rfl
    | succ c ih =>
      intro k hk i1 x1 hx hl hr hi
      have hlt : ¬ nI n ≤ nI k := nI_ge (by omega) (by omega)
      obtain ⟨hK, hl2⟩ := lgB_s hl
      rw [lgR] at hr
      by_cases ho : rOver m x1 = 0
      · rw [if_pos ho] at hr
        have K1 := fun i2 h => ih (k + 2) (by omega) i2 (rRal m x1 (hwF tp k)) (Val_rRal hH hx (fun _ h => hwF_ln hK h)) hl2 hr h
        clear ih
        refine q_iload_n 3 43 dX12_log_42 rfl rfl rfl ?_
        refine q_iload_n 2 44 dX12_log_43 rfl rfl rfl ?_
        refine q_icmp_ge 84 47 dX12_log_44 (by decide) rfl (fun h44 => absurd h44 hlt) (fun h44 => ?_)
        refine q_aload_n 0 48 dX12_log_47 rfl rfl rfl ?_
        refine q_getI 0 51 f_X12_67 dX12_log_48 rfl rfl rfl ?_
        rw [hi.1]
        refine q_if_ne 84 54 dX12_log_51 (by decide) rfl (fun h51 => absurd rfl h51) (fun h51 => ?_)
        refine q_aload_n 0 55 dX12_log_54 rfl rfl rfl ?_
        refine q_cVi 0 [0, 1, 3] [2] [1, 2, 0, 3] 58 (wr := [_]) (w1 := _) (ws' := [_, _, _, _]) c_M_isOver m_X12_227 dX12_log_55 rfl rfl rfl rfl rfl rfl rfl rfl (by decide) (by decide) (by decide) (by decide) (Nat.le_of_ble_eq_true rfl) (by omega) (by omega) (by omega) rfl ?_
        refine q_if_eq 69 61 dX12_log_58 (by decide) rfl (fun h58 => ?_) (fun h58 => absurd ho h58)
        refine q_aload_n 0 70 dX12_log_69 rfl rfl rfl ?_
        refine q_aload_n 0 71 dX12_log_70 rfl rfl rfl ?_
        refine q_iload_n 3 72 dX12_log_71 rfl rfl rfl ?_
        refine q_cVi 0 [0, 2] [1, 3] [2, 0, 3, 1] 75 (wr := [_, _]) (w1 := _) (ws' := [_, _, _, _]) (p_howOf (by omega)) m_X12_287 dX12_log_72 rfl rfl rfl rfl rfl rfl rfl rfl (by decide) (by decide) (by decide) (by decide) (Nat.le_of_ble_eq_true rfl) (by omega) (by omega) (by omega) rfl ?_
        refine q_cVv 0 [0, 1, 3] [2] [1, 2, 0, 3] 78 (wr := [_]) (w1 := _) (ws' := [_, _, _, _]) (c_M_rallies hx.2.1) m_X12_230 dX12_log_75 rfl rfl rfl rfl rfl rfl rfl rfl (by decide) (by decide) (by decide) (by decide) (Nat.le_of_ble_eq_true rfl) (by omega) (by omega) (by omega) rfl ?_
        refine q_iinc 3 (nI (k + 2)) 81 (L' := [_, _, _, _]) dX12_log_78 rfl (inc2 (k)) (by decide) rfl rfl ?_
        refine q_goto 42 dX12_log_81 (by decide) ?_
        exact K1 _ (hi.tr (sm2_iRal _ _ _ _).K)
      · rw [if_neg ho] at hr
        rw [← hr] at ht
        rw [if_neg (show ¬ (2 : Int32) = 0 by decide)] at ht
        subst ht
        obtain rfl := hv1 (by decide)
        clear ih
        have hsub : ∀ z : Int32, WPs l g mtX12_log 5 0 0 (pE (fun z : Sc × Sc => some (.int 0)) (fun z : Sc × Sc => [(q, ob 12 z.1 (rM A)), (A 1, aI g 2616 m), (A 5, aI g 400 tp), (A 16, aI g 9 z.2)]) (fun z : Sc × Sc => smK (upd (upd i 6 0) 0 2) z.1)) noX a 42 [some (.ref q), some (.int wh), some (.int (nI n)), some (.int z)] [] [(q, ob 12 (upd i1 0 2) (rM A)), (A 1, aI g 2616 m), (A 5, aI g 400 tp), (A 16, aI g 9 x1)] 0 0 := by
          intro z
          refine q_iload_n 3 43 dX12_log_42 rfl rfl rfl ?_
          refine q_iload_n 2 44 dX12_log_43 rfl rfl rfl ?_
          refine q_icmp_ge 84 47 dX12_log_44 (by decide) rfl (fun h44 => ?_) (fun h44 => ?_)
          · refine q_aload_n 0 85 dX12_log_84 rfl rfl rfl ?_
            refine q_getI 0 88 f_X12_67 dX12_log_85 rfl rfl rfl ?_
            refine q_if_ne 106 91 dX12_log_88 (by decide) rfl (fun h88 => ?_) (fun h88 => absurd h88 (by show ¬ (2 : Int32) = 0; decide))
            refine q_aload_n 0 107 dX12_log_106 rfl rfl rfl ?_
            refine q_getI 0 110 f_X12_67 dX12_log_107 rfl rfl rfl ?_
            refine q_if_le 117 113 dX12_log_110 (by decide) rfl (fun h110 => absurd h110 (by show ¬ (2 : Int32) ≤ 0; decide)) (fun h110 => ?_)
            refine q_iconst 0 114 dX12_log_113 ic_0 rfl ?_
            refine q_goto 122 dX12_log_114 (by decide) ?_
            refine q_ireturn dX12_log_122 rfl ?_
            exact pE.mk (_, _) (smK_0 hi) rfl rfl
          · refine q_aload_n 0 48 dX12_log_47 rfl rfl rfl ?_
            refine q_getI 0 51 f_X12_67 dX12_log_48 rfl rfl rfl ?_
            refine q_if_ne 84 54 dX12_log_51 (by decide) rfl (fun h51 => ?_) (fun h51 => absurd h51 (by show ¬ (2 : Int32) = 0; decide))
            refine q_aload_n 0 85 dX12_log_84 rfl rfl rfl ?_
            refine q_getI 0 88 f_X12_67 dX12_log_85 rfl rfl rfl ?_
            refine q_if_ne 106 91 dX12_log_88 (by decide) rfl (fun h88 => ?_) (fun h88 => absurd h88 (by show ¬ (2 : Int32) = 0; decide))
            refine q_aload_n 0 107 dX12_log_106 rfl rfl rfl ?_
            refine q_getI 0 110 f_X12_67 dX12_log_107 rfl rfl rfl ?_
            refine q_if_le 117 113 dX12_log_110 (by decide) rfl (fun h110 => absurd h110 (by show ¬ (2 : Int32) ≤ 0; decide)) (fun h110 => ?_)
            refine q_iconst 0 114 dX12_log_113 ic_0 rfl ?_
            refine q_goto 122 dX12_log_114 (by decide) ?_
            refine q_ireturn dX12_log_122 rfl ?_
            exact pE.mk (_, _) (smK_0 hi) rfl rfl
        refine q_iload_n 3 43 dX12_log_42 rfl rfl rfl ?_
        refine q_iload_n 2 44 dX12_log_43 rfl rfl rfl ?_
        refine q_icmp_ge 84 47 dX12_log_44 (by decide) rfl (fun h44 => absurd h44 hlt) (fun h44 => ?_)
        refine q_aload_n 0 48 dX12_log_47 rfl rfl rfl ?_
        refine q_getI 0 51 f_X12_67 dX12_log_48 rfl rfl rfl ?_
        rw [hi.1]
        refine q_if_ne 84 54 dX12_log_51 (by decide) rfl (fun h51 => absurd rfl h51) (fun h51 => ?_)
        refine q_aload_n 0 55 dX12_log_54 rfl rfl rfl ?_
        refine q_cVi 0 [0, 1, 3] [2] [1, 2, 0, 3] 58 (wr := [_]) (w1 := _) (ws' := [_, _, _, _]) c_M_isOver m_X12_227 dX12_log_55 rfl rfl rfl rfl rfl rfl rfl rfl (by decide) (by decide) (by decide) (by decide) (Nat.le_of_ble_eq_true rfl) (by omega) (by omega) (by omega) rfl ?_
        refine q_if_eq 69 61 dX12_log_58 (by decide) rfl (fun h58 => absurd h58 ho) (fun h58 => ?_)
        refine q_aload_n 0 62 dX12_log_61 rfl rfl rfl ?_
        refine q_iconst 2 63 dX12_log_62 ic_2 rfl ?_
        refine q_putI 0 66 (w' := [_, _, _, _]) f_X12_67 ft_X12_0 dX12_log_63 rfl rfl rfl rfl ?_
        refine q_goto 78 dX12_log_66 (by decide) ?_
        refine q_iinc 3 (nI (k + 2)) 81 (L' := [_, _, _, _]) dX12_log_78 rfl (inc2 (k)) (by decide) rfl rfl ?_
        refine q_goto 42 dX12_log_81 (by decide) ?_
        exact hsub _
  have K1 := K42 (n / 2) 0 (by omega) (upd (upd i 6 0) 0 0) (S m) hV hn60.2.2 rfl smK.rf
  clear hv0 hv1 ht hv
  refine q_aload_n 0 1 dX12_log_0 rfl rfl rfl ?_
  refine q_getI 0 4 f_X12_74 dX12_log_1 rfl rfl rfl ?_
  rw [h6]
  refine q_istore_n 2 5 (L' := [_, _, _, _]) dX12_log_4 rfl (by decide) rfl rfl ?_
  refine q_aload_n 0 6 dX12_log_5 rfl rfl rfl ?_
  refine q_iconst 0 7 dX12_log_6 ic_0 rfl ?_
  refine q_putI 0 10 (w' := [_, _, _, _]) f_X12_74 ft_X12_6 dX12_log_7 rfl rfl rfl rfl ?_
  refine q_aload_n 0 11 dX12_log_10 rfl rfl rfl ?_
  refine q_aload_n 0 12 dX12_log_11 rfl rfl rfl ?_
  refine q_iload_n 2 13 dX12_log_12 rfl rfl rfl ?_
  refine q_cVi 0 [0, 2] [1, 3] [2, 0, 3, 1] 16 (wr := [_, _]) (w1 := _) (ws' := [_, _, _, _]) (p_isLog hn) m_X12_284 dX12_log_13 rfl rfl rfl rfl rfl rfl rfl rfl (by decide) (by decide) (by decide) (by decide) (Nat.le_of_ble_eq_true rfl) (by omega) (by omega) (by omega) rfl ?_
  refine q_if_ne 23 19 dX12_log_16 (by decide) rfl (fun h16 => ?_) (fun h16 => absurd h16 h0)
  refine q_iconst 0 24 dX12_log_23 ic_0 rfl ?_
  refine q_putI 0 27 (w' := [_, _, _, _]) f_X12_67 ft_X12_0 dX12_log_24 rfl rfl rfl rfl ?_
  refine q_aload_n 0 28 dX12_log_27 rfl rfl rfl ?_
  refine q_getI 0 31 f_X12_67 dX12_log_28 rfl rfl rfl ?_
  refine q_if_le 36 34 dX12_log_31 (by decide) rfl (fun h31 => ?_) (fun h31 => absurd z_le h31)
  refine q_aload_n 0 37 dX12_log_36 rfl rfl rfl ?_
  refine q_cVv 0 [0, 1, 3] [2] [1, 2, 0, 3] 40 (wr := [_]) (w1 := _) (ws' := [_, _, _, _]) c_M_takes m_X12_200 dX12_log_37 rfl rfl rfl rfl rfl rfl rfl rfl (by decide) (by decide) (by decide) (by decide) (Nat.le_of_ble_eq_true rfl) (by omega) (by omega) (by omega) rfl ?_
  refine q_ax 3 (S m) rfl (take_S m _) rfl ?_
  refine q_iconst 0 41 dX12_log_40 ic_0 rfl ?_
  refine q_istore_n 3 42 (L' := [_, _, _, _]) dX12_log_41 rfl (by decide) rfl rfl ?_
  exact K1

