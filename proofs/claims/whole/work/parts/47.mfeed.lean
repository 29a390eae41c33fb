/-! ===== feed ===== -/
def fdW (a1 a2 a3 a4 a5 k : Int32) : Int32 := if 4 ≤ k then (if 8 ≤ k then (if 12 ≤ k then (if 16 ≤ k then a5 else a4) else a3) else a2) else a1
def fdB (v k : Int32) : Int32 := (v.toUInt32 >>> ((24 - 8 * (k - k / 4 * 4)).toUInt32 &&& Int32.toUInt32 31)).toInt32 &&& 255
def fdP (tp : Nat → Int32) (a1 a2 a3 a4 a5 : Int32) (t j : Nat) : Nat → Int32 := fun k => if t ≤ k ∧ k < t + j then fdB (fdW a1 a2 a3 a4 a5 (nI (k - t))) (nI (k - t)) else tp k
theorem fdP_0 (tp : Nat → Int32) (a1 a2 a3 a4 a5 : Int32) (t : Nat) : fdP tp a1 a2 a3 a4 a5 t 0 = tp := by
  funext k
  simp only [fdP]
  rw [if_neg (by omega)]
theorem fdP_s (tp : Nat → Int32) (a1 a2 a3 a4 a5 : Int32) (t j : Nat) : upd (fdP tp a1 a2 a3 a4 a5 t j) (t + j) (fdB (fdW a1 a2 a3 a4 a5 (nI j)) (nI j)) = fdP tp a1 a2 a3 a4 a5 t (j + 1) := by
  funext k
  by_cases hk : k = t + j
  · subst hk
    simp only [fdP, upd, if_true]
    rw [if_pos (by omega), show t + j - t = j by omega]
  · simp only [fdP, upd, if_neg hk]
    by_cases h : t ≤ k ∧ k < t + j
    · rw [if_pos h, if_pos (by omega)]
    · rw [if_neg h, if_neg (by omega)]
theorem p_feed0 {l : Launch} {g : Gh} {q : Nat} {A : Nat → Nat} {i tp : Nat → Int32} {a1 a2 a3 a4 a5 : Int32} {t : Nat} (h6 : i 6 = nI t) (ht : t ≤ 400) (hfull : ¬ t + 20 ≤ 400) : Cp l g yX12_feed (Cond.code yX12_feed cX12_feed 8 (some .int)) 1 [.ref q, .int a1, .int a2, .int a3, .int a4, .int a5] [(q, ob 12 (i) (rM A)), (A 5, aI g 400 (tp))] (some (.int (-1))) [(q, ob 12 (upd i 0 0) (rM A)), (A 5, aI g 400 (tp))] := by
  refine ct_of (M := mtX12_feed) [some (.ref q), some (.int a1), some (.int a2), some (.int a3), some (.int a4), some (.int a5), none, none] rfl (by decide) (Nat.le_of_ble_eq_true rfl) (fun _ h => h) (fun a => ?_)
  have h1 : ¬ i 6 + 20 ≤ 400 := by
    rw [h6, show (20 : Int32) = nI 20 from by decide, show (400 : Int32) = nI 400 from by decide, nI_add]
    exact nI_ge (by omega) (by omega)
  refine q_aload_n 0 1 dX12_feed_0 rfl rfl rfl ?_
  refine q_iconst 0 2 dX12_feed_1 ic_0 rfl ?_
  refine q_putI 0 5 (w' := [_, _]) f_X12_67 ft_X12_0 dX12_feed_2 rfl rfl rfl rfl ?_
  refine q_aload_n 0 6 dX12_feed_5 rfl rfl rfl ?_
  refine q_getI 0 9 f_X12_74 dX12_feed_6 rfl rfl rfl ?_
  refine q_bipush 20 11 dX12_feed_9 bc_20 rfl ?_
  refine q_iadd 12 dX12_feed_11 rfl ?_
  refine q_sipush 400 15 dX12_feed_12 sc_400 rfl ?_
  refine q_icmp_le 20 18 dX12_feed_15 (by decide) rfl (fun h15 => absurd h15 h1) (fun h15 => ?_)
  refine q_iconst (-1) 19 dX12_feed_18 ic_m1 rfl ?_
  refine q_ireturn dX12_feed_19 rfl ?_
  exact pR.rf
theorem p_feed1 {l : Launch} {g : Gh} {q : Nat} {A : Nat → Nat} {i tp : Nat → Int32} {a1 a2 a3 a4 a5 : Int32} {t : Nat} (h6 : i 6 = nI t) (ht : t + 20 ≤ 400) : Cp l g yX12_feed (Cond.code yX12_feed cX12_feed 8 (some .int)) 1 [.ref q, .int a1, .int a2, .int a3, .int a4, .int a5] [(q, ob 12 (i) (rM A)), (A 5, aI g 400 (tp))] (some (.int (nI (t + 20)))) [(q, ob 12 (upd (upd i 0 0) 6 (nI (t + 20))) (rM A)), (A 5, aI g 400 (fdP tp a1 a2 a3 a4 a5 t 20))] := by
  refine ct_of (M := mtX12_feed) [some (.ref q), some (.int a1), some (.int a2), some (.int a3), some (.int a4), some (.int a5), none, none] rfl (by decide) (Nat.le_of_ble_eq_true rfl) (fun _ h => h) (fun a => ?_)
  have h1 : i 6 + 20 ≤ 400 := by
    rw [h6, show (20 : Int32) = nI 20 from by decide, show (400 : Int32) = nI 400 from by decide, nI_add]
    exact nI_le (by omega) (by omega)
  have K23 : ∀ (c j : Nat) (z7 : Option Value), c + j = 20 → WPs l g mtX12_feed 1 0 0 (pR (some (.int (nI (t + 20)))) [(q, ob 12 (upd (upd i 0 0) 6 (nI (t + 20))) (rM A)), (A 5, aI g 400 (fdP tp a1 a2 a3 a4 a5 t 20))]) noX a 23 [some (.ref q), some (.int a1), some (.int a2), some (.int a3), some (.int a4), some (.int a5), some (.int (nI j)), z7] [] [(q, ob 12 (upd (upd i 0 0) 6 (nI (t + j))) (rM A)), (A 5, aI g 400 (fdP tp a1 a2 a3 a4 a5 t j))] 0 0 := by
    intro c
    induction c with
    | zero =>
      intro j z7 hj
      obtain rfl : j = 20 := by omega
      refine q_iload 6 25 dX12_feed_23 rfl rfl ?_
      refine q_bipush 20 27 dX12_feed_25 bc_20 rfl ?_
      refine q_icmp_ge 120 30 dX12_feed_27 (by decide) rfl (fun h27 => ?_) (fun h27 => absurd (by decide) h27)
      refine q_aload_n 0 121 dX12_feed_120 rfl rfl rfl ?_
      refine q_getI 0 124 f_X12_74 dX12_feed_121 rfl rfl rfl ?_
      refine q_ireturn dX12_feed_124 rfl ?_
      exact pR.rf
    | succ c ih =>
      intro j z7 hj
      have K76 : ∀ v : Int32, fdW a1 a2 a3 a4 a5 (nI j) = v → WPs l g mtX12_feed 1 0 0 (pR (some (.int (nI (t + 20)))) [(q, ob 12 (upd (upd i 0 0) 6 (nI (t + 20))) (rM A)), (A 5, aI g 400 (fdP tp a1 a2 a3 a4 a5 t 20))]) noX a 76 [some (.ref q), some (.int a1), some (.int a2), some (.int a3), some (.int a4), some (.int a5), some (.int (nI j)), z7] [.int v] [(q, ob 12 (upd (upd i 0 0) 6 (nI (t + j))) (rM A)), (A 5, aI g 400 (fdP tp a1 a2 a3 a4 a5 t j))] 0 0 := by
        intro v hv
        subst hv
        generalize hw : fdW a1 a2 a3 a4 a5 (nI j) = v at *
        refine q_istore 7 78 (L' := [_, _, _, _, _, _, _, _]) dX12_feed_76 (by decide) rfl rfl ?_
        refine q_aload_n 0 79 dX12_feed_78 rfl rfl rfl ?_
        refine q_getR 0 82 f_X12_19 dX12_feed_79 rfl rfl rfl rfl ?_
        refine q_aload_n 0 83 dX12_feed_82 rfl rfl rfl ?_
        refine q_getI 0 86 f_X12_74 dX12_feed_83 rfl rfl rfl ?_
        refine q_iload 7 88 dX12_feed_86 rfl rfl ?_
        refine q_bipush 24 90 dX12_feed_88 bc_24 rfl ?_
        refine q_bipush 8 92 dX12_feed_90 bc_8 rfl ?_
        refine q_iload 6 94 dX12_feed_92 rfl rfl ?_
        refine q_iconst 4 95 dX12_feed_94 ic_4 rfl ?_
        refine q_irem 96 dX12_feed_95 (by decide) rfl ?_
        refine q_imul 97 dX12_feed_96 rfl ?_
        refine q_isub 98 dX12_feed_97 rfl ?_
        refine q_iushr 99 dX12_feed_98 rfl ?_
        refine q_sipush 255 102 dX12_feed_99 sc_255 rfl ?_
        refine q_iand 103 dX12_feed_102 rfl ?_
        refine q_iast 1 (t+j) 104 (w' := [_, _]) dX12_feed_103 rfl ⟨rfl, by omega, by decide⟩ rfl rfl ?_
        refine q_aload_n 0 105 dX12_feed_104 rfl rfl rfl ?_
        refine q_dup 106 dX12_feed_105 rfl rfl ?_
        refine q_getI 0 109 f_X12_74 dX12_feed_106 rfl rfl rfl ?_
        refine q_iconst 1 110 dX12_feed_109 ic_1 rfl ?_
        refine q_iadd 111 dX12_feed_110 rfl ?_
        refine q_putI 0 114 (w' := [_, _]) f_X12_74 ft_X12_6 dX12_feed_111 rfl rfl rfl rfl ?_
        refine q_iinc 6 (nI (j + 1)) 117 (L' := [_, _, _, _, _, _, _, _]) dX12_feed_114 rfl (inc1 (j)) (by decide) rfl rfl ?_
        refine q_goto 23 dX12_feed_117 (by decide) ?_
        rw [upd_upd, show upd (upd i 0 0) 6 (nI (t + j)) 6 + 1 = nI (t + (j + 1)) from nI_1 _, show (v.toUInt32 >>> ((24 - 8 * (nI j - nI j / 4 * 4)).toUInt32 &&& Int32.toUInt32 31)).toInt32 &&& 255 = fdB (fdW a1 a2 a3 a4 a5 (nI j)) (nI j) from by rw [hw]; rfl, fdP_s]
        exact ih (j + 1) _ (by omega)
      refine q_iload 6 25 dX12_feed_23 rfl rfl ?_
      refine q_bipush 20 27 dX12_feed_25 bc_20 rfl ?_
      refine q_icmp_ge 120 30 dX12_feed_27 (by decide) rfl (fun h27 => absurd h27 (nI_ge (a := j) (b := 20) (by omega) (by omega))) (fun h27 => ?_)
      refine q_iload 6 32 dX12_feed_30 rfl rfl ?_
      refine q_iconst 4 33 dX12_feed_32 ic_4 rfl ?_
      refine q_icmp_ge 40 36 dX12_feed_33 (by decide) rfl (fun hz1 => ?_) (fun hz1 => ?_)
      · refine q_iload 6 42 dX12_feed_40 rfl rfl ?_
        refine q_bipush 8 44 dX12_feed_42 bc_8 rfl ?_
        refine q_icmp_ge 51 47 dX12_feed_44 (by decide) rfl (fun hz2 => ?_) (fun hz2 => ?_)
        · refine q_iload 6 53 dX12_feed_51 rfl rfl ?_
          refine q_bipush 12 55 dX12_feed_53 bc_12 rfl ?_
          refine q_icmp_ge 62 58 dX12_feed_55 (by decide) rfl (fun hz3 => ?_) (fun hz3 => ?_)
          · refine q_iload 6 64 dX12_feed_62 rfl rfl ?_
            refine q_bipush 16 66 dX12_feed_64 bc_16 rfl ?_
            refine q_icmp_ge 74 69 dX12_feed_66 (by decide) rfl (fun hz4 => ?_) (fun hz4 => ?_)
            · refine q_iload 5 76 dX12_feed_74 rfl rfl ?_
              first
                | exact K76 _ (if_neg hz1)
                | exact K76 _ ((if_pos hz1).trans (if_neg hz2))
                | exact K76 _ ((if_pos hz1).trans ((if_pos hz2).trans (if_neg hz3)))
                | exact K76 _ ((if_pos hz1).trans ((if_pos hz2).trans ((if_pos hz3).trans (if_neg hz4))))
                | exact K76 _ ((if_pos hz1).trans ((if_pos hz2).trans ((if_pos hz3).trans (if_pos hz4))))
            · refine q_iload 4 71 dX12_feed_69 rfl rfl ?_
              refine q_goto 76 dX12_feed_71 (by decide) ?_
              first
                | exact K76 _ (if_neg hz1)
                | exact K76 _ ((if_pos hz1).trans (if_neg hz2))
                | exact K76 _ ((if_pos hz1).trans ((if_pos hz2).trans (if_neg hz3)))
                | exact K76 _ ((if_pos hz1).trans ((if_pos hz2).trans ((if_pos hz3).trans (if_neg hz4))))
                | exact K76 _ ((if_pos hz1).trans ((if_pos hz2).trans ((if_pos hz3).trans (if_pos hz4))))
          · refine q_iload_n 3 59 dX12_feed_58 rfl rfl rfl ?_
            refine q_goto 76 dX12_feed_59 (by decide) ?_
            first
              | exact K76 _ (if_neg hz1)
              | exact K76 _ ((if_pos hz1).trans (if_neg hz2))
              | exact K76 _ ((if_pos hz1).trans ((if_pos hz2).trans (if_neg hz3)))
              | exact K76 _ ((if_pos hz1).trans ((if_pos hz2).trans ((if_pos hz3).trans (if_neg hz4))))
              | exact K76 _ ((if_pos hz1).trans ((if_pos hz2).trans ((if_pos hz3).trans (if_pos hz4))))
        · refine q_iload_n 2 48 dX12_feed_47 rfl rfl rfl ?_
          refine q_goto 76 dX12_feed_48 (by decide) ?_
          first
            | exact K76 _ (if_neg hz1)
            | exact K76 _ ((if_pos hz1).trans (if_neg hz2))
            | exact K76 _ ((if_pos hz1).trans ((if_pos hz2).trans (if_neg hz3)))
            | exact K76 _ ((if_pos hz1).trans ((if_pos hz2).trans ((if_pos hz3).trans (if_neg hz4))))
            | exact K76 _ ((if_pos hz1).trans ((if_pos hz2).trans ((if_pos hz3).trans (if_pos hz4))))
      · refine q_iload_n 1 37 dX12_feed_36 rfl rfl rfl ?_
        refine q_goto 76 dX12_feed_37 (by decide) ?_
        first
          | exact K76 _ (if_neg hz1)
          | exact K76 _ ((if_pos hz1).trans (if_neg hz2))
          | exact K76 _ ((if_pos hz1).trans ((if_pos hz2).trans (if_neg hz3)))
          | exact K76 _ ((if_pos hz1).trans ((if_pos hz2).trans ((if_pos hz3).trans (if_neg hz4))))
          | exact K76 _ ((if_pos hz1).trans ((if_pos hz2).trans ((if_pos hz3).trans (if_pos hz4))))
  have K0 := K23 20 0 none rfl
  rw [fdP_0, show nI (t + 0) = i 6 from h6.symm, show upd (upd i 0 0) 6 (i 6) = upd i 0 0 from upd_id _ _ rfl] at K0
  refine q_aload_n 0 1 dX12_feed_0 rfl rfl rfl ?_
  refine q_iconst 0 2 dX12_feed_1 ic_0 rfl ?_
  refine q_putI 0 5 (w' := [_, _]) f_X12_67 ft_X12_0 dX12_feed_2 rfl rfl rfl rfl ?_
  refine q_aload_n 0 6 dX12_feed_5 rfl rfl rfl ?_
  refine q_getI 0 9 f_X12_74 dX12_feed_6 rfl rfl rfl ?_
  refine q_bipush 20 11 dX12_feed_9 bc_20 rfl ?_
  refine q_iadd 12 dX12_feed_11 rfl ?_
  refine q_sipush 400 15 dX12_feed_12 sc_400 rfl ?_
  refine q_icmp_le 20 18 dX12_feed_15 (by decide) rfl (fun h15 => ?_) (fun h15 => absurd h1 h15)
  refine q_iconst 0 21 dX12_feed_20 ic_0 rfl ?_
  refine q_istore 6 23 (L' := [_, _, _, _, _, _, _, _]) dX12_feed_21 (by decide) rfl rfl ?_
  exact K0

