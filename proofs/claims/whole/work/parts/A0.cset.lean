/-! ===== SetOdds ===== -/
abbrev rSO (he fr tb : Nat) : List (Option Nat) := [some he, some fr, some tb]
def ixS (a b c : Nat) : Nat := (a * 7 + b) * 2 + c
theorem c_X9_indexOf {l : Launch} {g : Gh} {a0 b0 c0 : Nat} : Cp l g yX9_indexOf (Cond.code yX9_indexOf cX9_indexOf 3 (some .int)) 1 [.int (nI a0), .int (nI b0), .int (nI c0)] [] (some (.int (nI (ixS a0 b0 c0)))) [] := by
  refine ct_of (M := mtX9_indexOf) [some (.int (nI a0)), some (.int (nI b0)), some (.int (nI c0))] rfl (by decide) (Nat.le_of_ble_eq_true rfl) (fun _ h => h) (fun a => ?_)
  have e : (nI a0 * 7 + nI b0) * 2 + nI c0 = nI (ixS a0 b0 c0) := by rw [show (7 : Int32) = nI 7 by decide, show (2 : Int32) = nI 2 by decide, pk_mul, nI_add, pk_mul, nI_add]; rfl
  refine q_iload_n 0 1 dX9_indexOf_0 rfl rfl rfl ?_
  refine q_bipush 7 3 dX9_indexOf_1 bc_7 rfl ?_
  refine q_imul 4 dX9_indexOf_3 rfl ?_
  refine q_iload_n 1 5 dX9_indexOf_4 rfl rfl rfl ?_
  refine q_iadd 6 dX9_indexOf_5 rfl ?_
  refine q_iconst 2 7 dX9_indexOf_6 ic_2 rfl ?_
  refine q_imul 8 dX9_indexOf_7 rfl ?_
  refine q_iload_n 2 9 dX9_indexOf_8 rfl rfl rfl ?_
  refine q_iadd 10 dX9_indexOf_9 rfl ?_
  rw [e]
  refine q_ireturn dX9_indexOf_10 rfl ?_
  exact pR.rf
/-- the sum of the first w ways -/
def ssS (tf rf : Sc) (b f s : Nat) : Nat → Int64
  | 0 => 0
  | w + 1 => ssS tf rf b f s w + (rf (b + w)).toInt64 * (tf (ixS (f + 1 - w / 2) (s + w / 2) (w % 2))).toInt64 / 1000000000
theorem c_X9_sum {l : Launch} {g : Gh} {q he fr tb ro Nr b f s : Nat} {tf rf : Sc} (hb : b + 4 ≤ Nr) (hN : Nr ≤ 8) (hf : f ≤ 5) (hs : s ≤ 5) : Cp l g yX9_sum (Cond.code yX9_sum cX9_sum 10 (some .int)) 2 [.ref q, .ref ro, .int (nI b), .int (nI f), .int (nI s)] [(q, ob 9 (fun _ => 0) (rSO he fr tb)), (tb, aI g 98 tf), (ro, aI g Nr rf)] (some (.int (ssS tf rf b f s 4).toInt32)) [(q, ob 9 (fun _ => 0) (rSO he fr tb)), (tb, aI g 98 tf), (ro, aI g Nr rf)] := by
  refine ct_of (M := mtX9_sum) [some (.ref q), some (.ref ro), some (.int (nI b)), some (.int (nI f)), some (.int (nI s)), none, none, none, none, none] rfl (by decide) (Nat.le_of_ble_eq_true rfl) (fun _ h => h) (fun a => ?_)
  have K6 : ∀ (c w : Nat) (L8 L9 : Option Value), c + w = 4 → WPs l g mtX9_sum 2 0 0 (pR (some (.int (ssS tf rf b f s 4).toInt32)) [(q, ob 9 (fun _ => 0) (rSO he fr tb)), (tb, aI g 98 tf), (ro, aI g Nr rf)]) noX a 6 [some (.ref q), some (.ref ro), some (.int (nI b)), some (.int (nI f)), some (.int (nI s)), some (.long (ssS tf rf b f s w)), none, some (.int (nI w)), L8, L9] [] [(q, ob 9 (fun _ => 0) (rSO he fr tb)), (tb, aI g 98 tf), (ro, aI g Nr rf)] 0 0 := by
    intro c
    induction c with
    | zero =>
      intro w L8 L9 hw
      obtain rfl : w = 4 := by omega
      generalize ssS tf rf b f s 4 = v
      refine q_iload 7 8 dX9_sum_6 rfl rfl ?_
      refine q_iconst 4 9 dX9_sum_8 ic_4 rfl ?_
      refine q_icmp_ge 69 12 dX9_sum_9 (by decide) rfl (fun h9 => ?_) (fun h9 => absurd (by decide) h9)
      refine q_lload 5 71 dX9_sum_69 rfl rfl ?_
      refine q_l2i 72 dX9_sum_71 rfl ?_
      refine q_ireturn dX9_sum_72 rfl ?_
      exact pR.rf
    | succ c ih =>
      intro w L8 L9 hw
      have hlt : ¬ (4 : Int32) ≤ nI w := nI_ge (b := 4) (by omega) (by decide)
      have K1 := fun L8 L9 => ih (w + 1) L8 L9 (by omega)
      clear ih
      rw [show ssS tf rf b f s (w + 1) = ssS tf rf b f s w + (rf (b + w)).toInt64 * (tf (ixS (f + 1 - w / 2) (s + w / 2) (w % 2))).toInt64 / 1000000000 from rfl] at K1
      generalize ssS tf rf b f s w = v at *
      generalize ssS tf rf b f s 4 = v4 at *
      have e1 : nI w / 2 = nI (w / 2) := nI_div (by decide) (by omega) (by decide) (by decide)
      have e2 : nI w - nI w / 2 * 2 = nI (w % 2) := nI_rem (by decide) (by omega) (by decide) (by decide)
      have h2 : w / 2 ≤ 1 := by omega
      have h3 : w % 2 ≤ 1 := by omega
      have e3 : nI f + 1 - nI (w / 2) = nI (f + 1 - w / 2) := by rw [nI_1, pk_sub (by omega)]
      have e4 : nI s + nI (w / 2) = nI (s + w / 2) := nI_add _ _
      have e5 : nI b + nI w = nI (b + w) := nI_add _ _
      have hx : ixS (f + 1 - w / 2) (s + w / 2) (w % 2) < 98 := by unfold ixS; omega
      generalize hjx : ixS (f + 1 - w / 2) (s + w / 2) (w % 2) = j at *
      generalize hbw : b + w = bw at *
      refine q_iload 7 8 dX9_sum_6 rfl rfl ?_
      refine q_iconst 4 9 dX9_sum_8 ic_4 rfl ?_
      refine q_icmp_ge 69 12 dX9_sum_9 (by decide) rfl (fun h9 => absurd h9 hlt) (fun h9 => ?_)
      refine q_iload 7 14 dX9_sum_12 rfl rfl ?_
      refine q_iconst 2 15 dX9_sum_14 ic_2 rfl ?_
      refine q_idiv 16 dX9_sum_15 (by decide) rfl ?_
      rw [e1]
      refine q_istore 8 18 (L' := [_, _, _, _, _, _, _, _, _, _]) dX9_sum_16 (by decide) rfl rfl ?_
      refine q_aload_n 0 19 dX9_sum_18 rfl rfl rfl ?_
      refine q_getR 0 22 f_X9_18 dX9_sum_19 rfl rfl rfl rfl ?_
      refine q_iload_n 3 23 dX9_sum_22 rfl rfl rfl ?_
      refine q_iconst 1 24 dX9_sum_23 ic_1 rfl ?_
      refine q_iadd 25 dX9_sum_24 rfl ?_
      refine q_iload 8 27 dX9_sum_25 rfl rfl ?_
      refine q_isub 28 dX9_sum_27 rfl ?_
      rw [e3]
      refine q_iload 4 30 dX9_sum_28 rfl rfl ?_
      refine q_iload 8 32 dX9_sum_30 rfl rfl ?_
      refine q_iadd 33 dX9_sum_32 rfl ?_
      rw [e4]
      refine q_iload 7 35 dX9_sum_33 rfl rfl ?_
      refine q_iconst 2 36 dX9_sum_35 ic_2 rfl ?_
      refine q_irem 37 dX9_sum_36 (by decide) rfl ?_
      rw [e2]
      refine q_cSi [] [0, 1, 2] [0, 1, 2] 40 (wr := [_, _, _]) (w1 := _) (ws' := [_, _, _]) c_X9_indexOf m_X9_46 dX9_sum_37 rfl rfl rfl rfl rfl (by decide) (by decide) (by decide) (by decide) (Nat.le_of_ble_eq_true rfl) (by omega) (by omega) (by omega) rfl ?_
      rw [hjx]
      refine q_iald 1 j 41 dX9_sum_40 rfl ⟨rfl, by omega, by decide⟩ rfl ?_
      refine q_istore 9 43 (L' := [_, _, _, _, _, _, _, _, _, _]) dX9_sum_41 (by decide) rfl rfl ?_
      refine q_lload 5 45 dX9_sum_43 rfl rfl ?_
      refine q_aload_n 1 46 dX9_sum_45 rfl rfl rfl ?_
      refine q_iload_n 2 47 dX9_sum_46 rfl rfl rfl ?_
      refine q_iload 7 49 dX9_sum_47 rfl rfl ?_
      refine q_iadd 50 dX9_sum_49 rfl ?_
      refine q_iald 2 bw 51 dX9_sum_50 rfl ⟨e5, by omega, by omega⟩ rfl ?_
      refine q_i2l 52 dX9_sum_51 rfl ?_
      refine q_iload 9 54 dX9_sum_52 rfl rfl ?_
      refine q_i2l 55 dX9_sum_54 rfl ?_
      refine q_lmul 56 dX9_sum_55 rfl ?_
      refine q_ldc2 1000000000 59 k_X9_54 dX9_sum_56 rfl ?_
      refine q_ldiv 60 dX9_sum_59 (by decide) rfl ?_
      refine q_ladd 61 dX9_sum_60 rfl ?_
      refine q_lstore 5 63 (L' := [_, _, _, _, _, _, _, _, _, _]) dX9_sum_61 (by decide) rfl rfl ?_
      refine q_iinc 7 (nI (w + 1)) 66 (L' := [_, _, _, _, _, _, _, _, _, _]) dX9_sum_63 rfl (inc1 (w)) (by decide) rfl rfl ?_
      refine q_goto 6 dX9_sum_66 (by decide) ?_
      exact K1 _ _
  have K1 := fun L8 L9 => K6 4 0 L8 L9 rfl
  rw [show ssS tf rf b f s 0 = 0 from rfl] at K1
  clear K6
  generalize ssS tf rf b f s 4 = v4 at *
  refine q_lconst 0 1 dX9_sum_0 (by decide) rfl ?_
  refine q_lstore 5 3 (L' := [_, _, _, _, _, _, _, _, _, _]) dX9_sum_1 (by decide) rfl rfl ?_
  refine q_iconst 0 4 dX9_sum_3 ic_0 rfl ?_
  refine q_istore 7 6 (L' := [_, _, _, _, _, _, _, _, _, _]) dX9_sum_4 (by decide) rfl rfl ?_
  exact K1 _ _
theorem c_X9_init {l : Launch} {g : Gh} {q : Nat} : Cn l g yX9_init (Cond.code yX9_init cX9_init 1 none) 1 3 110 [.ref q] [(q, ob 9 (fun _ => 0) (List.replicate 3 none))] (fun _ : Nat × Nat × Nat => none) (fun z : Nat × Nat × Nat => [(q, ob 9 (fun _ => 0) (rSO z.1 z.2.1 z.2.2)), (z.1, aI g 4 (fun _ => 0)), (z.2.1, aI g 8 (fun _ => 0)), (z.2.2, aI g 98 (fun _ => 0))]) (fun _ k m => k = 3 ∧ m = 110) := by
  refine ct_of (M := mtX9_init) [some (.ref q)] rfl (by decide) (Nat.le_of_ble_eq_true rfl) (fun _ h => h) (fun a => ?_)
  refine q_aload_n 0 1 dX9_init_0 rfl rfl rfl ?_
  refine q_objInit 4 m_X9_3 dX9_init_1 (Nat.le_of_ble_eq_true rfl) (by decide) rfl ?_
  refine q_aload_n 0 5 dX9_init_4 rfl rfl rfl ?_
  refine q_iconst 4 6 dX9_init_5 ic_4 rfl ?_
  refine q_newI (N := 4) 8 dX9_init_6 rfl (by decide) (by omega) (by omega) rfl (fun q6 => ?_)
  refine q_putRF 0 11 (w' := [_, _]) (r' := [_, _, _]) f_X9_9 ft_X9_0 rfl rfl dX9_init_8 rfl rfl (Nat.le_of_ble_eq_true rfl) rfl rfl rfl rfl rfl ?_
  refine q_aload_n 0 12 dX9_init_11 rfl rfl rfl ?_
  refine q_bipush 8 14 dX9_init_12 bc_8 rfl ?_
  refine q_newI (N := 8) 16 dX9_init_14 rfl (by decide) (by omega) (by omega) rfl (fun q14 => ?_)
  refine q_putRF 0 19 (w' := [_, _, _]) (r' := [_, _, _]) f_X9_15 ft_X9_1 rfl rfl dX9_init_16 rfl rfl (Nat.le_of_ble_eq_true rfl) rfl rfl rfl rfl rfl ?_
  refine q_aload_n 0 20 dX9_init_19 rfl rfl rfl ?_
  refine q_bipush 98 22 dX9_init_20 bc_98 rfl ?_
  refine q_newI (N := 98) 24 dX9_init_22 rfl (by decide) (by omega) (by omega) rfl (fun q22 => ?_)
  refine q_putRF 0 27 (w' := [_, _, _, _]) (r' := [_, _, _]) f_X9_18 ft_X9_2 rfl rfl dX9_init_24 rfl rfl (Nat.le_of_ble_eq_true rfl) rfl rfl rfl rfl rfl ?_
  refine q_return dX9_init_27 rfl ?_
  exact pX.mk (_, _, _) ⟨rfl, rfl⟩ rfl rfl

