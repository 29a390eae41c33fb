/-! ===== allStyles ===== -/
def alX (m x : Nat → Int32) : Nat → (Nat → Int32)
  | 0 => x
  | k + 1 => rUn m (alX m x k) (nI k)
def alF (m fc x : Nat → Int32) : Nat → (Nat → Int32)
  | 0 => fc
  | k + 1 => soF m (soF m (alF m fc x k) (alX m x (k + 1)) 0) (alX m x (k + 1)) 1
def alI (i m fc x : Nat → Int32) : Nat → (Nat → Int32)
  | 0 => i
  | k + 1 => soI (soI (alI i m fc x k) m (alF m fc x k) (alX m x (k + 1)) 0) m (soF m (alF m fc x k) (alX m x (k + 1)) 0) (alX m x (k + 1)) 1
def alS (m fc x st : Nat → Int32) : Nat → (Nat → Int32)
  | 0 => st
  | k + 1 => upd (upd (alS m fc x st k) (2 * k) (soV m (alF m fc x k) (alX m x (k + 1)) 0)) (2 * k + 1) (soV m (soF m (alF m fc x k) (alX m x (k + 1)) 0) (alX m x (k + 1)) 1)
theorem n2k (k : Nat) : (2 : Int32) * nI k = nI (2 * k) := by rw [show (2 : Int32) = nI 2 from by decide, pk_mul]
theorem n15488 : (15488 : Int32) = nI 15488 := by decide
theorem p_allStyles {l : Launch} {g : Gh} {q : Nat} {A : Nat → Nat} {i m tp fc x st : Nat → Int32} (h0 : stH m 0) (h1 : stH m 1) : Cp l g yX12_allStyles (Cond.code yX12_allStyles cX12_allStyles 2 none) 33 [.ref q] [(q, ob 12 (i) (rM A)), (A 1, aI g 2616 m), (A 5, aI g 400 tp), (A 12, aI g 5 (fc)), (A 16, aI g 9 (x)), (A 19, aI g 30976 (st))] none [(q, ob 12 (alI i m fc x 15488) (rM A)), (A 1, aI g 2616 m), (A 5, aI g 400 tp), (A 12, aI g 5 (alF m fc x 15488)), (A 16, aI g 9 (alX m x 15488)), (A 19, aI g 30976 (alS m fc x st 15488))] := by
  refine ct_of (M := mtX12_allStyles) [some (.ref q), none] rfl (by decide) (Nat.le_of_ble_eq_true rfl) (fun _ h => h) (fun a => ?_)
  have K : ∀ (c j : Nat), c + j = 15488 → WPs l g mtX12_allStyles 33 0 0 (pR none [(q, ob 12 (alI i m fc x 15488) (rM A)), (A 1, aI g 2616 m), (A 5, aI g 400 tp), (A 12, aI g 5 (alF m fc x 15488)), (A 16, aI g 9 (alX m x 15488)), (A 19, aI g 30976 (alS m fc x st 15488))]) noX a 2 [some (.ref q), some (.int (nI j))] [] [(q, ob 12 (alI i m fc x j) (rM A)), (A 1, aI g 2616 m), (A 5, aI g 400 tp), (A 12, aI g 5 (alF m fc x j)), (A 16, aI g 9 (alX m x j)), (A 19, aI g 30976 (alS m fc x st j))] 0 0 := by
    intro c
    induction c with
    | zero =>
      intro j hj
      obtain rfl : j = 15488 := by omega
      generalize alI i m fc x 15488 = i9
      generalize alF m fc x 15488 = f9
      generalize alX m x 15488 = x9
      generalize alS m fc x st 15488 = s9
      have hge : (15488 : Int32) ≤ nI 15488 := by decide
      refine q_iload_n 1 3 dX12_allStyles_2 rfl rfl rfl ?_
      refine q_sipush 15488 6 dX12_allStyles_3 sc_15488 rfl ?_
      refine q_icmp_ge 48 9 dX12_allStyles_6 (by decide) rfl (fun h6 => ?_) (fun h6 => absurd hge h6)
      refine q_return dX12_allStyles_48 rfl ?_
      exact pR.rf
    | succ c ih =>
      intro j hj
      have hlt : ¬ (15488 : Int32) ≤ nI j := by rw [n15488]; exact nI_ge (by omega) (by omega)
      have K1 := ih (j + 1) (by omega)
      generalize alI i m fc x 15488 = i9 at *
      generalize alF m fc x 15488 = f9 at *
      generalize alX m x 15488 = x9 at *
      generalize alS m fc x st 15488 = s9 at *
      rw [alI, alF, alS] at K1
      rw [alX] at K1
      generalize alI i m fc x j = i0 at *
      generalize alF m fc x j = f0 at *
      generalize alX m x j = x0 at *
      generalize alS m fc x st j = s0 at *
      clear ih
      refine q_iload_n 1 3 dX12_allStyles_2 rfl rfl rfl ?_
      refine q_sipush 15488 6 dX12_allStyles_3 sc_15488 rfl ?_
      refine q_icmp_ge 48 9 dX12_allStyles_6 (by decide) rfl (fun h6 => absurd h6 hlt) (fun h6 => ?_)
      refine q_aload_n 0 10 dX12_allStyles_9 rfl rfl rfl ?_
      refine q_iload_n 1 11 dX12_allStyles_10 rfl rfl rfl ?_
      refine q_cVv 0 [0, 1, 4] [2, 3, 5] [3, 4, 0, 1, 5, 2] 14 (wr := [_, _, _]) (w1 := _) (ws' := [_, _, _, _, _, _]) c_M_unnumber m_X12_239 dX12_allStyles_11 rfl rfl rfl rfl rfl rfl rfl rfl (by decide) (by decide) (by decide) (by decide) (Nat.le_of_ble_eq_true rfl) (by omega) (by omega) (by omega) rfl ?_
      refine q_aload_n 0 15 dX12_allStyles_14 rfl rfl rfl ?_
      refine q_getR 0 18 f_X12_32 dX12_allStyles_15 rfl rfl rfl rfl ?_
      refine q_iconst 2 19 dX12_allStyles_18 ic_2 rfl ?_
      refine q_iload_n 1 20 dX12_allStyles_19 rfl rfl rfl ?_
      refine q_imul 21 dX12_allStyles_20 rfl ?_
      rw [n2k]
      refine q_aload_n 0 22 dX12_allStyles_21 rfl rfl rfl ?_
      refine q_iconst 0 23 dX12_allStyles_22 ic_0 rfl ?_
      refine q_cVi 0 [0, 1, 2, 3, 4] [5] [1, 2, 3, 4, 5, 0] 26 (wr := [_]) (w1 := _) (ws' := [_, _, _, _, _, _]) (p_styleOf (p := 0) (by omega) h0) m_X12_203 dX12_allStyles_23 rfl rfl rfl rfl rfl rfl rfl rfl (by decide) (by decide) (by decide) (by decide) (Nat.le_of_ble_eq_true rfl) (by omega) (by omega) (by omega) rfl ?_
      refine q_iast 5 (2*j) 27 (w' := [_, _, _, _, _, _]) dX12_allStyles_26 rfl ⟨rfl, by omega, by decide⟩ rfl rfl ?_
      refine q_aload_n 0 28 dX12_allStyles_27 rfl rfl rfl ?_
      refine q_getR 0 31 f_X12_32 dX12_allStyles_28 rfl rfl rfl rfl ?_
      refine q_iconst 2 32 dX12_allStyles_31 ic_2 rfl ?_
      refine q_iload_n 1 33 dX12_allStyles_32 rfl rfl rfl ?_
      refine q_imul 34 dX12_allStyles_33 rfl ?_
      rw [n2k]
      refine q_iconst 1 35 dX12_allStyles_34 ic_1 rfl ?_
      refine q_iadd 36 dX12_allStyles_35 rfl ?_
      rw [nI_1]
      refine q_aload_n 0 37 dX12_allStyles_36 rfl rfl rfl ?_
      refine q_iconst 1 38 dX12_allStyles_37 ic_1 rfl ?_
      refine q_cVi 0 [0, 1, 2, 3, 4] [5] [1, 2, 3, 4, 5, 0] 41 (wr := [_]) (w1 := _) (ws' := [_, _, _, _, _, _]) (p_styleOf (p := 1) (by omega) h1) m_X12_203 dX12_allStyles_38 rfl rfl rfl rfl rfl rfl rfl rfl (by decide) (by decide) (by decide) (by decide) (Nat.le_of_ble_eq_true rfl) (by omega) (by omega) (by omega) rfl ?_
      refine q_iast 5 (2*j+1) 42 (w' := [_, _, _, _, _, _]) dX12_allStyles_41 rfl ⟨rfl, by omega, by decide⟩ rfl rfl ?_
      refine q_iinc 1 (nI (j + 1)) 45 (L' := [_, _]) dX12_allStyles_42 rfl (inc1 (j)) (by decide) rfl rfl ?_
      refine q_goto 2 dX12_allStyles_45 (by decide) ?_
      exact K1
  have K0 := K 15488 0 rfl
  generalize alI i m fc x 15488 = i9 at *
  generalize alF m fc x 15488 = f9 at *
  generalize alX m x 15488 = x9 at *
  generalize alS m fc x st 15488 = s9 at *
  refine q_iconst 0 1 dX12_allStyles_0 ic_0 rfl ?_
  refine q_istore_n 1 2 (L' := [_, _]) dX12_allStyles_1 rfl (by decide) rfl rfl ?_
  exact K0

