/-! ===== styleOf in one, style ===== -/
/-- the rule that p plays by stands in m -/
def stH (m : Nat → Int32) (p : Nat) : Prop := m (199 + p) = -1 ∨ ∃ r e : Nat, r < 6 ∧ e ≤ 400 ∧ m (199 + p) = nI r ∧ m (210 + 401 * r) = nI e
def soN (m : Nat → Int32) (p : Nat) : Nat := (m (199 + p)).toNatClampNeg
def soE (m : Nat → Int32) (p : Nat) : Nat := (m (210 + 401 * soN m p)).toNatClampNeg
def soR (m fc x : Nat → Int32) (p : Nat) : RLn Int32 := stR m fc x p (soN m p) (soE m p)
def soV (m fc x : Nat → Int32) (p : Nat) : Int32 := if m (199 + p) = -1 then 0 else if (soR m fc x p).2.2 = -1 then 0 else (soR m fc x p).2.2
def soI (i m fc x : Nat → Int32) (p : Nat) : Nat → Int32 := if m (199 + p) = -1 then i else ps (stJ i x p (soN m p) (soE m p)) (soR m fc x p).1 (i 10) 0 (soR m fc x p).2.2
def soF (m fc x : Nat → Int32) (p : Nat) : Nat → Int32 := if m (199 + p) = -1 then fc else stX fc x p
theorem p_styleOf {l : Launch} {g : Gh} {q : Nat} {A : Nat → Nat} {i m tp fc x : Nat → Int32} {p : Nat} (hp : p ≤ 1) (hH : stH m p) : Cp l g yX12_styleOf (Cond.code yX12_styleOf cX12_styleOf 3 (some .int)) 32 [.ref q, .int (nI p)] [(q, ob 12 (i) (rM A)), (A 1, aI g 2616 m), (A 5, aI g 400 tp), (A 12, aI g 5 (fc)), (A 16, aI g 9 (x))] (some (.int (soV m fc x p))) [(q, ob 12 (soI i m fc x p) (rM A)), (A 1, aI g 2616 m), (A 5, aI g 400 tp), (A 12, aI g 5 (soF m fc x p)), (A 16, aI g 9 (x))] := by
  unfold soV soI soF
  by_cases hm : m (199 + p) = -1
  · rw [if_pos hm, if_pos hm, if_pos hm]
    exact p_styleOf0 hp hm
  · rw [if_neg hm, if_neg hm, if_neg hm]
    rcases hH with h | ⟨r, e, hr, he, h1, h2⟩
    · exact absurd h hm
    · have e1 : soN m p = r := by unfold soN; rw [h1, nI_clamp (by omega)]
      have e2 : soE m p = e := by unfold soE; rw [e1, h2, nI_clamp (by omega)]
      refine p_styleOf1 hp (r := soN m p) (e := soE m p) ?_ ?_ ?_ ?_ rfl
      · rw [e1]; exact hr
      · rw [e2]; exact he
      · rw [e1]; exact h1
      · rw [e1, e2]; exact h2
def syT (p : Int32) : Int32 := if rIn p 0 1 = 0 then 1 else 0
theorem p_style0 {l : Launch} {g : Gh} {q : Nat} {A : Nat → Nat} {i m tp fc x : Nat → Int32} {p : Int32} (hp : rIn p 0 1 = 0) : Cp l g yX12_style (Cond.code yX12_style cX12_style 2 (some .int)) 33 [.ref q, .int p] [(q, ob 12 (i) (rM A)), (A 1, aI g 2616 m), (A 5, aI g 400 tp), (A 12, aI g 5 (fc)), (A 16, aI g 9 (x))] (some (.int 0)) [(q, ob 12 (upd i 0 1) (rM A)), (A 1, aI g 2616 m), (A 5, aI g 400 tp), (A 12, aI g 5 (fc)), (A 16, aI g 9 (x))] := by
  refine ct_of (M := mtX12_style) [some (.ref q), some (.int p)] rfl (by decide) (Nat.le_of_ble_eq_true rfl) (fun _ h => h) (fun a => ?_)
  refine q_aload_n 0 1 dX12_style_0 rfl rfl rfl ?_
  refine q_iload_n 1 2 dX12_style_1 rfl rfl rfl ?_
  refine q_cSi [] [0, 1, 2, 3, 4] [0, 1, 2, 3, 4] 5 (wr := [_, _, _, _, _]) (w1 := _) (ws' := [_, _, _, _, _]) c_isPlayer m_X12_197 dX12_style_2 rfl rfl rfl rfl rfl (by decide) (by decide) (by decide) (by decide) (Nat.le_of_ble_eq_true rfl) (by omega) (by omega) (by omega) rfl ?_
  refine q_if_ne 12 8 dX12_style_5 (by decide) rfl (fun h5 => absurd hp h5) (fun h5 => ?_)
  refine q_iconst 1 9 dX12_style_8 ic_1 rfl ?_
  refine q_goto 13 dX12_style_9 (by decide) ?_
  refine q_putI 0 16 (w' := [_, _, _, _, _]) f_X12_67 ft_X12_0 dX12_style_13 rfl rfl rfl rfl ?_
  refine q_aload_n 0 17 dX12_style_16 rfl rfl rfl ?_
  refine q_getI 0 20 f_X12_67 dX12_style_17 rfl rfl rfl ?_
  refine q_if_le 25 23 dX12_style_20 (by decide) rfl (fun h20 => absurd h20 (by show ¬ (1 : Int32) ≤ 0; decide)) (fun h20 => ?_)
  refine q_iconst 0 24 dX12_style_23 ic_0 rfl ?_
  refine q_ireturn dX12_style_24 rfl ?_
  exact pR.rf
theorem p_style1 {l : Launch} {g : Gh} {q : Nat} {A : Nat → Nat} {i m tp fc x : Nat → Int32} {p : Nat} (hp : p ≤ 1) (hH : stH m p) : Cp l g yX12_style (Cond.code yX12_style cX12_style 2 (some .int)) 33 [.ref q, .int (nI p)] [(q, ob 12 (i) (rM A)), (A 1, aI g 2616 m), (A 5, aI g 400 tp), (A 12, aI g 5 (fc)), (A 16, aI g 9 (x))] (some (.int (soV m fc (rTake m x) p))) [(q, ob 12 (soI (upd i 0 0) m fc (rTake m x) p) (rM A)), (A 1, aI g 2616 m), (A 5, aI g 400 tp), (A 12, aI g 5 (soF m fc (rTake m x) p)), (A 16, aI g 9 (rTake m x))] := by
  refine ct_of (M := mtX12_style) [some (.ref q), some (.int (nI p))] rfl (by decide) (Nat.le_of_ble_eq_true rfl) (fun _ h => h) (fun a => ?_)
  have h1 : ¬ rIn (nI p) 0 1 = 0 := by
    have : ∀ p : Fin 2, ¬ rIn (nI p.1) 0 1 = 0 := by decide
    exact this ⟨p, by omega⟩
  refine q_aload_n 0 1 dX12_style_0 rfl rfl rfl ?_
  refine q_iload_n 1 2 dX12_style_1 rfl rfl rfl ?_
  refine q_cSi [] [0, 1, 2, 3, 4] [0, 1, 2, 3, 4] 5 (wr := [_, _, _, _, _]) (w1 := _) (ws' := [_, _, _, _, _]) c_isPlayer m_X12_197 dX12_style_2 rfl rfl rfl rfl rfl (by decide) (by decide) (by decide) (by decide) (Nat.le_of_ble_eq_true rfl) (by omega) (by omega) (by omega) rfl ?_
  refine q_if_ne 12 8 dX12_style_5 (by decide) rfl (fun h5 => ?_) (fun h5 => absurd h5 h1)
  refine q_iconst 0 13 dX12_style_12 ic_0 rfl ?_
  refine q_putI 0 16 (w' := [_, _, _, _, _]) f_X12_67 ft_X12_0 dX12_style_13 rfl rfl rfl rfl ?_
  refine q_aload_n 0 17 dX12_style_16 rfl rfl rfl ?_
  refine q_getI 0 20 f_X12_67 dX12_style_17 rfl rfl rfl ?_
  refine q_if_le 25 23 dX12_style_20 (by decide) rfl (fun h20 => ?_) (fun h20 => absurd (by show (0 : Int32) ≤ 0; decide) h20)
  refine q_aload_n 0 26 dX12_style_25 rfl rfl rfl ?_
  refine q_cVv 0 [0, 1, 4] [2, 3] [2, 3, 0, 1, 4] 29 (wr := [_, _]) (w1 := _) (ws' := [_, _, _, _, _]) c_M_takes m_X12_200 dX12_style_26 rfl rfl rfl rfl rfl rfl rfl rfl (by decide) (by decide) (by decide) (by decide) (Nat.le_of_ble_eq_true rfl) (by omega) (by omega) (by omega) rfl ?_
  refine q_aload_n 0 30 dX12_style_29 rfl rfl rfl ?_
  refine q_iload_n 1 31 dX12_style_30 rfl rfl rfl ?_
  refine q_cVi 0 [0, 1, 2, 3, 4] [] [0, 1, 2, 3, 4] 34 (wr := []) (w1 := _) (ws' := [_, _, _, _, _]) (p_styleOf (p := p) hp hH) m_X12_203 dX12_style_31 rfl rfl rfl rfl rfl rfl rfl rfl (by decide) (by decide) (by decide) (by decide) (Nat.le_of_ble_eq_true rfl) (by omega) (by omega) (by omega) rfl ?_
  refine q_ireturn dX12_style_34 rfl ?_
  exact pR.rf

