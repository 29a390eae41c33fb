/-! ===== even ===== -/
def evT (n ml : Int32) : Int32 := if rIn n 0 30 = 0 ∨ rIn ml 0 500000 = 0 then 1 else 0
theorem p_even0 {l : Launch} {g : Gh} {q : Nat} {A : Nat → Nat} {i : Sc} {n ml : Int32} (h0 : ¬ evT n ml = 0) : Cp l g yX12_even (Cond.code yX12_even cX12_even 7 (some .int)) 3 [.ref q, .int n, .int ml] [(q, ob 12 i (rM A))] (some (.int 0)) [(q, ob 12 (upd i 0 (evT n ml)) (rM A))] := by
  refine ct_of (M := mtX12_even) [some (.ref q), some (.int n), some (.int ml), none, none, none, none] rfl (by decide) (Nat.le_of_ble_eq_true rfl) (fun _ h => h) (fun a => ?_)
  by_cases h1 : rIn n 0 30 = 0
  · rw [show evT n ml = 1 from if_pos (Or.inl h1)]
    refine q_aload_n 0 1 dX12_even_0 rfl rfl rfl ?_
    refine q_iload_n 1 2 dX12_even_1 rfl rfl rfl ?_
    refine q_iconst 0 3 dX12_even_2 ic_0 rfl ?_
    refine q_bipush 30 5 dX12_even_3 bc_30 rfl ?_
    refine q_cSi [] [0] [0] 8 (wr := [_]) (w1 := _) (ws' := [_]) c_isIn m_X12_70 dX12_even_5 rfl rfl rfl rfl rfl (by decide) (by decide) (by decide) (by decide) (Nat.le_of_ble_eq_true rfl) (by omega) (by omega) (by omega) rfl ?_
    refine q_if_eq 22 11 dX12_even_8 (by decide) rfl (fun h8 => ?_) (fun h8 => absurd h1 h8)
    refine q_iconst 1 23 dX12_even_22 ic_1 rfl ?_
    refine q_goto 27 dX12_even_23 (by decide) ?_
    refine q_putI 0 30 (w' := [_]) f_X12_67 ft_X12_0 dX12_even_27 rfl rfl rfl rfl ?_
    refine q_aload_n 0 31 dX12_even_30 rfl rfl rfl ?_
    refine q_getI 0 34 f_X12_67 dX12_even_31 rfl rfl rfl ?_
    refine q_if_le 39 37 dX12_even_34 (by decide) rfl (fun h34 => absurd h34 (by show ¬ (1 : Int32) ≤ 0; decide)) (fun h34 => ?_)
    refine q_iconst 0 38 dX12_even_37 ic_0 rfl ?_
    refine q_ireturn dX12_even_38 rfl ?_
    exact pR.rf
  · by_cases h2 : rIn ml 0 500000 = 0
    · rw [show evT n ml = 1 from if_pos (Or.inr h2)]
      refine q_aload_n 0 1 dX12_even_0 rfl rfl rfl ?_
      refine q_iload_n 1 2 dX12_even_1 rfl rfl rfl ?_
      refine q_iconst 0 3 dX12_even_2 ic_0 rfl ?_
      refine q_bipush 30 5 dX12_even_3 bc_30 rfl ?_
      refine q_cSi [] [0] [0] 8 (wr := [_]) (w1 := _) (ws' := [_]) c_isIn m_X12_70 dX12_even_5 rfl rfl rfl rfl rfl (by decide) (by decide) (by decide) (by decide) (Nat.le_of_ble_eq_true rfl) (by omega) (by omega) (by omega) rfl ?_
      refine q_if_eq 22 11 dX12_even_8 (by decide) rfl (fun h8 => absurd h8 h1) (fun h8 => ?_)
      refine q_iload_n 2 12 dX12_even_11 rfl rfl rfl ?_
      refine q_iconst 0 13 dX12_even_12 ic_0 rfl ?_
      refine q_ldcw 500000 16 k_X12_282 dX12_even_13 rfl ?_
      refine q_cSi [] [0] [0] 19 (wr := [_]) (w1 := _) (ws' := [_]) c_isIn m_X12_70 dX12_even_16 rfl rfl rfl rfl rfl (by decide) (by decide) (by decide) (by decide) (Nat.le_of_ble_eq_true rfl) (by omega) (by omega) (by omega) rfl ?_
      refine q_if_ne 26 22 dX12_even_19 (by decide) rfl (fun h19 => absurd h2 h19) (fun h19 => ?_)
      refine q_iconst 1 23 dX12_even_22 ic_1 rfl ?_
      refine q_goto 27 dX12_even_23 (by decide) ?_
      refine q_putI 0 30 (w' := [_]) f_X12_67 ft_X12_0 dX12_even_27 rfl rfl rfl rfl ?_
      refine q_aload_n 0 31 dX12_even_30 rfl rfl rfl ?_
      refine q_getI 0 34 f_X12_67 dX12_even_31 rfl rfl rfl ?_
      refine q_if_le 39 37 dX12_even_34 (by decide) rfl (fun h34 => absurd h34 (by show ¬ (1 : Int32) ≤ 0; decide)) (fun h34 => ?_)
      refine q_iconst 0 38 dX12_even_37 ic_0 rfl ?_
      refine q_ireturn dX12_even_38 rfl ?_
      exact pR.rf
    · exact absurd (if_neg (fun z => z.elim h1 h2)) h0
theorem evT_0 {n ml : Int32} (h : evT n ml = 0) : ¬ rIn n 0 30 = 0 ∧ ¬ rIn ml 0 500000 = 0 := by
  unfold evT at h
  by_cases h1 : rIn n 0 30 = 0 ∨ rIn ml 0 500000 = 0
  · rw [if_pos h1] at h; exact absurd h (by decide)
  · exact ⟨fun z => h1 (Or.inl z), fun z => h1 (Or.inr z)⟩
def evX (m : Sc) (o g : Int32) : Sc := upd (upd (upd (upd (S m) 0 (-o)) 1 g) 3 0) 6 0
def evN (m : Sc) (o g : Nat) : Nat := (rNum (evX m (nI o) (nI g))).toNatClampNeg
theorem evX_Val {m : Sc} {o g : Nat} (hM : Val (S m)) (ho : o ≤ 3) (hg : g ≤ 3) : Val (evX m (nI o) (nI g)) := by
  refine ⟨hk_fin _ (l4_of ⟨nI_pos' (by omega), nI_le (b := 3) ho (by decide)⟩) _ (l4_of ⟨nI_pos' (by omega), nI_le (b := 3) hg (by decide)⟩), hM.2.1, Or.inl ⟨rfl, rfl⟩⟩
theorem evN_of {m : Sc} {o g : Nat} (hM : Val (S m)) (ho : o ≤ 3) (hg : g ≤ 3) : evN m o g < 15488 ∧ rNum (evX m (nI o) (nI g)) = nI (evN m o g) ∧ ¬ rCan (nI (evN m o g)) = 0 ∧ Alk (U m (nI (evN m o g))) (evX m (nI o) (nI g)) := by
  obtain ⟨j, h1, h2, h3, h4⟩ := num_of (m := m) (evX_Val hM ho hg)
  have e : evN m o g = j := by unfold evN; rw [h2, nI_clamp (by omega)]
  rw [e]
  exact ⟨h1, h2, h3, h4⟩
/-- near enough to a half -/
def evF (v : Int32) : Int32 := if 0 ≤ v - 500000000 then v - 500000000 else -(v - 500000000)
def evI (P : Nat → Nat → Bool) (w : Nat) : Nat → Nat → Int32 → Int32
  | 0, _, e => e
  | c + 1, v, e => if (v ≤ w ∧ w - v ≤ 3) ∧ P (w - v) v = true then nI (10 * (w - v) + v) else evI P w c (v + 1) e
def evO (P : Nat → Nat → Bool) : Nat → Nat → Int32
  | 0, _ => -1
  | c + 1, w => evI P w 4 0 (evO P c (w + 1))
def evP (m R : Sc) (ml : Int32) (o g : Nat) : Bool := decide (evF (R (evN m o g)) ≤ 1000 * ml)
theorem ev_fin : ∀ w : Nat, w < 7 → ∀ v : Nat, v < 4 → (rIn (nI w - nI v) 0 3 = 0 ↔ ¬ (v ≤ w ∧ w - v ≤ 3)) := by decide +kernel
theorem ev10 (o g : Nat) : (10 : Int32) * nI o + nI g = nI (10 * o + g) := by rw [show (10 : Int32) = nI 10 from by decide, pk_mul, nI_add]
theorem p_even1 {l : Launch} {g : Gh} {q : Nat} {A : Nat → Nat} {i m tp fc x st nw ls : Sc} {ml : Int32} {n : Nat} (hM : MOK m) (hn : n ≤ 30) (h0 : evT (nI n) ml = 0) :
    Ce l g yX12_even (Cond.code yX12_even cX12_even 7 (some .int)) 34 [.ref q, .int (nI n), .int ml] [(q, ob 12 i (rM A)), (A 1, aI g 2616 m), (A 5, aI g 400 tp), (A 12, aI g 5 fc), (A 16, aI g 9 x), (A 19, aI g 30976 st), (A 20, aI g 15488 nw), (A 21, aI g 15488 ls)]
      (fun z : Sc × Sc × Sc × Sc × Sc × Sc => some (.int (evO (evP m (plR m (svA m) 0 (-1) n) ml) 7 0))) (fun z : Sc × Sc × Sc × Sc × Sc × Sc => [(q, ob 12 z.1 (rM A)), (A 1, aI g 2616 m), (A 5, aI g 400 tp), (A 12, aI g 5 z.2.1), (A 16, aI g 9 z.2.2.1), (A 19, aI g 30976 z.2.2.2.1), (A 20, aI g 15488 z.2.2.2.2.1), (A 21, aI g 15488 z.2.2.2.2.2)]) (fun z : Sc × Sc × Sc × Sc × Sc × Sc => smK (upd i 0 0) z.1) := by
  refine ct_of (M := mtX12_even) [some (.ref q), some (.int (nI n)), some (.int ml), none, none, none, none] rfl (by decide) (Nat.le_of_ble_eq_true rfl) (fun _ h => h) (fun a => ?_)
  obtain ⟨h1, h2⟩ := evT_0 h0
  have hsv := svA_ok hM.2.2.1 hM.2.2.2
  have K60 : ∀ (i5 fc5 st5 R9 ls5 : Sc) (r : Int32), smK (upd i 0 0) i5 → ∀ (c w : Nat), c + w = 7 → evO (evP m R9 ml) c w = r → ∀ (x5 : Sc) (z4 z5 z6 : Option Value), WPs l g mtX12_even 34 0 0 (pE (fun z : Sc × Sc × Sc × Sc × Sc × Sc => some (.int r)) (fun z : Sc × Sc × Sc × Sc × Sc × Sc => [(q, ob 12 z.1 (rM A)), (A 1, aI g 2616 m), (A 5, aI g 400 tp), (A 12, aI g 5 z.2.1), (A 16, aI g 9 z.2.2.1), (A 19, aI g 30976 z.2.2.2.1), (A 20, aI g 15488 z.2.2.2.2.1), (A 21, aI g 15488 z.2.2.2.2.2)]) (fun z : Sc × Sc × Sc × Sc × Sc × Sc => smK (upd i 0 0) z.1)) noX a 60 [some (.ref q), some (.int (nI n)), some (.int ml), some (.int (nI w)), z4, z5, z6] [] [(q, ob 12 i5 (rM A)), (A 1, aI g 2616 m), (A 5, aI g 400 tp), (A 12, aI g 5 fc5), (A 16, aI g 9 x5), (A 19, aI g 30976 st5), (A 20, aI g 15488 R9), (A 21, aI g 15488 ls5)] 0 0 := by
    intro i5 fc5 st5 R9 ls5 r hi5 c
    induction c with
    | zero =>
      intro w hw hr x5 z4 z5 z6
      obtain rfl : w = 7 := by omega
      have hr : -1 = r := hr
      subst hr
      refine q_iload_n 3 61 dX12_even_60 rfl rfl rfl ?_
      refine q_bipush 6 63 dX12_even_61 bc_6 rfl ?_
      refine q_icmp_gt 187 66 dX12_even_63 (by decide) rfl (fun h63 => ?_) (fun h63 => absurd (by decide) h63)
      refine q_iconst (-1) 188 dX12_even_187 ic_m1 rfl ?_
      refine q_ireturn dX12_even_188 rfl ?_
      exact pE.mk (_, _, _, _, _, _) hi5 rfl rfl
    | succ c ih =>
      intro w hw hr x5 z4 z5 z6
      rw [evO] at hr
      have K69 : ∀ (c9 v : Nat), c9 + v = 4 → evI (evP m R9 ml) w c9 v (evO (evP m R9 ml) c (w + 1)) = r → ∀ (x5 : Sc) (z5 z6 : Option Value), WPs l g mtX12_even 34 0 0 (pE (fun z : Sc × Sc × Sc × Sc × Sc × Sc => some (.int r)) (fun z : Sc × Sc × Sc × Sc × Sc × Sc => [(q, ob 12 z.1 (rM A)), (A 1, aI g 2616 m), (A 5, aI g 400 tp), (A 12, aI g 5 z.2.1), (A 16, aI g 9 z.2.2.1), (A 19, aI g 30976 z.2.2.2.1), (A 20, aI g 15488 z.2.2.2.2.1), (A 21, aI g 15488 z.2.2.2.2.2)]) (fun z : Sc × Sc × Sc × Sc × Sc × Sc => smK (upd i 0 0) z.1)) noX a 69 [some (.ref q), some (.int (nI n)), some (.int ml), some (.int (nI w)), some (.int (nI v)), z5, z6] [] [(q, ob 12 i5 (rM A)), (A 1, aI g 2616 m), (A 5, aI g 400 tp), (A 12, aI g 5 fc5), (A 16, aI g 9 x5), (A 19, aI g 30976 st5), (A 20, aI g 15488 R9), (A 21, aI g 15488 ls5)] 0 0 := by
        intro c9
        induction c9 with
        | zero =>
          intro v hv hr x5 z5 z6
          obtain rfl : v = 4 := by omega
          have K1 := ih (w + 1) (by omega) hr
          clear ih
          refine q_iload 4 71 dX12_even_69 rfl rfl ?_
          refine q_iconst 3 72 dX12_even_71 ic_3 rfl ?_
          refine q_icmp_gt 181 75 dX12_even_72 (by decide) rfl (fun h72 => ?_) (fun h72 => absurd (by decide) h72)
          refine q_iinc 3 (nI (w + 1)) 184 (L' := [_, _, _, _, _, _, _]) dX12_even_181 rfl (inc1 (w)) (by decide) rfl rfl ?_
          refine q_goto 60 dX12_even_184 (by decide) ?_
          exact K1 _ _ _ _
        | succ c9 ih9 =>
          intro v hv hr x5 z5 z6
          rw [evI] at hr
          have hl3 : ¬ (3 : Int32) < nI v := by rw [show (3 : Int32) = nI 3 from by decide]; exact nI_nlt (by omega) (by omega)
          have hef := ev_fin w (by omega) v (by omega)
          by_cases hin : v ≤ w ∧ w - v ≤ 3
          · have hne : ¬ rIn (nI w - nI v) 0 3 = 0 := fun z => hef.mp z hin
            have es : nI w - nI v = nI (w - v) := pk_sub hin.1
            obtain ⟨hb, eb, -, -⟩ := evN_of (m := m) hM.1 hin.2 (show v ≤ 3 by omega)
            have K163 : ∀ (x6 : Sc) (F : Int32), (F ≤ 1000 * ml ↔ evP m R9 ml (w - v) v = true) → WPs l g mtX12_even 34 0 0 (pE (fun z : Sc × Sc × Sc × Sc × Sc × Sc => some (.int r)) (fun z : Sc × Sc × Sc × Sc × Sc × Sc => [(q, ob 12 z.1 (rM A)), (A 1, aI g 2616 m), (A 5, aI g 400 tp), (A 12, aI g 5 z.2.1), (A 16, aI g 9 z.2.2.1), (A 19, aI g 30976 z.2.2.2.1), (A 20, aI g 15488 z.2.2.2.2.1), (A 21, aI g 15488 z.2.2.2.2.2)]) (fun z : Sc × Sc × Sc × Sc × Sc × Sc => smK (upd i 0 0) z.1)) noX a 158 [some (.ref q), some (.int (nI n)), some (.int ml), some (.int (nI w)), some (.int (nI v)), some (.int (nI (w - v))), some (.int (R9 (evN m (w - v) v) - 500000000))] [.int F] [(q, ob 12 i5 (rM A)), (A 1, aI g 2616 m), (A 5, aI g 400 tp), (A 12, aI g 5 fc5), (A 16, aI g 9 x6), (A 19, aI g 30976 st5), (A 20, aI g 15488 R9), (A 21, aI g 15488 ls5)] 0 0 := by
              intro x6 F hF
              by_cases hf : F ≤ 1000 * ml
              · rw [if_pos ⟨hin, hF.mp hf⟩] at hr
                rw [← ev10] at hr
                subst hr
                refine q_sipush 1000 161 dX12_even_158 sc_1000 rfl ?_
                refine q_iload_n 2 162 dX12_even_161 rfl rfl rfl ?_
                refine q_imul 163 dX12_even_162 rfl ?_
                refine q_icmp_gt 175 166 dX12_even_163 (by decide) rfl (fun h163 => absurd h163 (Int32.not_lt.mpr hf)) (fun h163 => ?_)
                refine q_bipush 10 168 dX12_even_166 bc_10 rfl ?_
                refine q_iload 5 170 dX12_even_168 rfl rfl ?_
                refine q_imul 171 dX12_even_170 rfl ?_
                refine q_iload 4 173 dX12_even_171 rfl rfl ?_
                refine q_iadd 174 dX12_even_173 rfl ?_
                refine q_ireturn dX12_even_174 rfl ?_
                exact pE.mk (_, _, _, _, _, _) hi5 rfl rfl
              · rw [if_neg (fun z => hf (hF.mpr z.2))] at hr
                have K1 := ih9 (v + 1) (by omega) hr
                clear ih ih9
                refine q_sipush 1000 161 dX12_even_158 sc_1000 rfl ?_
                refine q_iload_n 2 162 dX12_even_161 rfl rfl rfl ?_
                refine q_imul 163 dX12_even_162 rfl ?_
                refine q_icmp_gt 175 166 dX12_even_163 (by decide) rfl (fun h163 => ?_) (fun h163 => absurd (Int32.not_le.mp hf) h163)
                refine q_iinc 4 (nI (v + 1)) 178 (L' := [_, _, _, _, _, _, _]) dX12_even_175 rfl (inc1 (v)) (by decide) rfl rfl ?_
                refine q_goto 69 dX12_even_178 (by decide) ?_
                exact K1 _ _ _
            have hP : ∀ F : Int32, evF (R9 (evN m (w - v) v)) = F → (F ≤ 1000 * ml ↔ evP m R9 ml (w - v) v = true) := by
              intro F hF
              unfold evP
              rw [hF, decide_eq_true_iff]
            clear ih ih9 hr
            have hx : upd (upd (upd (upd (S m) 0 (-(nI (w - v)))) 1 (nI v)) 3 0) 6 0 = evX m (nI (w - v)) (nI v) := rfl
            generalize evN m (w - v) v = jj at *
            generalize evX m (nI (w - v)) (nI v) = y at *
            refine q_iload 4 71 dX12_even_69 rfl rfl ?_
            refine q_iconst 3 72 dX12_even_71 ic_3 rfl ?_
            refine q_icmp_gt 181 75 dX12_even_72 (by decide) rfl (fun h72 => absurd h72 hl3) (fun h72 => ?_)
            refine q_iload_n 3 76 dX12_even_75 rfl rfl rfl ?_
            refine q_iload 4 78 dX12_even_76 rfl rfl ?_
            refine q_isub 79 dX12_even_78 rfl ?_
            rw [es]
            refine q_istore 5 81 (L' := [_, _, _, _, _, _, _]) dX12_even_79 (by decide) rfl rfl ?_
            refine q_iload 5 83 dX12_even_81 rfl rfl ?_
            refine q_iconst 0 84 dX12_even_83 ic_0 rfl ?_
            refine q_iconst 3 85 dX12_even_84 ic_3 rfl ?_
            refine q_cSi [] [0, 1, 2, 3, 4, 5, 6, 7] [0, 1, 2, 3, 4, 5, 6, 7] 88 (wr := [_, _, _, _, _, _, _, _]) (w1 := _) (ws' := [_, _, _, _, _, _, _, _]) c_isIn m_X12_70 dX12_even_85 rfl rfl rfl rfl rfl (by decide) (by decide) (by decide) (by decide) (Nat.le_of_ble_eq_true rfl) (by omega) (by omega) (by omega) rfl ?_
            refine q_if_ne 94 91 dX12_even_88 (by decide) rfl (fun h88 => ?_) (fun h88 => absurd h88 (es ▸ hne))
            refine q_aload_n 0 95 dX12_even_94 rfl rfl rfl ?_
            refine q_cVv 0 [0, 1, 4] [2, 3, 5, 6, 7] [5, 6, 0, 1, 7, 2, 3, 4] 98 (wr := [_, _, _, _, _]) (w1 := _) (ws' := [_, _, _, _, _, _, _, _]) c_M_takes m_X12_200 dX12_even_95 rfl rfl rfl rfl rfl rfl rfl rfl (by decide) (by decide) (by decide) (by decide) (Nat.le_of_ble_eq_true rfl) (by omega) (by omega) (by omega) rfl ?_
            refine q_ax 4 (S m) rfl (take_S m _) rfl ?_
            refine q_aload_n 0 99 dX12_even_98 rfl rfl rfl ?_
            refine q_getR 0 102 f_X12_29 dX12_even_99 rfl rfl rfl rfl ?_
            refine q_iconst 0 103 dX12_even_102 ic_0 rfl ?_
            refine q_iload 5 105 dX12_even_103 rfl rfl ?_
            refine q_ineg 106 dX12_even_105 rfl ?_
            refine q_iast 4 0 107 (w' := [_, _, _, _, _, _, _, _]) dX12_even_106 rfl ⟨by decide, by decide, by decide⟩ rfl rfl ?_
            refine q_aload_n 0 108 dX12_even_107 rfl rfl rfl ?_
            refine q_getR 0 111 f_X12_29 dX12_even_108 rfl rfl rfl rfl ?_
            refine q_iconst 1 112 dX12_even_111 ic_1 rfl ?_
            refine q_iload 4 114 dX12_even_112 rfl rfl ?_
            refine q_iast 4 1 115 (w' := [_, _, _, _, _, _, _, _]) dX12_even_114 rfl ⟨by decide, by decide, by decide⟩ rfl rfl ?_
            refine q_aload_n 0 116 dX12_even_115 rfl rfl rfl ?_
            refine q_getR 0 119 f_X12_29 dX12_even_116 rfl rfl rfl rfl ?_
            refine q_iconst 3 120 dX12_even_119 ic_3 rfl ?_
            refine q_iconst 0 121 dX12_even_120 ic_0 rfl ?_
            refine q_iast 4 3 122 (w' := [_, _, _, _, _, _, _, _]) dX12_even_121 rfl ⟨by decide, by decide, by decide⟩ rfl rfl ?_
            refine q_aload_n 0 123 dX12_even_122 rfl rfl rfl ?_
            refine q_getR 0 126 f_X12_29 dX12_even_123 rfl rfl rfl rfl ?_
            refine q_bipush 6 128 dX12_even_126 bc_6 rfl ?_
            refine q_iconst 0 129 dX12_even_128 ic_0 rfl ?_
            refine q_iast 4 6 130 (w' := [_, _, _, _, _, _, _, _]) dX12_even_129 rfl ⟨by decide, by decide, by decide⟩ rfl rfl ?_
            rw [hx]
            refine q_aload_n 0 131 dX12_even_130 rfl rfl rfl ?_
            refine q_getR 0 134 f_X12_35 dX12_even_131 rfl rfl rfl rfl ?_
            refine q_aload_n 0 135 dX12_even_134 rfl rfl rfl ?_
            refine q_cVi 0 [0, 4] [1, 2, 3, 5, 6, 7] [6, 0, 1, 2, 7, 3, 4, 5] 138 (wr := [_, _, _, _, _, _]) (w1 := _) (ws' := [_, _, _, _, _, _, _, _]) c_M_number m_X12_242 dX12_even_135 rfl rfl rfl rfl rfl rfl rfl rfl (by decide) (by decide) (by decide) (by decide) (Nat.le_of_ble_eq_true rfl) (by omega) (by omega) (by omega) rfl ?_
            rw [eb]
            refine q_iald 6 jj 139 dX12_even_138 rfl ⟨rfl, by omega, by decide⟩ rfl ?_
            refine q_ldcw 500000000 142 k_X12_283 dX12_even_139 rfl ?_
            refine q_isub 143 dX12_even_142 rfl ?_
            refine q_istore 6 145 (L' := [_, _, _, _, _, _, _]) dX12_even_143 (by decide) rfl rfl ?_
            refine q_iload 6 147 dX12_even_145 rfl rfl ?_
            refine q_if_ge 156 150 dX12_even_147 (by decide) rfl (fun hz => ?_) (fun hz => ?_)
            · refine q_iload 6 158 dX12_even_156 rfl rfl ?_
              first
                | (exact K163 _ _ (hP _ (if_pos hz)))
                | (exact K163 _ _ (hP _ (if_neg hz)))
            · refine q_iload 6 152 dX12_even_150 rfl rfl ?_
              refine q_ineg 153 dX12_even_152 rfl ?_
              refine q_goto 158 dX12_even_153 (by decide) ?_
              first
                | (exact K163 _ _ (hP _ (if_pos hz)))
                | (exact K163 _ _ (hP _ (if_neg hz)))
          · have hne : rIn (nI w - nI v) 0 3 = 0 := hef.mpr hin
            rw [if_neg (fun z => hin z.1)] at hr
            have K1 := ih9 (v + 1) (by omega) hr
            clear ih ih9
            refine q_iload 4 71 dX12_even_69 rfl rfl ?_
            refine q_iconst 3 72 dX12_even_71 ic_3 rfl ?_
            refine q_icmp_gt 181 75 dX12_even_72 (by decide) rfl (fun h72 => absurd h72 hl3) (fun h72 => ?_)
            refine q_iload_n 3 76 dX12_even_75 rfl rfl rfl ?_
            refine q_iload 4 78 dX12_even_76 rfl rfl ?_
            refine q_isub 79 dX12_even_78 rfl ?_
            refine q_istore 5 81 (L' := [_, _, _, _, _, _, _]) dX12_even_79 (by decide) rfl rfl ?_
            refine q_iload 5 83 dX12_even_81 rfl rfl ?_
            refine q_iconst 0 84 dX12_even_83 ic_0 rfl ?_
            refine q_iconst 3 85 dX12_even_84 ic_3 rfl ?_
            refine q_cSi [] [0, 1, 2, 3, 4, 5, 6, 7] [0, 1, 2, 3, 4, 5, 6, 7] 88 (wr := [_, _, _, _, _, _, _, _]) (w1 := _) (ws' := [_, _, _, _, _, _, _, _]) c_isIn m_X12_70 dX12_even_85 rfl rfl rfl rfl rfl (by decide) (by decide) (by decide) (by decide) (Nat.le_of_ble_eq_true rfl) (by omega) (by omega) (by omega) rfl ?_
            refine q_if_ne 94 91 dX12_even_88 (by decide) rfl (fun h88 => absurd hne h88) (fun h88 => ?_)
            refine q_goto 175 dX12_even_91 (by decide) ?_
            refine q_iinc 4 (nI (v + 1)) 178 (L' := [_, _, _, _, _, _, _]) dX12_even_175 rfl (inc1 (v)) (by decide) rfl rfl ?_
            refine q_goto 69 dX12_even_178 (by decide) ?_
            exact K1 _ _ _
      have K1 := K69 4 0 rfl hr
      clear ih
      have hl6 : ¬ (6 : Int32) < nI w := by rw [show (6 : Int32) = nI 6 from by decide]; exact nI_nlt (by omega) (by omega)
      refine q_iload_n 3 61 dX12_even_60 rfl rfl rfl ?_
      refine q_bipush 6 63 dX12_even_61 bc_6 rfl ?_
      refine q_icmp_gt 187 66 dX12_even_63 (by decide) rfl (fun h63 => absurd h63 hl6) (fun h63 => ?_)
      refine q_iconst 0 67 dX12_even_66 ic_0 rfl ?_
      refine q_istore 4 69 (L' := [_, _, _, _, _, _, _]) dX12_even_67 (by decide) rfl rfl ?_
      exact K1 _ _ _
  generalize hr : evO (evP m (plR m (svA m) 0 (-1) n) ml) 7 0 = r at *
  refine q_aload_n 0 1 dX12_even_0 rfl rfl rfl ?_
  refine q_iload_n 1 2 dX12_even_1 rfl rfl rfl ?_
  refine q_iconst 0 3 dX12_even_2 ic_0 rfl ?_
  refine q_bipush 30 5 dX12_even_3 bc_30 rfl ?_
  refine q_cSi [] [0, 1, 2, 3, 4, 5, 6, 7] [0, 1, 2, 3, 4, 5, 6, 7] 8 (wr := [_, _, _, _, _, _, _, _]) (w1 := _) (ws' := [_, _, _, _, _, _, _, _]) c_isIn m_X12_70 dX12_even_5 rfl rfl rfl rfl rfl (by decide) (by decide) (by decide) (by decide) (Nat.le_of_ble_eq_true rfl) (by omega) (by omega) (by omega) rfl ?_
  refine q_if_eq 22 11 dX12_even_8 (by decide) rfl (fun h8 => absurd h8 h1) (fun h8 => ?_)
  refine q_iload_n 2 12 dX12_even_11 rfl rfl rfl ?_
  refine q_iconst 0 13 dX12_even_12 ic_0 rfl ?_
  refine q_ldcw 500000 16 k_X12_282 dX12_even_13 rfl ?_
  refine q_cSi [] [0, 1, 2, 3, 4, 5, 6, 7] [0, 1, 2, 3, 4, 5, 6, 7] 19 (wr := [_, _, _, _, _, _, _, _]) (w1 := _) (ws' := [_, _, _, _, _, _, _, _]) c_isIn m_X12_70 dX12_even_16 rfl rfl rfl rfl rfl (by decide) (by decide) (by decide) (by decide) (Nat.le_of_ble_eq_true rfl) (by omega) (by omega) (by omega) rfl ?_
  refine q_if_ne 26 22 dX12_even_19 (by decide) rfl (fun h19 => ?_) (fun h19 => absurd h19 h2)
  refine q_iconst 0 27 dX12_even_26 ic_0 rfl ?_
  refine q_putI 0 30 (w' := [_, _, _, _, _, _, _, _]) f_X12_67 ft_X12_0 dX12_even_27 rfl rfl rfl rfl ?_
  refine q_aload_n 0 31 dX12_even_30 rfl rfl rfl ?_
  refine q_getI 0 34 f_X12_67 dX12_even_31 rfl rfl rfl ?_
  refine q_if_le 39 37 dX12_even_34 (by decide) rfl (fun h34 => ?_) (fun h34 => absurd z_le h34)
  refine q_aload_n 0 40 dX12_even_39 rfl rfl rfl ?_
  refine q_ax 3 (fz fc) rfl (fz_eq fc) rfl ?_
  refine q_cVv 0 [0, 1, 2, 3, 4, 5] [6, 7] [2, 3, 4, 5, 6, 7, 0, 1] 43 (wr := [_, _]) (w1 := _) (ws' := [_, _, _, _, _, _, _, _]) (p_allStyles hM.2.2.1 hM.2.2.2) m_X12_263 dX12_even_40 rfl rfl rfl rfl rfl rfl rfl rfl (by decide) (by decide) (by decide) (by decide) (Nat.le_of_ble_eq_true rfl) (by omega) (by omega) (by omega) rfl ?_
  have hi5 := alI_K (upd i 0 0) m (fz fc) x 15488
  refine q_ax 5 (svA m) rfl (fun k hk => alS_sv (fz_O fc) 15488 k (by omega)) rfl ?_
  generalize alI (upd i 0 0) m (fz fc) x 15488 = i5 at *
  generalize alF m (fz fc) x 15488 = fc5 at *
  generalize alX m x 15488 = x5 at *
  refine q_aload_n 0 44 dX12_even_43 rfl rfl rfl ?_
  refine q_iconst 0 45 dX12_even_44 ic_0 rfl ?_
  refine q_iconst (-1) 46 dX12_even_45 ic_m1 rfl ?_
  refine q_iload_n 1 47 dX12_even_46 rfl rfl rfl ?_
  refine q_aload_n 0 48 dX12_even_47 rfl rfl rfl ?_
  refine q_getR 0 51 f_X12_35 dX12_even_48 rfl rfl rfl rfl ?_
  refine q_aload_n 0 52 dX12_even_51 rfl rfl rfl ?_
  refine q_getR 0 55 f_X12_38 dX12_even_52 rfl rfl rfl rfl ?_
  refine q_xVv 0 [0, 1, 4, 5, 6, 7] [2, 3] [2, 3, 0, 1, 4, 5, 6, 7] 58 (wr := [_, _]) (w1 := _) (ws' := fun _ => [_, _, _, _, _, _, _, _]) (p_plays0 hn hsv hM.2.1) m_X12_266 dX12_even_55 rfl rfl rfl rfl rfl rfl rfl (fun _ => rfl) (by decide) (by decide) (by decide) (by decide) (Nat.le_of_ble_eq_true rfl) (by omega) (by omega) (by omega) rfl (fun z55 hx55 => ?_)
  obtain ⟨i55, x55, b55⟩ := z55
  dsimp only at hx55 ⊢
  refine q_iconst 0 59 dX12_even_58 ic_0 rfl ?_
  refine q_istore_n 3 60 (L' := [_, _, _, _, _, _, _]) dX12_even_59 rfl (by decide) rfl rfl ?_
  exact K60 _ _ _ _ _ r (hi5.tr hx55.K) 7 0 rfl hr _ _ _ _

