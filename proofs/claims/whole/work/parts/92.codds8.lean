/-! ===== Odds: weights ===== -/
def lBN (li : Sc) (c : Int32) : Nat := if c = 0 then (if li 3 = 1 then 1 else 0) else if c < 0 then 2 else 1
theorem lBN_e (li : Sc) (c : Int32) : lBy li c = nI (lBN li c) ∧ lBN li c ≤ 2 := by
  unfold lBy lBN
  by_cases h1 : c = 0
  · rw [if_pos h1, if_pos h1]
    by_cases h2 : li 3 = 1
    · rw [if_pos h2, if_pos h2]; exact ⟨by decide, by decide⟩
    · rw [if_neg h2, if_neg h2]; exact ⟨by decide, by decide⟩
  · rw [if_neg h1, if_neg h1]
    by_cases h2 : c < 0
    · rw [if_pos h2, if_pos h2]; exact ⟨by decide, by decide⟩
    · rw [if_neg h2, if_neg h2]; exact ⟨by decide, by decide⟩
/-- weights while a chase is played off: nobody's, the server's, the striker's -/
def foX (li : Sc) (ln : Int32) (cf : Sc) (fi c : Nat) : Nat → Sc → Sc
  | 0, w => upd (upd (upd w c 0) (4 + c) (cf fi)) (8 + c) (cf (fi + 1))
  | k + 1, w => upd (foX li ln cf fi c k w) (lBN li (iCmp (nI k) ln) * 4 + c) (foX li ln cf fi c k w (lBN li (iCmp (nI k) ln) * 4 + c) + cf (fi + 2 + k))
theorem c_X2_fillOff {l : Launch} {g : Gh} {q la ru so cc fi c : Nat} {r : Nat → Nat} {i wf sf li cf : Sc} (hfi : fi ≤ 180) (hc : c < 4) : Cp l g yX2_fillOff (Cond.code yX2_fillOff cX2_fillOff 6 none) 2 [.ref q, .int (nI fi), .int (nI c)] [(q, ob 2 i (rO r)), (r 3, aI g 48 wf), (r 1, ob 8 sf []), (r 12, ob 10 (fun _ => 0) (rD la ru so)), (la, ob 0 li (rL cc)), (cc, aI g 192 cf)] none [(q, ob 2 i (rO r)), (r 3, aI g 48 (foX li (sf 4) cf fi c 10 wf)), (r 1, ob 8 sf []), (r 12, ob 10 (fun _ => 0) (rD la ru so)), (la, ob 0 li (rL cc)), (cc, aI g 192 cf)] := by
  refine ct_of (M := mtX2_fillOff) [some (.ref q), some (.int (nI fi)), some (.int (nI c)), none, none, none] rfl (by decide) (Nat.le_of_ble_eq_true rfl) (fun _ h => h) (fun a => ?_)
  have K50 : ∀ (f k : Nat) (L5 : Option Value), f + k = 10 → WPs l g mtX2_fillOff 2 0 0 (pR none [(q, ob 2 i (rO r)), (r 3, aI g 48 (foX li (sf 4) cf fi c 10 wf)), (r 1, ob 8 sf []), (r 12, ob 10 (fun _ => 0) (rD la ru so)), (la, ob 0 li (rL cc)), (cc, aI g 192 cf)]) noX a 50 [some (.ref q), some (.int (nI fi)), some (.int (nI c)), some (.ref cc), some (.int (nI k)), L5] [] [(q, ob 2 i (rO r)), (r 3, aI g 48 (foX li (sf 4) cf fi c k wf)), (r 1, ob 8 sf []), (r 12, ob 10 (fun _ => 0) (rD la ru so)), (la, ob 0 li (rL cc)), (cc, aI g 192 cf)] 0 0 := by
    intro f
    induction f with
    | zero =>
      intro k L5 hk
      obtain rfl : k = 10 := by omega
      generalize foX li (sf 4) cf fi c 10 wf = w9
      refine q_iload 4 52 dX2_fillOff_50 rfl rfl ?_
      refine q_bipush 10 54 dX2_fillOff_52 bc_10 rfl ?_
      refine q_icmp_ge 109 57 dX2_fillOff_54 (by decide) rfl (fun h54 => ?_) (fun h54 => absurd (by decide) h54)
      refine q_return dX2_fillOff_109 rfl ?_
      exact pR.rf
    | succ f ih =>
      intro k L5 hk
      have hlt : ¬ (10 : Int32) ≤ nI k := nI_ge (b := 10) (by omega) (by decide)
      have K1 := fun L5 => ih (k + 1) L5 (by omega)
      clear ih
      have hX : foX li (sf 4) cf fi c (k + 1) wf = upd (foX li (sf 4) cf fi c k wf) (lBN li (iCmp (nI k) (sf 4)) * 4 + c) (foX li (sf 4) cf fi c k wf (lBN li (iCmp (nI k) (sf 4)) * 4 + c) + cf (fi + 2 + k)) := rfl
      rw [hX] at K1
      clear hX
      generalize foX li (sf 4) cf fi c k wf = w1 at *
      generalize foX li (sf 4) cf fi c 10 wf = w9 at *
      obtain ⟨hb1, hb2⟩ := lBN_e li (iCmp (nI k) (sf 4))
      generalize lBN li (iCmp (nI k) (sf 4)) = b at *
      have e1 : nI b * 4 + nI c = nI (b * 4 + c) := by rw [show (4 : Int32) = nI 4 by decide, pk_mul, nI_add]
      have e2 : nI fi + 2 + nI k = nI (fi + 2 + k) := by rw [show (2 : Int32) = nI 2 by decide, nI_add, nI_add]
      generalize hj : b * 4 + c = j at *
      generalize hm : fi + 2 + k = m at *
      refine q_iload 4 52 dX2_fillOff_50 rfl rfl ?_
      refine q_bipush 10 54 dX2_fillOff_52 bc_10 rfl ?_
      refine q_icmp_ge 109 57 dX2_fillOff_54 (by decide) rfl (fun h54 => absurd h54 hlt) (fun h54 => ?_)
      refine q_aload_n 0 58 dX2_fillOff_57 rfl rfl rfl ?_
      refine q_getR 0 61 f_X2_56 dX2_fillOff_58 rfl rfl rfl rfl ?_
      refine q_getR 3 64 f_X2_112 dX2_fillOff_61 rfl rfl rfl rfl ?_
      refine q_iload 4 66 dX2_fillOff_64 rfl rfl ?_
      refine q_aload_n 0 67 dX2_fillOff_66 rfl rfl rfl ?_
      refine q_getR 0 70 f_X2_21 dX2_fillOff_67 rfl rfl rfl rfl ?_
      refine q_getI 2 73 f_X2_166 dX2_fillOff_70 rfl rfl rfl ?_
      refine q_cSi [] [0, 1, 2, 3, 4, 5] [0, 1, 2, 3, 4, 5] 76 (wr := [_, _, _, _, _, _]) (w1 := _) (ws' := [_, _, _, _, _, _]) c_J6_compare m_X2_169 dX2_fillOff_73 rfl rfl rfl rfl rfl (by decide) (by decide) (by decide) (by decide) (Nat.le_of_ble_eq_true rfl) (by omega) (by omega) (by omega) rfl ?_
      refine q_cVi 4 [4] [0, 1, 2, 3, 5] [0, 1, 2, 3, 5, 4] 79 (wr := [_, _, _, _, _]) (w1 := _) (ws' := [_, _, _, _, _, _]) c_X0_pointBy m_X2_174 dX2_fillOff_76 rfl rfl rfl rfl rfl rfl rfl rfl (by decide) (by decide) (by decide) (by decide) (Nat.le_of_ble_eq_true rfl) (by omega) (by omega) (by omega) rfl ?_
      rw [hb1]
      refine q_istore 5 81 (L' := [_, _, _, _, _, _]) dX2_fillOff_79 (by decide) rfl rfl ?_
      refine q_aload_n 0 82 dX2_fillOff_81 rfl rfl rfl ?_
      refine q_getR 0 85 f_X2_28 dX2_fillOff_82 rfl rfl rfl rfl ?_
      refine q_iload 5 87 dX2_fillOff_85 rfl rfl ?_
      refine q_iconst 4 88 dX2_fillOff_87 ic_4 rfl ?_
      refine q_imul 89 dX2_fillOff_88 rfl ?_
      refine q_iload_n 2 90 dX2_fillOff_89 rfl rfl rfl ?_
      refine q_iadd 91 dX2_fillOff_90 rfl ?_
      rw [e1]
      refine q_dup2 92 dX2_fillOff_91 rfl rfl rfl ?_
      refine q_iald 1 j 93 dX2_fillOff_92 rfl ⟨rfl, by omega, by decide⟩ rfl ?_
      refine q_aload_n 3 94 dX2_fillOff_93 rfl rfl rfl ?_
      refine q_iload_n 1 95 dX2_fillOff_94 rfl rfl rfl ?_
      refine q_iconst 2 96 dX2_fillOff_95 ic_2 rfl ?_
      refine q_iadd 97 dX2_fillOff_96 rfl ?_
      refine q_iload 4 99 dX2_fillOff_97 rfl rfl ?_
      refine q_iadd 100 dX2_fillOff_99 rfl ?_
      refine q_iald 5 m 101 dX2_fillOff_100 rfl ⟨e2, by omega, by decide⟩ rfl ?_
      refine q_iadd 102 dX2_fillOff_101 rfl ?_
      refine q_iast 1 j 103 (w' := [_, _, _, _, _, _]) dX2_fillOff_102 rfl ⟨rfl, by omega, by decide⟩ rfl rfl ?_
      refine q_iinc 4 (nI (k + 1)) 106 (L' := [_, _, _, _, _, _]) dX2_fillOff_103 rfl (inc1 (k)) (by decide) rfl rfl ?_
      refine q_goto 50 dX2_fillOff_106 (by decide) ?_
      exact K1 _
  have K1 := fun L5 => K50 10 0 L5 rfl
  have hX : foX li (sf 4) cf fi c 0 wf = upd (upd (upd wf c 0) (4 + c) (cf fi)) (8 + c) (cf (fi + 1)) := rfl
  rw [hX] at K1
  clear K50 hX
  generalize foX li (sf 4) cf fi c 10 wf = w9 at *
  have e0 : (0 : Int32) + nI c = nI c := by rw [show (0 : Int32) = nI 0 by decide, nI_add, Nat.zero_add]
  have e4 : (4 : Int32) + nI c = nI (4 + c) := by rw [show (4 : Int32) = nI 4 by decide, nI_add]
  have e8 : (8 : Int32) + nI c = nI (8 + c) := by rw [show (8 : Int32) = nI 8 by decide, nI_add]
  have ef0 : nI fi + 0 = nI fi := by rw [show (0 : Int32) = nI 0 by decide, nI_add, Nat.add_zero]
  have ef1 : nI fi + 1 = nI (fi + 1) := nI_1 fi
  generalize hj4 : 4 + c = j4 at *
  generalize hj8 : 8 + c = j8 at *
  generalize hf1 : fi + 1 = f1 at *
  refine q_aload_n 0 1 dX2_fillOff_0 rfl rfl rfl ?_
  refine q_getR 0 4 f_X2_56 dX2_fillOff_1 rfl rfl rfl rfl ?_
  refine q_getR 3 7 f_X2_112 dX2_fillOff_4 rfl rfl rfl rfl ?_
  refine q_getR 4 10 f_X2_161 dX2_fillOff_7 rfl rfl rfl rfl ?_
  refine q_astore_n 3 11 (L' := [_, _, _, _, _, _]) dX2_fillOff_10 rfl (by decide) rfl rfl ?_
  refine q_aload_n 0 12 dX2_fillOff_11 rfl rfl rfl ?_
  refine q_getR 0 15 f_X2_28 dX2_fillOff_12 rfl rfl rfl rfl ?_
  refine q_iconst 0 16 dX2_fillOff_15 ic_0 rfl ?_
  refine q_iload_n 2 17 dX2_fillOff_16 rfl rfl rfl ?_
  refine q_iadd 18 dX2_fillOff_17 rfl ?_
  refine q_iconst 0 19 dX2_fillOff_18 ic_0 rfl ?_
  refine q_iast 1 c 20 (w' := [_, _, _, _, _, _]) dX2_fillOff_19 rfl ⟨e0, by omega, by decide⟩ rfl rfl ?_
  refine q_aload_n 0 21 dX2_fillOff_20 rfl rfl rfl ?_
  refine q_getR 0 24 f_X2_28 dX2_fillOff_21 rfl rfl rfl rfl ?_
  refine q_iconst 4 25 dX2_fillOff_24 ic_4 rfl ?_
  refine q_iload_n 2 26 dX2_fillOff_25 rfl rfl rfl ?_
  refine q_iadd 27 dX2_fillOff_26 rfl ?_
  refine q_aload_n 3 28 dX2_fillOff_27 rfl rfl rfl ?_
  refine q_iload_n 1 29 dX2_fillOff_28 rfl rfl rfl ?_
  refine q_iconst 0 30 dX2_fillOff_29 ic_0 rfl ?_
  refine q_iadd 31 dX2_fillOff_30 rfl ?_
  refine q_iald 5 fi 32 dX2_fillOff_31 rfl ⟨ef0, by omega, by decide⟩ rfl ?_
  refine q_iast 1 j4 33 (w' := [_, _, _, _, _, _]) dX2_fillOff_32 rfl ⟨e4, by omega, by decide⟩ rfl rfl ?_
  refine q_aload_n 0 34 dX2_fillOff_33 rfl rfl rfl ?_
  refine q_getR 0 37 f_X2_28 dX2_fillOff_34 rfl rfl rfl rfl ?_
  refine q_bipush 8 39 dX2_fillOff_37 bc_8 rfl ?_
  refine q_iload_n 2 40 dX2_fillOff_39 rfl rfl rfl ?_
  refine q_iadd 41 dX2_fillOff_40 rfl ?_
  refine q_aload_n 3 42 dX2_fillOff_41 rfl rfl rfl ?_
  refine q_iload_n 1 43 dX2_fillOff_42 rfl rfl rfl ?_
  refine q_iconst 1 44 dX2_fillOff_43 ic_1 rfl ?_
  refine q_iadd 45 dX2_fillOff_44 rfl ?_
  refine q_iald 5 f1 46 dX2_fillOff_45 rfl ⟨ef1, by omega, by decide⟩ rfl ?_
  refine q_iast 1 j8 47 (w' := [_, _, _, _, _, _]) dX2_fillOff_46 rfl ⟨e8, by omega, by decide⟩ rfl rfl ?_
  refine q_iconst 0 48 dX2_fillOff_47 ic_0 rfl ?_
  refine q_istore 4 50 (L' := [_, _, _, _, _, _]) dX2_fillOff_48 (by decide) rfl rfl ?_
  exact K1 _
def fwP (cf : Sc) (fi c : Nat) : Nat → Sc → Sc
  | 0, w => w
  | o + 1, w => upd (fwP cf fi c o w) (o * 4 + c) (cf (fi + o))
def fwC (off : Int32) (li : Sc) (ln : Int32) (cf : Sc) (fi c : Nat) (w : Sc) : Sc := if off = 0 then fwP cf fi c 12 w else foX li ln cf fi c 10 w
/-- weights by choice -/
def fwL (off : Int32) (li : Sc) (ln : Int32) (cf : Sc) (pB st : Nat) : Nat → Sc → Sc
  | 0, w => w
  | c + 1, w => fwC off li ln cf ((pB + c * st) * 12) c (fwL off li ln cf pB st c w)
def fwB (ch sv : Int32) (p : Nat) : Nat := if ch = -1 then p else if ch = sv then p % 4 else p - p % 4
def fwS (ch sv : Int32) : Nat := if ch = -1 then 0 else if ch = sv then 4 else 1
theorem c_X2_fillWeights {l : Launch} {g : Gh} {q la ru so cc ch p : Nat} {r : Nat → Nat} {i wf sf li cf : Sc} (hi : i 9 = nI ch) (hch : i 10 = -1 ∧ ch = 1 ∨ ¬ i 10 = -1 ∧ ch = 4) (hp : p < 16) : Cp l g yX2_fillWeights (Cond.code yX2_fillWeights cX2_fillWeights 7 none) 3 [.ref q, .int (nI p)] [(q, ob 2 i (rO r)), (r 3, aI g 48 wf), (r 1, ob 8 sf []), (r 12, ob 10 (fun _ => 0) (rD la ru so)), (la, ob 0 li (rL cc)), (cc, aI g 192 cf)] none [(q, ob 2 i (rO r)), (r 3, aI g 48 (fwL (sf 6) li (sf 4) cf (fwB (i 10) (sf 2) p) (fwS (i 10) (sf 2)) ch wf)), (r 1, ob 8 sf []), (r 12, ob 10 (fun _ => 0) (rD la ru so)), (la, ob 0 li (rL cc)), (cc, aI g 192 cf)] := by
  refine ct_of (M := mtX2_fillWeights) [some (.ref q), some (.int (nI p)), none, none, none, none, none] rfl (by decide) (Nat.le_of_ble_eq_true rfl) (fun _ h => h) (fun a => ?_)
  have K64 : ∀ (pB st : Nat), (pB + 3 * st < 16 ∨ pB < 16 ∧ ch = 1) → st ≤ 4 → ∀ (f c : Nat) (L5 L6 : Option Value), f + c = ch → WPs l g mtX2_fillWeights 3 0 0 (pR none [(q, ob 2 i (rO r)), (r 3, aI g 48 (fwL (sf 6) li (sf 4) cf pB st ch wf)), (r 1, ob 8 sf []), (r 12, ob 10 (fun _ => 0) (rD la ru so)), (la, ob 0 li (rL cc)), (cc, aI g 192 cf)]) noX a 64 [some (.ref q), some (.int (nI p)), some (.int (nI pB)), some (.int (nI st)), some (.int (nI c)), L5, L6] [] [(q, ob 2 i (rO r)), (r 3, aI g 48 (fwL (sf 6) li (sf 4) cf pB st c wf)), (r 1, ob 8 sf []), (r 12, ob 10 (fun _ => 0) (rD la ru so)), (la, ob 0 li (rL cc)), (cc, aI g 192 cf)] 0 0 := by
    intro pB st hpb hst f
    induction f with
    | zero =>
      intro c L5 L6 hc
      obtain rfl : c = ch := by omega
      have hge : i 9 ≤ nI c := by rw [hi]; exact Int32.le_refl _
      generalize fwL (sf 6) li (sf 4) cf pB st c wf = w9 at *
      refine q_iload 4 66 dX2_fillWeights_64 rfl rfl ?_
      refine q_aload_n 0 67 dX2_fillWeights_66 rfl rfl rfl ?_
      refine q_getI 0 70 f_X2_67 dX2_fillWeights_67 rfl rfl rfl ?_
      refine q_icmp_ge 155 73 dX2_fillWeights_70 (by decide) rfl (fun h70 => ?_) (fun h70 => absurd hge h70)
      refine q_return dX2_fillWeights_155 rfl ?_
      exact pR.rf
    | succ f ih =>
      intro c L5 L6 hc
      have hlt : ¬ i 9 ≤ nI c := by rw [hi]; exact nI_ge (by omega) (by omega)
      have K1 := fun L5 L6 => ih (c + 1) L5 L6 (by omega)
      clear ih
      have hX : fwL (sf 6) li (sf 4) cf pB st (c + 1) wf = fwC (sf 6) li (sf 4) cf ((pB + c * st) * 12) c (fwL (sf 6) li (sf 4) cf pB st c wf) := rfl
      rw [hX] at K1
      clear hX
      generalize fwL (sf 6) li (sf 4) cf pB st c wf = w1 at *
      generalize fwL (sf 6) li (sf 4) cf pB st ch wf = w9 at *
      have hc3 : c ≤ 3 := by omega
      have hcs : pB + c * st ≤ 15 := by
        rcases hpb with h | ⟨h, h1⟩
        · have : c * st ≤ 3 * st := Nat.mul_le_mul_right _ hc3
          omega
        · have h0 : c = 0 := by omega
          rw [h0, Nat.zero_mul]; omega
      have e12 : (nI pB + nI c * nI st) * 12 = nI ((pB + c * st) * 12) := by rw [show (12 : Int32) = nI 12 by decide, pk_mul, nI_add, pk_mul]
      generalize hfi : (pB + c * st) * 12 = fi at *
      have hfi2 : fi ≤ 180 := by omega
      by_cases hoff : sf 6 = 0
      · have hfc : fwC (sf 6) li (sf 4) cf fi c w1 = fwP cf fi c 12 w1 := if_pos hoff
        rw [hfc] at K1
        have K108 : ∀ (f o : Nat), f + o = 12 → WPs l g mtX2_fillWeights 3 0 0 (pR none [(q, ob 2 i (rO r)), (r 3, aI g 48 w9), (r 1, ob 8 sf []), (r 12, ob 10 (fun _ => 0) (rD la ru so)), (la, ob 0 li (rL cc)), (cc, aI g 192 cf)]) noX a 108 [some (.ref q), some (.int (nI p)), some (.int (nI pB)), some (.int (nI st)), some (.int (nI c)), some (.int (nI fi)), some (.int (nI o))] [] [(q, ob 2 i (rO r)), (r 3, aI g 48 (fwP cf fi c o w1)), (r 1, ob 8 sf []), (r 12, ob 10 (fun _ => 0) (rD la ru so)), (la, ob 0 li (rL cc)), (cc, aI g 192 cf)] 0 0 := by
          intro f
          induction f with
          | zero =>
            intro o ho
            obtain rfl : o = 12 := by omega
            generalize fwP cf fi c 12 w1 = w2 at *
            refine q_iload 6 110 dX2_fillWeights_108 rfl rfl ?_
            refine q_bipush 12 112 dX2_fillWeights_110 bc_12 rfl ?_
            refine q_icmp_ge 149 115 dX2_fillWeights_112 (by decide) rfl (fun h112 => ?_) (fun h112 => absurd (by decide) h112)
            refine q_iinc 4 (nI (c + 1)) 152 (L' := [_, _, _, _, _, _, _]) dX2_fillWeights_149 rfl (inc1 (c)) (by decide) rfl rfl ?_
            refine q_goto 64 dX2_fillWeights_152 (by decide) ?_
            exact K1 _ _
          | succ f ih =>
            intro o ho
            have hlo : ¬ (12 : Int32) ≤ nI o := nI_ge (b := 12) (by omega) (by decide)
            have K2 := ih (o + 1) (by omega)
            clear ih K1
            rw [show fwP cf fi c (o + 1) w1 = upd (fwP cf fi c o w1) (o * 4 + c) (cf (fi + o)) from rfl] at K2
            generalize fwP cf fi c o w1 = w2 at *
            have e1 : nI o * 4 + nI c = nI (o * 4 + c) := by rw [show (4 : Int32) = nI 4 by decide, pk_mul, nI_add]
            have e2 : nI fi + nI o = nI (fi + o) := nI_add _ _
            generalize hj : o * 4 + c = j at *
            generalize hm : fi + o = m at *
            refine q_iload 6 110 dX2_fillWeights_108 rfl rfl ?_
            refine q_bipush 12 112 dX2_fillWeights_110 bc_12 rfl ?_
            refine q_icmp_ge 149 115 dX2_fillWeights_112 (by decide) rfl (fun h112 => absurd h112 hlo) (fun h112 => ?_)
            refine q_aload_n 0 116 dX2_fillWeights_115 rfl rfl rfl ?_
            refine q_getR 0 119 f_X2_28 dX2_fillWeights_116 rfl rfl rfl rfl ?_
            refine q_iload 6 121 dX2_fillWeights_119 rfl rfl ?_
            refine q_iconst 4 122 dX2_fillWeights_121 ic_4 rfl ?_
            refine q_imul 123 dX2_fillWeights_122 rfl ?_
            refine q_iload 4 125 dX2_fillWeights_123 rfl rfl ?_
            refine q_iadd 126 dX2_fillWeights_125 rfl ?_
            refine q_aload_n 0 127 dX2_fillWeights_126 rfl rfl rfl ?_
            refine q_getR 0 130 f_X2_56 dX2_fillWeights_127 rfl rfl rfl rfl ?_
            refine q_getR 3 133 f_X2_112 dX2_fillWeights_130 rfl rfl rfl rfl ?_
            refine q_getR 4 136 f_X2_161 dX2_fillWeights_133 rfl rfl rfl rfl ?_
            refine q_iload 5 138 dX2_fillWeights_136 rfl rfl ?_
            refine q_iload 6 140 dX2_fillWeights_138 rfl rfl ?_
            refine q_iadd 141 dX2_fillWeights_140 rfl ?_
            refine q_iald 5 m 142 dX2_fillWeights_141 rfl ⟨e2, by omega, by decide⟩ rfl ?_
            refine q_iast 1 j 143 (w' := [_, _, _, _, _, _]) dX2_fillWeights_142 rfl ⟨e1, by omega, by decide⟩ rfl rfl ?_
            refine q_iinc 6 (nI (o + 1)) 146 (L' := [_, _, _, _, _, _, _]) dX2_fillWeights_143 rfl (inc1 (o)) (by decide) rfl rfl ?_
            refine q_goto 108 dX2_fillWeights_146 (by decide) ?_
            exact K2
        have K2 := K108 12 0 rfl
        rw [show fwP cf fi c 0 w1 = w1 from rfl] at K2
        clear K108 K1
        refine q_iload 4 66 dX2_fillWeights_64 rfl rfl ?_
        refine q_aload_n 0 67 dX2_fillWeights_66 rfl rfl rfl ?_
        refine q_getI 0 70 f_X2_67 dX2_fillWeights_67 rfl rfl rfl ?_
        refine q_icmp_ge 155 73 dX2_fillWeights_70 (by decide) rfl (fun h70 => absurd h70 hlt) (fun h70 => ?_)
        refine q_iload_n 2 74 dX2_fillWeights_73 rfl rfl rfl ?_
        refine q_iload 4 76 dX2_fillWeights_74 rfl rfl ?_
        refine q_iload_n 3 77 dX2_fillWeights_76 rfl rfl rfl ?_
        refine q_imul 78 dX2_fillWeights_77 rfl ?_
        refine q_iadd 79 dX2_fillWeights_78 rfl ?_
        refine q_bipush 12 81 dX2_fillWeights_79 bc_12 rfl ?_
        refine q_imul 82 dX2_fillWeights_81 rfl ?_
        rw [e12]
        refine q_istore 5 84 (L' := [_, _, _, _, _, _, _]) dX2_fillWeights_82 (by decide) rfl rfl ?_
        refine q_aload_n 0 85 dX2_fillWeights_84 rfl rfl rfl ?_
        refine q_getR 0 88 f_X2_21 dX2_fillWeights_85 rfl rfl rfl rfl ?_
        refine q_getI 2 91 f_X2_123 dX2_fillWeights_88 rfl rfl rfl ?_
        refine q_if_eq 105 94 dX2_fillWeights_91 (by decide) rfl (fun h91 => ?_) (fun h91 => absurd hoff h91)
        refine q_iconst 0 106 dX2_fillWeights_105 ic_0 rfl ?_
        refine q_istore 6 108 (L' := [_, _, _, _, _, _, _]) dX2_fillWeights_106 (by decide) rfl rfl ?_
        exact K2
      · have hfc : fwC (sf 6) li (sf 4) cf fi c w1 = foX li (sf 4) cf fi c 10 w1 := if_neg hoff
        rw [hfc] at K1
        refine q_iload 4 66 dX2_fillWeights_64 rfl rfl ?_
        refine q_aload_n 0 67 dX2_fillWeights_66 rfl rfl rfl ?_
        refine q_getI 0 70 f_X2_67 dX2_fillWeights_67 rfl rfl rfl ?_
        refine q_icmp_ge 155 73 dX2_fillWeights_70 (by decide) rfl (fun h70 => absurd h70 hlt) (fun h70 => ?_)
        refine q_iload_n 2 74 dX2_fillWeights_73 rfl rfl rfl ?_
        refine q_iload 4 76 dX2_fillWeights_74 rfl rfl ?_
        refine q_iload_n 3 77 dX2_fillWeights_76 rfl rfl rfl ?_
        refine q_imul 78 dX2_fillWeights_77 rfl ?_
        refine q_iadd 79 dX2_fillWeights_78 rfl ?_
        refine q_bipush 12 81 dX2_fillWeights_79 bc_12 rfl ?_
        refine q_imul 82 dX2_fillWeights_81 rfl ?_
        rw [e12]
        refine q_istore 5 84 (L' := [_, _, _, _, _, _, _]) dX2_fillWeights_82 (by decide) rfl rfl ?_
        refine q_aload_n 0 85 dX2_fillWeights_84 rfl rfl rfl ?_
        refine q_getR 0 88 f_X2_21 dX2_fillWeights_85 rfl rfl rfl rfl ?_
        refine q_getI 2 91 f_X2_123 dX2_fillWeights_88 rfl rfl rfl ?_
        refine q_if_eq 105 94 dX2_fillWeights_91 (by decide) rfl (fun h91 => absurd h91 hoff) (fun h91 => ?_)
        refine q_aload_n 0 95 dX2_fillWeights_94 rfl rfl rfl ?_
        refine q_iload 5 97 dX2_fillWeights_95 rfl rfl ?_
        refine q_iload 4 99 dX2_fillWeights_97 rfl rfl ?_
        refine q_cVv 0 [0, 1, 2, 3, 4, 5] [] [0, 1, 2, 3, 4, 5] 102 (wr := []) (w1 := _) (ws' := [_, _, _, _, _, _]) (c_X2_fillOff hfi2 (by omega)) m_X2_158 dX2_fillWeights_99 rfl rfl rfl rfl rfl rfl rfl rfl (by decide) (by decide) (by decide) (by decide) (Nat.le_of_ble_eq_true rfl) (by omega) (by omega) (by omega) rfl ?_
        refine q_goto 149 dX2_fillWeights_102 (by decide) ?_
        refine q_iinc 4 (nI (c + 1)) 152 (L' := [_, _, _, _, _, _, _]) dX2_fillWeights_149 rfl (inc1 (c)) (by decide) rfl rfl ?_
        refine q_goto 64 dX2_fillWeights_152 (by decide) ?_
        exact K1 _ _
  unfold fwB fwS
  by_cases h10 : i 10 = -1
  · have hch1 : ch = 1 := by
      rcases hch with ⟨_, h⟩ | ⟨h, _⟩
      · exact h
      · exact absurd h10 h
    rw [if_pos h10, if_pos h10]
    have K1 := fun L5 L6 => K64 p 0 (Or.inr ⟨hp, hch1⟩) (by decide) ch 0 L5 L6 rfl
    clear K64
    rw [show fwL (sf 6) li (sf 4) cf p 0 0 wf = wf from rfl] at K1
    generalize fwL (sf 6) li (sf 4) cf p 0 ch wf = w9 at *
    refine q_iload_n 1 1 dX2_fillWeights_0 rfl rfl rfl ?_
    refine q_istore_n 2 2 (L' := [_, _, _, _, _, _, _]) dX2_fillWeights_1 rfl (by decide) rfl rfl ?_
    refine q_iconst 0 3 dX2_fillWeights_2 ic_0 rfl ?_
    refine q_istore_n 3 4 (L' := [_, _, _, _, _, _, _]) dX2_fillWeights_3 rfl (by decide) rfl rfl ?_
    refine q_aload_n 0 5 dX2_fillWeights_4 rfl rfl rfl ?_
    refine q_getI 0 8 f_X2_60 dX2_fillWeights_5 rfl rfl rfl ?_
    refine q_iconst (-1) 9 dX2_fillWeights_8 ic_m1 rfl ?_
    refine q_icmp_eq 61 12 dX2_fillWeights_9 (by decide) rfl (fun h9 => ?_) (fun h9 => absurd h10 h9)
    refine q_iconst 0 62 dX2_fillWeights_61 ic_0 rfl ?_
    refine q_istore 4 64 (L' := [_, _, _, _, _, _, _]) dX2_fillWeights_62 (by decide) rfl rfl ?_
    exact K1 _ _
  · rw [if_neg h10, if_neg h10]
    have e4 : nI p - nI p / 4 * 4 = nI (p % 4) := nI_rem (by decide) (by omega) (by decide) (by decide)
    have hm4 : p % 4 < 4 := Nat.mod_lt _ (by decide)
    by_cases hsv : i 10 = sf 2
    · rw [if_pos hsv, if_pos hsv]
      have K1 := fun L5 L6 => K64 (p % 4) 4 (Or.inl (by omega)) (by decide) ch 0 L5 L6 rfl
      clear K64
      rw [show fwL (sf 6) li (sf 4) cf (p % 4) 4 0 wf = wf from rfl] at K1
      generalize fwL (sf 6) li (sf 4) cf (p % 4) 4 ch wf = w9 at *
      refine q_iload_n 1 1 dX2_fillWeights_0 rfl rfl rfl ?_
      refine q_istore_n 2 2 (L' := [_, _, _, _, _, _, _]) dX2_fillWeights_1 rfl (by decide) rfl rfl ?_
      refine q_iconst 0 3 dX2_fillWeights_2 ic_0 rfl ?_
      refine q_istore_n 3 4 (L' := [_, _, _, _, _, _, _]) dX2_fillWeights_3 rfl (by decide) rfl rfl ?_
      refine q_aload_n 0 5 dX2_fillWeights_4 rfl rfl rfl ?_
      refine q_getI 0 8 f_X2_60 dX2_fillWeights_5 rfl rfl rfl ?_
      refine q_iconst (-1) 9 dX2_fillWeights_8 ic_m1 rfl ?_
      refine q_icmp_eq 61 12 dX2_fillWeights_9 (by decide) rfl (fun h9 => absurd h9 h10) (fun h9 => ?_)
      refine q_aload_n 0 13 dX2_fillWeights_12 rfl rfl rfl ?_
      refine q_getI 0 16 f_X2_60 dX2_fillWeights_13 rfl rfl rfl ?_
      refine q_aload_n 0 17 dX2_fillWeights_16 rfl rfl rfl ?_
      refine q_getR 0 20 f_X2_21 dX2_fillWeights_17 rfl rfl rfl rfl ?_
      refine q_getI 2 23 f_X2_155 dX2_fillWeights_20 rfl rfl rfl ?_
      refine q_icmp_ne 30 26 dX2_fillWeights_23 (by decide) rfl (fun h23 => absurd hsv h23) (fun h23 => ?_)
      refine q_iconst 1 27 dX2_fillWeights_26 ic_1 rfl ?_
      refine q_goto 31 dX2_fillWeights_27 (by decide) ?_
      refine q_istore 4 33 (L' := [_, _, _, _, _, _, _]) dX2_fillWeights_31 (by decide) rfl rfl ?_
      refine q_iload 4 35 dX2_fillWeights_33 rfl rfl ?_
      refine q_if_eq 42 38 dX2_fillWeights_35 (by decide) rfl (fun h35 => absurd h35 one_ne0) (fun h35 => ?_)
      refine q_iconst 4 39 dX2_fillWeights_38 ic_4 rfl ?_
      refine q_goto 43 dX2_fillWeights_39 (by decide) ?_
      refine q_istore_n 3 44 (L' := [_, _, _, _, _, _, _]) dX2_fillWeights_43 rfl (by decide) rfl rfl ?_
      refine q_iload 4 46 dX2_fillWeights_44 rfl rfl ?_
      refine q_if_eq 55 49 dX2_fillWeights_46 (by decide) rfl (fun h46 => absurd h46 one_ne0) (fun h46 => ?_)
      refine q_iload_n 2 50 dX2_fillWeights_49 rfl rfl rfl ?_
      refine q_iconst 4 51 dX2_fillWeights_50 ic_4 rfl ?_
      refine q_irem 52 dX2_fillWeights_51 (by decide) rfl ?_
      refine q_goto 60 dX2_fillWeights_52 (by decide) ?_
      rw [e4]
      refine q_istore_n 2 61 (L' := [_, _, _, _, _, _, _]) dX2_fillWeights_60 rfl (by decide) rfl rfl ?_
      refine q_iconst 0 62 dX2_fillWeights_61 ic_0 rfl ?_
      refine q_istore 4 64 (L' := [_, _, _, _, _, _, _]) dX2_fillWeights_62 (by decide) rfl rfl ?_
      exact K1 _ _
    · rw [if_neg hsv, if_neg hsv]
      have es : nI p - nI (p % 4) = nI (p - p % 4) := pk_sub (Nat.mod_le _ _)
      have K1 := fun L5 L6 => K64 (p - p % 4) 1 (Or.inl (by omega)) (by decide) ch 0 L5 L6 rfl
      clear K64
      rw [show fwL (sf 6) li (sf 4) cf (p - p % 4) 1 0 wf = wf from rfl] at K1
      generalize fwL (sf 6) li (sf 4) cf (p - p % 4) 1 ch wf = w9 at *
      refine q_iload_n 1 1 dX2_fillWeights_0 rfl rfl rfl ?_
      refine q_istore_n 2 2 (L' := [_, _, _, _, _, _, _]) dX2_fillWeights_1 rfl (by decide) rfl rfl ?_
      refine q_iconst 0 3 dX2_fillWeights_2 ic_0 rfl ?_
      refine q_istore_n 3 4 (L' := [_, _, _, _, _, _, _]) dX2_fillWeights_3 rfl (by decide) rfl rfl ?_
      refine q_aload_n 0 5 dX2_fillWeights_4 rfl rfl rfl ?_
      refine q_getI 0 8 f_X2_60 dX2_fillWeights_5 rfl rfl rfl ?_
      refine q_iconst (-1) 9 dX2_fillWeights_8 ic_m1 rfl ?_
      refine q_icmp_eq 61 12 dX2_fillWeights_9 (by decide) rfl (fun h9 => absurd h9 h10) (fun h9 => ?_)
      refine q_aload_n 0 13 dX2_fillWeights_12 rfl rfl rfl ?_
      refine q_getI 0 16 f_X2_60 dX2_fillWeights_13 rfl rfl rfl ?_
      refine q_aload_n 0 17 dX2_fillWeights_16 rfl rfl rfl ?_
      refine q_getR 0 20 f_X2_21 dX2_fillWeights_17 rfl rfl rfl rfl ?_
      refine q_getI 2 23 f_X2_155 dX2_fillWeights_20 rfl rfl rfl ?_
      refine q_icmp_ne 30 26 dX2_fillWeights_23 (by decide) rfl (fun h23 => ?_) (fun h23 => absurd h23 hsv)
      refine q_iconst 0 31 dX2_fillWeights_30 ic_0 rfl ?_
      refine q_istore 4 33 (L' := [_, _, _, _, _, _, _]) dX2_fillWeights_31 (by decide) rfl rfl ?_
      refine q_iload 4 35 dX2_fillWeights_33 rfl rfl ?_
      refine q_if_eq 42 38 dX2_fillWeights_35 (by decide) rfl (fun h35 => ?_) (fun h35 => absurd rfl h35)
      refine q_iconst 1 43 dX2_fillWeights_42 ic_1 rfl ?_
      refine q_istore_n 3 44 (L' := [_, _, _, _, _, _, _]) dX2_fillWeights_43 rfl (by decide) rfl rfl ?_
      refine q_iload 4 46 dX2_fillWeights_44 rfl rfl ?_
      refine q_if_eq 55 49 dX2_fillWeights_46 (by decide) rfl (fun h46 => ?_) (fun h46 => absurd rfl h46)
      refine q_iload_n 2 56 dX2_fillWeights_55 rfl rfl rfl ?_
      refine q_iload_n 2 57 dX2_fillWeights_56 rfl rfl rfl ?_
      refine q_iconst 4 58 dX2_fillWeights_57 ic_4 rfl ?_
      refine q_irem 59 dX2_fillWeights_58 (by decide) rfl ?_
      rw [e4]
      refine q_isub 60 dX2_fillWeights_59 rfl ?_
      rw [es]
      refine q_istore_n 2 61 (L' := [_, _, _, _, _, _, _]) dX2_fillWeights_60 rfl (by decide) rfl rfl ?_
      refine q_iconst 0 62 dX2_fillWeights_61 ic_0 rfl ?_
      refine q_istore 4 64 (L' := [_, _, _, _, _, _, _]) dX2_fillWeights_62 (by decide) rfl rfl ?_
      exact K1 _ _

