/-! ===== Rule.styleOf ===== -/
abbrev RLs : Type := List (Int32 × List Int32)
def flC : RLs → List Int32
  | [] => []
  | e :: Ls => e.1 :: nI e.2.length :: (e.2 ++ flC Ls)
def stL (fa : Int32 → Int32) : RLs → Int32
  | [] => 0
  | e :: Ls => if e.2.length = 0 ∨ ¬ hoB fa e.2 = 0 then e.1 else stL fa Ls
/-- the code is these lines -/
def CdO (Ls : RLs) (n : Nat) (f : Sc) : Prop := n = (flC Ls).length ∧ n ≤ 400 ∧ Ls.length ≤ 12 ∧ ∀ z, z < n → f z = (flC Ls).getD z 0
theorem c_X4_styleOf {l : Launch} {g : Gh} {a0 cc pp q n : Nat} {f pf s : Sc} {p : Int32} {Ls : RLs} (hO : CdO Ls n f) : Ce l g yX4_styleOf (Cond.code yX4_styleOf cX4_styleOf 6 (some .int)) 3 [.ref a0, .int p, .ref q] [(a0, ob 4 (fun _ => 0) [some cc, some pp]), (cc, aI g n f), (pp, aI g 40 pf), (q, ob 8 s [])] (fun _ : Sc => some (.int (stL (faV s p) Ls))) (fun z : Sc => [(a0, ob 4 (fun _ => 0) [some cc, some pp]), (cc, aI g n f), (pp, aI g 40 z), (q, ob 8 s [])]) (fun _ : Sc => True) := by
  refine ct_of (M := mtX4_styleOf) [some (.ref a0), some (.int p), some (.ref q), none, none, none] rfl (by decide) (Nat.le_of_ble_eq_true rfl) (fun _ h => h) (fun a => ?_)
  obtain ⟨hn, hn4, hl12, hf⟩ := hO
  have K5 : ∀ (Rs : RLs) (at0 m : Nat), (flC Ls).drop at0 = flC Rs → at0 + (flC Rs).length = n → Rs.length + m ≤ 12 → ∀ (pf1 : Sc) (z5 : Option Value), stL (faV s p) Rs = stL (faV s p) Ls → WPs l g mtX4_styleOf 3 0 0 (pE (fun _ : Sc => some (.int (stL (faV s p) Ls))) (fun z : Sc => [(a0, ob 4 (fun _ => 0) [some cc, some pp]), (cc, aI g n f), (pp, aI g 40 z), (q, ob 8 s [])]) (fun _ : Sc => True)) noX a 5 [some (.ref a0), some (.int p), some (.ref q), some (.int (nI at0)), some (.int (nI m)), z5] [] [(a0, ob 4 (fun _ => 0) [some cc, some pp]), (cc, aI g n f), (pp, aI g 40 pf1), (q, ob 8 s [])] 0 0 := by
    intro Rs
    induction Rs with
    | nil =>
      intro at0 m hd hlen hm pf1 z5 hr
      rw [← hr]
      have hlen : at0 + 0 = n := hlen
      by_cases h12 : m < 12
      · have hlt : ¬ (12 : Int32) ≤ nI m := nI_ge (b := 12) h12 (by decide)
        have hge : nI n ≤ nI at0 + 1 := by rw [nI_1]; exact nI_le (by omega) (by omega)
        refine q_iload 4 7 dX4_styleOf_5 rfl rfl ?_
        refine q_bipush 12 9 dX4_styleOf_7 bc_12 rfl ?_
        refine q_icmp_ge 86 12 dX4_styleOf_9 (by decide) rfl (fun h9 => absurd h9 hlt) (fun h9 => ?_)
        refine q_iload_n 3 13 dX4_styleOf_12 rfl rfl rfl ?_
        refine q_iconst 1 14 dX4_styleOf_13 ic_1 rfl ?_
        refine q_iadd 15 dX4_styleOf_14 rfl ?_
        refine q_aload_n 0 16 dX4_styleOf_15 rfl rfl rfl ?_
        refine q_getR 0 19 f_X4_15 dX4_styleOf_16 rfl rfl rfl rfl ?_
        refine q_alenI 1 _ 20 dX4_styleOf_19 rfl rfl rfl ?_
        refine q_icmp_ge 86 23 dX4_styleOf_20 (by decide) rfl (fun h20 => ?_) (fun h20 => absurd hge h20)
        refine q_iconst 0 87 dX4_styleOf_86 ic_0 rfl ?_
        refine q_ireturn dX4_styleOf_87 rfl ?_
        exact pE.mk _ trivial rfl rfl
      · have hge : (12 : Int32) ≤ nI m := nI_le (a := 12) (by omega) (by omega)
        refine q_iload 4 7 dX4_styleOf_5 rfl rfl ?_
        refine q_bipush 12 9 dX4_styleOf_7 bc_12 rfl ?_
        refine q_icmp_ge 86 12 dX4_styleOf_9 (by decide) rfl (fun h9 => ?_) (fun h9 => absurd hge h9)
        refine q_iconst 0 87 dX4_styleOf_86 ic_0 rfl ?_
        refine q_ireturn dX4_styleOf_87 rfl ?_
        exact pE.mk _ trivial rfl rfl
    | cons e Rs ih =>
      intro at0 m hd hlen hm pf1 z5 hr
      obtain ⟨sy, xs⟩ := e
      rw [List.length_cons] at hm
      have hfl : (flC ((sy, xs) :: Rs)).length = 2 + xs.length + (flC Rs).length := by
        show (sy :: nI xs.length :: (xs ++ flC Rs)).length = _
        rw [List.length_cons, List.length_cons, List.length_append]
        omega
      rw [hfl] at hlen
      have hlt : ¬ (12 : Int32) ≤ nI m := nI_ge (b := 12) (by omega) (by decide)
      have hlt2 : ¬ nI n ≤ nI (at0 + 1) := nI_ge (by omega) (by omega)
      have hg : ∀ z, at0 + z < n → f (at0 + z) = (sy :: nI xs.length :: (xs ++ flC Rs)).getD z 0 := by
        intro z hz
        rw [hf _ hz, ← drop_getD, hd]
        rfl
      have e0 : f at0 = sy := hg 0 (by omega)
      have e1 : f (at0 + 1) = nI xs.length := hg 1 (by omega)
      have ex : ∀ z, z < xs.length → f (at0 + 2 + z) = xs.getD z 0 := by
        intro z hz
        rw [Nat.add_assoc, hg (2 + z) (by omega), show 2 + z = z + 1 + 1 by omega]
        show (xs ++ flC Rs).getD z 0 = _
        simp [List.getD, List.getElem?_append_left hz]
      have hd2 : (flC Ls).drop (at0 + 2 + xs.length) = flC Rs := by
        rw [Nat.add_assoc, ← List.drop_drop, hd]
        show (sy :: nI xs.length :: (xs ++ flC Rs)).drop (2 + xs.length) = _
        rw [show 2 + xs.length = xs.length + 1 + 1 by omega, List.drop_succ_cons, List.drop_succ_cons, List.drop_left]
      have hbh : nI at0 + 2 + nI xs.length = nI (at0 + 2 + xs.length) := by rw [show (2 : Int32) = nI 2 from rfl, nI_add, nI_add]
      have ha2 : nI at0 + 2 = nI (at0 + 2) := nI_add at0 2
      have hmin : iMin (nI (at0 + 2 + xs.length)) (nI n) = nI (at0 + 2 + xs.length) := by rw [iMin_n (by omega) (by omega), Nat.min_eq_left (by omega)]
      have hs : stL (faV s p) ((sy, xs) :: Rs) = if xs.length = 0 ∨ ¬ hoB (faV s p) xs = 0 then sy else stL (faV s p) Rs := rfl
      rw [hs] at hr
      have K77 : ¬ (xs.length = 0 ∨ ¬ hoB (faV s p) xs = 0) → ∀ (pf2 : Sc), WPs l g mtX4_styleOf 3 0 0 (pE (fun _ : Sc => some (.int (stL (faV s p) Ls))) (fun z : Sc => [(a0, ob 4 (fun _ => 0) [some cc, some pp]), (cc, aI g n f), (pp, aI g 40 z), (q, ob 8 s [])]) (fun _ : Sc => True)) noX a 77 [some (.ref a0), some (.int p), some (.ref q), some (.int (nI at0)), some (.int (nI m)), some (.int (nI (at0 + 2 + xs.length)))] [] [(a0, ob 4 (fun _ => 0) [some cc, some pp]), (cc, aI g n f), (pp, aI g 40 pf2), (q, ob 8 s [])] 0 0 := by
        intro hno pf2
        rw [if_neg hno] at hr
        have K1 := fun z5 => ih (at0 + 2 + xs.length) (m + 1) hd2 (by omega) (by omega) pf2 z5 hr
        clear ih
        generalize stL (faV s p) Ls = v9 at *
        refine q_iload 5 79 dX4_styleOf_77 rfl rfl ?_
        refine q_istore_n 3 80 (L' := [_, _, _, _, _, _]) dX4_styleOf_79 rfl (by decide) rfl rfl ?_
        refine q_iinc 4 (nI (m + 1)) 83 (L' := [_, _, _, _, _, _]) dX4_styleOf_80 rfl (inc1 (m)) (by decide) rfl rfl ?_
        refine q_goto 5 dX4_styleOf_83 (by decide) ?_
        exact K1 _
      clear ih
      have hb1 : at0 + 1 < n := by omega
      by_cases hx0 : xs.length = 0
      · rw [if_pos (Or.inl hx0)] at hr
        rw [← hr]
        clear K77
        have hz : nI xs.length = 0 := by rw [hx0]; rfl
        refine q_iload 4 7 dX4_styleOf_5 rfl rfl ?_
        refine q_bipush 12 9 dX4_styleOf_7 bc_12 rfl ?_
        refine q_icmp_ge 86 12 dX4_styleOf_9 (by decide) rfl (fun h9 => absurd h9 hlt) (fun h9 => ?_)
        refine q_iload_n 3 13 dX4_styleOf_12 rfl rfl rfl ?_
        refine q_iconst 1 14 dX4_styleOf_13 ic_1 rfl ?_
        refine q_iadd 15 dX4_styleOf_14 rfl ?_
        refine q_aload_n 0 16 dX4_styleOf_15 rfl rfl rfl ?_
        refine q_getR 0 19 f_X4_15 dX4_styleOf_16 rfl rfl rfl rfl ?_
        refine q_alenI 1 _ 20 dX4_styleOf_19 rfl rfl rfl ?_
        rw [nI_1]
        refine q_icmp_ge 86 23 dX4_styleOf_20 (by decide) rfl (fun h20 => absurd h20 hlt2) (fun h20 => ?_)
        refine q_iload_n 3 24 dX4_styleOf_23 rfl rfl rfl ?_
        refine q_iconst 2 25 dX4_styleOf_24 ic_2 rfl ?_
        refine q_iadd 26 dX4_styleOf_25 rfl ?_
        refine q_aload_n 0 27 dX4_styleOf_26 rfl rfl rfl ?_
        refine q_getR 0 30 f_X4_15 dX4_styleOf_27 rfl rfl rfl rfl ?_
        refine q_iload_n 3 31 dX4_styleOf_30 rfl rfl rfl ?_
        refine q_iconst 1 32 dX4_styleOf_31 ic_1 rfl ?_
        refine q_iadd 33 dX4_styleOf_32 rfl ?_
        rw [nI_1]
        refine q_iald 1 (at0+1) 34 dX4_styleOf_33 rfl ⟨rfl, by omega, by omega⟩ rfl ?_
        rw [e1]
        refine q_iadd 35 dX4_styleOf_34 rfl ?_
        rw [hbh]
        refine q_istore 5 37 (L' := [_, _, _, _, _, _]) dX4_styleOf_35 (by decide) rfl rfl ?_
        refine q_aload_n 0 38 dX4_styleOf_37 rfl rfl rfl ?_
        refine q_getR 0 41 f_X4_15 dX4_styleOf_38 rfl rfl rfl rfl ?_
        refine q_iload_n 3 42 dX4_styleOf_41 rfl rfl rfl ?_
        refine q_iconst 1 43 dX4_styleOf_42 ic_1 rfl ?_
        refine q_iadd 44 dX4_styleOf_43 rfl ?_
        rw [nI_1]
        refine q_iald 1 (at0+1) 45 dX4_styleOf_44 rfl ⟨rfl, by omega, by omega⟩ rfl ?_
        refine q_if_eq 70 48 dX4_styleOf_45 (by decide) rfl (fun h45 => ?_) (fun h45 => absurd (e1.trans hz) h45)
        refine q_aload_n 0 71 dX4_styleOf_70 rfl rfl rfl ?_
        refine q_getR 0 74 f_X4_15 dX4_styleOf_71 rfl rfl rfl rfl ?_
        refine q_iload_n 3 75 dX4_styleOf_74 rfl rfl rfl ?_
        refine q_iald 1 at0 76 dX4_styleOf_75 rfl ⟨rfl, by omega, by omega⟩ rfl ?_
        refine q_ireturn dX4_styleOf_76 rfl ?_
        exact pE.mk _ trivial (by rw [e0]) rfl
      · have hz : ¬ nI xs.length = 0 := nI_ne0 (by omega) (by omega)
        rcases hoB_or (faV s p) xs with hh | hh
        · have K1 := K77 (fun z => z.elim hx0 (fun z => z hh))
          clear K77 hr
          generalize stL (faV s p) Ls = v9 at *
          refine q_iload 4 7 dX4_styleOf_5 rfl rfl ?_
          refine q_bipush 12 9 dX4_styleOf_7 bc_12 rfl ?_
          refine q_icmp_ge 86 12 dX4_styleOf_9 (by decide) rfl (fun h9 => absurd h9 hlt) (fun h9 => ?_)
          refine q_iload_n 3 13 dX4_styleOf_12 rfl rfl rfl ?_
          refine q_iconst 1 14 dX4_styleOf_13 ic_1 rfl ?_
          refine q_iadd 15 dX4_styleOf_14 rfl ?_
          refine q_aload_n 0 16 dX4_styleOf_15 rfl rfl rfl ?_
          refine q_getR 0 19 f_X4_15 dX4_styleOf_16 rfl rfl rfl rfl ?_
          refine q_alenI 1 _ 20 dX4_styleOf_19 rfl rfl rfl ?_
          rw [nI_1]
          refine q_icmp_ge 86 23 dX4_styleOf_20 (by decide) rfl (fun h20 => absurd h20 hlt2) (fun h20 => ?_)
          refine q_iload_n 3 24 dX4_styleOf_23 rfl rfl rfl ?_
          refine q_iconst 2 25 dX4_styleOf_24 ic_2 rfl ?_
          refine q_iadd 26 dX4_styleOf_25 rfl ?_
          refine q_aload_n 0 27 dX4_styleOf_26 rfl rfl rfl ?_
          refine q_getR 0 30 f_X4_15 dX4_styleOf_27 rfl rfl rfl rfl ?_
          refine q_iload_n 3 31 dX4_styleOf_30 rfl rfl rfl ?_
          refine q_iconst 1 32 dX4_styleOf_31 ic_1 rfl ?_
          refine q_iadd 33 dX4_styleOf_32 rfl ?_
          rw [nI_1]
          refine q_iald 1 (at0+1) 34 dX4_styleOf_33 rfl ⟨rfl, by omega, by omega⟩ rfl ?_
          rw [e1]
          refine q_iadd 35 dX4_styleOf_34 rfl ?_
          rw [hbh]
          refine q_istore 5 37 (L' := [_, _, _, _, _, _]) dX4_styleOf_35 (by decide) rfl rfl ?_
          refine q_aload_n 0 38 dX4_styleOf_37 rfl rfl rfl ?_
          refine q_getR 0 41 f_X4_15 dX4_styleOf_38 rfl rfl rfl rfl ?_
          refine q_iload_n 3 42 dX4_styleOf_41 rfl rfl rfl ?_
          refine q_iconst 1 43 dX4_styleOf_42 ic_1 rfl ?_
          refine q_iadd 44 dX4_styleOf_43 rfl ?_
          rw [nI_1]
          refine q_iald 1 (at0+1) 45 dX4_styleOf_44 rfl ⟨rfl, by omega, by omega⟩ rfl ?_
          refine q_if_eq 70 48 dX4_styleOf_45 (by decide) rfl (fun h45 => absurd h45 (fun z => hz (e1.symm.trans z))) (fun h45 => ?_)
          refine q_aload_n 0 49 dX4_styleOf_48 rfl rfl rfl ?_
          refine q_iload_n 3 50 dX4_styleOf_49 rfl rfl rfl ?_
          refine q_iconst 2 51 dX4_styleOf_50 ic_2 rfl ?_
          refine q_iadd 52 dX4_styleOf_51 rfl ?_
          rw [ha2]
          refine q_iload 5 54 dX4_styleOf_52 rfl rfl ?_
          refine q_aload_n 0 55 dX4_styleOf_54 rfl rfl rfl ?_
          refine q_getR 0 58 f_X4_15 dX4_styleOf_55 rfl rfl rfl rfl ?_
          refine q_alenI 1 _ 59 dX4_styleOf_58 rfl rfl rfl ?_
          refine q_mmin 62 mm_X4_18 dX4_styleOf_59 (Nat.le_of_ble_eq_true rfl) (by omega) (by omega) (by omega) rfl ?_
          rw [hmin]
          refine q_iload_n 1 63 dX4_styleOf_62 rfl rfl rfl ?_
          refine q_aload_n 2 64 dX4_styleOf_63 rfl rfl rfl ?_
          refine q_xVi 0 [0, 1, 2, 3] [] [0, 1, 2, 3] 67 (wr := []) (w1 := _) (ws' := fun _ => [_, _, _, _]) (c_X4_holds (b0 := at0 + 2) (xs := xs) (by omega) hn4 ex) m_X4_24 dX4_styleOf_64 rfl rfl rfl rfl rfl rfl rfl (fun _ => rfl) (by decide) (by decide) (by decide) (by decide) (Nat.le_of_ble_eq_true rfl) (by omega) (by omega) (by omega) rfl (fun pf64 hx64 => ?_)
          refine q_if_eq 77 70 dX4_styleOf_67 (by decide) rfl (fun h67 => ?_) (fun h67 => absurd hh h67)
          exact K1 _
        · have hh0 : ¬ hoB (faV s p) xs = 0 := by rw [hh]; decide
          rw [if_pos (Or.inr hh0)] at hr
          rw [← hr]
          clear K77 hr
          refine q_iload 4 7 dX4_styleOf_5 rfl rfl ?_
          refine q_bipush 12 9 dX4_styleOf_7 bc_12 rfl ?_
          refine q_icmp_ge 86 12 dX4_styleOf_9 (by decide) rfl (fun h9 => absurd h9 hlt) (fun h9 => ?_)
          refine q_iload_n 3 13 dX4_styleOf_12 rfl rfl rfl ?_
          refine q_iconst 1 14 dX4_styleOf_13 ic_1 rfl ?_
          refine q_iadd 15 dX4_styleOf_14 rfl ?_
          refine q_aload_n 0 16 dX4_styleOf_15 rfl rfl rfl ?_
          refine q_getR 0 19 f_X4_15 dX4_styleOf_16 rfl rfl rfl rfl ?_
          refine q_alenI 1 _ 20 dX4_styleOf_19 rfl rfl rfl ?_
          rw [nI_1]
          refine q_icmp_ge 86 23 dX4_styleOf_20 (by decide) rfl (fun h20 => absurd h20 hlt2) (fun h20 => ?_)
          refine q_iload_n 3 24 dX4_styleOf_23 rfl rfl rfl ?_
          refine q_iconst 2 25 dX4_styleOf_24 ic_2 rfl ?_
          refine q_iadd 26 dX4_styleOf_25 rfl ?_
          refine q_aload_n 0 27 dX4_styleOf_26 rfl rfl rfl ?_
          refine q_getR 0 30 f_X4_15 dX4_styleOf_27 rfl rfl rfl rfl ?_
          refine q_iload_n 3 31 dX4_styleOf_30 rfl rfl rfl ?_
          refine q_iconst 1 32 dX4_styleOf_31 ic_1 rfl ?_
          refine q_iadd 33 dX4_styleOf_32 rfl ?_
          rw [nI_1]
          refine q_iald 1 (at0+1) 34 dX4_styleOf_33 rfl ⟨rfl, by omega, by omega⟩ rfl ?_
          rw [e1]
          refine q_iadd 35 dX4_styleOf_34 rfl ?_
          rw [hbh]
          refine q_istore 5 37 (L' := [_, _, _, _, _, _]) dX4_styleOf_35 (by decide) rfl rfl ?_
          refine q_aload_n 0 38 dX4_styleOf_37 rfl rfl rfl ?_
          refine q_getR 0 41 f_X4_15 dX4_styleOf_38 rfl rfl rfl rfl ?_
          refine q_iload_n 3 42 dX4_styleOf_41 rfl rfl rfl ?_
          refine q_iconst 1 43 dX4_styleOf_42 ic_1 rfl ?_
          refine q_iadd 44 dX4_styleOf_43 rfl ?_
          rw [nI_1]
          refine q_iald 1 (at0+1) 45 dX4_styleOf_44 rfl ⟨rfl, by omega, by omega⟩ rfl ?_
          refine q_if_eq 70 48 dX4_styleOf_45 (by decide) rfl (fun h45 => absurd h45 (fun z => hz (e1.symm.trans z))) (fun h45 => ?_)
          refine q_aload_n 0 49 dX4_styleOf_48 rfl rfl rfl ?_
          refine q_iload_n 3 50 dX4_styleOf_49 rfl rfl rfl ?_
          refine q_iconst 2 51 dX4_styleOf_50 ic_2 rfl ?_
          refine q_iadd 52 dX4_styleOf_51 rfl ?_
          rw [ha2]
          refine q_iload 5 54 dX4_styleOf_52 rfl rfl ?_
          refine q_aload_n 0 55 dX4_styleOf_54 rfl rfl rfl ?_
          refine q_getR 0 58 f_X4_15 dX4_styleOf_55 rfl rfl rfl rfl ?_
          refine q_alenI 1 _ 59 dX4_styleOf_58 rfl rfl rfl ?_
          refine q_mmin 62 mm_X4_18 dX4_styleOf_59 (Nat.le_of_ble_eq_true rfl) (by omega) (by omega) (by omega) rfl ?_
          rw [hmin]
          refine q_iload_n 1 63 dX4_styleOf_62 rfl rfl rfl ?_
          refine q_aload_n 2 64 dX4_styleOf_63 rfl rfl rfl ?_
          refine q_xVi 0 [0, 1, 2, 3] [] [0, 1, 2, 3] 67 (wr := []) (w1 := _) (ws' := fun _ => [_, _, _, _]) (c_X4_holds (b0 := at0 + 2) (xs := xs) (by omega) hn4 ex) m_X4_24 dX4_styleOf_64 rfl rfl rfl rfl rfl rfl rfl (fun _ => rfl) (by decide) (by decide) (by decide) (by decide) (Nat.le_of_ble_eq_true rfl) (by omega) (by omega) (by omega) rfl (fun pf64 hx64 => ?_)
          refine q_if_eq 77 70 dX4_styleOf_67 (by decide) rfl (fun h67 => absurd h67 hh0) (fun h67 => ?_)
          refine q_aload_n 0 71 dX4_styleOf_70 rfl rfl rfl ?_
          refine q_getR 0 74 f_X4_15 dX4_styleOf_71 rfl rfl rfl rfl ?_
          refine q_iload_n 3 75 dX4_styleOf_74 rfl rfl rfl ?_
          refine q_iald 1 at0 76 dX4_styleOf_75 rfl ⟨rfl, by omega, by omega⟩ rfl ?_
          refine q_ireturn dX4_styleOf_76 rfl ?_
          exact pE.mk _ trivial (by rw [e0]) rfl
  have K1 := fun z5 => K5 Ls 0 0 rfl (by omega) (by omega) pf z5 rfl
  clear K5
  generalize stL (faV s p) Ls = v9 at *
  refine q_iconst 0 1 dX4_styleOf_0 ic_0 rfl ?_
  refine q_istore_n 3 2 (L' := [_, _, _, _, _, _]) dX4_styleOf_1 rfl (by decide) rfl rfl ?_
  refine q_iconst 0 3 dX4_styleOf_2 ic_0 rfl ?_
  refine q_istore 4 5 (L' := [_, _, _, _, _, _]) dX4_styleOf_3 (by decide) rfl rfl ?_
  exact K1 _
theorem c_X4_init {l : Launch} {g : Gh} {a0 cc n : Nat} {f : Sc} : Cn l g yX4_init (Cond.code yX4_init cX4_init 2 none) 1 1 40 [.ref a0, .ref cc] [(a0, ob 4 (fun _ => 0) (List.replicate 2 none)), (cc, aI g n f)] (fun _ : Nat => none) (fun z : Nat => [(a0, ob 4 (fun _ => 0) [some cc, some z]), (cc, aI g n f), (z, aI g 40 (fun _ => 0))]) (fun _ k m => k = 1 ∧ m = 40) := by
  refine ct_of (M := mtX4_init) [some (.ref a0), some (.ref cc)] rfl (by decide) (Nat.le_of_ble_eq_true rfl) (fun _ h => h) (fun a => ?_)
  refine q_aload_n 0 1 dX4_init_0 rfl rfl rfl ?_
  refine q_objInit 4 m_X4_3 dX4_init_1 (Nat.le_of_ble_eq_true rfl) (by decide) rfl ?_
  refine q_aload_n 0 5 dX4_init_4 rfl rfl rfl ?_
  refine q_bipush 40 7 dX4_init_5 bc_40 rfl ?_
  refine q_newI (N := 40) 9 dX4_init_7 rfl (by decide) (by omega) (by omega) rfl (fun q7 => ?_)
  refine q_putRF 0 12 (w' := [_, _, _]) (r' := [_, _]) f_X4_9 ft_X4_1 rfl rfl dX4_init_9 rfl rfl (Nat.le_of_ble_eq_true rfl) rfl rfl rfl rfl rfl ?_
  refine q_aload_n 0 13 dX4_init_12 rfl rfl rfl ?_
  refine q_aload_n 1 14 dX4_init_13 rfl rfl rfl ?_
  refine q_putRF 0 17 (w' := [_, _, _]) (r' := [_, _]) f_X4_15 ft_X4_0 rfl rfl dX4_init_14 rfl rfl (Nat.le_of_ble_eq_true rfl) rfl rfl rfl rfl rfl ?_
  refine q_return dX4_init_17 rfl ?_
  exact pX.mk _ ⟨rfl, rfl⟩ rfl rfl
/-! ===== the pool of rules ===== -/
/-- a rule: its cell, its code's cell, its pile's cell, the code's length, the code, the pile -/
abbrev RuR : Type := Nat × Nat × Nat × Nat × Sc × Sc
def ruW (g : Gh) (u : RuR) : va_W := [(u.1, ob 4 (fun _ => 0) [some u.2.1, some u.2.2.1]), (u.2.1, aI g u.2.2.2.1 u.2.2.2.2.1), (u.2.2.1, aI g 40 u.2.2.2.2.2)]
def plW (g : Gh) (P : List RuR) : va_W := P.flatMap (ruW g)
def ruP (u : RuR) (pf : Sc) : RuR := (u.1, u.2.1, u.2.2.1, u.2.2.2.1, u.2.2.2.2.1, pf)
theorem plW_app (g : Gh) (P Q : List RuR) : plW g (P ++ Q) = plW g P ++ plW g Q := List.flatMap_append
theorem plW_cons (g : Gh) (u : RuR) (P : List RuR) : plW g (u :: P) = ruW g u ++ plW g P := rfl
theorem plW_perm (g : Gh) (P Q : List RuR) (u : RuR) : (plW g (P ++ u :: Q)).Perm (ruW g u ++ plW g (P ++ Q)) := by
  rw [plW_app, plW_cons, plW_app, ← List.append_assoc, ← List.append_assoc]
  exact List.Perm.append_right _ List.perm_append_comm
/-- the same rules, up to their piles -/
def SaP : List RuR → List RuR → Prop
  | [], [] => True
  | u :: P, v :: Q => (∃ pf, v = ruP u pf) ∧ SaP P Q
  | _, _ => False
theorem SaP.rf : ∀ P : List RuR, SaP P P
  | [] => trivial
  | u :: P => ⟨⟨u.2.2.2.2.2, rfl⟩, SaP.rf P⟩
theorem SaP.tr : ∀ {P Q R : List RuR}, SaP P Q → SaP Q R → SaP P R
  | [], [], [], _, _ => trivial
  | u :: P, v :: Q, w :: R, ⟨⟨pf, h1⟩, h2⟩, ⟨⟨pf2, h3⟩, h4⟩ => ⟨⟨pf2, by rw [h3, h1]; rfl⟩, SaP.tr h2 h4⟩
theorem SaP.mid : ∀ (P : List RuR) (u : RuR) (pf : Sc) (Q : List RuR), SaP (P ++ u :: Q) (P ++ ruP u pf :: Q)
  | [], u, pf, Q => ⟨⟨pf, rfl⟩, SaP.rf Q⟩
  | v :: P, u, pf, Q => ⟨⟨v.2.2.2.2.2, rfl⟩, SaP.mid P u pf Q⟩
theorem SaP.len : ∀ {P Q : List RuR}, SaP P Q → Q.length = P.length
  | [], [], _ => rfl
  | u :: P, v :: Q, ⟨_, h⟩ => by simp [SaP.len h]
theorem SaP.get : ∀ {P Q : List RuR} (j : Nat) (u : RuR), SaP P Q → P[j]? = some u → ∃ pf, Q[j]? = some (ruP u pf)
  | [], [], _, _, _, h => by simp at h
  | u :: P, v :: Q, 0, w, ⟨⟨pf, h1⟩, h2⟩, h => by
    have : u = w := by simpa using h
    subst this
    exact ⟨pf, by simp [h1]⟩
  | u :: P, v :: Q, j + 1, w, ⟨_, h2⟩, h => by
    have h3 : P[j]? = some w := by simpa using h
    obtain ⟨pf, h4⟩ := SaP.get j w h2 h3
    exact ⟨pf, by simpa using h4⟩

