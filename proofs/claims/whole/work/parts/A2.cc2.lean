/-! ===== ChaseCourt: append ===== -/
def apB (a : Int32) (c : Nat) : Int32 := vp_nar .byte ((a >>> (nI (8 * c) &&& 31)).toInt8.toInt32)
/-- the c lowest bytes of a, from t on -/
def apT (a : Int32) : Nat → Nat → Sc → Sc
  | 0, _, tp => tp
  | c + 1, t, tp => apT a c (t + 1) (upd tp t (apB a c))
theorem c_X11_append {l : Launch} {g : Gh} {q tq t : Nat} {i tp : Sc} {R : List (Option Nat)} {x : Int32} (h9 : i 9 = nI t) (ht : t + 4 ≤ 400) : Cp l g yX11_append (Cond.code yX11_append cX11_append 3 none) 0 [.ref q, .int x] [(q, ob 11 i (some tq :: R)), (tq, aB g 400 tp)] none [(q, ob 11 (upd i 9 (nI (t + 4))) (some tq :: R)), (tq, aB g 400 (apT x 4 t tp))] := by
  refine ct_of (M := mtX11_append) [some (.ref q), some (.int x), none] rfl (by decide) (Nat.le_of_ble_eq_true rfl) (fun _ h => h) (fun a => ?_)
  have K3 : ∀ (c t : Nat) (sh : Int32) (i1 tp1 : Sc), c ≤ 4 → (c = 0 → sh < 0) → (∀ d, c = d + 1 → sh = nI (8 * d)) → i1 9 = nI t → t + c ≤ 400 → WPs l g mtX11_append 0 0 0 (pR none [(q, ob 11 (upd i1 9 (nI (t + c))) (some tq :: R)), (tq, aB g 400 (apT x c t tp1))]) noX a 3 [some (.ref q), some (.int x), some (.int sh)] [] [(q, ob 11 i1 (some tq :: R)), (tq, aB g 400 tp1)] 0 0 := by
    intro c
    induction c with
    | zero =>
      intro t sh i1 tp1 hc h0 hd h9 ht
      have hs := h0 rfl
      have hu : upd i1 9 (nI (t + 0)) = i1 := by
        funext k
        by_cases hk : k = 9
        · rw [hk, pk_us, h9]; rfl
        · rw [pk_un hk]
      rw [hu]
      refine q_iload_n 2 4 dX11_append_3 rfl rfl rfl ?_
      refine q_if_lt 43 7 dX11_append_4 (by decide) rfl (fun h4 => ?_) (fun h4 => absurd hs h4)
      refine q_return dX11_append_43 rfl ?_
      exact pR.rf
    | succ c ih =>
      intro t sh i1 tp1 hc h0 hd h9 ht
      have hsh := hd c rfl
      have hs : ¬ sh < 0 := by rw [hsh]; exact nI_pos (by omega)
      have hlt : ¬ (400 : Int32) ≤ i1 9 := by rw [h9]; exact nI_ge (b := 400) (by omega) (by decide)
      have K1 := ih (t + 1) (sh + (-8)) (upd i1 9 (nI (t + 1))) (upd tp1 t (apB x c)) (by omega) (fun h => by rw [hsh, h]; decide) (fun d h => by rw [hsh, h, show 8 * (d + 1) = 8 * d + 8 from rfl, ← nI_add]; show nI (8 * d) + 8 + (-8) = _; rw [Int32.add_assoc, show (8 : Int32) + (-8) = 0 by decide, Int32.add_zero]) pk_us (by omega)
      clear ih
      rw [upd_upd, show t + 1 + c = t + (c + 1) by omega] at K1
      rw [show apT x (c + 1) t tp1 = apT x c (t + 1) (upd tp1 t (apB x c)) from rfl]
      have hap : apB x c = vp_nar .byte (x >>> (sh &&& 31)).toInt8.toInt32 := by unfold apB; rw [hsh]
      rw [hap] at K1 ⊢
      refine q_iload_n 2 4 dX11_append_3 rfl rfl rfl ?_
      refine q_if_lt 43 7 dX11_append_4 (by decide) rfl (fun h4 => absurd h4 hs) (fun h4 => ?_)
      refine q_aload_n 0 8 dX11_append_7 rfl rfl rfl ?_
      refine q_getI 0 11 f_X11_45 dX11_append_8 rfl rfl rfl ?_
      refine q_sipush 400 14 dX11_append_11 sc_400 rfl ?_
      refine q_icmp_ge 43 17 dX11_append_14 (by decide) rfl (fun h14 => absurd h14 hlt) (fun h14 => ?_)
      refine q_aload_n 0 18 dX11_append_17 rfl rfl rfl ?_
      refine q_getR 0 21 f_X11_9 dX11_append_18 rfl rfl rfl rfl ?_
      refine q_aload_n 0 22 dX11_append_21 rfl rfl rfl ?_
      refine q_dup 23 dX11_append_22 rfl rfl ?_
      refine q_getI 0 26 f_X11_45 dX11_append_23 rfl rfl rfl ?_
      refine q_dup_x1 27 dX11_append_26 rfl rfl rfl ?_
      refine q_iconst 1 28 dX11_append_27 ic_1 rfl ?_
      rw [h9]
      refine q_iadd 29 dX11_append_28 rfl ?_
      rw [nI_1]
      refine q_putI 0 32 (w' := [_, _]) f_X11_45 ft_X11_9 dX11_append_29 rfl rfl rfl rfl ?_
      refine q_iload_n 1 33 dX11_append_32 rfl rfl rfl ?_
      refine q_iload_n 2 34 dX11_append_33 rfl rfl rfl ?_
      refine q_ishr 35 dX11_append_34 rfl ?_
      refine q_i2b 36 dX11_append_35 rfl ?_
      refine q_bast 1 t 37 (w' := [_, _]) dX11_append_36 rfl ⟨rfl, by omega, by decide⟩ rfl rfl ?_
      refine q_iinc 2 _ 40 (L' := [_, _, _]) dX11_append_37 rfl rfl (by decide) rfl rfl ?_
      refine q_goto 3 dX11_append_40 (by decide) ?_
      exact K1
  have K1 := K3 4 t 24 i tp (by decide) (fun h => absurd h (by decide)) (fun d h => by rw [show d = 3 by omega]; decide) h9 ht
  clear K3
  refine q_bipush 24 2 dX11_append_0 bc_24 rfl ?_
  refine q_istore_n 2 3 (L' := [_, _, _]) dX11_append_2 rfl (by decide) rfl rfl ?_
  exact K1
theorem c_X11_feed0 {l : Launch} {g : Gh} {q tq t : Nat} {i tp : Sc} {R : List (Option Nat)} {x1 x2 x3 x4 x5 : Int32} (h9 : i 9 = nI t) (ht : t ≤ 400) (hf : 400 < t + 20) : Cp l g yX11_feed (Cond.code yX11_feed cX11_feed 6 (some .int)) 1 [.ref q, .int x1, .int x2, .int x3, .int x4, .int x5] [(q, ob 11 i (some tq :: R)), (tq, aB g 400 tp)] (some (.int (-1))) [(q, ob 11 i (some tq :: R)), (tq, aB g 400 tp)] := by
  refine ct_of (M := mtX11_feed) [some (.ref q), some (.int x1), some (.int x2), some (.int x3), some (.int x4), some (.int x5)] rfl (by decide) (Nat.le_of_ble_eq_true rfl) (fun _ h => h) (fun a => ?_)
  have hlt : ¬ i 9 + 20 ≤ 400 := by rw [h9, show (20 : Int32) = nI 20 by decide, nI_add, show (400 : Int32) = nI 400 by decide]; exact nI_ge hf (by omega)
  refine q_aload_n 0 1 dX11_feed_0 rfl rfl rfl ?_
  refine q_getI 0 4 f_X11_45 dX11_feed_1 rfl rfl rfl ?_
  refine q_bipush 20 6 dX11_feed_4 bc_20 rfl ?_
  refine q_iadd 7 dX11_feed_6 rfl ?_
  refine q_sipush 400 10 dX11_feed_7 sc_400 rfl ?_
  refine q_icmp_le 15 13 dX11_feed_10 (by decide) rfl (fun h10 => absurd h10 hlt) (fun h10 => ?_)
  refine q_iconst (-1) 14 dX11_feed_13 ic_m1 rfl ?_
  refine q_ireturn dX11_feed_14 rfl ?_
  exact pR.rf
theorem c_X11_feed1 {l : Launch} {g : Gh} {q tq t : Nat} {i tp : Sc} {R : List (Option Nat)} {x1 x2 x3 x4 x5 : Int32} (h9 : i 9 = nI t) (hf : t + 20 ≤ 400) : Cp l g yX11_feed (Cond.code yX11_feed cX11_feed 6 (some .int)) 1 [.ref q, .int x1, .int x2, .int x3, .int x4, .int x5] [(q, ob 11 i (some tq :: R)), (tq, aB g 400 tp)] (some (.int (nI (t + 20)))) [(q, ob 11 (upd i 9 (nI (t + 20))) (some tq :: R)), (tq, aB g 400 (apT x5 4 (t + 16) (apT x4 4 (t + 12) (apT x3 4 (t + 8) (apT x2 4 (t + 4) (apT x1 4 t tp))))))] := by
  refine ct_of (M := mtX11_feed) [some (.ref q), some (.int x1), some (.int x2), some (.int x3), some (.int x4), some (.int x5)] rfl (by decide) (Nat.le_of_ble_eq_true rfl) (fun _ h => h) (fun a => ?_)
  have hle : i 9 + 20 ≤ 400 := by rw [h9, show (20 : Int32) = nI 20 by decide, nI_add, show (400 : Int32) = nI 400 by decide]; exact nI_le hf (by omega)
  generalize hp1 : apT x1 4 t tp = p1
  generalize hp2 : apT x2 4 (t + 4) p1 = p2
  generalize hp3 : apT x3 4 (t + 8) p2 = p3
  generalize hp4 : apT x4 4 (t + 12) p3 = p4
  generalize hp5 : apT x5 4 (t + 16) p4 = p5
  refine q_aload_n 0 1 dX11_feed_0 rfl rfl rfl ?_
  refine q_getI 0 4 f_X11_45 dX11_feed_1 rfl rfl rfl ?_
  refine q_bipush 20 6 dX11_feed_4 bc_20 rfl ?_
  refine q_iadd 7 dX11_feed_6 rfl ?_
  refine q_sipush 400 10 dX11_feed_7 sc_400 rfl ?_
  refine q_icmp_le 15 13 dX11_feed_10 (by decide) rfl (fun h10 => ?_) (fun h10 => absurd hle h10)
  refine q_aload_n 0 16 dX11_feed_15 rfl rfl rfl ?_
  refine q_iload_n 1 17 dX11_feed_16 rfl rfl rfl ?_
  refine q_cVv 0 [0, 1] [] [0, 1] 20 (wr := []) (w1 := _) (ws' := [_, _]) (c_X11_append (t := t) h9 (by omega)) m_X11_48 dX11_feed_17 rfl rfl rfl rfl rfl rfl rfl rfl (by decide) (by decide) (by decide) (by decide) (Nat.le_of_ble_eq_true rfl) (by omega) (by omega) (by omega) rfl ?_
  refine q_aload_n 0 21 dX11_feed_20 rfl rfl rfl ?_
  refine q_iload_n 2 22 dX11_feed_21 rfl rfl rfl ?_
  rw [hp1]
  refine q_cVv 0 [0, 1] [] [0, 1] 25 (wr := []) (w1 := _) (ws' := [_, _]) (c_X11_append (t := t + 4) pk_us (by omega)) m_X11_48 dX11_feed_22 rfl rfl rfl rfl rfl rfl rfl rfl (by decide) (by decide) (by decide) (by decide) (Nat.le_of_ble_eq_true rfl) (by omega) (by omega) (by omega) rfl ?_
  refine q_aload_n 0 26 dX11_feed_25 rfl rfl rfl ?_
  refine q_iload_n 3 27 dX11_feed_26 rfl rfl rfl ?_
  rw [show t + 4 + 4 = t + 8 from rfl, hp2, upd_upd]
  refine q_cVv 0 [0, 1] [] [0, 1] 30 (wr := []) (w1 := _) (ws' := [_, _]) (c_X11_append (t := t + 8) pk_us (by omega)) m_X11_48 dX11_feed_27 rfl rfl rfl rfl rfl rfl rfl rfl (by decide) (by decide) (by decide) (by decide) (Nat.le_of_ble_eq_true rfl) (by omega) (by omega) (by omega) rfl ?_
  refine q_aload_n 0 31 dX11_feed_30 rfl rfl rfl ?_
  refine q_iload 4 33 dX11_feed_31 rfl rfl ?_
  rw [show t + 8 + 4 = t + 12 from rfl, hp3, upd_upd]
  refine q_cVv 0 [0, 1] [] [0, 1] 36 (wr := []) (w1 := _) (ws' := [_, _]) (c_X11_append (t := t + 12) pk_us (by omega)) m_X11_48 dX11_feed_33 rfl rfl rfl rfl rfl rfl rfl rfl (by decide) (by decide) (by decide) (by decide) (Nat.le_of_ble_eq_true rfl) (by omega) (by omega) (by omega) rfl ?_
  refine q_aload_n 0 37 dX11_feed_36 rfl rfl rfl ?_
  refine q_iload 5 39 dX11_feed_37 rfl rfl ?_
  rw [show t + 12 + 4 = t + 16 from rfl, hp4, upd_upd]
  refine q_cVv 0 [0, 1] [] [0, 1] 42 (wr := []) (w1 := _) (ws' := [_, _]) (c_X11_append (t := t + 16) pk_us (by omega)) m_X11_48 dX11_feed_39 rfl rfl rfl rfl rfl rfl rfl rfl (by decide) (by decide) (by decide) (by decide) (Nat.le_of_ble_eq_true rfl) (by omega) (by omega) (by omega) rfl ?_
  rw [show t + 16 + 4 = t + 20 from rfl, hp5, upd_upd]
  refine q_aload_n 0 43 dX11_feed_42 rfl rfl rfl ?_
  refine q_getI 0 46 f_X11_45 dX11_feed_43 rfl rfl rfl ?_
  rw [pk_us]
  refine q_ireturn dX11_feed_46 rfl ?_
  exact pR.rf

