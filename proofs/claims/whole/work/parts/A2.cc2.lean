/-! ===== ChaseCourt: append ===== -/
def apB (a : Int32) (c : Nat) : Int32 := vp_nar .byte ((a >>> (nI (8 * c) &&& 31)).toInt8.toInt32)
/-- the c lowest bytes of a, from t on -/
def apT (a : Int32) : Nat → Nat → Sc → Sc
  | 0, _, tp => tp
  | c + 1, t, tp => apT a c (t + 1) (upd tp t (apB a c))
theorem c_X11_append {l : Launch} {g : Gh} {q tq t : Nat} {i tp : Sc} {R : List (Option Nat)} {x : Int32} (h9 : i 9 = nI t) (ht : t + 4 ≤ 400) : Cp l g yX11_append (Cond.code yX11_append cX11_append 3 none) 0 [.ref q, .int x] [(q, ob 11 i (some tq :: R)), (tq, aB g 400 tp)] none [(q, ob 11 (upd i 9 (nI (t + 4))) (some tq :: R)), (tq, aB g 400 (apT x 4 t tp))] := by
  refine ct_of (M := mtX11_append) [some (.ref q), some (.int x), none] rfl (by decide) (Nat.le_of_ble_eq_true rfl) (fun _ h => h) (fun a => ?_)
  have K3 : ∀ (c t : Nat) (sh : Int32) (i1 tp1 : Sc), c ≤ 4 → (c = 0 → sh < 0) → (∀ d, c = d + 1 → sh = nI (8 * d)) → i1 9 = nI t → t + c ≤ 400 → WPs l g mtX11_append 0 0 0 (pR none [(q, ob 11 (upd i1 9 (nI (t + c))) (some tq :: R)), (tq, aB g 400 (apT x c t tp1))]) noX a 3 [some (.ref q), some (.int x), some (.int sh)] [] [(q, ob 11 i1 (some tq :: R)), (tq, aB g 400 tp1)] 0 0 := by
    intro c
    induction c with
    | zero =>
      intro t sh i1 tp1 hc h0 hd h9 ht
      have hs := h0 rfl
      have hu : upd i1 9 (nI (t + 0)) = i1 := by
        funext k
        by_cases hk : k = 9
        · rw [hk, pk_us, h9]; rfl
        · rw [pk_un hk]
      rw [hu]
      refine q_iload_n 2 4 dX11_append_3 rfl rfl rfl ?_
      refine q_if_lt 43 7 dX11_append_4 (by decide) rfl (fun h4 => ?_) (fun h4 => absurd hs h4)
      refine q_return dX11_append_43 rfl ?_
      exact pR.rf
    | succ c ih =>
      intro t sh i1 tp1 hc h0 hd h9 ht
      have hsh := hd c rfl
      have hs : ¬ sh < 0 := by rw [hsh]; exact nI_pos (by omega)
      have hlt : ¬ (400 : Int32) ≤ i1 9 := by rw [h9]; exact nI_ge (b := 400) (by omega) (by decide)
      have K1 := ih (t + 1) (sh + (-8)) (upd i1 9 (nI (t + 1))) (upd tp1 t (apB x c)) (by omega) (fun h => by rw [hsh, h]; decide) (fun d h => by rw [hsh, h, show 8 * (d + 1) = 8 * d + 8 from rfl, ← nI_add]; show nI (8 * d) + 8 + (-8) = _; rw [Int32.add_assoc, show (8 : Int32) + (-8) = 0 by decide, Int32.add_zero]) pk_us (by omega)
      clear ih
      rw [upd_upd, show t + 1 + c = t + (c + 1) by omega] at K1
      rw [show apT x (c + 1) t tp1 = apT x c (t + 1) (upd tp1 t (apB x c)) from rfl]
      have hap : apB x c = vp_nar .byte (x >>> (sh &&& 31)).toInt8.toInt32 := by unfold apB; rw [hsh]
      rw [hap] at K1 ⊢
      refine q_iload_n 2 4 dX11_append_3 rfl rfl rfl ?_
      refine q_if_lt 43 7 dX11_append_4 (by decide) rfl (fun h4 => absurd h4 hs) (fun h4 => ?_)
      refine q_aload_n 0 8 dX11_append_7 rfl rfl rfl ?_
      refine q_getI 0 11 f_X11_45 dX11_append_8 rfl rfl rfl ?_
      refine q_sipush 400 14 dX11_append_11 sc_400 rfl ?_
      refine q_icmp_ge 43 17 dX11_append_14 (by decide) rfl (fun h14 => absurd h14 hlt) (fun h14 => ?_)
      refine q_aload_n 0 18 dX11_append_17 rfl rfl rfl ?_
      refine q_getR 0 21 f_X11_9 dX11_append_18 rfl rfl rfl rfl ?_
      refine q_aload_n 0 22 dX11_append_21 rfl rfl rfl ?_
      refine q_dup 23 dX11_append_22 rfl rfl ?_
      refine q_getI 0 26 f_X11_45 dX11_append_23 rfl rfl rfl ?_
      refine q_dup_x1 27 dX11_append_26 rfl rfl rfl ?_
      refine q_iconst 1 28 dX11_append_27 ic_1 rfl ?_
      rw [h9]
      refine q_iadd 29 dX11_append_28 rfl ?_
      rw [nI_1]
      refine q_putI 0 32 (w' := [_, _]) f_X11_45 ft_X11_9 dX11_append_29 rfl rfl rfl rfl ?_
      refine q_iload_n 1 33 dX11_append_32 rfl rfl rfl ?_
      refine q_iload_n 2 34 dX11_append_33 rfl rfl rfl ?_
      refine q_ishr 35 dX11_append_34 rfl ?_
      refine q_i2b 36 dX11_append_35 rfl ?_
      refine q_bast 1 t 37 (w' := [_, _]) dX11_append_36 rfl ⟨rfl, by omega, by decide⟩ rfl rfl ?_
      refine q_iinc 2 _ 40 (L' := [_, _, _]) dX11_append_37 rfl rfl (by decide) rfl rfl ?_
      refine q_goto 3 dX11_append_40 (by decide) ?_
      exact K1
  have K1 := K3 4 t 24 i tp (by decide) (fun h => absurd h (by decide)) (fun d h => by rw [show d = 3 by omega]; decide) h9 ht
  clear K3
  refine q_bipush 24 2 dX11_append_0 bc_24 rfl ?_
  refine q_istore_n 2 3 (L' := [_, _, _]) dX11_append_2 rfl (by decide) rfl rfl ?_
  exact K1

