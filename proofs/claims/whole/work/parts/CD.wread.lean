/-! ===== court and rule ===== -/
theorem pmR2 {α : Type} {C fp rc K O M R P : List α} {n : Nat} (is : List Nat) (h1 : is.isPerm (List.range n) = true) (h2 : C.length = n) (h3 : is.map (fun i => C[i]?) = (fp ++ rc).map some) : ((fp ++ R) ++ (rc ++ ((K ++ (O ++ M)) ++ P))).Perm (C ++ ((K ++ (O ++ (M ++ R))) ++ P)) := by
  refine List.Perm.trans ?_ ((p_ix is h1 h2 h3).append_right ((K ++ (O ++ (M ++ R))) ++ P))
  have h := bl_p (A := [fp, rc, K, O, M, R, P]) [0, 5, 1, 2, 3, 4, 6] rfl
  simpa [bj, List.append_assoc] using h
theorem pmR0 {α : Type} {C fp rc K O M R P : List α} {n : Nat} (is : List Nat) (h1 : is.isPerm (List.range n) = true) (h2 : C.length = n) (h3 : is.map (fun i => C[i]?) = (fp ++ rc).map some) : ((fp ++ R) ++ (rc ++ ((K ++ (O ++ (M ++ []))) ++ P))).Perm (C ++ ((K ++ (O ++ (M ++ R))) ++ P)) := by
  rw [List.append_nil]
  exact pmR2 is h1 h2 h3
theorem pmR4 {α : Type} {C fp rc K O M R P : List α} {u v w : α} {n : Nat} (is : List Nat) (h1 : is.isPerm (List.range n) = true) (h2 : C.length = n) (h3 : is.map (fun i => C[i]?) = (fp ++ rc).map some) : (((fp ++ R) ++ [u, v, w]) ++ (rc ++ ((K ++ (O ++ M)) ++ P))).Perm (C ++ ((K ++ (O ++ (M ++ R))) ++ (P ++ [v, u, w]))) :=
  (pmR (Y := [u, v, w]) is h1 h2 h3).trans (List.Perm.append_left _ (List.Perm.append_left _ (List.Perm.append_left _ (List.Perm.swap _ _ _))))
theorem pmR5 {α : Type} {C fp rc K O M R P : List α} {u v w : α} {n : Nat} (is : List Nat) (h1 : is.isPerm (List.range n) = true) (h2 : C.length = n) (h3 : is.map (fun i => C[i]?) = (fp ++ rc).map some) : (((fp ++ R) ++ [u, v, w]) ++ (rc ++ ((K ++ (O ++ (M ++ []))) ++ P))).Perm (C ++ ((K ++ (O ++ (M ++ R))) ++ (P ++ [v, u, w]))) := by
  rw [List.append_nil]
  exact pmR4 is h1 h2 h3
/-- the reference's m behind a court that was refused -/
theorem co_back {m M bf : Sc} (h : CoK m M) : cp M (cp bf m 201) 201 = m := by
  funext k
  unfold cp
  by_cases hk : k < 201
  · rw [if_pos hk, if_pos hk]
  · rw [if_neg hk]
    exact h k (by omega) (by omega)
theorem li_12 {c : Nat} (hc : c ≤ 12) : (nI c : Int32) = 12 ↔ ¬ (nI c : Int32) < 12 := by
  constructor
  · intro h; rw [h]; decide
  · intro h
    have : ¬ c < 12 := fun z => h (by rw [show (12 : Int32) = nI 12 from by decide]; exact nI_lt z (by decide))
    rw [show c = 12 by omega]; rfl
theorem SR.court {m M li lj cf ch ri yf s : Sc} {af : Nat → Option Nat} {PL : List RuR} {Rl : Nat → RLs} {num c : Nat} (h : SR m li cf ri yf af s PL Rl num) (hk : CoK m M) (h1 : CoM M lj ch) (h2 : CoV M) (h3 : SmO M) (h4 : lj 4 = li 4) (hc : c < 12) (e : m 192 = nI c) : SR (upd M 192 (M 192 + 1)) (lTk li (upd lj 4 (lj 4 + 1))) ch ri yf af s PL Rl num := by
  obtain ⟨s1, s2, s3, s4, s5⟩ := h
  have o : ∀ k, ¬ k = 192 → upd M 192 (M 192 + 1) k = M k := fun k hk => pk_un hk
  have o2 : ∀ k, 193 ≤ k → (k < 194 ∨ 196 < k) → upd M 192 (M 192 + 1) k = m k := fun k h1 h2 => (o k (by omega)).trans (hk k (by omega) h2)
  have e192 : M 192 = nI c := (hk 192 (by omega) (by omega)).trans e
  refine ⟨⟨⟨fun j hj => ?_, ?_, ?_, ?_⟩, ⟨fun j hj => ?_, ?_, ?_, ?_⟩, fun j hj => ?_, ?_, c + 1, by omega, ?_⟩, SRb.cg s2 (o2 _ (by omega) (by omega)) (o2 _ (by omega) (by omega)) (o2 _ (by omega) (by omega)) (fun k hk => o2 k (by omega) (by omega)), (SA_c (y := S (upd M 192 (M 192 + 1))) (fun j hj => o2 _ (by omega) (by omega)) s3).m (o2 _ (by omega) (by omega)) (o2 _ (by omega) (by omega)), VG_c (fun j hj => o2 _ (by omega) (by omega)) s4, ?_⟩
  · rw [o j (by omega)]; exact h1.1 j hj
  · rw [o 194 (by omega)]; exact h1.2.1
  · rw [o 195 (by omega)]; exact h1.2.2.1
  · rw [o 196 (by omega)]; exact h1.2.2.2
  · rw [o j (by omega)]; exact h2.1 j hj
  · rw [o 194 (by omega)]; exact h2.2.1
  · rw [o 195 (by omega)]; exact h2.2.2.1
  · rw [o 196 (by omega)]; exact h2.2.2.2
  · rw [← h3 j hj]
    exact su_cg 12 (fun i hi => o _ (by omega))
  · show lj 4 + 1 = upd M 192 (M 192 + 1) 192
    rw [pk_us, h4, s1.2.2.2.1, e, e192]
  · rw [pk_us, e192, nI_1]
  · unfold HOK
    rw [o2 197 (by omega) (by omega), o2 198 (by omega) (by omega)]
    exact s5

theorem cw_court {l : Launch} {g : Gh} {a : Nat → Nat} {m kp tp : Sc} {h3 : Int32} {e : Nat} {ft : Int32} {T : va_W} {K N : Nat} (hR : Rel g a m kp tp h3 e ft T K N) : Ct l g yX11_court (Cond.code yX11_court cX11_court 1 (some .int)) 40 (KM9 - K + 32) (NM9 - N + 2000) [.ref (a 0)] T (wPo (fun v => coT (coL tp m e).2.2 (coF (coL tp m e).2.2 (nI e) (coL tp m e).2.1 16) = 0 ∧ v = some (.int ((coL tp m e).2.2 192 + 1))) (RelP g a (if coT (coL tp m e).2.2 (coF (coL tp m e).2.2 (nI e) (coL tp m e).2.1 16) = 0 then upd (coL tp m e).2.2 192 ((coL tp m e).2.2 192 + 1) else m) kp tp h3 0 (coF (coL tp m e).2.2 (nI e) (coL tp m e).2.1 16) K N)) (wPx (fun E => coT (coL tp m e).2.2 (coF (coL tp m e).2.2 (nI e) (coL tp m e).2.1 16) = 1 ∧ E = "java/lang/IllegalArgumentException" ∨ coT (coL tp m e).2.2 (coF (coL tp m e).2.2 (nI e) (coL tp m e).2.1 16) = 2 ∧ E = "java/lang/UnsupportedOperationException") (RelP g a (if coT (coL tp m e).2.2 (coF (coL tp m e).2.2 (nI e) (coL tp m e).2.1 16) = 0 then upd (coL tp m e).2.2 192 ((coL tp m e).2.2 192 + 1) else m) kp tp h3 0 (coF (coL tp m e).2.2 (nI e) (coL tp m e).2.1 16) K N)) := by
  have hle := hR.le
  obtain ⟨ic, Tc, si, th, be, nu, di, dh, li, cf, ri, yf, s, tr, af, y, KK, OO, MM, RR, PL, Rl, num, rfl, hT, hS, hK, hO, hKn, hNn⟩ := hR
  have hA := an_court (di := di) hT.2.1 (fun k hk => hT.2.2.1 k (by have := hT.2.1; omega)) hS.1.1 hS.1.2.1 hS.1.2.2.1
  obtain ⟨c, hc12, ec⟩ := hS.1.2.2.2.2
  obtain ⟨hck, ⟨q1, q2, q3, q4, q5, q6⟩ | ⟨q1, q2⟩⟩ := hA
  · have e192 : (coL tp m e).2.2 192 = m 192 := hck 192 (by omega) (by omega)
    by_cases h12 : c = 12
    · have ht : coT (coL tp m e).2.2 (coF (coL tp m e).2.2 (nI e) (coL tp m e).2.1 16) = 2 := by
        unfold coT
        rw [if_pos q2, if_pos (by rw [e192, ec, h12]; rfl)]
      rw [if_neg (by rw [ht]; decide), q2]
      refine ct_u (x_X11_court2 hT.1 hT.2.1 q1 (by rw [hS.1.2.2.2.1, ec, h12]; decide)) ([(a 11, ob 6 ri (rQ (a 12) (a 13))), (a 12, aI g 2 yf), (a 13, aR g 6 af), (a 14, ob 8 s []), (a 15, ob 8 tr [])] ++ ((kpW g KK ++ (odW g (a 8) OO ++ (mdW g (a 8) MM ++ rdW g RR))) ++ plW g PL)) (pm (n := 16) (C := (cC g a ic Tc si th be nu di dh li cf ri yf s tr af y (kpR KK) (odR OO) (mdR9 MM) (rdR9 RR))) (fp := [(a 0, ob 11 ic [some (a 1), some (a 2), some (a 6), some (a 8), some (a 15), (kpR KK), (odR OO), (mdR9 MM), (rdR9 RR), none, none]), (a 1, aB g 400 Tc), (a 2, ob 7 si [some (a 3), some (a 4), some (a 5), y, none, none, none]), (a 3, aI g 401 th), (a 4, aI g 401 be), (a 5, aI g 401 nu), (a 6, ob 0 di (rL (a 7))), (a 7, aI g 192 dh), (a 8, ob 10 (fun _ => 0) (rD (a 9) (a 11) (a 14))), (a 9, ob 0 li (rL (a 10))), (a 10, aI g 192 cf)]) (rc := [(a 11, ob 6 ri (rQ (a 12) (a 13))), (a 12, aI g 2 yf), (a 13, aR g 6 af), (a 14, ob 8 s []), (a 15, ob 8 tr [])]) [0, 1, 2, 3, 4, 5, 6, 7, 8, 9, 10, 11, 12, 13, 14, 15] (by decide) rfl rfl) (by decide) (by omega) (by omega) (fun _ _ _ _ h => h.elim) (fun E w1 k9 n9 h => ?_)
      obtain ⟨z, ⟨rfl, rfl⟩, rfl, rfl⟩ := h
      exact ⟨_, (pm (n := 16) (C := (cC g a (upd (upd ic 9 0) 10 (coR Tc e di li cf).1) Tc (z.1) (z.2.1) (z.2.2.1) (z.2.2.2) (coR Tc e di li cf).2.2.1 (coR Tc e di li cf).2.2.2 li cf ri yf s tr af (some (a 1)) (kpR KK) (odR OO) (mdR9 MM) (rdR9 RR))) (fp := [(a 0, ob 11 (upd (upd ic 9 0) 10 (coR Tc e di li cf).1) [some (a 1), some (a 2), some (a 6), some (a 8), some (a 15), (kpR KK), (odR OO), (mdR9 MM), (rdR9 RR), none, none]), (a 1, aB g 400 Tc), (a 2, ob 7 (z.1) [some (a 3), some (a 4), some (a 5), (some (a 1)), none, none, none]), (a 3, aI g 401 (z.2.1)), (a 4, aI g 401 (z.2.2.1)), (a 5, aI g 401 (z.2.2.2)), (a 6, ob 0 (coR Tc e di li cf).2.2.1 (rL (a 7))), (a 7, aI g 192 (coR Tc e di li cf).2.2.2), (a 8, ob 10 (fun _ => 0) (rD (a 9) (a 11) (a 14))), (a 9, ob 0 li (rL (a 10))), (a 10, aI g 192 cf)]) (rc := [(a 11, ob 6 ri (rQ (a 12) (a 13))), (a 12, aI g 2 yf), (a 13, aR g 6 af), (a 14, ob 8 s []), (a 15, ob 8 tr [])]) [0, 1, 2, 3, 4, 5, 6, 7, 8, 9, 10, 11, 12, 13, 14, 15] (by decide) rfl rfl), Or.inr ⟨by rw [← q2]; exact ht, rfl⟩, K, N, ⟨_, Tc, _, _, _, _, _, _, li, cf, ri, yf, s, tr, af, _, KK, OO, MM, RR, PL, Rl, num, rfl, ⟨rfl, by omega, hT.2.2.1, q1⟩, hS, hK, hO, hKn, hNn⟩, by omega, by omega⟩
    · have ht : coT (coL tp m e).2.2 (coF (coL tp m e).2.2 (nI e) (coL tp m e).2.1 16) = 0 := by
        unfold coT
        rw [if_pos q2, if_neg (by rw [e192, ec]; exact fun z => h12 (nI_eqI (by omega) (by omega) z))]
      rw [if_pos ht, q2]
      refine ct_u (c_X11_court hT.1 hT.2.1 q1 (by rw [hS.1.2.2.2.1, ec, show (12 : Int32) = nI 12 from by decide]; exact nI_lt (by omega) (by decide))) ([(a 11, ob 6 ri (rQ (a 12) (a 13))), (a 12, aI g 2 yf), (a 13, aR g 6 af), (a 14, ob 8 s []), (a 15, ob 8 tr [])] ++ ((kpW g KK ++ (odW g (a 8) OO ++ (mdW g (a 8) MM ++ rdW g RR))) ++ plW g PL)) (pm (n := 16) (C := (cC g a ic Tc si th be nu di dh li cf ri yf s tr af y (kpR KK) (odR OO) (mdR9 MM) (rdR9 RR))) (fp := [(a 0, ob 11 ic [some (a 1), some (a 2), some (a 6), some (a 8), some (a 15), (kpR KK), (odR OO), (mdR9 MM), (rdR9 RR), none, none]), (a 1, aB g 400 Tc), (a 2, ob 7 si [some (a 3), some (a 4), some (a 5), y, none, none, none]), (a 3, aI g 401 th), (a 4, aI g 401 be), (a 5, aI g 401 nu), (a 6, ob 0 di (rL (a 7))), (a 7, aI g 192 dh), (a 8, ob 10 (fun _ => 0) (rD (a 9) (a 11) (a 14))), (a 9, ob 0 li (rL (a 10))), (a 10, aI g 192 cf)]) (rc := [(a 11, ob 6 ri (rQ (a 12) (a 13))), (a 12, aI g 2 yf), (a 13, aR g 6 af), (a 14, ob 8 s []), (a 15, ob 8 tr [])]) [0, 1, 2, 3, 4, 5, 6, 7, 8, 9, 10, 11, 12, 13, 14, 15] (by decide) rfl rfl) (by decide) (by omega) (by omega) (fun v w1 k9 n9 h => ?_) (fun _ _ _ _ h => h.elim)
      obtain ⟨rfl, rfl, z, _, rfl, rfl⟩ := h
      exact ⟨_, (pm (n := 16) (C := (cC g a (upd (upd ic 9 0) 10 (coR Tc e di li cf).1) Tc (z.1) (z.2.1) (z.2.2.1) (z.2.2.2) (upd (coR Tc e di li cf).2.2.1 4 ((coR Tc e di li cf).2.2.1 4 + 1)) (coR Tc e di li cf).2.2.2 (lTk li (upd (coR Tc e di li cf).2.2.1 4 ((coR Tc e di li cf).2.2.1 4 + 1))) (coR Tc e di li cf).2.2.2 ri yf s tr af (some (a 1)) (kpR KK) (odR OO) (mdR9 MM) (rdR9 RR))) (fp := [(a 0, ob 11 (upd (upd ic 9 0) 10 (coR Tc e di li cf).1) [some (a 1), some (a 2), some (a 6), some (a 8), some (a 15), (kpR KK), (odR OO), (mdR9 MM), (rdR9 RR), none, none]), (a 1, aB g 400 Tc), (a 2, ob 7 (z.1) [some (a 3), some (a 4), some (a 5), (some (a 1)), none, none, none]), (a 3, aI g 401 (z.2.1)), (a 4, aI g 401 (z.2.2.1)), (a 5, aI g 401 (z.2.2.2)), (a 6, ob 0 (upd (coR Tc e di li cf).2.2.1 4 ((coR Tc e di li cf).2.2.1 4 + 1)) (rL (a 7))), (a 7, aI g 192 (coR Tc e di li cf).2.2.2), (a 8, ob 10 (fun _ => 0) (rD (a 9) (a 11) (a 14))), (a 9, ob 0 (lTk li (upd (coR Tc e di li cf).2.2.1 4 ((coR Tc e di li cf).2.2.1 4 + 1))) (rL (a 10))), (a 10, aI g 192 (coR Tc e di li cf).2.2.2)]) (rc := [(a 11, ob 6 ri (rQ (a 12) (a 13))), (a 12, aI g 2 yf), (a 13, aR g 6 af), (a 14, ob 8 s []), (a 15, ob 8 tr [])]) [0, 1, 2, 3, 4, 5, 6, 7, 8, 9, 10, 11, 12, 13, 14, 15] (by decide) rfl rfl), ⟨by rw [← q2]; exact ht, by
        show some (Value.int ((coR Tc e di li cf).2.2.1 4 + 1)) = _
        rw [q6, hS.1.2.2.2.1, e192]⟩, K, N, ⟨_, Tc, _, _, _, _, _, _, _, _, ri, yf, s, tr, af, _, KK, OO, MM, RR, PL, Rl, num, rfl, ⟨rfl, by omega, hT.2.2.1, q1⟩, (hS.court hck q3 q4 q5 q6 (by omega) ec), hK, hO, hKn, hNn⟩, by omega, by omega⟩
  · have hf : ¬ (coF (coL tp m e).2.2 (nI e) (coL tp m e).2.1 16) = -1 := by rw [q2]; exact q1
    have ht : coT (coL tp m e).2.2 (coF (coL tp m e).2.2 (nI e) (coL tp m e).2.1 16) = 1 := by
      unfold coT
      rw [if_neg hf]
    rw [if_neg (by rw [ht]; decide)]
    refine ct_u (x_X11_court1 hT.1 hT.2.1 q1) ([(a 11, ob 6 ri (rQ (a 12) (a 13))), (a 12, aI g 2 yf), (a 13, aR g 6 af), (a 14, ob 8 s []), (a 15, ob 8 tr [])] ++ ((kpW g KK ++ (odW g (a 8) OO ++ (mdW g (a 8) MM ++ rdW g RR))) ++ plW g PL)) (pm (n := 16) (C := (cC g a ic Tc si th be nu di dh li cf ri yf s tr af y (kpR KK) (odR OO) (mdR9 MM) (rdR9 RR))) (fp := [(a 0, ob 11 ic [some (a 1), some (a 2), some (a 6), some (a 8), some (a 15), (kpR KK), (odR OO), (mdR9 MM), (rdR9 RR), none, none]), (a 1, aB g 400 Tc), (a 2, ob 7 si [some (a 3), some (a 4), some (a 5), y, none, none, none]), (a 3, aI g 401 th), (a 4, aI g 401 be), (a 5, aI g 401 nu), (a 6, ob 0 di (rL (a 7))), (a 7, aI g 192 dh), (a 8, ob 10 (fun _ => 0) (rD (a 9) (a 11) (a 14))), (a 9, ob 0 li (rL (a 10))), (a 10, aI g 192 cf)]) (rc := [(a 11, ob 6 ri (rQ (a 12) (a 13))), (a 12, aI g 2 yf), (a 13, aR g 6 af), (a 14, ob 8 s []), (a 15, ob 8 tr [])]) [0, 1, 2, 3, 4, 5, 6, 7, 8, 9, 10, 11, 12, 13, 14, 15] (by decide) rfl rfl) (by decide) (by omega) (by omega) (fun _ _ _ _ h => h.elim) (fun E w1 k9 n9 h => ?_)
    obtain ⟨z, ⟨rfl, rfl⟩, rfl, rfl⟩ := h
    exact ⟨_, (pm (n := 16) (C := (cC g a (upd (upd ic 9 0) 10 (coR Tc e di li cf).1) Tc (z.1) (z.2.1) (z.2.2.1) (z.2.2.2) (coR Tc e di li cf).2.2.1 (coR Tc e di li cf).2.2.2 li cf ri yf s tr af (some (a 1)) (kpR KK) (odR OO) (mdR9 MM) (rdR9 RR))) (fp := [(a 0, ob 11 (upd (upd ic 9 0) 10 (coR Tc e di li cf).1) [some (a 1), some (a 2), some (a 6), some (a 8), some (a 15), (kpR KK), (odR OO), (mdR9 MM), (rdR9 RR), none, none]), (a 1, aB g 400 Tc), (a 2, ob 7 (z.1) [some (a 3), some (a 4), some (a 5), (some (a 1)), none, none, none]), (a 3, aI g 401 (z.2.1)), (a 4, aI g 401 (z.2.2.1)), (a 5, aI g 401 (z.2.2.2)), (a 6, ob 0 (coR Tc e di li cf).2.2.1 (rL (a 7))), (a 7, aI g 192 (coR Tc e di li cf).2.2.2), (a 8, ob 10 (fun _ => 0) (rD (a 9) (a 11) (a 14))), (a 9, ob 0 li (rL (a 10))), (a 10, aI g 192 cf)]) (rc := [(a 11, ob 6 ri (rQ (a 12) (a 13))), (a 12, aI g 2 yf), (a 13, aR g 6 af), (a 14, ob 8 s []), (a 15, ob 8 tr [])]) [0, 1, 2, 3, 4, 5, 6, 7, 8, 9, 10, 11, 12, 13, 14, 15] (by decide) rfl rfl), Or.inl ⟨ht, rfl⟩, K, N, ⟨_, Tc, _, _, _, _, _, _, li, cf, ri, yf, s, tr, af, _, KK, OO, MM, RR, PL, Rl, num, rfl, ⟨rfl, by omega, hT.2.2.1, q2.symm⟩, hS, hK, hO, hKn, hNn⟩, by omega, by omega⟩

theorem toks_le (Tc : Sc) {e : Nat} (he : e ≤ 400) : (toks Tc e).length ≤ 400 := by
  have hJ := TkJ_toks Tc he
  have hend : (tA (toks Tc e) e (toks Tc e).length).2.1 = e := by rw [hJ.2.1 _ (Nat.le_refl _)]; rfl
  have h1 := bg_far hJ (toks Tc e).length 0 (by omega)
  rw [Nat.zero_add, hend] at h1
  omega
/-- a rule's text: the class's fault is the reference's -/
theorem rule_f {Tc tp fc : Sc} {e : Nat} {sv of : Int32} (he : e ≤ 400) (hb : ∀ k, k < e → ByA (Tc k) (tp k)) (hs : sv = 0 ∨ sv = 1) (ho : of = 0 ∨ of = 1) : (ruL tp fc sv of e).2.1 = (ruR Tc e).1 := by
  rcases rule_eq he (toks_le Tc he) (TkB_toks he hb (fun k _ => rfl)) with ⟨_, h2⟩ | ⟨h1, _, _, _, _, h6⟩
  · exact h2 fc sv of hs ho
  · rw [(h6 fc _ sv of (faE_ok fc sv of) hs ho).1]; exact h1.symm
theorem RsO.app {num : Nat} {bf : Sc} {af : Nat → Option Nat} {P Q : List RuR} {Rl : Nat → RLs} (h : RsO num bf af P Rl) : RsO num bf af (P ++ Q) Rl := by
  refine ⟨h.1, fun w hw => ?_, h.2.2⟩
  obtain ⟨j, u, h1, h2, h3⟩ := h.2.1 w hw
  exact ⟨j, u, by rw [List.getElem?_append_left (List.getElem?_eq_some_iff.mp h1).1]; exact h1, h2, h3⟩
theorem kpOK.app {kp : Sc} {h3 : Int32} {K : Option KpT} {PL Q : List RuR} (h : kpOK kp h3 K PL) : kpOK kp h3 K (PL ++ Q) := by
  cases K with
  | none => exact h
  | some z =>
    obtain ⟨a, Rl, num, b, c, d⟩ := h
    exact ⟨a, Rl, num, b, ⟨c.1, c.2.1, c.2.2.1.app, c.2.2.2⟩, d⟩
theorem SR.rule {m tp Tc li cf ri yf s : Sc} {af : Nat → Option Nat} {PL : List RuR} {Rl : Nat → RLs} {num e : Nat} {u : RuR} (h : SR m li cf ri yf af s PL Rl num) (hn : num < 6) (he : e ≤ 400) (hb : ∀ k, k < e → ByA (Tc k) (tp k)) (hr : (ruR Tc e).1 = -1) (hl : u.2.2.2.1 = (ruR Tc e).2.2.length) (hc : ∀ z, z < (ruR Tc e).2.2.length → u.2.2.2.2.1 z = (ruR Tc e).2.2.getD z 0) : SR (ruM m tp num e) li cf (upd ri 2 (nI (num + 1))) yf (va_up af num (some u.1)) s (PL ++ [u]) (fun w => if w = num then ruLs (toks Tc e) e else Rl w) (num + 1) := by
  obtain ⟨s1, ⟨b1, b2, ⟨c1, c2, c3⟩, b4, b5⟩, s3, s4, s5⟩ := h
  have o : ∀ k, ¬ k = 193 → (k < 210 + 401 * num ∨ 210 + 401 * (num + 1) ≤ k) → ruM m tp num e k = m k := fun k h1 h2 => ruM_o he h1 h2
  have hru : (ruR Tc e).2.2 = flC (ruLs (toks Tc e) e) ∧ (ruLs (toks Tc e) e).length ≤ 12 := by
    rcases rule_eq he (toks_le Tc he) (TkB_toks he hb (fun k _ => rfl)) with ⟨h1, _⟩ | ⟨_, h2, h3, _⟩
    · exact absurd hr h1
    · exact ⟨h2, h3⟩
  refine ⟨SRa.cg s1 (fun k hk => o k (by omega) (by omega)) (o _ (by omega) (by omega)) (o _ (by omega) (by omega)) (o _ (by omega) (by omega)), ⟨pk_us, pk_us, ⟨by omega, fun w hw => ?_, fun p hp => ?_⟩, fun p hp => ?_, fun r hr2 => ?_⟩, (SA_c (y := S (ruM m tp num e)) (fun j hj => o _ (by omega) (by omega)) s3).m (o _ (by omega) (by omega)) (o _ (by omega) (by omega)), VG_c (fun j hj => o _ (by omega) (by omega)) s4, ?_⟩
  · by_cases hw2 : w = num
    · subst hw2
      refine ⟨PL.length, u, by simp, by unfold va_up; simp, ?_⟩
      dsimp only
      rw [if_pos rfl, hl]
      refine ⟨by rw [hru.1], by have := (rule_len he hr).2; omega, hru.2, fun z hz => ?_⟩
      rw [hc z hz, hru.1]
    · obtain ⟨j, x, h1, h2, h3⟩ := c2 w (by omega)
      refine ⟨j, x, by rw [List.getElem?_append_left (List.getElem?_eq_some_iff.mp h1).1]; exact h1, by unfold va_up; simp [hw2]; exact h2, ?_⟩
      dsimp only
      rw [if_neg hw2]; exact h3
  · rcases c3 p hp with z | ⟨w, hw, z⟩
    · exact Or.inl z
    · exact Or.inr ⟨w, by omega, z⟩
  · rw [o _ (by omega) (by omega)]; exact b4 p hp
  · by_cases hr3 : r = num
    · subst hr3
      dsimp only
      rw [if_pos rfl]
      exact RuA.new he hb hn hr
    · dsimp only
      rw [if_neg hr3]
      exact (b5 r (by omega)).mono (fun k h1 h2 => o k (by omega) (by omega))
  · unfold HOK
    rw [o 197 (by omega) (by omega), o 198 (by omega) (by omega)]
    exact s5

theorem cw_rule {l : Launch} {g : Gh} {a : Nat → Nat} {m kp tp : Sc} {h3 : Int32} {e : Nat} {ft : Int32} {T : va_W} {K N : Nat} (hR : Rel g a m kp tp h3 e ft T K N) (fc : Sc) {sv of : Int32} (hsv : sv = 0 ∨ sv = 1) (hof : of = 0 ∨ of = 1) : Ct l g yX11_rule (Cond.code yX11_rule cX11_rule 1 (some .int)) 40 (KM9 - K + 32) (NM9 - N + 2000) [.ref (a 0)] T (wPo (fun v => ruT m (ruL tp fc sv of e).2.1 = 0 ∧ v = some (.int (m 193))) (RelP g a (if ruT m (ruL tp fc sv of e).2.1 = 0 then ruM m tp (m 193).toNatClampNeg e else m) kp tp h3 0 (ruL tp fc sv of e).2.1 K N)) (wPx (fun E => ruT m (ruL tp fc sv of e).2.1 = 1 ∧ E = "java/lang/IllegalArgumentException" ∨ ruT m (ruL tp fc sv of e).2.1 = 2 ∧ E = "java/lang/UnsupportedOperationException") (RelP g a (if ruT m (ruL tp fc sv of e).2.1 = 0 then ruM m tp (m 193).toNatClampNeg e else m) kp tp h3 0 (ruL tp fc sv of e).2.1 K N)) := by
  have hle := hR.le
  obtain ⟨ic, Tc, si, th, be, nu, di, dh, li, cf, ri, yf, s, tr, af, y, KK, OO, MM, RR, PL, Rl, num, rfl, hT, hS, hK, hO, hKn, hNn⟩ := hR
  have hB : ∀ k, k < e → ByA (Tc k) (tp k) := fun k hk => hT.2.2.1 k (by have := hT.2.1; omega)
  rw [rule_f (fc := fc) hT.2.1 hB hsv hof, hS.2.1.2.1, nI_clamp (by have := hS.2.1.2.2.1.1; omega)]
  cases RR with
  | none =>
    by_cases hr1 : (ruR Tc e).1 = -1
    · have hb193 : m 193 = nI num := hS.2.1.2.1
      have hn6' : num ≤ 6 := hS.2.1.2.2.1.1
      by_cases hn : num < 6
      · have hn6 := hn
        have ht : ruT m (ruR Tc e).1 = 0 := by
          unfold ruT
          rw [if_pos hr1, if_neg (by rw [hb193]; exact fun z => by have := nI_eqI (a := num) (b := 6) (by omega) (by omega) z; omega)]
        rw [if_pos ht]
        refine ct_u (c_X11_rule0 hT.1 hT.2.1 hr1 (rule_len hT.2.1 hr1).2 hS.2.1.1 hn6) ([(a 6, ob 0 di (rL (a 7))), (a 7, aI g 192 dh), (a 9, ob 0 li (rL (a 10))), (a 10, aI g 192 cf), (a 12, aI g 2 yf), (a 14, ob 8 s []), (a 15, ob 8 tr [])] ++ ((kpW g KK ++ (odW g (a 8) OO ++ (mdW g (a 8) MM ++ []))) ++ plW g PL)) (pm (n := 16) (C := (cC g a ic Tc si th be nu di dh li cf ri yf s tr af y (kpR KK) (odR OO) (mdR9 MM) none)) (fp := [(a 0, ob 11 ic [some (a 1), some (a 2), some (a 6), some (a 8), some (a 15), (kpR KK), (odR OO), (mdR9 MM), none, none, none]), (a 1, aB g 400 Tc), (a 2, ob 7 si [some (a 3), some (a 4), some (a 5), y, none, none, none]), (a 3, aI g 401 th), (a 4, aI g 401 be), (a 5, aI g 401 nu), (a 8, ob 10 (fun _ => 0) (rD (a 9) (a 11) (a 14))), (a 11, ob 6 ri (rQ (a 12) (a 13))), (a 13, aR g 6 af)]) (rc := [(a 6, ob 0 di (rL (a 7))), (a 7, aI g 192 dh), (a 9, ob 0 li (rL (a 10))), (a 10, aI g 192 cf), (a 12, aI g 2 yf), (a 14, ob 8 s []), (a 15, ob 8 tr [])]) (X := ((kpW g KK ++ (odW g (a 8) OO ++ (mdW g (a 8) MM ++ []))) ++ plW g PL)) [0, 1, 2, 3, 4, 5, 8, 11, 13, 6, 7, 9, 10, 12, 14, 15] (by decide) rfl rfl) (by decide) (by have := (rule_len hT.2.1 hr1).2; omega) (by have := (rule_len hT.2.1 hr1).2; omega) (fun v w1 k9 n9 h => ?_) (fun _ _ _ _ h => h.elim)
        obtain ⟨z, hx9, rfl, rfl⟩ := h
        have hl9 := (rule_len hT.2.1 hr1).2
        exact ⟨_, (pmR5 (n := 16) (C := (cC g a (upd (upd ic 9 0) 10 (ruR Tc e).1) Tc (z.1.2.1.1) (z.1.2.1.2.1) (z.1.2.1.2.2.1) (z.1.2.1.2.2.2) di dh li cf (upd ri 2 (nI (num + 1))) yf s tr (va_up af num (some z.2.1)) (some (a 1)) (kpR KK) (odR OO) (mdR9 MM) (some z.1.1.1))) (fp := [(a 0, ob 11 (upd (upd ic 9 0) 10 (ruR Tc e).1) [some (a 1), some (a 2), some (a 6), some (a 8), some (a 15), (kpR KK), (odR OO), (mdR9 MM), (some z.1.1.1), none, none]), (a 1, aB g 400 Tc), (a 2, ob 7 (z.1.2.1.1) [some (a 3), some (a 4), some (a 5), (some (a 1)), none, none, none]), (a 3, aI g 401 (z.1.2.1.2.1)), (a 4, aI g 401 (z.1.2.1.2.2.1)), (a 5, aI g 401 (z.1.2.1.2.2.2)), (a 8, ob 10 (fun _ => 0) (rD (a 9) (a 11) (a 14))), (a 11, ob 6 (upd ri 2 (nI (num + 1))) (rQ (a 12) (a 13))), (a 13, aR g 6 (va_up af num (some z.2.1)))]) (rc := [(a 6, ob 0 di (rL (a 7))), (a 7, aI g 192 dh), (a 9, ob 0 li (rL (a 10))), (a 10, aI g 192 cf), (a 12, aI g 2 yf), (a 14, ob 8 s []), (a 15, ob 8 tr [])]) (K := kpW g KK) (O := odW g (a 8) OO) (M := mdW g (a 8) MM) (R := [(z.1.1.1, ob 5 z.1.2.2.1 [some z.1.1.2, none, none, (some (a 2))]), (z.1.1.2, aI g 400 z.1.2.2.2)]) (P := plW g PL) (u := (z.2.2.1, aI g (ruR Tc e).2.2.length z.2.2.2.2)) (v := (z.2.1, ob 4 (fun _ => 0) [some z.2.2.1, some z.2.2.2.1])) (w := (z.2.2.2.1, aI g 40 (fun _ => 0))) [0, 1, 2, 3, 4, 5, 8, 11, 13, 6, 7, 9, 10, 12, 14, 15] (by decide) rfl rfl), ⟨ht, rfl⟩, K, N, ⟨_, Tc, _, _, _, _, di, dh, li, cf, _, yf, s, tr, _, _, KK, OO, MM, (some (z.1.1.1, z.1.1.2, z.1.2.2.1, z.1.2.2.2, some (a 2))), (PL ++ [(z.2.1, z.2.2.1, z.2.2.2.1, (ruR Tc e).2.2.length, z.2.2.2.2, fun _ => 0)]), _, _, by rw [cW, plW_app]; rfl, ⟨rfl, by omega, hT.2.2.1, rfl⟩, (hS.rule (u := (z.2.1, z.2.2.1, z.2.2.2.1, (ruR Tc e).2.2.length, z.2.2.2.2, fun _ => 0)) hn6 hT.2.1 hB hr1 rfl hx9.2.2), hK.app, hO, hKn, hNn⟩, by omega, by omega⟩
      · have hn6 : ¬ ri 2 < 6 := by
          rw [hS.2.1.1, show num = 6 by omega]; decide
        have ht : ruT m (ruR Tc e).1 = 2 := by
          unfold ruT
          rw [if_pos hr1, if_pos (by rw [hb193, show num = 6 by omega]; rfl)]
        rw [if_neg (by rw [ht]; decide)]
        refine ct_u (x_X11_rule02 (num := 0) hT.1 hT.2.1 hr1 hn6) ([(a 6, ob 0 di (rL (a 7))), (a 7, aI g 192 dh), (a 9, ob 0 li (rL (a 10))), (a 10, aI g 192 cf), (a 12, aI g 2 yf), (a 14, ob 8 s []), (a 15, ob 8 tr [])] ++ ((kpW g KK ++ (odW g (a 8) OO ++ (mdW g (a 8) MM ++ []))) ++ plW g PL)) (pm (n := 16) (C := (cC g a ic Tc si th be nu di dh li cf ri yf s tr af y (kpR KK) (odR OO) (mdR9 MM) none)) (fp := [(a 0, ob 11 ic [some (a 1), some (a 2), some (a 6), some (a 8), some (a 15), (kpR KK), (odR OO), (mdR9 MM), none, none, none]), (a 1, aB g 400 Tc), (a 2, ob 7 si [some (a 3), some (a 4), some (a 5), y, none, none, none]), (a 3, aI g 401 th), (a 4, aI g 401 be), (a 5, aI g 401 nu), (a 8, ob 10 (fun _ => 0) (rD (a 9) (a 11) (a 14))), (a 11, ob 6 ri (rQ (a 12) (a 13))), (a 13, aR g 6 af)]) (rc := [(a 6, ob 0 di (rL (a 7))), (a 7, aI g 192 dh), (a 9, ob 0 li (rL (a 10))), (a 10, aI g 192 cf), (a 12, aI g 2 yf), (a 14, ob 8 s []), (a 15, ob 8 tr [])]) (X := ((kpW g KK ++ (odW g (a 8) OO ++ (mdW g (a 8) MM ++ []))) ++ plW g PL)) [0, 1, 2, 3, 4, 5, 8, 11, 13, 6, 7, 9, 10, 12, 14, 15] (by decide) rfl rfl) (by decide) (by omega) (by omega) (fun _ _ _ _ h => h.elim) (fun E w1 k9 n9 h => ?_)
        obtain ⟨z, ⟨rfl, rfl⟩, rfl, rfl⟩ := h
        exact ⟨_, (pmR0 (n := 16) (C := (cC g a (upd (upd ic 9 0) 10 (ruR Tc e).1) Tc (z.2.1.1) (z.2.1.2.1) (z.2.1.2.2.1) (z.2.1.2.2.2) di dh li cf ri yf s tr af (some (a 1)) (kpR KK) (odR OO) (mdR9 MM) (some z.1.1))) (fp := [(a 0, ob 11 (upd (upd ic 9 0) 10 (ruR Tc e).1) [some (a 1), some (a 2), some (a 6), some (a 8), some (a 15), (kpR KK), (odR OO), (mdR9 MM), (some z.1.1), none, none]), (a 1, aB g 400 Tc), (a 2, ob 7 (z.2.1.1) [some (a 3), some (a 4), some (a 5), (some (a 1)), none, none, none]), (a 3, aI g 401 (z.2.1.2.1)), (a 4, aI g 401 (z.2.1.2.2.1)), (a 5, aI g 401 (z.2.1.2.2.2)), (a 8, ob 10 (fun _ => 0) (rD (a 9) (a 11) (a 14))), (a 11, ob 6 ri (rQ (a 12) (a 13))), (a 13, aR g 6 af)]) (rc := [(a 6, ob 0 di (rL (a 7))), (a 7, aI g 192 dh), (a 9, ob 0 li (rL (a 10))), (a 10, aI g 192 cf), (a 12, aI g 2 yf), (a 14, ob 8 s []), (a 15, ob 8 tr [])]) (K := kpW g KK) (O := odW g (a 8) OO) (M := mdW g (a 8) MM) (R := [(z.1.1, ob 5 z.2.2.1 [some z.1.2, none, none, (some (a 2))]), (z.1.2, aI g 400 z.2.2.2)]) (P := plW g PL) [0, 1, 2, 3, 4, 5, 8, 11, 13, 6, 7, 9, 10, 12, 14, 15] (by decide) rfl rfl), Or.inr ⟨ht, rfl⟩, K, N, ⟨_, Tc, _, _, _, _, di, dh, li, cf, ri, yf, s, tr, af, _, KK, OO, MM, (some (z.1.1, z.1.2, z.2.2.1, z.2.2.2, some (a 2))), PL, Rl, num, rfl, ⟨rfl, by omega, hT.2.2.1, rfl⟩, hS, hK, hO, hKn, hNn⟩, by omega, by omega⟩
    · have ht : ruT m (ruR Tc e).1 = 1 := by
        unfold ruT
        rw [if_neg hr1]
      rw [if_neg (by rw [ht]; decide)]
      refine ct_u (x_X11_rule01 (num := 0) hT.1 hT.2.1 hr1) ([(a 6, ob 0 di (rL (a 7))), (a 7, aI g 192 dh), (a 9, ob 0 li (rL (a 10))), (a 10, aI g 192 cf), (a 12, aI g 2 yf), (a 14, ob 8 s []), (a 15, ob 8 tr [])] ++ ((kpW g KK ++ (odW g (a 8) OO ++ (mdW g (a 8) MM ++ []))) ++ plW g PL)) (pm (n := 16) (C := (cC g a ic Tc si th be nu di dh li cf ri yf s tr af y (kpR KK) (odR OO) (mdR9 MM) none)) (fp := [(a 0, ob 11 ic [some (a 1), some (a 2), some (a 6), some (a 8), some (a 15), (kpR KK), (odR OO), (mdR9 MM), none, none, none]), (a 1, aB g 400 Tc), (a 2, ob 7 si [some (a 3), some (a 4), some (a 5), y, none, none, none]), (a 3, aI g 401 th), (a 4, aI g 401 be), (a 5, aI g 401 nu), (a 8, ob 10 (fun _ => 0) (rD (a 9) (a 11) (a 14))), (a 11, ob 6 ri (rQ (a 12) (a 13))), (a 13, aR g 6 af)]) (rc := [(a 6, ob 0 di (rL (a 7))), (a 7, aI g 192 dh), (a 9, ob 0 li (rL (a 10))), (a 10, aI g 192 cf), (a 12, aI g 2 yf), (a 14, ob 8 s []), (a 15, ob 8 tr [])]) (X := ((kpW g KK ++ (odW g (a 8) OO ++ (mdW g (a 8) MM ++ []))) ++ plW g PL)) [0, 1, 2, 3, 4, 5, 8, 11, 13, 6, 7, 9, 10, 12, 14, 15] (by decide) rfl rfl) (by decide) (by omega) (by omega) (fun _ _ _ _ h => h.elim) (fun E w1 k9 n9 h => ?_)
      obtain ⟨z, ⟨rfl, rfl⟩, rfl, rfl⟩ := h
      exact ⟨_, (pmR0 (n := 16) (C := (cC g a (upd (upd ic 9 0) 10 (ruR Tc e).1) Tc (z.2.1.1) (z.2.1.2.1) (z.2.1.2.2.1) (z.2.1.2.2.2) di dh li cf ri yf s tr af (some (a 1)) (kpR KK) (odR OO) (mdR9 MM) (some z.1.1))) (fp := [(a 0, ob 11 (upd (upd ic 9 0) 10 (ruR Tc e).1) [some (a 1), some (a 2), some (a 6), some (a 8), some (a 15), (kpR KK), (odR OO), (mdR9 MM), (some z.1.1), none, none]), (a 1, aB g 400 Tc), (a 2, ob 7 (z.2.1.1) [some (a 3), some (a 4), some (a 5), (some (a 1)), none, none, none]), (a 3, aI g 401 (z.2.1.2.1)), (a 4, aI g 401 (z.2.1.2.2.1)), (a 5, aI g 401 (z.2.1.2.2.2)), (a 8, ob 10 (fun _ => 0) (rD (a 9) (a 11) (a 14))), (a 11, ob 6 ri (rQ (a 12) (a 13))), (a 13, aR g 6 af)]) (rc := [(a 6, ob 0 di (rL (a 7))), (a 7, aI g 192 dh), (a 9, ob 0 li (rL (a 10))), (a 10, aI g 192 cf), (a 12, aI g 2 yf), (a 14, ob 8 s []), (a 15, ob 8 tr [])]) (K := kpW g KK) (O := odW g (a 8) OO) (M := mdW g (a 8) MM) (R := [(z.1.1, ob 5 z.2.2.1 [some z.1.2, none, none, (some (a 2))]), (z.1.2, aI g 400 z.2.2.2)]) (P := plW g PL) [0, 1, 2, 3, 4, 5, 8, 11, 13, 6, 7, 9, 10, 12, 14, 15] (by decide) rfl rfl), Or.inl ⟨ht, rfl⟩, K, N, ⟨_, Tc, _, _, _, _, di, dh, li, cf, ri, yf, s, tr, af, _, KK, OO, MM, (some (z.1.1, z.1.2, z.2.2.1, z.2.2.2, some (a 2))), PL, Rl, num, rfl, ⟨rfl, by omega, hT.2.2.1, rfl⟩, hS, hK, hO, hKn, hNn⟩, by omega, by omega⟩
  | some zr =>
    by_cases hr1 : (ruR Tc e).1 = -1
    · have hb193 : m 193 = nI num := hS.2.1.2.1
      have hn6' : num ≤ 6 := hS.2.1.2.2.1.1
      by_cases hn : num < 6
      · have hn6 := hn
        have ht : ruT m (ruR Tc e).1 = 0 := by
          unfold ruT
          rw [if_pos hr1, if_neg (by rw [hb193]; exact fun z => by have := nI_eqI (a := num) (b := 6) (by omega) (by omega) z; omega)]
        rw [if_pos ht]
        refine ct_u (c_X11_rule1 hT.1 hT.2.1 hr1 (rule_len hT.2.1 hr1).2 hS.2.1.1 hn6) ([(a 6, ob 0 di (rL (a 7))), (a 7, aI g 192 dh), (a 9, ob 0 li (rL (a 10))), (a 10, aI g 192 cf), (a 12, aI g 2 yf), (a 14, ob 8 s []), (a 15, ob 8 tr [])] ++ ((kpW g KK ++ (odW g (a 8) OO ++ mdW g (a 8) MM)) ++ plW g PL)) (pmR2 (n := 16) (C := (cC g a ic Tc si th be nu di dh li cf ri yf s tr af y (kpR KK) (odR OO) (mdR9 MM) (some zr.1))) (fp := [(a 0, ob 11 ic [some (a 1), some (a 2), some (a 6), some (a 8), some (a 15), (kpR KK), (odR OO), (mdR9 MM), (some zr.1), none, none]), (a 1, aB g 400 Tc), (a 2, ob 7 si [some (a 3), some (a 4), some (a 5), y, none, none, none]), (a 3, aI g 401 th), (a 4, aI g 401 be), (a 5, aI g 401 nu), (a 8, ob 10 (fun _ => 0) (rD (a 9) (a 11) (a 14))), (a 11, ob 6 ri (rQ (a 12) (a 13))), (a 13, aR g 6 af)]) (rc := [(a 6, ob 0 di (rL (a 7))), (a 7, aI g 192 dh), (a 9, ob 0 li (rL (a 10))), (a 10, aI g 192 cf), (a 12, aI g 2 yf), (a 14, ob 8 s []), (a 15, ob 8 tr [])]) (K := kpW g KK) (O := odW g (a 8) OO) (M := mdW g (a 8) MM) (R := [(zr.1, ob 5 zr.2.2.1 [some zr.2.1, none, none, zr.2.2.2.2]), (zr.2.1, aI g 400 zr.2.2.2.1)]) (P := plW g PL) [0, 1, 2, 3, 4, 5, 8, 11, 13, 6, 7, 9, 10, 12, 14, 15] (by decide) rfl rfl) (by decide) (by have := (rule_len hT.2.1 hr1).2; omega) (by have := (rule_len hT.2.1 hr1).2; omega) (fun v w1 k9 n9 h => ?_) (fun _ _ _ _ h => h.elim)
        obtain ⟨z, hx9, rfl, rfl⟩ := h
        have hl9 := (rule_len hT.2.1 hr1).2
        exact ⟨_, (pmR4 (n := 16) (C := (cC g a (upd (upd ic 9 0) 10 (ruR Tc e).1) Tc (z.1.2.1.1) (z.1.2.1.2.1) (z.1.2.1.2.2.1) (z.1.2.1.2.2.2) di dh li cf (upd ri 2 (nI (num + 1))) yf s tr (va_up af num (some z.2.1)) (some (a 1)) (kpR KK) (odR OO) (mdR9 MM) (some zr.1))) (fp := [(a 0, ob 11 (upd (upd ic 9 0) 10 (ruR Tc e).1) [some (a 1), some (a 2), some (a 6), some (a 8), some (a 15), (kpR KK), (odR OO), (mdR9 MM), (some zr.1), none, none]), (a 1, aB g 400 Tc), (a 2, ob 7 (z.1.2.1.1) [some (a 3), some (a 4), some (a 5), (some (a 1)), none, none, none]), (a 3, aI g 401 (z.1.2.1.2.1)), (a 4, aI g 401 (z.1.2.1.2.2.1)), (a 5, aI g 401 (z.1.2.1.2.2.2)), (a 8, ob 10 (fun _ => 0) (rD (a 9) (a 11) (a 14))), (a 11, ob 6 (upd ri 2 (nI (num + 1))) (rQ (a 12) (a 13))), (a 13, aR g 6 (va_up af num (some z.2.1)))]) (rc := [(a 6, ob 0 di (rL (a 7))), (a 7, aI g 192 dh), (a 9, ob 0 li (rL (a 10))), (a 10, aI g 192 cf), (a 12, aI g 2 yf), (a 14, ob 8 s []), (a 15, ob 8 tr [])]) (K := kpW g KK) (O := odW g (a 8) OO) (M := mdW g (a 8) MM) (R := [(zr.1, ob 5 z.1.2.2.1 [some zr.2.1, none, none, (some (a 2))]), (zr.2.1, aI g 400 z.1.2.2.2)]) (P := plW g PL) (u := (z.2.2.1, aI g (ruR Tc e).2.2.length z.2.2.2.2)) (v := (z.2.1, ob 4 (fun _ => 0) [some z.2.2.1, some z.2.2.2.1])) (w := (z.2.2.2.1, aI g 40 (fun _ => 0))) [0, 1, 2, 3, 4, 5, 8, 11, 13, 6, 7, 9, 10, 12, 14, 15] (by decide) rfl rfl), ⟨ht, rfl⟩, K, N, ⟨_, Tc, _, _, _, _, di, dh, li, cf, _, yf, s, tr, _, _, KK, OO, MM, (some (zr.1, zr.2.1, z.1.2.2.1, z.1.2.2.2, some (a 2))), (PL ++ [(z.2.1, z.2.2.1, z.2.2.2.1, (ruR Tc e).2.2.length, z.2.2.2.2, fun _ => 0)]), _, _, by rw [cW, plW_app]; rfl, ⟨rfl, by omega, hT.2.2.1, rfl⟩, (hS.rule (u := (z.2.1, z.2.2.1, z.2.2.2.1, (ruR Tc e).2.2.length, z.2.2.2.2, fun _ => 0)) hn6 hT.2.1 hB hr1 rfl hx9.2.2), hK.app, hO, hKn, hNn⟩, by omega, by omega⟩
      · have hn6 : ¬ ri 2 < 6 := by
          rw [hS.2.1.1, show num = 6 by omega]; decide
        have ht : ruT m (ruR Tc e).1 = 2 := by
          unfold ruT
          rw [if_pos hr1, if_pos (by rw [hb193, show num = 6 by omega]; rfl)]
        rw [if_neg (by rw [ht]; decide)]
        refine ct_u (x_X11_rule12 (num := 0) hT.1 hT.2.1 hr1 hn6) ([(a 6, ob 0 di (rL (a 7))), (a 7, aI g 192 dh), (a 9, ob 0 li (rL (a 10))), (a 10, aI g 192 cf), (a 12, aI g 2 yf), (a 14, ob 8 s []), (a 15, ob 8 tr [])] ++ ((kpW g KK ++ (odW g (a 8) OO ++ mdW g (a 8) MM)) ++ plW g PL)) (pmR2 (n := 16) (C := (cC g a ic Tc si th be nu di dh li cf ri yf s tr af y (kpR KK) (odR OO) (mdR9 MM) (some zr.1))) (fp := [(a 0, ob 11 ic [some (a 1), some (a 2), some (a 6), some (a 8), some (a 15), (kpR KK), (odR OO), (mdR9 MM), (some zr.1), none, none]), (a 1, aB g 400 Tc), (a 2, ob 7 si [some (a 3), some (a 4), some (a 5), y, none, none, none]), (a 3, aI g 401 th), (a 4, aI g 401 be), (a 5, aI g 401 nu), (a 8, ob 10 (fun _ => 0) (rD (a 9) (a 11) (a 14))), (a 11, ob 6 ri (rQ (a 12) (a 13))), (a 13, aR g 6 af)]) (rc := [(a 6, ob 0 di (rL (a 7))), (a 7, aI g 192 dh), (a 9, ob 0 li (rL (a 10))), (a 10, aI g 192 cf), (a 12, aI g 2 yf), (a 14, ob 8 s []), (a 15, ob 8 tr [])]) (K := kpW g KK) (O := odW g (a 8) OO) (M := mdW g (a 8) MM) (R := [(zr.1, ob 5 zr.2.2.1 [some zr.2.1, none, none, zr.2.2.2.2]), (zr.2.1, aI g 400 zr.2.2.2.1)]) (P := plW g PL) [0, 1, 2, 3, 4, 5, 8, 11, 13, 6, 7, 9, 10, 12, 14, 15] (by decide) rfl rfl) (by decide) (by omega) (by omega) (fun _ _ _ _ h => h.elim) (fun E w1 k9 n9 h => ?_)
        obtain ⟨z, ⟨rfl, rfl⟩, rfl, rfl⟩ := h
        exact ⟨_, (pmR2 (n := 16) (C := (cC g a (upd (upd ic 9 0) 10 (ruR Tc e).1) Tc (z.2.1.1) (z.2.1.2.1) (z.2.1.2.2.1) (z.2.1.2.2.2) di dh li cf ri yf s tr af (some (a 1)) (kpR KK) (odR OO) (mdR9 MM) (some zr.1))) (fp := [(a 0, ob 11 (upd (upd ic 9 0) 10 (ruR Tc e).1) [some (a 1), some (a 2), some (a 6), some (a 8), some (a 15), (kpR KK), (odR OO), (mdR9 MM), (some zr.1), none, none]), (a 1, aB g 400 Tc), (a 2, ob 7 (z.2.1.1) [some (a 3), some (a 4), some (a 5), (some (a 1)), none, none, none]), (a 3, aI g 401 (z.2.1.2.1)), (a 4, aI g 401 (z.2.1.2.2.1)), (a 5, aI g 401 (z.2.1.2.2.2)), (a 8, ob 10 (fun _ => 0) (rD (a 9) (a 11) (a 14))), (a 11, ob 6 ri (rQ (a 12) (a 13))), (a 13, aR g 6 af)]) (rc := [(a 6, ob 0 di (rL (a 7))), (a 7, aI g 192 dh), (a 9, ob 0 li (rL (a 10))), (a 10, aI g 192 cf), (a 12, aI g 2 yf), (a 14, ob 8 s []), (a 15, ob 8 tr [])]) (K := kpW g KK) (O := odW g (a 8) OO) (M := mdW g (a 8) MM) (R := [(zr.1, ob 5 z.2.2.1 [some zr.2.1, none, none, (some (a 2))]), (zr.2.1, aI g 400 z.2.2.2)]) (P := plW g PL) [0, 1, 2, 3, 4, 5, 8, 11, 13, 6, 7, 9, 10, 12, 14, 15] (by decide) rfl rfl), Or.inr ⟨ht, rfl⟩, K, N, ⟨_, Tc, _, _, _, _, di, dh, li, cf, ri, yf, s, tr, af, _, KK, OO, MM, (some (zr.1, zr.2.1, z.2.2.1, z.2.2.2, some (a 2))), PL, Rl, num, rfl, ⟨rfl, by omega, hT.2.2.1, rfl⟩, hS, hK, hO, hKn, hNn⟩, by omega, by omega⟩
    · have ht : ruT m (ruR Tc e).1 = 1 := by
        unfold ruT
        rw [if_neg hr1]
      rw [if_neg (by rw [ht]; decide)]
      refine ct_u (x_X11_rule11 (num := 0) hT.1 hT.2.1 hr1) ([(a 6, ob 0 di (rL (a 7))), (a 7, aI g 192 dh), (a 9, ob 0 li (rL (a 10))), (a 10, aI g 192 cf), (a 12, aI g 2 yf), (a 14, ob 8 s []), (a 15, ob 8 tr [])] ++ ((kpW g KK ++ (odW g (a 8) OO ++ mdW g (a 8) MM)) ++ plW g PL)) (pmR2 (n := 16) (C := (cC g a ic Tc si th be nu di dh li cf ri yf s tr af y (kpR KK) (odR OO) (mdR9 MM) (some zr.1))) (fp := [(a 0, ob 11 ic [some (a 1), some (a 2), some (a 6), some (a 8), some (a 15), (kpR KK), (odR OO), (mdR9 MM), (some zr.1), none, none]), (a 1, aB g 400 Tc), (a 2, ob 7 si [some (a 3), some (a 4), some (a 5), y, none, none, none]), (a 3, aI g 401 th), (a 4, aI g 401 be), (a 5, aI g 401 nu), (a 8, ob 10 (fun _ => 0) (rD (a 9) (a 11) (a 14))), (a 11, ob 6 ri (rQ (a 12) (a 13))), (a 13, aR g 6 af)]) (rc := [(a 6, ob 0 di (rL (a 7))), (a 7, aI g 192 dh), (a 9, ob 0 li (rL (a 10))), (a 10, aI g 192 cf), (a 12, aI g 2 yf), (a 14, ob 8 s []), (a 15, ob 8 tr [])]) (K := kpW g KK) (O := odW g (a 8) OO) (M := mdW g (a 8) MM) (R := [(zr.1, ob 5 zr.2.2.1 [some zr.2.1, none, none, zr.2.2.2.2]), (zr.2.1, aI g 400 zr.2.2.2.1)]) (P := plW g PL) [0, 1, 2, 3, 4, 5, 8, 11, 13, 6, 7, 9, 10, 12, 14, 15] (by decide) rfl rfl) (by decide) (by omega) (by omega) (fun _ _ _ _ h => h.elim) (fun E w1 k9 n9 h => ?_)
      obtain ⟨z, ⟨rfl, rfl⟩, rfl, rfl⟩ := h
      exact ⟨_, (pmR2 (n := 16) (C := (cC g a (upd (upd ic 9 0) 10 (ruR Tc e).1) Tc (z.2.1.1) (z.2.1.2.1) (z.2.1.2.2.1) (z.2.1.2.2.2) di dh li cf ri yf s tr af (some (a 1)) (kpR KK) (odR OO) (mdR9 MM) (some zr.1))) (fp := [(a 0, ob 11 (upd (upd ic 9 0) 10 (ruR Tc e).1) [some (a 1), some (a 2), some (a 6), some (a 8), some (a 15), (kpR KK), (odR OO), (mdR9 MM), (some zr.1), none, none]), (a 1, aB g 400 Tc), (a 2, ob 7 (z.2.1.1) [some (a 3), some (a 4), some (a 5), (some (a 1)), none, none, none]), (a 3, aI g 401 (z.2.1.2.1)), (a 4, aI g 401 (z.2.1.2.2.1)), (a 5, aI g 401 (z.2.1.2.2.2)), (a 8, ob 10 (fun _ => 0) (rD (a 9) (a 11) (a 14))), (a 11, ob 6 ri (rQ (a 12) (a 13))), (a 13, aR g 6 af)]) (rc := [(a 6, ob 0 di (rL (a 7))), (a 7, aI g 192 dh), (a 9, ob 0 li (rL (a 10))), (a 10, aI g 192 cf), (a 12, aI g 2 yf), (a 14, ob 8 s []), (a 15, ob 8 tr [])]) (K := kpW g KK) (O := odW g (a 8) OO) (M := mdW g (a 8) MM) (R := [(zr.1, ob 5 z.2.2.1 [some zr.2.1, none, none, (some (a 2))]), (zr.2.1, aI g 400 z.2.2.2)]) (P := plW g PL) [0, 1, 2, 3, 4, 5, 8, 11, 13, 6, 7, 9, 10, 12, 14, 15] (by decide) rfl rfl), Or.inl ⟨ht, rfl⟩, K, N, ⟨_, Tc, _, _, _, _, di, dh, li, cf, ri, yf, s, tr, af, _, KK, OO, MM, (some (zr.1, zr.2.1, z.2.2.1, z.2.2.2, some (a 2))), PL, Rl, num, rfl, ⟨rfl, by omega, hT.2.2.1, rfl⟩, hS, hK, hO, hKn, hNn⟩, by omega, by omega⟩

