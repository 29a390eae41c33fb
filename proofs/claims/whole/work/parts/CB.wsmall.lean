/-! ===== the class's methods over its whole world, against the reference: small ones ===== -/
abbrev wPo (C : Option Value → Prop) (R : va_W → Nat → Nat → Prop) : Pst := fun v T k n => C v ∧ R T k n
abbrev wPx (C : String → Prop) (R : va_W → Nat → Nat → Prop) : Pxc := fun E T k n => C E ∧ R T k n
theorem Rel.le {g : Gh} {a : Nat → Nat} {m kp tp : Sc} {h3 : Int32} {e : Nat} {ft : Int32} {T : va_W} {K N : Nat} (hR : Rel g a m kp tp h3 e ft T K N) : K ≤ KM9 ∧ N ≤ NM9 := by
  obtain ⟨ic, Tc, si, th, be, nu, di, dh, li, cf, ri, yf, s, tr, af, y, KK, OO, MM, RR, PL, Rl, num, rfl, hT, hS, hK, hO, hKn, hNn⟩ := hR
  have h1 := odKz_le hO.1
  have h2 := mdKz_le hO.2
  unfold KM9 NM9
  omega
theorem Rel.P {g : Gh} {a : Nat → Nat} {m kp tp : Sc} {h3 : Int32} {e : Nat} {ft : Int32} {T : va_W} {K N k n : Nat} (hR : Rel g a m kp tp h3 e ft T K N) (hk : k ≤ 32) (hn : n ≤ 2000) : RelP g a m kp tp h3 e ft K N T k n := ⟨K, N, hR, by omega, by omega⟩
/-- a throw ahead of all -/
theorem rel_x0 {l : Launch} {g : Gh} {a : Nat → Nat} {m kp tp : Sc} {h3 : Int32} {e : Nat} {ft : Int32} {T : va_W} {K N : Nat} (hR : Rel g a m kp tp h3 e ft T K N) {y : MethodName} {hd : Cond} {d : Nat} {args : List Value} {cls : String} {C : Option Value → Prop} {X : String → Prop} (c : Cx l g y hd d args [] cls []) (hd' : d ≤ 40) (hX : X cls) : Ct l g y hd 40 (KM9 - K + 32) (NM9 - N + 2000) args T (wPo C (RelP g a m kp tp h3 e ft K N)) (wPx X (RelP g a m kp tp h3 e ft K N)) := by
  refine ct_u c T (List.Perm.refl _) hd' (by omega) (by omega) (fun _ _ _ _ h => h.elim) (fun E w1 k n h => ?_)
  obtain ⟨rfl, rfl, rfl, rfl⟩ := h
  exact ⟨T, List.Perm.refl _, hX, hR.P (by omega) (by omega)⟩
/-- a throw over a part of the world, which stays -/
theorem rel_x1 {l : Launch} {g : Gh} {a : Nat → Nat} {m kp tp : Sc} {h3 : Int32} {e : Nat} {ft : Int32} {T : va_W} {K N : Nat} (hR : Rel g a m kp tp h3 e ft T K N) {y : MethodName} {hd : Cond} {d : Nat} {args : List Value} {cls : String} {C : Option Value → Prop} {X : String → Prop} {w : va_W} (c : Cx l g y hd d args w cls w) (wr : va_W) (hW : (w ++ wr).Perm T) (hd' : d ≤ 40) (hX : X cls) : Ct l g y hd 40 (KM9 - K + 32) (NM9 - N + 2000) args T (wPo C (RelP g a m kp tp h3 e ft K N)) (wPx X (RelP g a m kp tp h3 e ft K N)) := by
  refine ct_u c wr hW hd' (by omega) (by omega) (fun _ _ _ _ h => h.elim) (fun E w1 k n h => ?_)
  obtain ⟨rfl, rfl, rfl, rfl⟩ := h
  exact ⟨T, hW, hX, hR.P (by omega) (by omega)⟩
/-- a look at a part of the world, which stays -/
theorem rel_p {l : Launch} {g : Gh} {a : Nat → Nat} {m kp tp : Sc} {h3 : Int32} {e : Nat} {ft : Int32} {T : va_W} {K N : Nat} (hR : Rel g a m kp tp h3 e ft T K N) {y : MethodName} {hd : Cond} {d : Nat} {args : List Value} {v : Option Value} {C : Option Value → Prop} {X : String → Prop} {w : va_W} (c : Cp l g y hd d args w v w) (wr : va_W) (hW : (w ++ wr).Perm T) (hd' : d ≤ 40) (hC : C v) : Ct l g y hd 40 (KM9 - K + 32) (NM9 - N + 2000) args T (wPo C (RelP g a m kp tp h3 e ft K N)) (wPx X (RelP g a m kp tp h3 e ft K N)) := by
  refine ct_u c wr hW hd' (by omega) (by omega) (fun v w1 k n h => ?_) (fun _ _ _ _ h => h.elim)
  obtain ⟨rfl, rfl, rfl, rfl⟩ := h
  exact ⟨T, hW, hC, hR.P (by omega) (by omega)⟩
theorem le9 {y : Int32} : y ≤ 9 ↔ y < 10 := by rw [i_le, i_lt]; show y.toInt ≤ 9 ↔ y.toInt < 10; omega
theorem le3 {y : Int32} : y ≤ 3 ↔ y < 4 := by rw [i_le, i_lt]; show y.toInt ≤ 3 ↔ y.toInt < 4; omega
theorem le11 {y : Int32} : y ≤ 11 ↔ y < 12 := by rw [i_le, i_lt]; show y.toInt ≤ 11 ↔ y.toInt < 12; omega
theorem rIn_no {v lo hi : Int32} (h : rIn v lo hi = 0) : v < lo ∨ ¬ v ≤ hi := by
  by_cases h1 : v < lo
  · exact Or.inl h1
  · refine Or.inr (fun h2 => ?_)
    exact absurd h (rIn_ne.mpr ⟨Int32.not_lt.mp h1, h2⟩)
theorem rIn_01 {p : Int32} (h : ¬ rIn p 0 1 = 0) : p = 0 ∨ p = 1 := by
  obtain ⟨h1, h2⟩ := rIn_ne.mp h
  obtain ⟨k, hk, rfl⟩ := nat_to (n := 1) h1 h2 (by decide)
  rcases Nat.lt_or_ge k 1 with z | z
  · left; rw [show k = 0 by omega]; rfl
  · right; rw [show k = 1 by omega]; rfl
theorem rIn_n01 {p : Int32} (h : rIn p 0 1 = 0) : ¬ p = 0 ∧ ¬ p = 1 := by
  constructor
  · intro z; rw [z] at h; exact absurd h (by decide)
  · intro z; rw [z] at h; exact absurd h (by decide)
/-! the parts of SR that a change of m leaves -/
def SRa (m li cf : Sc) : Prop := CoM m li cf ∧ CoV m ∧ SmO m ∧ li 4 = m 192 ∧ ∃ c : Nat, c ≤ 12 ∧ m 192 = nI c
def SRb (m ri yf : Sc) (af : Nat → Option Nat) (PL : List RuR) (Rl : Nat → RLs) (num : Nat) : Prop := ri 2 = nI num ∧ m 193 = nI num ∧ RsO num yf af PL Rl ∧ (∀ p, p ≤ 1 → yf p = m (199 + p)) ∧ ∀ r, r < num → RuA m r (Rl r)
theorem SRa.cg {m M li cf : Sc} (h : SRa m li cf) (hm : ∀ k, k < 193 → M k = m k) (h4 : M 194 = m 194) (h5 : M 195 = m 195) (h6 : M 196 = m 196) : SRa M li cf := by
  obtain ⟨⟨a1, a2, a3, a4⟩, ⟨b1, b2, b3, b4⟩, c, d, e⟩ := h
  refine ⟨⟨fun j hj => by rw [hm j (by omega)]; exact a1 j hj, by rw [h4]; exact a2, by rw [h5]; exact a3, by rw [h6]; exact a4⟩, ⟨fun j hj => by rw [hm j (by omega)]; exact b1 j hj, by rw [h4]; exact b2, by rw [h5]; exact b3, by rw [h6]; exact b4⟩, fun j hj => ?_, by rw [hm 192 (by omega)]; exact d, by rw [hm 192 (by omega)]; exact e⟩
  rw [← c j hj]
  exact su_cg 12 (fun i hi => hm _ (by omega))
theorem SRb.cg {m M ri yf : Sc} {af : Nat → Option Nat} {PL : List RuR} {Rl : Nat → RLs} {num : Nat} (h : SRb m ri yf af PL Rl num) (h3 : M 193 = m 193) (h9 : M 199 = m 199) (h10 : M 200 = m 200) (hm : ∀ k, 210 ≤ k → M k = m k) : SRb M ri yf af PL Rl num := by
  obtain ⟨a, b, c, d, f⟩ := h
  refine ⟨a, by rw [h3]; exact b, c, fun p hp => ?_, fun r hr => (f r hr).mono (fun k h1 _ => hm k (by omega))⟩
  rw [d p hp]
  rcases Nat.lt_or_ge p 1 with z | z
  · rw [show p = 0 by omega]; exact h9.symm
  · rw [show p = 1 by omega]; exact h10.symm
theorem SRb.sa {m ri yf : Sc} {af : Nat → Option Nat} {PL Q : List RuR} {Rl : Nat → RLs} {num : Nat} (h : SRb m ri yf af PL Rl num) (hq : SaP PL Q) : SRb m ri yf af Q Rl num := ⟨h.1, h.2.1, h.2.2.1.sa hq, h.2.2.2⟩
theorem kpOK.sa {kp : Sc} {h3 : Int32} {K : Option KpT} {PL Q : List RuR} (h : kpOK kp h3 K PL) (hq : SaP PL Q) : kpOK kp h3 K Q := by
  cases K with
  | none => exact h
  | some z =>
    obtain ⟨a, Rl, num, b, c, d⟩ := h
    exact ⟨a, Rl, num, b, SRb.sa c hq, d⟩

theorem cw_fault {l : Launch} {g : Gh} {a : Nat → Nat} {m kp tp : Sc} {h3 : Int32} {e : Nat} {ft : Int32} {T : va_W} {K N : Nat} (hR : Rel g a m kp tp h3 e ft T K N) : Ct l g yX11_fault (Cond.code yX11_fault cX11_fault 1 (some .int)) 40 (KM9 - K + 32) (NM9 - N + 2000) [.ref (a 0)] T (wPo (fun v => v = some (.int ft)) (RelP g a m kp tp h3 e ft K N)) (wPx (fun E => False) (RelP g a m kp tp h3 e ft K N)) := by
  have hR' := hR
  obtain ⟨ic, Tc, si, th, be, nu, di, dh, li, cf, ri, yf, s, tr, af, y, KK, OO, MM, RR, PL, Rl, num, rfl, hT, hS, hK, hO, hKn, hNn⟩ := hR
  exact rel_p hR' c_X11_fault ([(a 1, aB g 400 Tc), (a 2, ob 7 si [some (a 3), some (a 4), some (a 5), y, none, none, none]), (a 3, aI g 401 th), (a 4, aI g 401 be), (a 5, aI g 401 nu), (a 6, ob 0 di (rL (a 7))), (a 7, aI g 192 dh), (a 8, ob 10 (fun _ => 0) (rD (a 9) (a 11) (a 14))), (a 9, ob 0 li (rL (a 10))), (a 10, aI g 192 cf), (a 11, ob 6 ri (rQ (a 12) (a 13))), (a 12, aI g 2 yf), (a 13, aR g 6 af), (a 14, ob 8 s []), (a 15, ob 8 tr [])] ++ ((kpW g KK ++ (odW g (a 8) OO ++ (mdW g (a 8) MM ++ rdW g RR))) ++ plW g PL)) (pm (n := 16) (C := (cC g a ic Tc si th be nu di dh li cf ri yf s tr af y (kpR KK) (odR OO) (mdR9 MM) (rdR9 RR))) (fp := [(a 0, ob 11 ic [some (a 1), some (a 2), some (a 6), some (a 8), some (a 15), (kpR KK), (odR OO), (mdR9 MM), (rdR9 RR), none, none])]) (rc := [(a 1, aB g 400 Tc), (a 2, ob 7 si [some (a 3), some (a 4), some (a 5), y, none, none, none]), (a 3, aI g 401 th), (a 4, aI g 401 be), (a 5, aI g 401 nu), (a 6, ob 0 di (rL (a 7))), (a 7, aI g 192 dh), (a 8, ob 10 (fun _ => 0) (rD (a 9) (a 11) (a 14))), (a 9, ob 0 li (rL (a 10))), (a 10, aI g 192 cf), (a 11, ob 6 ri (rQ (a 12) (a 13))), (a 12, aI g 2 yf), (a 13, aR g 6 af), (a 14, ob 8 s []), (a 15, ob 8 tr [])]) [0, 1, 2, 3, 4, 5, 6, 7, 8, 9, 10, 11, 12, 13, 14, 15] (by decide) rfl rfl) (by decide) (by rw [hT.2.2.2])

theorem cw_end {l : Launch} {g : Gh} {a : Nat → Nat} {m kp tp : Sc} {h3 : Int32} {e : Nat} {ft : Int32} {T : va_W} {K N : Nat} (hR : Rel g a m kp tp h3 e ft T K N) {n9 : Int32} : Ct l g yX11_end (Cond.code yX11_end cX11_end 2 (some .boolean)) 40 (KM9 - K + 32) (NM9 - N + 2000) [.ref (a 0), .int n9] T (wPo (fun v => v = some (.int (rIn n9 0 (nI e)))) (RelP g a m kp tp h3 (if rIn n9 0 (nI e) = 0 then e else n9.toNatClampNeg) ft K N)) (wPx (fun E => False) (RelP g a m kp tp h3 (if rIn n9 0 (nI e) = 0 then e else n9.toNatClampNeg) ft K N)) := by
  have hle := hR.le
  have hR' := hR
  obtain ⟨ic, Tc, si, th, be, nu, di, dh, li, cf, ri, yf, s, tr, af, y, KK, OO, MM, RR, PL, Rl, num, rfl, hT, hS, hK, hO, hKn, hNn⟩ := hR
  by_cases h : rIn n9 0 (nI e) = 0
  · rw [if_pos h]
    exact rel_p hR' (c_X11_end0 (by rw [hT.1]; exact rIn_no h)) ([(a 1, aB g 400 Tc), (a 2, ob 7 si [some (a 3), some (a 4), some (a 5), y, none, none, none]), (a 3, aI g 401 th), (a 4, aI g 401 be), (a 5, aI g 401 nu), (a 6, ob 0 di (rL (a 7))), (a 7, aI g 192 dh), (a 8, ob 10 (fun _ => 0) (rD (a 9) (a 11) (a 14))), (a 9, ob 0 li (rL (a 10))), (a 10, aI g 192 cf), (a 11, ob 6 ri (rQ (a 12) (a 13))), (a 12, aI g 2 yf), (a 13, aR g 6 af), (a 14, ob 8 s []), (a 15, ob 8 tr [])] ++ ((kpW g KK ++ (odW g (a 8) OO ++ (mdW g (a 8) MM ++ rdW g RR))) ++ plW g PL)) (pm (n := 16) (C := (cC g a ic Tc si th be nu di dh li cf ri yf s tr af y (kpR KK) (odR OO) (mdR9 MM) (rdR9 RR))) (fp := [(a 0, ob 11 ic [some (a 1), some (a 2), some (a 6), some (a 8), some (a 15), (kpR KK), (odR OO), (mdR9 MM), (rdR9 RR), none, none])]) (rc := [(a 1, aB g 400 Tc), (a 2, ob 7 si [some (a 3), some (a 4), some (a 5), y, none, none, none]), (a 3, aI g 401 th), (a 4, aI g 401 be), (a 5, aI g 401 nu), (a 6, ob 0 di (rL (a 7))), (a 7, aI g 192 dh), (a 8, ob 10 (fun _ => 0) (rD (a 9) (a 11) (a 14))), (a 9, ob 0 li (rL (a 10))), (a 10, aI g 192 cf), (a 11, ob 6 ri (rQ (a 12) (a 13))), (a 12, aI g 2 yf), (a 13, aR g 6 af), (a 14, ob 8 s []), (a 15, ob 8 tr [])]) [0, 1, 2, 3, 4, 5, 6, 7, 8, 9, 10, 11, 12, 13, 14, 15] (by decide) rfl rfl) (by decide) (by rw [h])
  · rw [if_neg h]
    obtain ⟨h1, h2⟩ := rIn_ne.mp h
    obtain ⟨k, hk, rfl⟩ := nat_to h1 h2 (by have := hT.2.1; omega)
    have e1 : rIn (nI k) 0 (nI e) = 1 := (rIn_or _ _ _).resolve_left h
    have e2 : (nI k).toNatClampNeg = k := nI_clamp (by have := hT.2.1; omega)
    rw [e2, e1]
    refine ct_u (c_X11_end1 (Int32.not_lt.mpr h1) (by rw [hT.1]; exact h2)) ([(a 1, aB g 400 Tc), (a 2, ob 7 si [some (a 3), some (a 4), some (a 5), y, none, none, none]), (a 3, aI g 401 th), (a 4, aI g 401 be), (a 5, aI g 401 nu), (a 6, ob 0 di (rL (a 7))), (a 7, aI g 192 dh), (a 8, ob 10 (fun _ => 0) (rD (a 9) (a 11) (a 14))), (a 9, ob 0 li (rL (a 10))), (a 10, aI g 192 cf), (a 11, ob 6 ri (rQ (a 12) (a 13))), (a 12, aI g 2 yf), (a 13, aR g 6 af), (a 14, ob 8 s []), (a 15, ob 8 tr [])] ++ ((kpW g KK ++ (odW g (a 8) OO ++ (mdW g (a 8) MM ++ rdW g RR))) ++ plW g PL)) (pm (n := 16) (C := (cC g a ic Tc si th be nu di dh li cf ri yf s tr af y (kpR KK) (odR OO) (mdR9 MM) (rdR9 RR))) (fp := [(a 0, ob 11 ic [some (a 1), some (a 2), some (a 6), some (a 8), some (a 15), (kpR KK), (odR OO), (mdR9 MM), (rdR9 RR), none, none])]) (rc := [(a 1, aB g 400 Tc), (a 2, ob 7 si [some (a 3), some (a 4), some (a 5), y, none, none, none]), (a 3, aI g 401 th), (a 4, aI g 401 be), (a 5, aI g 401 nu), (a 6, ob 0 di (rL (a 7))), (a 7, aI g 192 dh), (a 8, ob 10 (fun _ => 0) (rD (a 9) (a 11) (a 14))), (a 9, ob 0 li (rL (a 10))), (a 10, aI g 192 cf), (a 11, ob 6 ri (rQ (a 12) (a 13))), (a 12, aI g 2 yf), (a 13, aR g 6 af), (a 14, ob 8 s []), (a 15, ob 8 tr [])]) [0, 1, 2, 3, 4, 5, 6, 7, 8, 9, 10, 11, 12, 13, 14, 15] (by decide) rfl rfl) (by decide) (by omega) (by omega) (fun v w1 k9 n9 h => ?_) (fun _ _ _ _ h => h.elim)
    obtain ⟨rfl, rfl, rfl, rfl⟩ := h
    exact ⟨_, (pm (n := 16) (C := (cC g a (upd ic 9 (nI k)) Tc si th be nu di dh li cf ri yf s tr af y (kpR KK) (odR OO) (mdR9 MM) (rdR9 RR))) (fp := [(a 0, ob 11 (upd ic 9 (nI k)) [some (a 1), some (a 2), some (a 6), some (a 8), some (a 15), (kpR KK), (odR OO), (mdR9 MM), (rdR9 RR), none, none])]) (rc := [(a 1, aB g 400 Tc), (a 2, ob 7 si [some (a 3), some (a 4), some (a 5), y, none, none, none]), (a 3, aI g 401 th), (a 4, aI g 401 be), (a 5, aI g 401 nu), (a 6, ob 0 di (rL (a 7))), (a 7, aI g 192 dh), (a 8, ob 10 (fun _ => 0) (rD (a 9) (a 11) (a 14))), (a 9, ob 0 li (rL (a 10))), (a 10, aI g 192 cf), (a 11, ob 6 ri (rQ (a 12) (a 13))), (a 12, aI g 2 yf), (a 13, aR g 6 af), (a 14, ob 8 s []), (a 15, ob 8 tr [])]) [0, 1, 2, 3, 4, 5, 6, 7, 8, 9, 10, 11, 12, 13, 14, 15] (by decide) rfl rfl), rfl, K, N, ⟨_, Tc, si, th, be, nu, di, dh, li, cf, ri, yf, s, tr, af, y, KK, OO, MM, RR, PL, Rl, num, rfl, ⟨rfl, by have := hT.2.1; omega, hT.2.2.1, hT.2.2.2⟩, hS, hK, hO, hKn, hNn⟩, by omega, by omega⟩

theorem cw_feed {l : Launch} {g : Gh} {a : Nat → Nat} {m kp tp : Sc} {h3 : Int32} {e : Nat} {ft : Int32} {T : va_W} {K N : Nat} (hR : Rel g a m kp tp h3 e ft T K N) {x1 : Int32} {x2 : Int32} {x3 : Int32} {x4 : Int32} {x5 : Int32} : Ct l g yX11_feed (Cond.code yX11_feed cX11_feed 6 (some .int)) 40 (KM9 - K + 32) (NM9 - N + 2000) [.ref (a 0), .int x1, .int x2, .int x3, .int x4, .int x5] T (wPo (fun v => v = some (.int (if e + 20 ≤ 400 then nI (e + 20) else -1))) (RelP g a m kp (if e + 20 ≤ 400 then fdP tp x1 x2 x3 x4 x5 e 20 else tp) h3 (if e + 20 ≤ 400 then e + 20 else e) ft K N)) (wPx (fun E => False) (RelP g a m kp (if e + 20 ≤ 400 then fdP tp x1 x2 x3 x4 x5 e 20 else tp) h3 (if e + 20 ≤ 400 then e + 20 else e) ft K N)) := by
  have hle := hR.le
  have hR' := hR
  obtain ⟨ic, Tc, si, th, be, nu, di, dh, li, cf, ri, yf, s, tr, af, y, KK, OO, MM, RR, PL, Rl, num, rfl, hT, hS, hK, hO, hKn, hNn⟩ := hR
  by_cases h : e + 20 ≤ 400
  · rw [if_pos h, if_pos h, if_pos h]
    refine ct_u (c_X11_feed1 hT.1 h) ([(a 2, ob 7 si [some (a 3), some (a 4), some (a 5), y, none, none, none]), (a 3, aI g 401 th), (a 4, aI g 401 be), (a 5, aI g 401 nu), (a 6, ob 0 di (rL (a 7))), (a 7, aI g 192 dh), (a 8, ob 10 (fun _ => 0) (rD (a 9) (a 11) (a 14))), (a 9, ob 0 li (rL (a 10))), (a 10, aI g 192 cf), (a 11, ob 6 ri (rQ (a 12) (a 13))), (a 12, aI g 2 yf), (a 13, aR g 6 af), (a 14, ob 8 s []), (a 15, ob 8 tr [])] ++ ((kpW g KK ++ (odW g (a 8) OO ++ (mdW g (a 8) MM ++ rdW g RR))) ++ plW g PL)) (pm (n := 16) (C := (cC g a ic Tc si th be nu di dh li cf ri yf s tr af y (kpR KK) (odR OO) (mdR9 MM) (rdR9 RR))) (fp := [(a 0, ob 11 ic [some (a 1), some (a 2), some (a 6), some (a 8), some (a 15), (kpR KK), (odR OO), (mdR9 MM), (rdR9 RR), none, none]), (a 1, aB g 400 Tc)]) (rc := [(a 2, ob 7 si [some (a 3), some (a 4), some (a 5), y, none, none, none]), (a 3, aI g 401 th), (a 4, aI g 401 be), (a 5, aI g 401 nu), (a 6, ob 0 di (rL (a 7))), (a 7, aI g 192 dh), (a 8, ob 10 (fun _ => 0) (rD (a 9) (a 11) (a 14))), (a 9, ob 0 li (rL (a 10))), (a 10, aI g 192 cf), (a 11, ob 6 ri (rQ (a 12) (a 13))), (a 12, aI g 2 yf), (a 13, aR g 6 af), (a 14, ob 8 s []), (a 15, ob 8 tr [])]) [0, 1, 2, 3, 4, 5, 6, 7, 8, 9, 10, 11, 12, 13, 14, 15] (by decide) rfl rfl) (by decide) (by omega) (by omega) (fun v w1 k9 n9 h => ?_) (fun _ _ _ _ h => h.elim)
    obtain ⟨rfl, rfl, rfl, rfl⟩ := h
    exact ⟨_, (pm (n := 16) (C := (cC g a (upd ic 9 (nI (e + 20))) (apT x5 4 (e + 16) (apT x4 4 (e + 12) (apT x3 4 (e + 8) (apT x2 4 (e + 4) (apT x1 4 e Tc))))) si th be nu di dh li cf ri yf s tr af y (kpR KK) (odR OO) (mdR9 MM) (rdR9 RR))) (fp := [(a 0, ob 11 (upd ic 9 (nI (e + 20))) [some (a 1), some (a 2), some (a 6), some (a 8), some (a 15), (kpR KK), (odR OO), (mdR9 MM), (rdR9 RR), none, none]), (a 1, aB g 400 (apT x5 4 (e + 16) (apT x4 4 (e + 12) (apT x3 4 (e + 8) (apT x2 4 (e + 4) (apT x1 4 e Tc))))))]) (rc := [(a 2, ob 7 si [some (a 3), some (a 4), some (a 5), y, none, none, none]), (a 3, aI g 401 th), (a 4, aI g 401 be), (a 5, aI g 401 nu), (a 6, ob 0 di (rL (a 7))), (a 7, aI g 192 dh), (a 8, ob 10 (fun _ => 0) (rD (a 9) (a 11) (a 14))), (a 9, ob 0 li (rL (a 10))), (a 10, aI g 192 cf), (a 11, ob 6 ri (rQ (a 12) (a 13))), (a 12, aI g 2 yf), (a 13, aR g 6 af), (a 14, ob 8 s []), (a 15, ob 8 tr [])]) [0, 1, 2, 3, 4, 5, 6, 7, 8, 9, 10, 11, 12, 13, 14, 15] (by decide) rfl rfl), rfl, K, N, ⟨_, _, si, th, be, nu, di, dh, li, cf, ri, yf, s, tr, af, y, KK, OO, MM, RR, PL, Rl, num, rfl, ⟨rfl, h, an_feed hT.2.2.1, hT.2.2.2⟩, hS, hK, hO, hKn, hNn⟩, by omega, by omega⟩
  · rw [if_neg h, if_neg h, if_neg h]
    exact rel_p hR' (c_X11_feed0 hT.1 hT.2.1 (by omega)) ([(a 2, ob 7 si [some (a 3), some (a 4), some (a 5), y, none, none, none]), (a 3, aI g 401 th), (a 4, aI g 401 be), (a 5, aI g 401 nu), (a 6, ob 0 di (rL (a 7))), (a 7, aI g 192 dh), (a 8, ob 10 (fun _ => 0) (rD (a 9) (a 11) (a 14))), (a 9, ob 0 li (rL (a 10))), (a 10, aI g 192 cf), (a 11, ob 6 ri (rQ (a 12) (a 13))), (a 12, aI g 2 yf), (a 13, aR g 6 af), (a 14, ob 8 s []), (a 15, ob 8 tr [])] ++ ((kpW g KK ++ (odW g (a 8) OO ++ (mdW g (a 8) MM ++ rdW g RR))) ++ plW g PL)) (pm (n := 16) (C := (cC g a ic Tc si th be nu di dh li cf ri yf s tr af y (kpR KK) (odR OO) (mdR9 MM) (rdR9 RR))) (fp := [(a 0, ob 11 ic [some (a 1), some (a 2), some (a 6), some (a 8), some (a 15), (kpR KK), (odR OO), (mdR9 MM), (rdR9 RR), none, none]), (a 1, aB g 400 Tc)]) (rc := [(a 2, ob 7 si [some (a 3), some (a 4), some (a 5), y, none, none, none]), (a 3, aI g 401 th), (a 4, aI g 401 be), (a 5, aI g 401 nu), (a 6, ob 0 di (rL (a 7))), (a 7, aI g 192 dh), (a 8, ob 10 (fun _ => 0) (rD (a 9) (a 11) (a 14))), (a 9, ob 0 li (rL (a 10))), (a 10, aI g 192 cf), (a 11, ob 6 ri (rQ (a 12) (a 13))), (a 12, aI g 2 yf), (a 13, aR g 6 af), (a 14, ob 8 s []), (a 15, ob 8 tr [])]) [0, 1, 2, 3, 4, 5, 6, 7, 8, 9, 10, 11, 12, 13, 14, 15] (by decide) rfl rfl) (by decide) rfl

theorem cw_look {l : Launch} {g : Gh} {a : Nat → Nat} {m kp tp : Sc} {h3 : Int32} {e : Nat} {ft : Int32} {T : va_W} {K N : Nat} (hR : Rel g a m kp tp h3 e ft T K N) {p0 : Int32} {p1 : Int32} {p2 : Int32} : Ct l g yX11_look (Cond.code yX11_look cX11_look 4 (some .int)) 40 (KM9 - K + 32) (NM9 - N + 2000) [.ref (a 0), .int p0, .int p1, .int p2] T (wPo (fun v => loT p0 p1 p2 = 0 ∧ v = some (.int (loV m p0 p1 p2))) (RelP g a m kp tp h3 e ft K N)) (wPx (fun E => loT p0 p1 p2 = 1 ∧ E = "java/lang/IndexOutOfBoundsException" ∨ loT p0 p1 p2 = 2 ∧ E = "java/util/NoSuchElementException") (RelP g a m kp tp h3 e ft K N)) := by
  by_cases h0 : rIn p0 0 3 = 0
  · exact rel_x0 hR (x_X11_look1 (by
      rcases rIn_no h0 with z | z
      · exact Or.inl z
      · exact Or.inr (Or.inl (Int32.not_lt.mp (fun y => z (le3.mpr y)))))) (by decide) (Or.inl ⟨if_pos (Or.inl h0), rfl⟩)
  by_cases h1 : rIn p1 0 3 = 0
  · exact rel_x0 hR (x_X11_look1 (by
      rcases rIn_no h1 with z | z
      · exact Or.inr (Or.inr (Or.inl z))
      · exact Or.inr (Or.inr (Or.inr (fun y => z (le3.mpr y)))))) (by decide) (Or.inl ⟨if_pos (Or.inr h1), rfl⟩)
  obtain ⟨a0, a1⟩ := rIn_ne.mp h0
  obtain ⟨b0, b1⟩ := rIn_ne.mp h1
  by_cases h2 : rIn p2 0 11 = 0
  · refine rel_x0 hR (x_X11_look2 (Int32.not_lt.mpr a0) (fun z => absurd (le3.mp a1) (Int32.not_lt.mpr z)) (Int32.not_lt.mpr b0) (le3.mp b1) (by
      rcases rIn_no h2 with z | z
      · exact Or.inl z
      · exact Or.inr (fun y => z (le11.mpr y)))) (by decide) (Or.inr ⟨?_, rfl⟩)
    unfold loT
    rw [if_neg (by rintro (z | z); exact h0 z; exact h1 z), if_pos h2]
  obtain ⟨c0, c1⟩ := rIn_ne.mp h2
  have ht : loT p0 p1 p2 = 0 := by
    unfold loT
    rw [if_neg (by rintro (z | z); exact h0 z; exact h1 z), if_neg h2]
  obtain ⟨j0, k0, rfl⟩ := nat_to (n := 3) a0 a1 (by decide)
  obtain ⟨j1, k1, rfl⟩ := nat_to (n := 3) b0 b1 (by decide)
  obtain ⟨j2, k2, rfl⟩ := nat_to (n := 11) c0 c1 (by decide)
  have hR' := hR
  obtain ⟨ic, Tc, si, th, be, nu, di, dh, li, cf, ri, yf, s, tr, af, y, KK, OO, MM, RR, PL, Rl, num, rfl, hT, hS, hK, hO, hKn, hNn⟩ := hR
  refine rel_p hR' (c_X11_look (by omega) (by omega) (by omega)) ([(a 1, aB g 400 Tc), (a 2, ob 7 si [some (a 3), some (a 4), some (a 5), y, none, none, none]), (a 3, aI g 401 th), (a 4, aI g 401 be), (a 5, aI g 401 nu), (a 6, ob 0 di (rL (a 7))), (a 7, aI g 192 dh), (a 11, ob 6 ri (rQ (a 12) (a 13))), (a 12, aI g 2 yf), (a 13, aR g 6 af), (a 14, ob 8 s []), (a 15, ob 8 tr [])] ++ ((kpW g KK ++ (odW g (a 8) OO ++ (mdW g (a 8) MM ++ rdW g RR))) ++ plW g PL)) (pm (n := 16) (C := (cC g a ic Tc si th be nu di dh li cf ri yf s tr af y (kpR KK) (odR OO) (mdR9 MM) (rdR9 RR))) (fp := [(a 0, ob 11 ic [some (a 1), some (a 2), some (a 6), some (a 8), some (a 15), (kpR KK), (odR OO), (mdR9 MM), (rdR9 RR), none, none]), (a 8, ob 10 (fun _ => 0) (rD (a 9) (a 11) (a 14))), (a 9, ob 0 li (rL (a 10))), (a 10, aI g 192 cf)]) (rc := [(a 1, aB g 400 Tc), (a 2, ob 7 si [some (a 3), some (a 4), some (a 5), y, none, none, none]), (a 3, aI g 401 th), (a 4, aI g 401 be), (a 5, aI g 401 nu), (a 6, ob 0 di (rL (a 7))), (a 7, aI g 192 dh), (a 11, ob 6 ri (rQ (a 12) (a 13))), (a 12, aI g 2 yf), (a 13, aR g 6 af), (a 14, ob 8 s []), (a 15, ob 8 tr [])]) [0, 8, 9, 10, 1, 2, 3, 4, 5, 6, 7, 11, 12, 13, 14, 15] (by decide) rfl rfl) (by decide) ⟨ht, ?_⟩
  have e1 : cellOf (nI j0) (nI j1) (nI j2) = (j0 * 4 + j1) * 12 + j2 := by
    unfold cellOf
    rw [nI_clamp (by omega), nI_clamp (by omega), nI_clamp (by omega)]
    omega
  rw [loV, if_pos ht, e1, hS.1.1.1 _ (by omega)]

theorem VG_c {x y : Sc} (h : ∀ j, j < 9 → y j = x j) (hx : VG x) : VG y := by
  have e0 := h 0 (by omega)
  have e1 := h 1 (by omega)
  have e2 := h 2 (by omega)
  have e3 := h 3 (by omega)
  have e4 := h 4 (by omega)
  have e5 := h 5 (by omega)
  have e6 := h 6 (by omega)
  have e7 := h 7 (by omega)
  have e8 := h 8 (by omega)
  clear h
  obtain ⟨⟨h1, h2, h3⟩, h4, h5⟩ := hx
  refine ⟨⟨?_, ?_, ?_⟩, ?_, ?_⟩
  · rw [e0, e1]; exact h1
  · rw [e2]; exact h2
  · rw [e3, e4, e5, e6]; exact h3
  · obtain ⟨b, hb, eb⟩ := h4
    exact ⟨b, hb, e7.trans eb⟩
  · obtain ⟨b, hb, eb⟩ := h5
    exact ⟨b, hb, e8.trans eb⟩
theorem SA_c {m s x y : Sc} (h : ∀ j, j < 9 → y j = x j) (hs : SA m s x) : SA m s y := by
  unfold SA Alk at *
  rw [h 0 (by omega), h 1 (by omega), h 2 (by omega), h 3 (by omega), h 4 (by omega), h 5 (by omega), h 6 (by omega), h 7 (by omega), h 8 (by omega)]
  exact hs
theorem SA.m {m M s x : Sc} (h : SA m s x) (h7 : M 197 = m 197) (h8 : M 198 = m 198) : SA M s x := ⟨h.1, h.2.1, h.2.2.1, by rw [h7]; exact h.2.2.2.1, by rw [h8]; exact h.2.2.2.2⟩
theorem put_S (m y : Sc) : ∀ j, j < 9 → S (rPut m y 9) j = y j := by
  intro j hj
  unfold S rPut
  rw [if_pos (by omega), Nat.add_sub_cancel_left]
theorem put_o (m y : Sc) {k : Nat} (h : k < 201 ∨ 210 ≤ k) : rPut m y 9 k = m k := by
  unfold rPut
  rw [if_neg (by omega)]
theorem tk_S (m x : Sc) : ∀ j, j < 9 → rTake m x j = S m j := take_S m x
/-- a new score -/
theorem SR.put {m li cf ri yf s s' y : Sc} {af : Nat → Option Nat} {PL : List RuR} {Rl : Nat → RLs} {num : Nat} (h : SR m li cf ri yf af s PL Rl num) (hs : SA m s' y) (hy : VG y) : SR (rPut m y 9) li cf ri yf af s' PL Rl num := by
  obtain ⟨h1, h2, _, _, h5⟩ := h
  have e : ∀ k, k < 201 → rPut m y 9 k = m k := fun k hk => put_o m y (Or.inl hk)
  refine ⟨SRa.cg h1 (fun k hk => e k (by omega)) (e _ (by omega)) (e _ (by omega)) (e _ (by omega)), SRb.cg h2 (e _ (by omega)) (e _ (by omega)) (e _ (by omega)) (fun k hk => put_o m y (Or.inr hk)), (SA_c (put_S m y) hs).m (e _ (by omega)) (e _ (by omega)), VG_c (put_S m y) hy, ?_⟩
  unfold HOK
  rw [e 197 (by omega), e 198 (by omega)]
  exact h5
theorem SR.lw {m li cf ri yf s : Sc} {af : Nat → Option Nat} {PL : List RuR} {Rl : Nat → RLs} {num : Nat} (h : SR m li cf ri yf af s PL Rl num) : LwA m li := h.1.1.2
theorem SR.G {m li cf ri yf s : Sc} {af : Nat → Option Nat} {PL : List RuR} {Rl : Nat → RLs} {num : Nat} (h : SR m li cf ri yf af s PL Rl num) : ∃ G : Nat, G ≤ 6 ∧ m 194 = nI G := by
  obtain ⟨v, _, h2, h3⟩ := h.1.2.1.2.1
  exact ⟨v, h2, h3⟩
theorem SR.six {m li cf ri yf s : Sc} {af : Nat → Option Nat} {PL : List RuR} {Rl : Nat → RLs} {num : Nat} (h : SR m li cf ri yf af s PL Rl num) : s 6 = 0 ∨ s 6 = 1 := by
  obtain ⟨_, _, h3, h4, _⟩ := h
  rw [h3.1.2.2.2.2.1]
  rcases h4.1.2.2 with c | c | c
  · exact Or.inl c.2
  · exact c.2.2
  · exact Or.inr c.2.2.2
theorem rul_or {r : Int32} {num : Nat} (hn : num ≤ 6) (h1 : -1 ≤ r) (h2 : r ≤ nI num - 1) : r = -1 ∨ ∃ w : Nat, w < num ∧ r = nI w := by
  by_cases h : r < 0
  · left
    rw [i_lt] at h
    rw [i_le] at h1
    have e0 : (0 : Int32).toInt = 0 := rfl
    have e1 : (-1 : Int32).toInt = -1 := rfl
    have : r.toInt = -1 := by omega
    rw [← Int32.ofInt_toInt r, this]; rfl
  · right
    have hm : num = 0 ∨ ∃ k, num = k + 1 := by cases num with
      | zero => exact Or.inl rfl
      | succ k => exact Or.inr ⟨k, rfl⟩
    rcases hm with rfl | ⟨k, rfl⟩
    · rw [i_le] at h2
      rw [i_lt] at h
      have e0 : (0 : Int32).toInt = 0 := rfl
      have e1 : (nI 0 - 1 : Int32).toInt = -1 := rfl
      omega
    · rw [← nI_1, Int32.add_sub_cancel] at h2
      obtain ⟨w, hw, e⟩ := nat_to (Int32.not_lt.mp h) h2 (by omega)
      exact ⟨w, by omega, e⟩

theorem cw_plays {l : Launch} {g : Gh} {a : Nat → Nat} {m kp tp : Sc} {h3 : Int32} {e : Nat} {ft : Int32} {T : va_W} {K N : Nat} (hR : Rel g a m kp tp h3 e ft T K N) {p0 : Int32} {p1 : Int32} : Ct l g yX11_plays (Cond.code yX11_plays cX11_plays 4 (some .int)) 40 (KM9 - K + 32) (NM9 - N + 2000) [.ref (a 0), .int p0, .int p1] T (wPo (fun v => plT m p0 p1 = 0 ∧ v = some (.int (plV m p0 p1))) (RelP g a (plM m p0 p1) kp tp h3 e ft K N)) (wPx (fun E => plT m p0 p1 = 1 ∧ E = "java/lang/IndexOutOfBoundsException") (RelP g a (plM m p0 p1) kp tp h3 e ft K N)) := by
  have hR' := hR
  obtain ⟨ic, Tc, si, th, be, nu, di, dh, li, cf, ri, yf, s, tr, af, y, KK, OO, MM, RR, PL, Rl, num, rfl, hT, hS, hK, hO, hKn, hNn⟩ := hR
  have hle := hR'.le
  by_cases h0 : rIn p0 0 1 = 0
  · have ht : plT m p0 p1 = 1 := if_pos (Or.inl h0)
    have hm : plM m p0 p1 = m := by rw [plM, if_neg (by rw [ht]; decide)]
    rw [hm]
    exact rel_x0 hR' (x_X11_plays1 (rIn_n01 h0).1 (rIn_n01 h0).2) (by decide) ⟨ht, rfl⟩
  by_cases h1 : rIn p1 (-1) (m 193 - 1) = 0
  · have ht : plT m p0 p1 = 1 := if_pos (Or.inr h1)
    have hm : plM m p0 p1 = m := by rw [plM, if_neg (by rw [ht]; decide)]
    rw [hm]
    refine rel_x1 hR' (x_X11_plays2 (rIn_01 h0) (by
      rcases rIn_no h1 with z | z
      · exact Or.inl z
      · refine Or.inr (fun y => z ?_)
        rw [hS.2.1.1] at y
        rw [hS.2.1.2.1]
        obtain ⟨hn6, _⟩ := hS.2.1.2.2.1
        have e1 : num = 0 ∨ ∃ k, num = k + 1 := by cases num with
          | zero => exact Or.inl rfl
          | succ k => exact Or.inr ⟨k, rfl⟩
        rcases e1 with rfl | ⟨k, rfl⟩
        · rw [i_lt] at y
          rw [i_le]
          have e0 : (nI 0 : Int32).toInt = 0 := rfl
          have e1 : (nI 0 - 1 : Int32).toInt = -1 := rfl
          omega
        · rw [← nI_1, Int32.add_sub_cancel, i_le, nI_toInt (by omega)]
          rw [i_lt, nI_toInt (by omega)] at y
          omega)) ([(a 1, aB g 400 Tc), (a 2, ob 7 si [some (a 3), some (a 4), some (a 5), y, none, none, none]), (a 3, aI g 401 th), (a 4, aI g 401 be), (a 5, aI g 401 nu), (a 6, ob 0 di (rL (a 7))), (a 7, aI g 192 dh), (a 9, ob 0 li (rL (a 10))), (a 10, aI g 192 cf), (a 12, aI g 2 yf), (a 13, aR g 6 af), (a 14, ob 8 s []), (a 15, ob 8 tr [])] ++ ((kpW g KK ++ (odW g (a 8) OO ++ (mdW g (a 8) MM ++ rdW g RR))) ++ plW g PL)) (pm (n := 16) (C := (cC g a ic Tc si th be nu di dh li cf ri yf s tr af y (kpR KK) (odR OO) (mdR9 MM) (rdR9 RR))) (fp := [(a 0, ob 11 ic [some (a 1), some (a 2), some (a 6), some (a 8), some (a 15), (kpR KK), (odR OO), (mdR9 MM), (rdR9 RR), none, none]), (a 8, ob 10 (fun _ => 0) (rD (a 9) (a 11) (a 14))), (a 11, ob 6 ri (rQ (a 12) (a 13)))]) (rc := [(a 1, aB g 400 Tc), (a 2, ob 7 si [some (a 3), some (a 4), some (a 5), y, none, none, none]), (a 3, aI g 401 th), (a 4, aI g 401 be), (a 5, aI g 401 nu), (a 6, ob 0 di (rL (a 7))), (a 7, aI g 192 dh), (a 9, ob 0 li (rL (a 10))), (a 10, aI g 192 cf), (a 12, aI g 2 yf), (a 13, aR g 6 af), (a 14, ob 8 s []), (a 15, ob 8 tr [])]) [0, 8, 11, 1, 2, 3, 4, 5, 6, 7, 9, 10, 12, 13, 14, 15] (by decide) rfl rfl) (by decide) ⟨ht, rfl⟩
  have ht : plT m p0 p1 = 0 := if_neg (by rintro (z | z); exact h0 z; exact h1 z)
  obtain ⟨a0, a1⟩ := rIn_ne.mp h0
  obtain ⟨b0, b1⟩ := rIn_ne.mp h1
  obtain ⟨p, hp, rfl⟩ := nat_to (n := 1) a0 a1 (by decide)
  rw [hS.2.1.2.1] at b1
  obtain ⟨hn6, hRs, hby⟩ := hS.2.1.2.2.1
  have hor := rul_or hn6 b0 b1
  have ec : (nI p).toNatClampNeg = p := nI_clamp (by omega)
  have hm : plM m (nI p) p1 = upd m (199 + p) p1 := by rw [plM, if_pos ht, ec]
  have hv : plV m (nI p) p1 = yf p := by rw [plV, if_pos ht, ec, hS.2.1.2.2.2.1 p hp]
  rw [hm, hv, ht]
  have hlt : p1 < ri 2 := by
    rw [hS.2.1.1]
    rcases hor with rfl | ⟨w, hw, rfl⟩
    · rw [i_lt, nI_toInt (by omega)]
      have e1 : (-1 : Int32).toInt = -1 := rfl
      omega
    · exact nI_lt hw (by omega)
  refine ct_u (c_X11_plays hp (Int32.not_lt.mpr b0) hlt) ([(a 1, aB g 400 Tc), (a 2, ob 7 si [some (a 3), some (a 4), some (a 5), y, none, none, none]), (a 3, aI g 401 th), (a 4, aI g 401 be), (a 5, aI g 401 nu), (a 6, ob 0 di (rL (a 7))), (a 7, aI g 192 dh), (a 9, ob 0 li (rL (a 10))), (a 10, aI g 192 cf), (a 13, aR g 6 af), (a 14, ob 8 s []), (a 15, ob 8 tr [])] ++ ((kpW g KK ++ (odW g (a 8) OO ++ (mdW g (a 8) MM ++ rdW g RR))) ++ plW g PL)) (pm (n := 16) (C := (cC g a ic Tc si th be nu di dh li cf ri yf s tr af y (kpR KK) (odR OO) (mdR9 MM) (rdR9 RR))) (fp := [(a 0, ob 11 ic [some (a 1), some (a 2), some (a 6), some (a 8), some (a 15), (kpR KK), (odR OO), (mdR9 MM), (rdR9 RR), none, none]), (a 8, ob 10 (fun _ => 0) (rD (a 9) (a 11) (a 14))), (a 11, ob 6 ri (rQ (a 12) (a 13))), (a 12, aI g 2 yf)]) (rc := [(a 1, aB g 400 Tc), (a 2, ob 7 si [some (a 3), some (a 4), some (a 5), y, none, none, none]), (a 3, aI g 401 th), (a 4, aI g 401 be), (a 5, aI g 401 nu), (a 6, ob 0 di (rL (a 7))), (a 7, aI g 192 dh), (a 9, ob 0 li (rL (a 10))), (a 10, aI g 192 cf), (a 13, aR g 6 af), (a 14, ob 8 s []), (a 15, ob 8 tr [])]) [0, 8, 11, 12, 1, 2, 3, 4, 5, 6, 7, 9, 10, 13, 14, 15] (by decide) rfl rfl) (by decide) (by omega) (by omega) (fun v w1 k9 n9 h => ?_) (fun _ _ _ _ h => h.elim)
  obtain ⟨rfl, rfl, rfl, rfl⟩ := h
  have o : ∀ k, ¬ k = 199 + p → upd m (199 + p) p1 k = m k := fun k hk => pk_un hk
  have hSR : SR (upd m (199 + p) p1) li cf ri (upd yf p p1) af s PL Rl num := by
    obtain ⟨s1, s2, s3, s4, s5⟩ := hS
    refine ⟨SRa.cg s1 (fun k hk => o k (by omega)) (o _ (by omega)) (o _ (by omega)) (o _ (by omega)), ⟨s2.1, by rw [o 193 (by omega)]; exact s2.2.1, ⟨hn6, hRs, fun q hq => ?_⟩, fun q hq => ?_, fun r hr => (s2.2.2.2.2 r hr).mono (fun k h1 _ => o k (by omega))⟩, (SA_c (y := S (upd m (199 + p) p1)) (fun j hj => o _ (by omega)) s3).m (o _ (by omega)) (o _ (by omega)), VG_c (fun j hj => o _ (by omega)) s4, ?_⟩
    · by_cases e9 : q = p
      · subst e9; rw [pk_us]; exact hor
      · rw [pk_un e9]; exact hby q hq
    · by_cases e9 : q = p
      · subst e9; rw [pk_us, pk_us]
      · rw [pk_un e9, o _ (by omega)]; exact s2.2.2.2.1 q hq
    · unfold HOK
      rw [o 197 (by omega), o 198 (by omega)]
      exact s5
  exact ⟨_, (pm (n := 16) (C := (cC g a ic Tc si th be nu di dh li cf ri (upd yf p p1) s tr af y (kpR KK) (odR OO) (mdR9 MM) (rdR9 RR))) (fp := [(a 0, ob 11 ic [some (a 1), some (a 2), some (a 6), some (a 8), some (a 15), (kpR KK), (odR OO), (mdR9 MM), (rdR9 RR), none, none]), (a 8, ob 10 (fun _ => 0) (rD (a 9) (a 11) (a 14))), (a 11, ob 6 ri (rQ (a 12) (a 13))), (a 12, aI g 2 (upd yf p p1))]) (rc := [(a 1, aB g 400 Tc), (a 2, ob 7 si [some (a 3), some (a 4), some (a 5), y, none, none, none]), (a 3, aI g 401 th), (a 4, aI g 401 be), (a 5, aI g 401 nu), (a 6, ob 0 di (rL (a 7))), (a 7, aI g 192 dh), (a 9, ob 0 li (rL (a 10))), (a 10, aI g 192 cf), (a 13, aR g 6 af), (a 14, ob 8 s []), (a 15, ob 8 tr [])]) [0, 8, 11, 12, 1, 2, 3, 4, 5, 6, 7, 9, 10, 13, 14, 15] (by decide) rfl rfl), ⟨rfl, rfl⟩, K, N, ⟨ic, Tc, si, th, be, nu, di, dh, li, cf, ri, _, s, tr, af, y, KK, OO, MM, RR, PL, Rl, num, rfl, hT, hSR, hK, hO, hKn, hNn⟩, by omega, by omega⟩

theorem soV_any {m yf : Sc} {Rl : Nat → RLs} {num : Nat} (hn : num ≤ 6) (hy : ∀ p, p ≤ 1 → yf p = m (199 + p)) (hb : ∀ p, p ≤ 1 → yf p = -1 ∨ ∃ w : Nat, w < num ∧ yf p = nI w) (hR : ∀ w, w < num → RuA m w (Rl w)) (fc : Sc) : ∀ (s x : Sc), Val x → SA m s x → ∀ p, p ≤ 1 → rsV yf Rl s p = soV m fc x p := by
  intro s x hx hs p hp
  unfold rsV soV
  rw [← hy p hp]
  rcases hb p hp with h | ⟨w, hw, h⟩
  · rw [if_pos h, if_pos h]
  · have hne : ¬ yf p = -1 := by rw [h]; exact nI_nm1 (by omega)
    rw [if_neg hne, if_neg hne, h, nI_clamp (by omega)]
    obtain ⟨e, h1, h2, h3⟩ := (hR w hw).st (fc := fc) (faV_ok (fc := fc) hs hx hp)
    have eN : soN m p = w := by unfold soN; rw [← hy p hp, h, nI_clamp (by omega)]
    have eE : soE m p = e := by unfold soE; rw [eN, h2, nI_clamp (by omega)]
    unfold soR
    rw [eN, eE, h3]

theorem cw_style {l : Launch} {g : Gh} {a : Nat → Nat} {m kp tp : Sc} {h3 : Int32} {e : Nat} {ft : Int32} {T : va_W} {K N : Nat} (hR : Rel g a m kp tp h3 e ft T K N) {p0 : Int32} (fc x : Sc) : Ct l g yX11_style (Cond.code yX11_style cX11_style 2 (some .int)) 40 (KM9 - K + 32) (NM9 - N + 2000) [.ref (a 0), .int p0] T (wPo (fun v => ¬ rIn p0 0 1 = 0 ∧ v = some (.int (soV m fc (rTake m x) p0.toNatClampNeg))) (RelP g a m kp tp h3 e ft K N)) (wPx (fun E => rIn p0 0 1 = 0 ∧ E = "java/lang/IndexOutOfBoundsException") (RelP g a m kp tp h3 e ft K N)) := by
  have hR' := hR
  obtain ⟨ic, Tc, si, th, be, nu, di, dh, li, cf, ri, yf, s, tr, af, y, KK, OO, MM, RR, PL, Rl, num, rfl, hT, hS, hK, hO, hKn, hNn⟩ := hR
  have hle := hR'.le
  by_cases h0 : rIn p0 0 1 = 0
  · exact rel_x0 hR' (x_X11_style (rIn_n01 h0).1 (rIn_n01 h0).2) (by decide) ⟨h0, rfl⟩
  obtain ⟨a0, a1⟩ := rIn_ne.mp h0
  obtain ⟨p, hp, rfl⟩ := nat_to (n := 1) a0 a1 (by decide)
  have hs2 := hS.2.1
  have ea := soV_any hs2.2.2.1.1 hs2.2.2.2.1 hs2.2.2.1.2.2 hs2.2.2.2.2 fc s (rTake m x) (VG_c (tk_S m x) hS.2.2.2.1).1 (SA_c (tk_S m x) hS.2.2.1) p hp
  rw [nI_clamp (by omega), ← ea]
  refine ct_u (c_X11_style hs2.1 hs2.2.2.1 hp) ([(a 1, aB g 400 Tc), (a 2, ob 7 si [some (a 3), some (a 4), some (a 5), y, none, none, none]), (a 3, aI g 401 th), (a 4, aI g 401 be), (a 5, aI g 401 nu), (a 6, ob 0 di (rL (a 7))), (a 7, aI g 192 dh), (a 9, ob 0 li (rL (a 10))), (a 10, aI g 192 cf), (a 15, ob 8 tr [])] ++ (kpW g KK ++ (odW g (a 8) OO ++ (mdW g (a 8) MM ++ rdW g RR)))) (pmP (n := 16) (C := (cC g a ic Tc si th be nu di dh li cf ri yf s tr af y (kpR KK) (odR OO) (mdR9 MM) (rdR9 RR))) (fp := [(a 0, ob 11 ic [some (a 1), some (a 2), some (a 6), some (a 8), some (a 15), (kpR KK), (odR OO), (mdR9 MM), (rdR9 RR), none, none]), (a 8, ob 10 (fun _ => 0) (rD (a 9) (a 11) (a 14))), (a 11, ob 6 ri (rQ (a 12) (a 13))), (a 12, aI g 2 yf), (a 13, aR g 6 af), (a 14, ob 8 s [])]) (rc := [(a 1, aB g 400 Tc), (a 2, ob 7 si [some (a 3), some (a 4), some (a 5), y, none, none, none]), (a 3, aI g 401 th), (a 4, aI g 401 be), (a 5, aI g 401 nu), (a 6, ob 0 di (rL (a 7))), (a 7, aI g 192 dh), (a 9, ob 0 li (rL (a 10))), (a 10, aI g 192 cf), (a 15, ob 8 tr [])]) [0, 8, 11, 12, 13, 14, 1, 2, 3, 4, 5, 6, 7, 9, 10, 15] (by decide) rfl rfl) (by decide) (by omega) (by omega) (fun v w1 k9 n9 h => ?_) (fun _ _ _ _ h => h.elim)
  obtain ⟨rfl, rfl, Q, hQ, rfl, rfl⟩ := h
  exact ⟨_, (pmP (n := 16) (C := (cC g a ic Tc si th be nu di dh li cf ri yf s tr af y (kpR KK) (odR OO) (mdR9 MM) (rdR9 RR))) (fp := [(a 0, ob 11 ic [some (a 1), some (a 2), some (a 6), some (a 8), some (a 15), (kpR KK), (odR OO), (mdR9 MM), (rdR9 RR), none, none]), (a 8, ob 10 (fun _ => 0) (rD (a 9) (a 11) (a 14))), (a 11, ob 6 ri (rQ (a 12) (a 13))), (a 12, aI g 2 yf), (a 13, aR g 6 af), (a 14, ob 8 s [])]) (rc := [(a 1, aB g 400 Tc), (a 2, ob 7 si [some (a 3), some (a 4), some (a 5), y, none, none, none]), (a 3, aI g 401 th), (a 4, aI g 401 be), (a 5, aI g 401 nu), (a 6, ob 0 di (rL (a 7))), (a 7, aI g 192 dh), (a 9, ob 0 li (rL (a 10))), (a 10, aI g 192 cf), (a 15, ob 8 tr [])]) [0, 8, 11, 12, 13, 14, 1, 2, 3, 4, 5, 6, 7, 9, 10, 15] (by decide) rfl rfl), ⟨h0, rfl⟩, K, N, ⟨ic, Tc, si, th, be, nu, di, dh, li, cf, ri, yf, s, tr, af, y, KK, OO, MM, RR, Q, Rl, num, rfl, hT, ⟨hS.1, SRb.sa hS.2.1 hQ, hS.2.2⟩, (hK.sa hQ), hO, hKn, hNn⟩, by omega, by omega⟩

theorem scB_iff {x y : Int32} : (scU x y ∨ scA x y) ↔ scB x y := by
  unfold scU scA scB
  rw [rIn_ne, rIn_ne, Int32.not_lt, Int32.not_lt, Int32.not_lt, Int32.not_lt]
  constructor
  · rintro (⟨a, b, c, d⟩ | h)
    · exact Or.inl ⟨⟨a, b⟩, c, d⟩
    · exact Or.inr h
  · rintro (⟨⟨a, b⟩, c, d⟩ | h)
    · exact Or.inl ⟨a, b, c, d⟩
    · exact Or.inr h

theorem cw_score {l : Launch} {g : Gh} {a : Nat → Nat} {m kp tp : Sc} {h3 : Int32} {e : Nat} {ft : Int32} {T : va_W} {K N : Nat} (hR : Rel g a m kp tp h3 e ft T K N) {p0 : Int32} {p1 : Int32} {p2 : Int32} : Ct l g yX11_score (Cond.code yX11_score cX11_score 6 none) 40 (KM9 - K + 32) (NM9 - N + 2000) [.ref (a 0), .int p0, .int p1, .int p2] T (wPo (fun v => scT p0 p1 p2 = 0 ∧ v = none) (RelP g a (scM m p0 p1 p2) kp tp h3 e ft K N)) (wPx (fun E => scT p0 p1 p2 = 1 ∧ E = "java/lang/IndexOutOfBoundsException" ∨ scT p0 p1 p2 = 2 ∧ E = "java/lang/IllegalArgumentException") (RelP g a (scM m p0 p1 p2) kp tp h3 e ft K N)) := by
  have hR' := hR
  obtain ⟨ic, Tc, si, th, be, nu, di, dh, li, cf, ri, yf, s, tr, af, y, KK, OO, MM, RR, PL, Rl, num, rfl, hT, hS, hK, hO, hKn, hNn⟩ := hR
  have hle := hR'.le
  by_cases h0 : rIn p2 0 1 = 0
  · have ht : scT p0 p1 p2 = 1 := if_pos h0
    have hm : scM m p0 p1 p2 = m := by rw [scM, if_neg (by rw [ht]; decide)]
    rw [hm]
    exact rel_x0 hR' (x_X11_score1 (rIn_n01 h0).1 (rIn_n01 h0).2) (by decide) (Or.inl ⟨ht, rfl⟩)
  by_cases h1 : scB p0 p1
  · have ht : scT p0 p1 p2 = 0 := by rw [scT, if_neg h0, if_pos h1]
    have hm : scM m p0 p1 p2 = upd (upd (upd (upd (upd m 201 p0) 202 p1) 203 p2) 204 0) 207 0 := by rw [scM, if_pos ht]
    rw [hm, ht]
    refine ct_u (c_X11_score (rIn_01 h0) (scB_iff.mpr h1)) ([(a 1, aB g 400 Tc), (a 2, ob 7 si [some (a 3), some (a 4), some (a 5), y, none, none, none]), (a 3, aI g 401 th), (a 4, aI g 401 be), (a 5, aI g 401 nu), (a 6, ob 0 di (rL (a 7))), (a 7, aI g 192 dh), (a 9, ob 0 li (rL (a 10))), (a 10, aI g 192 cf), (a 11, ob 6 ri (rQ (a 12) (a 13))), (a 12, aI g 2 yf), (a 13, aR g 6 af), (a 15, ob 8 tr [])] ++ ((kpW g KK ++ (odW g (a 8) OO ++ (mdW g (a 8) MM ++ rdW g RR))) ++ plW g PL)) (pm (n := 16) (C := (cC g a ic Tc si th be nu di dh li cf ri yf s tr af y (kpR KK) (odR OO) (mdR9 MM) (rdR9 RR))) (fp := [(a 0, ob 11 ic [some (a 1), some (a 2), some (a 6), some (a 8), some (a 15), (kpR KK), (odR OO), (mdR9 MM), (rdR9 RR), none, none]), (a 8, ob 10 (fun _ => 0) (rD (a 9) (a 11) (a 14))), (a 14, ob 8 s [])]) (rc := [(a 1, aB g 400 Tc), (a 2, ob 7 si [some (a 3), some (a 4), some (a 5), y, none, none, none]), (a 3, aI g 401 th), (a 4, aI g 401 be), (a 5, aI g 401 nu), (a 6, ob 0 di (rL (a 7))), (a 7, aI g 192 dh), (a 9, ob 0 li (rL (a 10))), (a 10, aI g 192 cf), (a 11, ob 6 ri (rQ (a 12) (a 13))), (a 12, aI g 2 yf), (a 13, aR g 6 af), (a 15, ob 8 tr [])]) [0, 8, 14, 1, 2, 3, 4, 5, 6, 7, 9, 10, 11, 12, 13, 15] (by decide) rfl rfl) (by decide) (by omega) (by omega) (fun v w1 k9 n9 h => ?_) (fun _ _ _ _ h => h.elim)
    obtain ⟨rfl, rfl, rfl, rfl⟩ := h
    have o : ∀ k, k < 201 ∨ 208 ≤ k → upd (upd (upd (upd (upd m 201 p0) 202 p1) 203 p2) 204 0) 207 0 k = m k := by
      intro k hk
      rw [pk_un (by omega), pk_un (by omega), pk_un (by omega), pk_un (by omega), pk_un (by omega)]
    have hSR : SR (upd (upd (upd (upd (upd m 201 p0) 202 p1) 203 p2) 204 0) 207 0) li cf ri yf af (sRestart s p0 p1 p2) PL Rl num := by
      obtain ⟨s1, s2, s3, s4, s5⟩ := hS
      have o7 := o 208 (by omega)
      have o8 := o 209 (by omega)
      refine ⟨SRa.cg s1 (fun k hk => o k (by omega)) (o _ (by omega)) (o _ (by omega)) (o _ (by omega)), SRb.cg s2 (o _ (by omega)) (o _ (by omega)) (o _ (by omega)) (fun k hk => o k (by omega)), ⟨⟨rfl, rfl, rfl, rfl, rfl, fun z => absurd rfl z, fun z => absurd z (show ¬ (0 : Int32) = 2 by decide)⟩, ?_, ?_, ?_, ?_⟩, ⟨⟨?_, rIn_01 h0, Or.inl ⟨rfl, rfl⟩⟩, ?_, ?_⟩, ?_⟩
      · exact s3.2.1.trans o7.symm
      · exact s3.2.2.1.trans o8.symm
      · exact s3.2.2.2.1.trans (o 197 (by omega)).symm
      · exact s3.2.2.2.2.trans (o 198 (by omega)).symm
      · show ptOK p0 p1
        rcases h1 with ⟨z1, z2⟩ | h1
        · obtain ⟨y1, y2⟩ := rIn_ne.mp z1
          obtain ⟨y3, y4⟩ := rIn_ne.mp z2
          exact Or.inl ⟨y1, y2, y3, y4⟩
        · exact Or.inr h1
      · obtain ⟨b, hb, eb⟩ := s4.2.1
        exact ⟨b, hb, o7.trans eb⟩
      · obtain ⟨b, hb, eb⟩ := s4.2.2
        exact ⟨b, hb, o8.trans eb⟩
      · unfold HOK
        rw [o 197 (by omega), o 198 (by omega)]
        exact s5
    exact ⟨_, (pm (n := 16) (C := (cC g a ic Tc si th be nu di dh li cf ri yf (sRestart s p0 p1 p2) tr af y (kpR KK) (odR OO) (mdR9 MM) (rdR9 RR))) (fp := [(a 0, ob 11 ic [some (a 1), some (a 2), some (a 6), some (a 8), some (a 15), (kpR KK), (odR OO), (mdR9 MM), (rdR9 RR), none, none]), (a 8, ob 10 (fun _ => 0) (rD (a 9) (a 11) (a 14))), (a 14, ob 8 (sRestart s p0 p1 p2) [])]) (rc := [(a 1, aB g 400 Tc), (a 2, ob 7 si [some (a 3), some (a 4), some (a 5), y, none, none, none]), (a 3, aI g 401 th), (a 4, aI g 401 be), (a 5, aI g 401 nu), (a 6, ob 0 di (rL (a 7))), (a 7, aI g 192 dh), (a 9, ob 0 li (rL (a 10))), (a 10, aI g 192 cf), (a 11, ob 6 ri (rQ (a 12) (a 13))), (a 12, aI g 2 yf), (a 13, aR g 6 af), (a 15, ob 8 tr [])]) [0, 8, 14, 1, 2, 3, 4, 5, 6, 7, 9, 10, 11, 12, 13, 15] (by decide) rfl rfl), ⟨rfl, rfl⟩, K, N, ⟨ic, Tc, si, th, be, nu, di, dh, li, cf, ri, yf, _, tr, af, y, KK, OO, MM, RR, PL, Rl, num, rfl, hT, hSR, hK, hO, hKn, hNn⟩, by omega, by omega⟩
  · have ht : scT p0 p1 p2 = 2 := by rw [scT, if_neg h0, if_neg h1]
    have hm : scM m p0 p1 p2 = m := by rw [scM, if_neg (by rw [ht]; decide)]
    rw [hm]
    exact rel_x0 hR' (x_X11_score2 (rIn_01 h0) (fun z => h1 (scB_iff.mp z))) (by decide) (Or.inr ⟨ht, rfl⟩)

theorem cw_games {l : Launch} {g : Gh} {a : Nat → Nat} {m kp tp : Sc} {h3 : Int32} {e : Nat} {ft : Int32} {T : va_W} {K N : Nat} (hR : Rel g a m kp tp h3 e ft T K N) {p0 : Int32} {p1 : Int32} : Ct l g yX11_games (Cond.code yX11_games cX11_games 3 none) 40 (KM9 - K + 32) (NM9 - N + 2000) [.ref (a 0), .int p0, .int p1] T (wPo (fun v => gaT p0 p1 = 0 ∧ v = none) (RelP g a (gaM m p0 p1) kp tp h3 e ft K N)) (wPx (fun E => gaT p0 p1 = 1 ∧ E = "java/lang/IllegalArgumentException") (RelP g a (gaM m p0 p1) kp tp h3 e ft K N)) := by
  have hR' := hR
  obtain ⟨ic, Tc, si, th, be, nu, di, dh, li, cf, ri, yf, s, tr, af, y, KK, OO, MM, RR, PL, Rl, num, rfl, hT, hS, hK, hO, hKn, hNn⟩ := hR
  have hle := hR'.le
  by_cases h : rIn p0 0 6 = 0 ∨ rIn p1 0 6 = 0
  · have ht : gaT p0 p1 = 1 := if_pos h
    have hm : gaM m p0 p1 = m := by rw [gaM, if_neg (by rw [ht]; decide)]
    rw [hm]
    refine rel_x0 hR' (x_X11_games ?_) (by decide) ⟨ht, rfl⟩
    rcases h with h | h
    · rcases rIn_no h with z | z
      · exact Or.inl z
      · exact Or.inr (Or.inl (Int32.not_le.mp z))
    · rcases rIn_no h with z | z
      · exact Or.inr (Or.inr (Or.inl z))
      · exact Or.inr (Or.inr (Or.inr z))
  · have ht : gaT p0 p1 = 0 := if_neg h
    have hm : gaM m p0 p1 = upd (upd m 208 p0) 209 p1 := by rw [gaM, if_pos ht]
    rw [hm, ht]
    obtain ⟨a0, a1⟩ := rIn_ne.mp (fun z => h (Or.inl z))
    obtain ⟨b0, b1⟩ := rIn_ne.mp (fun z => h (Or.inr z))
    refine ct_u (c_X11_games (Int32.not_lt.mpr a0) (Int32.not_lt.mpr a1) (Int32.not_lt.mpr b0) b1) ([(a 1, aB g 400 Tc), (a 2, ob 7 si [some (a 3), some (a 4), some (a 5), y, none, none, none]), (a 3, aI g 401 th), (a 4, aI g 401 be), (a 5, aI g 401 nu), (a 6, ob 0 di (rL (a 7))), (a 7, aI g 192 dh), (a 9, ob 0 li (rL (a 10))), (a 10, aI g 192 cf), (a 11, ob 6 ri (rQ (a 12) (a 13))), (a 12, aI g 2 yf), (a 13, aR g 6 af), (a 15, ob 8 tr [])] ++ ((kpW g KK ++ (odW g (a 8) OO ++ (mdW g (a 8) MM ++ rdW g RR))) ++ plW g PL)) (pm (n := 16) (C := (cC g a ic Tc si th be nu di dh li cf ri yf s tr af y (kpR KK) (odR OO) (mdR9 MM) (rdR9 RR))) (fp := [(a 0, ob 11 ic [some (a 1), some (a 2), some (a 6), some (a 8), some (a 15), (kpR KK), (odR OO), (mdR9 MM), (rdR9 RR), none, none]), (a 8, ob 10 (fun _ => 0) (rD (a 9) (a 11) (a 14))), (a 14, ob 8 s [])]) (rc := [(a 1, aB g 400 Tc), (a 2, ob 7 si [some (a 3), some (a 4), some (a 5), y, none, none, none]), (a 3, aI g 401 th), (a 4, aI g 401 be), (a 5, aI g 401 nu), (a 6, ob 0 di (rL (a 7))), (a 7, aI g 192 dh), (a 9, ob 0 li (rL (a 10))), (a 10, aI g 192 cf), (a 11, ob 6 ri (rQ (a 12) (a 13))), (a 12, aI g 2 yf), (a 13, aR g 6 af), (a 15, ob 8 tr [])]) [0, 8, 14, 1, 2, 3, 4, 5, 6, 7, 9, 10, 11, 12, 13, 15] (by decide) rfl rfl) (by decide) (by omega) (by omega) (fun v w1 k9 n9 h => ?_) (fun _ _ _ _ h => h.elim)
    obtain ⟨rfl, rfl, rfl, rfl⟩ := h
    have o : ∀ k, k < 208 ∨ 210 ≤ k → upd (upd m 208 p0) 209 p1 k = m k := fun k hk => by rw [pk_un (by omega), pk_un (by omega)]
    have hSR : SR (upd (upd m 208 p0) 209 p1) li cf ri yf af (upd (upd s 7 p0) 8 p1) PL Rl num := by
      obtain ⟨s1, s2, s3, s4, s5⟩ := hS
      obtain ⟨j0, k0, rfl⟩ := nat_to (n := 6) a0 a1 (by decide)
      obtain ⟨j1, k1, rfl⟩ := nat_to (n := 6) b0 b1 (by decide)
      refine ⟨SRa.cg s1 (fun k hk => o k (by omega)) (o _ (by omega)) (o _ (by omega)) (o _ (by omega)), SRb.cg s2 (o _ (by omega)) (o _ (by omega)) (o _ (by omega)) (fun k hk => o k (by omega)), ⟨?_, rfl, rfl, ?_, ?_⟩, ⟨?_, ⟨j0, k0, rfl⟩, ⟨j1, k1, rfl⟩⟩, ?_⟩
      · exact s3.1
      · exact s3.2.2.2.1.trans (o 197 (by omega)).symm
      · exact s3.2.2.2.2.trans (o 198 (by omega)).symm
      · exact s4.1
      · unfold HOK
        rw [o 197 (by omega), o 198 (by omega)]
        exact s5
    exact ⟨_, (pm (n := 16) (C := (cC g a ic Tc si th be nu di dh li cf ri yf (upd (upd s 7 p0) 8 p1) tr af y (kpR KK) (odR OO) (mdR9 MM) (rdR9 RR))) (fp := [(a 0, ob 11 ic [some (a 1), some (a 2), some (a 6), some (a 8), some (a 15), (kpR KK), (odR OO), (mdR9 MM), (rdR9 RR), none, none]), (a 8, ob 10 (fun _ => 0) (rD (a 9) (a 11) (a 14))), (a 14, ob 8 (upd (upd s 7 p0) 8 p1) [])]) (rc := [(a 1, aB g 400 Tc), (a 2, ob 7 si [some (a 3), some (a 4), some (a 5), y, none, none, none]), (a 3, aI g 401 th), (a 4, aI g 401 be), (a 5, aI g 401 nu), (a 6, ob 0 di (rL (a 7))), (a 7, aI g 192 dh), (a 9, ob 0 li (rL (a 10))), (a 10, aI g 192 cf), (a 11, ob 6 ri (rQ (a 12) (a 13))), (a 12, aI g 2 yf), (a 13, aR g 6 af), (a 15, ob 8 tr [])]) [0, 8, 14, 1, 2, 3, 4, 5, 6, 7, 9, 10, 11, 12, 13, 15] (by decide) rfl rfl), ⟨rfl, rfl⟩, K, N, ⟨ic, Tc, si, th, be, nu, di, dh, li, cf, ri, yf, _, tr, af, y, KK, OO, MM, RR, PL, Rl, num, rfl, hT, hSR, hK, hO, hKn, hNn⟩, by omega, by omega⟩

theorem cw_begin {l : Launch} {g : Gh} {a : Nat → Nat} {m kp tp : Sc} {h3 : Int32} {e : Nat} {ft : Int32} {T : va_W} {K N : Nat} (hR : Rel g a m kp tp h3 e ft T K N) {p0 : Int32} {p1 : Int32} : Ct l g yX11_begin (Cond.code yX11_begin cX11_begin 3 none) 40 (KM9 - K + 32) (NM9 - N + 2000) [.ref (a 0), .int p0, .int p1] T (wPo (fun v => beT p0 p1 = 0 ∧ v = none) (RelP g a (beM m p0 p1) kp tp h3 e ft K N)) (wPx (fun E => beT p0 p1 = 1 ∧ E = "java/lang/IllegalArgumentException") (RelP g a (beM m p0 p1) kp tp h3 e ft K N)) := by
  have hR' := hR
  obtain ⟨ic, Tc, si, th, be, nu, di, dh, li, cf, ri, yf, s, tr, af, y, KK, OO, MM, RR, PL, Rl, num, rfl, hT, hS, hK, hO, hKn, hNn⟩ := hR
  have hle := hR'.le
  by_cases h : rIn p0 0 3 = 0 ∨ rIn p1 0 3 = 0
  · have ht : beT p0 p1 = 1 := if_pos h
    have hm : beM m p0 p1 = m := by rw [beM, if_neg (by rw [ht]; decide)]
    rw [hm]
    refine rel_x0 hR' (x_X11_begin ?_) (by decide) ⟨ht, rfl⟩
    rcases h with h | h
    · rcases rIn_no h with z | z
      · exact Or.inl z
      · exact Or.inr (Or.inl (Int32.not_le.mp z))
    · rcases rIn_no h with z | z
      · exact Or.inr (Or.inr (Or.inl z))
      · exact Or.inr (Or.inr (Or.inr z))
  · have ht : beT p0 p1 = 0 := if_neg h
    have hm : beM m p0 p1 = upd (upd m 197 p0) 198 p1 := by rw [beM, if_pos ht]
    rw [hm, ht]
    obtain ⟨a0, a1⟩ := rIn_ne.mp (fun z => h (Or.inl z))
    obtain ⟨b0, b1⟩ := rIn_ne.mp (fun z => h (Or.inr z))
    refine ct_u (c_X11_begin (Int32.not_lt.mpr a0) (Int32.not_lt.mpr a1) (Int32.not_lt.mpr b0) b1) ([(a 1, aB g 400 Tc), (a 2, ob 7 si [some (a 3), some (a 4), some (a 5), y, none, none, none]), (a 3, aI g 401 th), (a 4, aI g 401 be), (a 5, aI g 401 nu), (a 6, ob 0 di (rL (a 7))), (a 7, aI g 192 dh), (a 9, ob 0 li (rL (a 10))), (a 10, aI g 192 cf), (a 11, ob 6 ri (rQ (a 12) (a 13))), (a 12, aI g 2 yf), (a 13, aR g 6 af), (a 15, ob 8 tr [])] ++ ((kpW g KK ++ (odW g (a 8) OO ++ (mdW g (a 8) MM ++ rdW g RR))) ++ plW g PL)) (pm (n := 16) (C := (cC g a ic Tc si th be nu di dh li cf ri yf s tr af y (kpR KK) (odR OO) (mdR9 MM) (rdR9 RR))) (fp := [(a 0, ob 11 ic [some (a 1), some (a 2), some (a 6), some (a 8), some (a 15), (kpR KK), (odR OO), (mdR9 MM), (rdR9 RR), none, none]), (a 8, ob 10 (fun _ => 0) (rD (a 9) (a 11) (a 14))), (a 14, ob 8 s [])]) (rc := [(a 1, aB g 400 Tc), (a 2, ob 7 si [some (a 3), some (a 4), some (a 5), y, none, none, none]), (a 3, aI g 401 th), (a 4, aI g 401 be), (a 5, aI g 401 nu), (a 6, ob 0 di (rL (a 7))), (a 7, aI g 192 dh), (a 9, ob 0 li (rL (a 10))), (a 10, aI g 192 cf), (a 11, ob 6 ri (rQ (a 12) (a 13))), (a 12, aI g 2 yf), (a 13, aR g 6 af), (a 15, ob 8 tr [])]) [0, 8, 14, 1, 2, 3, 4, 5, 6, 7, 9, 10, 11, 12, 13, 15] (by decide) rfl rfl) (by decide) (by omega) (by omega) (fun v w1 k9 n9 h => ?_) (fun _ _ _ _ h => h.elim)
    obtain ⟨rfl, rfl, rfl, rfl⟩ := h
    have o : ∀ k, k < 197 ∨ 199 ≤ k → upd (upd m 197 p0) 198 p1 k = m k := fun k hk => by rw [pk_un (by omega), pk_un (by omega)]
    have hSR : SR (upd (upd m 197 p0) 198 p1) li cf ri yf af (upd (upd s 9 p0) 10 p1) PL Rl num := by
      obtain ⟨s1, s2, s3, s4, s5⟩ := hS
      obtain ⟨j0, k0, rfl⟩ := nat_to (n := 3) a0 a1 (by decide)
      obtain ⟨j1, k1, rfl⟩ := nat_to (n := 3) b0 b1 (by decide)
      refine ⟨SRa.cg s1 (fun k hk => o k (by omega)) (o _ (by omega)) (o _ (by omega)) (o _ (by omega)), SRb.cg s2 (o _ (by omega)) (o _ (by omega)) (o _ (by omega)) (fun k hk => o k (by omega)), ⟨?_, ?_, ?_, rfl, rfl⟩, ?_, ⟨?_, ?_⟩⟩
      · exact s3.1
      · exact s3.2.1
      · exact s3.2.2.1
      · exact s4
      · exact ⟨a0, a1⟩
      · exact ⟨b0, b1⟩
    exact ⟨_, (pm (n := 16) (C := (cC g a ic Tc si th be nu di dh li cf ri yf (upd (upd s 9 p0) 10 p1) tr af y (kpR KK) (odR OO) (mdR9 MM) (rdR9 RR))) (fp := [(a 0, ob 11 ic [some (a 1), some (a 2), some (a 6), some (a 8), some (a 15), (kpR KK), (odR OO), (mdR9 MM), (rdR9 RR), none, none]), (a 8, ob 10 (fun _ => 0) (rD (a 9) (a 11) (a 14))), (a 14, ob 8 (upd (upd s 9 p0) 10 p1) [])]) (rc := [(a 1, aB g 400 Tc), (a 2, ob 7 si [some (a 3), some (a 4), some (a 5), y, none, none, none]), (a 3, aI g 401 th), (a 4, aI g 401 be), (a 5, aI g 401 nu), (a 6, ob 0 di (rL (a 7))), (a 7, aI g 192 dh), (a 9, ob 0 li (rL (a 10))), (a 10, aI g 192 cf), (a 11, ob 6 ri (rQ (a 12) (a 13))), (a 12, aI g 2 yf), (a 13, aR g 6 af), (a 15, ob 8 tr [])]) [0, 8, 14, 1, 2, 3, 4, 5, 6, 7, 9, 10, 11, 12, 13, 15] (by decide) rfl rfl), ⟨rfl, rfl⟩, K, N, ⟨ic, Tc, si, th, be, nu, di, dh, li, cf, ri, yf, _, tr, af, y, KK, OO, MM, RR, PL, Rl, num, rfl, hT, hSR, hK, hO, hKn, hNn⟩, by omega, by omega⟩

theorem cw_stands {l : Launch} {g : Gh} {a : Nat → Nat} {m kp tp : Sc} {h3 : Int32} {e : Nat} {ft : Int32} {T : va_W} {K N : Nat} (hR : Rel g a m kp tp h3 e ft T K N) {p0 : Int32} (x : Sc) : Ct l g yX11_stands (Cond.code yX11_stands cX11_stands 2 (some .int)) 40 (KM9 - K + 32) (NM9 - N + 2000) [.ref (a 0), .int p0] T (wPo (fun v => ¬ rIn p0 0 9 = 0 ∧ v = some (.int (rTold (rTake m x) p0.toNatClampNeg))) (RelP g a m kp tp h3 e ft K N)) (wPx (fun E => rIn p0 0 9 = 0 ∧ E = "java/util/NoSuchElementException") (RelP g a m kp tp h3 e ft K N)) := by
  have hR' := hR
  obtain ⟨ic, Tc, si, th, be, nu, di, dh, li, cf, ri, yf, s, tr, af, y, KK, OO, MM, RR, PL, Rl, num, rfl, hT, hS, hK, hO, hKn, hNn⟩ := hR
  by_cases h0 : rIn p0 0 9 = 0
  · exact rel_x0 hR' (x_X11_stands (by
      rcases rIn_no h0 with z | z
      · exact Or.inl z
      · exact Or.inr (fun y => z (le9.mpr y)))) (by decide) ⟨h0, rfl⟩
  obtain ⟨a0, a1⟩ := rIn_ne.mp h0
  obtain ⟨j0, k0, rfl⟩ := nat_to (n := 9) a0 a1 (by decide)
  rw [nI_clamp (by omega)]
  exact rel_p hR' (c_X11_stands (by omega)) ([(a 1, aB g 400 Tc), (a 2, ob 7 si [some (a 3), some (a 4), some (a 5), y, none, none, none]), (a 3, aI g 401 th), (a 4, aI g 401 be), (a 5, aI g 401 nu), (a 6, ob 0 di (rL (a 7))), (a 7, aI g 192 dh), (a 9, ob 0 li (rL (a 10))), (a 10, aI g 192 cf), (a 11, ob 6 ri (rQ (a 12) (a 13))), (a 12, aI g 2 yf), (a 13, aR g 6 af), (a 15, ob 8 tr [])] ++ ((kpW g KK ++ (odW g (a 8) OO ++ (mdW g (a 8) MM ++ rdW g RR))) ++ plW g PL)) (pm (n := 16) (C := (cC g a ic Tc si th be nu di dh li cf ri yf s tr af y (kpR KK) (odR OO) (mdR9 MM) (rdR9 RR))) (fp := [(a 0, ob 11 ic [some (a 1), some (a 2), some (a 6), some (a 8), some (a 15), (kpR KK), (odR OO), (mdR9 MM), (rdR9 RR), none, none]), (a 8, ob 10 (fun _ => 0) (rD (a 9) (a 11) (a 14))), (a 14, ob 8 s [])]) (rc := [(a 1, aB g 400 Tc), (a 2, ob 7 si [some (a 3), some (a 4), some (a 5), y, none, none, none]), (a 3, aI g 401 th), (a 4, aI g 401 be), (a 5, aI g 401 nu), (a 6, ob 0 di (rL (a 7))), (a 7, aI g 192 dh), (a 9, ob 0 li (rL (a 10))), (a 10, aI g 192 cf), (a 11, ob 6 ri (rQ (a 12) (a 13))), (a 12, aI g 2 yf), (a 13, aR g 6 af), (a 15, ob 8 tr [])]) [0, 8, 14, 1, 2, 3, 4, 5, 6, 7, 9, 10, 11, 12, 13, 15] (by decide) rfl rfl) (by decide) ⟨h0, by rw [tell_eq (SA_c (tk_S m x) hS.2.2.1) (VG_c (tk_S m x) hS.2.2.2.1).1 (by omega)]⟩

theorem hit_eq {m s x li : Sc} (hl : LwA m li) (h : SA m s x) (hx : Val x) {how ln : Int32} (hh : how = 0 ∨ how = 1 ∨ how = 2 ∧ lnOK ln) : sHit s li how ln = rWho m x (raH how ln) := by
  by_cases h6 : x 6 = 0
  · unfold sHit rWho
    rw [if_pos (h.1.2.2.2.2.1.trans h6), if_pos h6]
    unfold sWho raH
    rcases hh with rfl | rfl | ⟨rfl, h1, h2⟩
    · rw [if_neg (show ¬ (0 : Int32) = 2 by decide)]; decide
    · rw [if_neg (show ¬ (1 : Int32) = 2 by decide)]; decide
    · obtain ⟨k, hk, rfl⟩ := nat_to (n := 9) h1 h2 (by decide)
      rw [if_neg (by decide), if_neg (by decide), if_pos rfl, if_neg]
      rw [show (2 : Int32) = nI 2 by decide, nI_add]
      exact Int32.not_lt.mpr (nI_le (by omega) (by omega))
  · refine who_eq hl h h6 ?_ how ln hh
    rcases hx.2.2 with c | c | c
    · exact absurd c.2 h6
    · rw [c.1]; decide
    · rw [c.1]; decide
theorem hw_or {hw ln : Int32} (h1 : ¬ (hw = 2 ∧ rIn ln 0 9 = 0)) (h2 : ¬ rIn hw 0 2 = 0) : hw = 0 ∨ hw = 1 ∨ hw = 2 ∧ lnOK ln := by
  obtain ⟨a0, a1⟩ := rIn_ne.mp h2
  obtain ⟨k, hk, rfl⟩ := nat_to (n := 2) a0 a1 (by decide)
  rcases Nat.lt_or_ge k 1 with z | z
  · left; rw [show k = 0 by omega]; rfl
  · rcases Nat.lt_or_ge k 2 with y | y
    · right; left; rw [show k = 1 by omega]; rfl
    · right; right
      have e : k = 2 := by omega
      subst e
      exact ⟨rfl, rIn_ne.mp (fun z => h1 ⟨rfl, z⟩)⟩
theorem raH_ok {hw ln : Int32} (hh : hw = 0 ∨ hw = 1 ∨ hw = 2 ∧ lnOK ln) : ¬ raH hw ln < 2 → lnOK (raH hw ln - 2) := raH_ln hh

theorem cw_rally {l : Launch} {g : Gh} {a : Nat → Nat} {m kp tp : Sc} {h3 : Int32} {e : Nat} {ft : Int32} {T : va_W} {K N : Nat} (hR : Rel g a m kp tp h3 e ft T K N) {p0 : Int32} {p1 : Int32} (x : Sc) : Ct l g yX11_rally (Cond.code yX11_rally cX11_rally 3 (some .int)) 40 (KM9 - K + 32) (NM9 - N + 2000) [.ref (a 0), .int p0, .int p1] T (wPo (fun v => raT m (rTake m x) p0 p1 = 0 ∧ v = some (.int (rWho m (rTake m x) (raH p0 p1)))) (RelP g a (if raT m (rTake m x) p0 p1 = 0 then rPut m (rRal m (rTake m x) (raH p0 p1)) 9 else m) kp tp h3 e ft K N)) (wPx (fun E => raT m (rTake m x) p0 p1 = 1 ∧ E = "java/lang/IndexOutOfBoundsException" ∨ raT m (rTake m x) p0 p1 = 2 ∧ E = "java/lang/IllegalArgumentException" ∨ raT m (rTake m x) p0 p1 = 3 ∧ E = "java/lang/IllegalStateException") (RelP g a (if raT m (rTake m x) p0 p1 = 0 then rPut m (rRal m (rTake m x) (raH p0 p1)) 9 else m) kp tp h3 e ft K N)) := by
  have hR' := hR
  obtain ⟨ic, Tc, si, th, be, nu, di, dh, li, cf, ri, yf, s, tr, af, y, KK, OO, MM, RR, PL, Rl, num, rfl, hT, hS, hK, hO, hKn, hNn⟩ := hR
  have hle := hR'.le
  have hX := SA_c (tk_S m x) hS.2.2.1
  have hV := VG_c (tk_S m x) hS.2.2.2.1
  generalize rTake m x = X at *
  by_cases h1 : p0 = 2 ∧ rIn p1 0 9 = 0
  · have ht : raT m X p0 p1 = 1 := if_pos h1
    rw [if_neg (by rw [ht]; decide)]
    obtain ⟨rfl, h1⟩ := h1
    refine rel_x0 hR' (x_X11_rally1 ?_) (by decide) (Or.inl ⟨ht, rfl⟩)
    rcases rIn_no h1 with z | z
    · exact Or.inl z
    · exact Or.inr (fun y => z (le9.mpr y))
  by_cases h2 : rIn p0 0 2 = 0
  · have ht : raT m X p0 p1 = 2 := by rw [raT, if_neg h1, if_pos h2]
    rw [if_neg (by rw [ht]; decide)]
    exact rel_x0 hR' (x_X11_rally2 (rIn_no h2)) (by decide) (Or.inr (Or.inl ⟨ht, rfl⟩))
  have hh := hw_or h1 h2
  have hh' : p0 = 0 ∨ p0 = 1 ∨ p0 = 2 ∧ ¬ p1 < 0 ∧ p1 < 10 := by
    rcases hh with z | z | ⟨z, y1, y2⟩
    · exact Or.inl z
    · exact Or.inr (Or.inl z)
    · exact Or.inr (Or.inr ⟨z, Int32.not_lt.mpr y1, le9.mp y2⟩)
  have eo := over_eq hS.lw hX.2.1 hX.2.2.1
  by_cases h3 : rOver m X = 0
  · have ht : raT m X p0 p1 = 0 := by rw [raT, if_neg h1, if_neg h2, if_pos h3]
    rw [if_pos ht, ht]
    obtain ⟨G, hG6, hG⟩ := hS.G
    refine ct_u (c_X11_rally hh' (by rw [eo]; exact h3)) ([(a 1, aB g 400 Tc), (a 2, ob 7 si [some (a 3), some (a 4), some (a 5), y, none, none, none]), (a 3, aI g 401 th), (a 4, aI g 401 be), (a 5, aI g 401 nu), (a 6, ob 0 di (rL (a 7))), (a 7, aI g 192 dh), (a 10, aI g 192 cf), (a 11, ob 6 ri (rQ (a 12) (a 13))), (a 12, aI g 2 yf), (a 13, aR g 6 af), (a 15, ob 8 tr [])] ++ ((kpW g KK ++ (odW g (a 8) OO ++ (mdW g (a 8) MM ++ rdW g RR))) ++ plW g PL)) (pm (n := 16) (C := (cC g a ic Tc si th be nu di dh li cf ri yf s tr af y (kpR KK) (odR OO) (mdR9 MM) (rdR9 RR))) (fp := [(a 0, ob 11 ic [some (a 1), some (a 2), some (a 6), some (a 8), some (a 15), (kpR KK), (odR OO), (mdR9 MM), (rdR9 RR), none, none]), (a 8, ob 10 (fun _ => 0) (rD (a 9) (a 11) (a 14))), (a 9, ob 0 li (rL (a 10))), (a 14, ob 8 s [])]) (rc := [(a 1, aB g 400 Tc), (a 2, ob 7 si [some (a 3), some (a 4), some (a 5), y, none, none, none]), (a 3, aI g 401 th), (a 4, aI g 401 be), (a 5, aI g 401 nu), (a 6, ob 0 di (rL (a 7))), (a 7, aI g 192 dh), (a 10, aI g 192 cf), (a 11, ob 6 ri (rQ (a 12) (a 13))), (a 12, aI g 2 yf), (a 13, aR g 6 af), (a 15, ob 8 tr [])]) [0, 8, 9, 14, 1, 2, 3, 4, 5, 6, 7, 10, 11, 12, 13, 15] (by decide) rfl rfl) (by decide) (by omega) (by omega) (fun v w1 k9 n9 h => ?_) (fun _ _ _ _ h => h.elim)
    obtain ⟨rfl, rfl, rfl, rfl⟩ := h
    exact ⟨_, (pm (n := 16) (C := (cC g a ic Tc si th be nu di dh li cf ri yf (sStrike s li p0 p1) tr af y (kpR KK) (odR OO) (mdR9 MM) (rdR9 RR))) (fp := [(a 0, ob 11 ic [some (a 1), some (a 2), some (a 6), some (a 8), some (a 15), (kpR KK), (odR OO), (mdR9 MM), (rdR9 RR), none, none]), (a 8, ob 10 (fun _ => 0) (rD (a 9) (a 11) (a 14))), (a 9, ob 0 li (rL (a 10))), (a 14, ob 8 (sStrike s li p0 p1) [])]) (rc := [(a 1, aB g 400 Tc), (a 2, ob 7 si [some (a 3), some (a 4), some (a 5), y, none, none, none]), (a 3, aI g 401 th), (a 4, aI g 401 be), (a 5, aI g 401 nu), (a 6, ob 0 di (rL (a 7))), (a 7, aI g 192 dh), (a 10, aI g 192 cf), (a 11, ob 6 ri (rQ (a 12) (a 13))), (a 12, aI g 2 yf), (a 13, aR g 6 af), (a 15, ob 8 tr [])]) [0, 8, 9, 14, 1, 2, 3, 4, 5, 6, 7, 10, 11, 12, 13, 15] (by decide) rfl rfl), ⟨rfl, by rw [hit_eq hS.lw hX hV.1 hh]⟩, K, N, ⟨ic, Tc, si, th, be, nu, di, dh, li, cf, ri, yf, _, tr, af, y, KK, OO, MM, RR, PL, Rl, num, rfl, hT, (hS.put (SA.strike hS.lw hS.2.2.2.2 hX hV.1 hh) (VG_rRal hS.2.2.2.2 hG hG6 hV h3 (fun _ => raH_ln hh))), hK, hO, hKn, hNn⟩, by omega, by omega⟩
  · have ht : raT m X p0 p1 = 3 := by rw [raT, if_neg h1, if_neg h2, if_neg h3]
    rw [if_neg (by rw [ht]; decide)]
    exact rel_x1 hR' (x_X11_rally3 hh' (by rw [eo]; exact h3)) ([(a 1, aB g 400 Tc), (a 2, ob 7 si [some (a 3), some (a 4), some (a 5), y, none, none, none]), (a 3, aI g 401 th), (a 4, aI g 401 be), (a 5, aI g 401 nu), (a 6, ob 0 di (rL (a 7))), (a 7, aI g 192 dh), (a 10, aI g 192 cf), (a 11, ob 6 ri (rQ (a 12) (a 13))), (a 12, aI g 2 yf), (a 13, aR g 6 af), (a 15, ob 8 tr [])] ++ ((kpW g KK ++ (odW g (a 8) OO ++ (mdW g (a 8) MM ++ rdW g RR))) ++ plW g PL)) (pm (n := 16) (C := (cC g a ic Tc si th be nu di dh li cf ri yf s tr af y (kpR KK) (odR OO) (mdR9 MM) (rdR9 RR))) (fp := [(a 0, ob 11 ic [some (a 1), some (a 2), some (a 6), some (a 8), some (a 15), (kpR KK), (odR OO), (mdR9 MM), (rdR9 RR), none, none]), (a 8, ob 10 (fun _ => 0) (rD (a 9) (a 11) (a 14))), (a 9, ob 0 li (rL (a 10))), (a 14, ob 8 s [])]) (rc := [(a 1, aB g 400 Tc), (a 2, ob 7 si [some (a 3), some (a 4), some (a 5), y, none, none, none]), (a 3, aI g 401 th), (a 4, aI g 401 be), (a 5, aI g 401 nu), (a 6, ob 0 di (rL (a 7))), (a 7, aI g 192 dh), (a 10, aI g 192 cf), (a 11, ob 6 ri (rQ (a 12) (a 13))), (a 12, aI g 2 yf), (a 13, aR g 6 af), (a 15, ob 8 tr [])]) [0, 8, 9, 14, 1, 2, 3, 4, 5, 6, 7, 10, 11, 12, 13, 15] (by decide) rfl rfl) (by decide) (Or.inr (Or.inr ⟨ht, rfl⟩))

theorem VG_rBis {m x : Sc} {p : Int32} {G : Nat} (hH : HOK m) (hG : m 194 = nI G) (hG6 : G ≤ 6) (hx : VG x) (ho : rOver m x = 0) (hp : p = 0 ∨ p = 1) : VG (rBis m x p) := by
  obtain ⟨⟨hpt, h2, hc⟩, ⟨a, ha, ea⟩, ⟨b, hb, eb⟩⟩ := hx
  have ho2 : ¬ (m 194 ≤ x 7 ∨ m 194 ≤ x 8) := by
    unfold rOver at ho
    intro h
    rw [if_pos h] at ho
    exact absurd ho (by decide)
  have ha2 : a + 1 ≤ 6 := by
    rcases Nat.lt_or_ge a G with h | h
    · omega
    · exact absurd (Or.inl (by rw [hG, ea]; exact nI_le h (by omega))) ho2
  have hb2 : b + 1 ≤ 6 := by
    rcases Nat.lt_or_ge b G with h | h
    · omega
    · exact absurd (Or.inr (by rw [hG, eb]; exact nI_le h (by omega))) ho2
  obtain ⟨v1, v2, v3⟩ := Val_pt hH hpt hp
  have g7 : (∃ c : Nat, c ≤ 6 ∧ rPt m x p 7 = nI c) ∧ ∃ c : Nat, c ≤ 6 ∧ rPt m x p 8 = nI c := by
    rcases rPt_g m x p with ⟨h1, h2⟩ | ⟨h1, h2⟩ | ⟨h1, h2⟩
    · exact ⟨⟨a, ha, h1.trans ea⟩, ⟨b, hb, h2.trans eb⟩⟩
    · exact ⟨⟨a + 1, ha2, by rw [h1, ea, nI_1]⟩, ⟨b, hb, h2.trans eb⟩⟩
    · exact ⟨⟨a, ha, h1.trans ea⟩, ⟨b + 1, hb2, by rw [h2, eb, nI_1]⟩⟩
  unfold rBis
  by_cases h6 : x 6 = 1
  · rw [if_pos h6]
    refine ⟨⟨v1, by rw [v2]; exact h2, ?_⟩, g7⟩
    rcases v3 with ⟨b1, b2, b3, b4⟩ | ⟨b1, b2⟩
    · rw [b1, b2, b3, b4]; exact hc
    · exact Or.inl ⟨b1, b2⟩
  · rw [if_neg h6]
    have h60 : x 6 = 0 := by
      rcases hc with c | c | c
      · exact c.2
      · exact c.2.2.resolve_right h6
      · exact absurd c.2.2.2 h6
    refine ⟨Val_ends v1 (by rw [v2]; exact h2) ?_ ?_, by rw [rEnds_g _ _ 7 (by decide), rEnds_g _ _ 8 (by decide)]; exact g7⟩
    · rcases v3 with ⟨b1, b2, b3, b4⟩ | ⟨b1, b2⟩
      · rw [b4]; exact h60
      · exact b2
    · rcases v3 with ⟨b1, b2, b3, b4⟩ | ⟨b1, b2⟩
      · rw [b1, b2, b3]
        rcases hc with c | c | c
        · exact Or.inl c.1
        · exact Or.inr (Or.inl ⟨c.1, c.2.1⟩)
        · exact Or.inr (Or.inr ⟨c.1, c.2.1, c.2.2.1⟩)
      · exact Or.inl b1
theorem wins_or (t : Sc) (p : Int32) : sWins t p = 0 ∨ sWins t p = 1 := by unfold sWins; split <;> simp

theorem cw_bisque {l : Launch} {g : Gh} {a : Nat → Nat} {m kp tp : Sc} {h3 : Int32} {e : Nat} {ft : Int32} {T : va_W} {K N : Nat} (hR : Rel g a m kp tp h3 e ft T K N) {p0 : Int32} (x : Sc) : Ct l g yX11_bisque (Cond.code yX11_bisque cX11_bisque 2 (some .boolean)) 40 (KM9 - K + 32) (NM9 - N + 2000) [.ref (a 0), .int p0] T (wPo (fun v => bqT m (rTake m x) p0 = 0 ∧ v = some (.int (sWins (sPt1 (sPt0 (rTake m x) p0)) p0))) (RelP g a (if bqT m (rTake m x) p0 = 0 then rPut m (rBis m (rTake m x) p0) 9 else m) kp tp h3 e ft K N)) (wPx (fun E => bqT m (rTake m x) p0 = 1 ∧ E = "java/lang/IndexOutOfBoundsException" ∨ bqT m (rTake m x) p0 = 2 ∧ E = "java/lang/IllegalStateException") (RelP g a (if bqT m (rTake m x) p0 = 0 then rPut m (rBis m (rTake m x) p0) 9 else m) kp tp h3 e ft K N)) := by
  have hR' := hR
  obtain ⟨ic, Tc, si, th, be, nu, di, dh, li, cf, ri, yf, s, tr, af, y, KK, OO, MM, RR, PL, Rl, num, rfl, hT, hS, hK, hO, hKn, hNn⟩ := hR
  have hle := hR'.le
  have hX := SA_c (tk_S m x) hS.2.2.1
  have hV := VG_c (tk_S m x) hS.2.2.2.1
  generalize rTake m x = X at *
  by_cases h1 : rIn p0 0 1 = 0
  · have ht : bqT m X p0 = 1 := if_pos h1
    rw [if_neg (by rw [ht]; decide)]
    exact rel_x0 hR' (x_X11_bisque1 (rIn_n01 h1).1 (rIn_n01 h1).2) (by decide) (Or.inl ⟨ht, rfl⟩)
  have hp := rIn_01 h1
  have eo := over_eq hS.lw hX.2.1 hX.2.2.1
  by_cases h3 : rOver m X = 0
  · have ht : bqT m X p0 = 0 := by rw [bqT, if_neg h1, if_pos h3]
    rw [if_pos ht, ht]
    obtain ⟨G, hG6, hG⟩ := hS.G
    obtain ⟨b1, b2⟩ := SA.bis hS.lw hS.2.2.2.2 hX hV.1 hp
    refine ct_u (c_X11_bisque hp (by rw [eo]; exact h3) (by rw [b2]; exact wins_or _ _)) ([(a 1, aB g 400 Tc), (a 2, ob 7 si [some (a 3), some (a 4), some (a 5), y, none, none, none]), (a 3, aI g 401 th), (a 4, aI g 401 be), (a 5, aI g 401 nu), (a 6, ob 0 di (rL (a 7))), (a 7, aI g 192 dh), (a 10, aI g 192 cf), (a 11, ob 6 ri (rQ (a 12) (a 13))), (a 12, aI g 2 yf), (a 13, aR g 6 af), (a 15, ob 8 tr [])] ++ ((kpW g KK ++ (odW g (a 8) OO ++ (mdW g (a 8) MM ++ rdW g RR))) ++ plW g PL)) (pm (n := 16) (C := (cC g a ic Tc si th be nu di dh li cf ri yf s tr af y (kpR KK) (odR OO) (mdR9 MM) (rdR9 RR))) (fp := [(a 0, ob 11 ic [some (a 1), some (a 2), some (a 6), some (a 8), some (a 15), (kpR KK), (odR OO), (mdR9 MM), (rdR9 RR), none, none]), (a 8, ob 10 (fun _ => 0) (rD (a 9) (a 11) (a 14))), (a 9, ob 0 li (rL (a 10))), (a 14, ob 8 s [])]) (rc := [(a 1, aB g 400 Tc), (a 2, ob 7 si [some (a 3), some (a 4), some (a 5), y, none, none, none]), (a 3, aI g 401 th), (a 4, aI g 401 be), (a 5, aI g 401 nu), (a 6, ob 0 di (rL (a 7))), (a 7, aI g 192 dh), (a 10, aI g 192 cf), (a 11, ob 6 ri (rQ (a 12) (a 13))), (a 12, aI g 2 yf), (a 13, aR g 6 af), (a 15, ob 8 tr [])]) [0, 8, 9, 14, 1, 2, 3, 4, 5, 6, 7, 10, 11, 12, 13, 15] (by decide) rfl rfl) (by decide) (by omega) (by omega) (fun v w1 k9 n9 h => ?_) (fun _ _ _ _ h => h.elim)
    obtain ⟨rfl, rfl, rfl, rfl⟩ := h
    exact ⟨_, (pm (n := 16) (C := (cC g a ic Tc si th be nu di dh li cf ri yf (sBisque s li p0) tr af y (kpR KK) (odR OO) (mdR9 MM) (rdR9 RR))) (fp := [(a 0, ob 11 ic [some (a 1), some (a 2), some (a 6), some (a 8), some (a 15), (kpR KK), (odR OO), (mdR9 MM), (rdR9 RR), none, none]), (a 8, ob 10 (fun _ => 0) (rD (a 9) (a 11) (a 14))), (a 9, ob 0 li (rL (a 10))), (a 14, ob 8 (sBisque s li p0) [])]) (rc := [(a 1, aB g 400 Tc), (a 2, ob 7 si [some (a 3), some (a 4), some (a 5), y, none, none, none]), (a 3, aI g 401 th), (a 4, aI g 401 be), (a 5, aI g 401 nu), (a 6, ob 0 di (rL (a 7))), (a 7, aI g 192 dh), (a 10, aI g 192 cf), (a 11, ob 6 ri (rQ (a 12) (a 13))), (a 12, aI g 2 yf), (a 13, aR g 6 af), (a 15, ob 8 tr [])]) [0, 8, 9, 14, 1, 2, 3, 4, 5, 6, 7, 10, 11, 12, 13, 15] (by decide) rfl rfl), ⟨rfl, by rw [b2]⟩, K, N, ⟨ic, Tc, si, th, be, nu, di, dh, li, cf, ri, yf, _, tr, af, y, KK, OO, MM, RR, PL, Rl, num, rfl, hT, (hS.put b1 (VG_rBis hS.2.2.2.2 hG hG6 hV h3 hp)), hK, hO, hKn, hNn⟩, by omega, by omega⟩
  · have ht : bqT m X p0 = 2 := by rw [bqT, if_neg h1, if_neg h3]
    rw [if_neg (by rw [ht]; decide)]
    exact rel_x1 hR' (x_X11_bisque2 hp (by rw [eo]; exact h3)) ([(a 1, aB g 400 Tc), (a 2, ob 7 si [some (a 3), some (a 4), some (a 5), y, none, none, none]), (a 3, aI g 401 th), (a 4, aI g 401 be), (a 5, aI g 401 nu), (a 6, ob 0 di (rL (a 7))), (a 7, aI g 192 dh), (a 10, aI g 192 cf), (a 11, ob 6 ri (rQ (a 12) (a 13))), (a 12, aI g 2 yf), (a 13, aR g 6 af), (a 15, ob 8 tr [])] ++ ((kpW g KK ++ (odW g (a 8) OO ++ (mdW g (a 8) MM ++ rdW g RR))) ++ plW g PL)) (pm (n := 16) (C := (cC g a ic Tc si th be nu di dh li cf ri yf s tr af y (kpR KK) (odR OO) (mdR9 MM) (rdR9 RR))) (fp := [(a 0, ob 11 ic [some (a 1), some (a 2), some (a 6), some (a 8), some (a 15), (kpR KK), (odR OO), (mdR9 MM), (rdR9 RR), none, none]), (a 8, ob 10 (fun _ => 0) (rD (a 9) (a 11) (a 14))), (a 9, ob 0 li (rL (a 10))), (a 14, ob 8 s [])]) (rc := [(a 1, aB g 400 Tc), (a 2, ob 7 si [some (a 3), some (a 4), some (a 5), y, none, none, none]), (a 3, aI g 401 th), (a 4, aI g 401 be), (a 5, aI g 401 nu), (a 6, ob 0 di (rL (a 7))), (a 7, aI g 192 dh), (a 10, aI g 192 cf), (a 11, ob 6 ri (rQ (a 12) (a 13))), (a 12, aI g 2 yf), (a 13, aR g 6 af), (a 15, ob 8 tr [])]) [0, 8, 9, 14, 1, 2, 3, 4, 5, 6, 7, 10, 11, 12, 13, 15] (by decide) rfl rfl) (by decide) (Or.inr ⟨ht, rfl⟩)

theorem cw_count {l : Launch} {g : Gh} {a : Nat → Nat} {m kp tp : Sc} {h3 : Int32} {e : Nat} {ft : Int32} {T : va_W} {K N : Nat} (hR : Rel g a m kp tp h3 e ft T K N) {p0 : Int32} : Ct l g yX11_count (Cond.code yX11_count cX11_count 2 (some .int)) 40 (KM9 - K + 32) (NM9 - N + 2000) [.ref (a 0), .int p0] T (wPo (fun v => v = some (.int (ctV m p0))) (RelP g a m kp tp h3 e ft K N)) (wPx (fun E => False) (RelP g a m kp tp h3 e ft K N)) := by
  have hR' := hR
  obtain ⟨ic, Tc, si, th, be, nu, di, dh, li, cf, ri, yf, s, tr, af, y, KK, OO, MM, RR, PL, Rl, num, rfl, hT, hS, hK, hO, hKn, hNn⟩ := hR
  by_cases h0 : p0 = 0
  · subst h0
    exact rel_p hR' c_X11_count0 ([(a 1, aB g 400 Tc), (a 2, ob 7 si [some (a 3), some (a 4), some (a 5), y, none, none, none]), (a 3, aI g 401 th), (a 4, aI g 401 be), (a 5, aI g 401 nu), (a 6, ob 0 di (rL (a 7))), (a 7, aI g 192 dh), (a 10, aI g 192 cf), (a 12, aI g 2 yf), (a 13, aR g 6 af), (a 15, ob 8 tr [])] ++ ((kpW g KK ++ (odW g (a 8) OO ++ (mdW g (a 8) MM ++ rdW g RR))) ++ plW g PL)) (pm (n := 16) (C := (cC g a ic Tc si th be nu di dh li cf ri yf s tr af y (kpR KK) (odR OO) (mdR9 MM) (rdR9 RR))) (fp := [(a 0, ob 11 ic [some (a 1), some (a 2), some (a 6), some (a 8), some (a 15), (kpR KK), (odR OO), (mdR9 MM), (rdR9 RR), none, none]), (a 8, ob 10 (fun _ => 0) (rD (a 9) (a 11) (a 14))), (a 9, ob 0 li (rL (a 10))), (a 11, ob 6 ri (rQ (a 12) (a 13))), (a 14, ob 8 s [])]) (rc := [(a 1, aB g 400 Tc), (a 2, ob 7 si [some (a 3), some (a 4), some (a 5), y, none, none, none]), (a 3, aI g 401 th), (a 4, aI g 401 be), (a 5, aI g 401 nu), (a 6, ob 0 di (rL (a 7))), (a 7, aI g 192 dh), (a 10, aI g 192 cf), (a 12, aI g 2 yf), (a 13, aR g 6 af), (a 15, ob 8 tr [])]) [0, 8, 9, 11, 14, 1, 2, 3, 4, 5, 6, 7, 10, 12, 13, 15] (by decide) rfl rfl) (by decide) (by rw [hS.1.2.2.2.1]; rfl)
  by_cases h1 : p0 = 1
  · subst h1
    exact rel_p hR' c_X11_count1 ([(a 1, aB g 400 Tc), (a 2, ob 7 si [some (a 3), some (a 4), some (a 5), y, none, none, none]), (a 3, aI g 401 th), (a 4, aI g 401 be), (a 5, aI g 401 nu), (a 6, ob 0 di (rL (a 7))), (a 7, aI g 192 dh), (a 10, aI g 192 cf), (a 12, aI g 2 yf), (a 13, aR g 6 af), (a 15, ob 8 tr [])] ++ ((kpW g KK ++ (odW g (a 8) OO ++ (mdW g (a 8) MM ++ rdW g RR))) ++ plW g PL)) (pm (n := 16) (C := (cC g a ic Tc si th be nu di dh li cf ri yf s tr af y (kpR KK) (odR OO) (mdR9 MM) (rdR9 RR))) (fp := [(a 0, ob 11 ic [some (a 1), some (a 2), some (a 6), some (a 8), some (a 15), (kpR KK), (odR OO), (mdR9 MM), (rdR9 RR), none, none]), (a 8, ob 10 (fun _ => 0) (rD (a 9) (a 11) (a 14))), (a 9, ob 0 li (rL (a 10))), (a 11, ob 6 ri (rQ (a 12) (a 13))), (a 14, ob 8 s [])]) (rc := [(a 1, aB g 400 Tc), (a 2, ob 7 si [some (a 3), some (a 4), some (a 5), y, none, none, none]), (a 3, aI g 401 th), (a 4, aI g 401 be), (a 5, aI g 401 nu), (a 6, ob 0 di (rL (a 7))), (a 7, aI g 192 dh), (a 10, aI g 192 cf), (a 12, aI g 2 yf), (a 13, aR g 6 af), (a 15, ob 8 tr [])]) [0, 8, 9, 11, 14, 1, 2, 3, 4, 5, 6, 7, 10, 12, 13, 15] (by decide) rfl rfl) (by decide) (by rw [(hS.2.1.1.trans hS.2.1.2.1.symm)]; rfl)
  by_cases h2 : p0 = 2
  · subst h2
    exact rel_p hR' c_X11_count2 ([(a 1, aB g 400 Tc), (a 2, ob 7 si [some (a 3), some (a 4), some (a 5), y, none, none, none]), (a 3, aI g 401 th), (a 4, aI g 401 be), (a 5, aI g 401 nu), (a 6, ob 0 di (rL (a 7))), (a 7, aI g 192 dh), (a 10, aI g 192 cf), (a 12, aI g 2 yf), (a 13, aR g 6 af), (a 15, ob 8 tr [])] ++ ((kpW g KK ++ (odW g (a 8) OO ++ (mdW g (a 8) MM ++ rdW g RR))) ++ plW g PL)) (pm (n := 16) (C := (cC g a ic Tc si th be nu di dh li cf ri yf s tr af y (kpR KK) (odR OO) (mdR9 MM) (rdR9 RR))) (fp := [(a 0, ob 11 ic [some (a 1), some (a 2), some (a 6), some (a 8), some (a 15), (kpR KK), (odR OO), (mdR9 MM), (rdR9 RR), none, none]), (a 8, ob 10 (fun _ => 0) (rD (a 9) (a 11) (a 14))), (a 9, ob 0 li (rL (a 10))), (a 11, ob 6 ri (rQ (a 12) (a 13))), (a 14, ob 8 s [])]) (rc := [(a 1, aB g 400 Tc), (a 2, ob 7 si [some (a 3), some (a 4), some (a 5), y, none, none, none]), (a 3, aI g 401 th), (a 4, aI g 401 be), (a 5, aI g 401 nu), (a 6, ob 0 di (rL (a 7))), (a 7, aI g 192 dh), (a 10, aI g 192 cf), (a 12, aI g 2 yf), (a 13, aR g 6 af), (a 15, ob 8 tr [])]) [0, 8, 9, 11, 14, 1, 2, 3, 4, 5, 6, 7, 10, 12, 13, 15] (by decide) rfl rfl) (by decide) (by rw [hS.1.1.2.1]; rfl)
  by_cases h3 : p0 = 3
  · subst h3
    exact rel_p hR' c_X11_count3 ([(a 1, aB g 400 Tc), (a 2, ob 7 si [some (a 3), some (a 4), some (a 5), y, none, none, none]), (a 3, aI g 401 th), (a 4, aI g 401 be), (a 5, aI g 401 nu), (a 6, ob 0 di (rL (a 7))), (a 7, aI g 192 dh), (a 10, aI g 192 cf), (a 12, aI g 2 yf), (a 13, aR g 6 af), (a 15, ob 8 tr [])] ++ ((kpW g KK ++ (odW g (a 8) OO ++ (mdW g (a 8) MM ++ rdW g RR))) ++ plW g PL)) (pm (n := 16) (C := (cC g a ic Tc si th be nu di dh li cf ri yf s tr af y (kpR KK) (odR OO) (mdR9 MM) (rdR9 RR))) (fp := [(a 0, ob 11 ic [some (a 1), some (a 2), some (a 6), some (a 8), some (a 15), (kpR KK), (odR OO), (mdR9 MM), (rdR9 RR), none, none]), (a 8, ob 10 (fun _ => 0) (rD (a 9) (a 11) (a 14))), (a 9, ob 0 li (rL (a 10))), (a 11, ob 6 ri (rQ (a 12) (a 13))), (a 14, ob 8 s [])]) (rc := [(a 1, aB g 400 Tc), (a 2, ob 7 si [some (a 3), some (a 4), some (a 5), y, none, none, none]), (a 3, aI g 401 th), (a 4, aI g 401 be), (a 5, aI g 401 nu), (a 6, ob 0 di (rL (a 7))), (a 7, aI g 192 dh), (a 10, aI g 192 cf), (a 12, aI g 2 yf), (a 13, aR g 6 af), (a 15, ob 8 tr [])]) [0, 8, 9, 11, 14, 1, 2, 3, 4, 5, 6, 7, 10, 12, 13, 15] (by decide) rfl rfl) (by decide) (by rw [hS.1.1.2.2.1]; rfl)
  by_cases h4 : p0 = 4
  · subst h4
    exact rel_p hR' c_X11_count4 ([(a 1, aB g 400 Tc), (a 2, ob 7 si [some (a 3), some (a 4), some (a 5), y, none, none, none]), (a 3, aI g 401 th), (a 4, aI g 401 be), (a 5, aI g 401 nu), (a 6, ob 0 di (rL (a 7))), (a 7, aI g 192 dh), (a 10, aI g 192 cf), (a 12, aI g 2 yf), (a 13, aR g 6 af), (a 15, ob 8 tr [])] ++ ((kpW g KK ++ (odW g (a 8) OO ++ (mdW g (a 8) MM ++ rdW g RR))) ++ plW g PL)) (pm (n := 16) (C := (cC g a ic Tc si th be nu di dh li cf ri yf s tr af y (kpR KK) (odR OO) (mdR9 MM) (rdR9 RR))) (fp := [(a 0, ob 11 ic [some (a 1), some (a 2), some (a 6), some (a 8), some (a 15), (kpR KK), (odR OO), (mdR9 MM), (rdR9 RR), none, none]), (a 8, ob 10 (fun _ => 0) (rD (a 9) (a 11) (a 14))), (a 9, ob 0 li (rL (a 10))), (a 11, ob 6 ri (rQ (a 12) (a 13))), (a 14, ob 8 s [])]) (rc := [(a 1, aB g 400 Tc), (a 2, ob 7 si [some (a 3), some (a 4), some (a 5), y, none, none, none]), (a 3, aI g 401 th), (a 4, aI g 401 be), (a 5, aI g 401 nu), (a 6, ob 0 di (rL (a 7))), (a 7, aI g 192 dh), (a 10, aI g 192 cf), (a 12, aI g 2 yf), (a 13, aR g 6 af), (a 15, ob 8 tr [])]) [0, 8, 9, 11, 14, 1, 2, 3, 4, 5, 6, 7, 10, 12, 13, 15] (by decide) rfl rfl) (by decide) (by rw [hS.1.1.2.2.2]; rfl)
  by_cases h5 : p0 = 5
  · subst h5
    exact rel_p hR' c_X11_count5 ([(a 1, aB g 400 Tc), (a 2, ob 7 si [some (a 3), some (a 4), some (a 5), y, none, none, none]), (a 3, aI g 401 th), (a 4, aI g 401 be), (a 5, aI g 401 nu), (a 6, ob 0 di (rL (a 7))), (a 7, aI g 192 dh), (a 10, aI g 192 cf), (a 12, aI g 2 yf), (a 13, aR g 6 af), (a 15, ob 8 tr [])] ++ ((kpW g KK ++ (odW g (a 8) OO ++ (mdW g (a 8) MM ++ rdW g RR))) ++ plW g PL)) (pm (n := 16) (C := (cC g a ic Tc si th be nu di dh li cf ri yf s tr af y (kpR KK) (odR OO) (mdR9 MM) (rdR9 RR))) (fp := [(a 0, ob 11 ic [some (a 1), some (a 2), some (a 6), some (a 8), some (a 15), (kpR KK), (odR OO), (mdR9 MM), (rdR9 RR), none, none]), (a 8, ob 10 (fun _ => 0) (rD (a 9) (a 11) (a 14))), (a 9, ob 0 li (rL (a 10))), (a 11, ob 6 ri (rQ (a 12) (a 13))), (a 14, ob 8 s [])]) (rc := [(a 1, aB g 400 Tc), (a 2, ob 7 si [some (a 3), some (a 4), some (a 5), y, none, none, none]), (a 3, aI g 401 th), (a 4, aI g 401 be), (a 5, aI g 401 nu), (a 6, ob 0 di (rL (a 7))), (a 7, aI g 192 dh), (a 10, aI g 192 cf), (a 12, aI g 2 yf), (a 13, aR g 6 af), (a 15, ob 8 tr [])]) [0, 8, 9, 11, 14, 1, 2, 3, 4, 5, 6, 7, 10, 12, 13, 15] (by decide) rfl rfl) (by decide) (by rw [hS.2.2.1.2.2.2.1]; rfl)
  by_cases h6 : p0 = 6
  · subst h6
    exact rel_p hR' c_X11_count6 ([(a 1, aB g 400 Tc), (a 2, ob 7 si [some (a 3), some (a 4), some (a 5), y, none, none, none]), (a 3, aI g 401 th), (a 4, aI g 401 be), (a 5, aI g 401 nu), (a 6, ob 0 di (rL (a 7))), (a 7, aI g 192 dh), (a 10, aI g 192 cf), (a 12, aI g 2 yf), (a 13, aR g 6 af), (a 15, ob 8 tr [])] ++ ((kpW g KK ++ (odW g (a 8) OO ++ (mdW g (a 8) MM ++ rdW g RR))) ++ plW g PL)) (pm (n := 16) (C := (cC g a ic Tc si th be nu di dh li cf ri yf s tr af y (kpR KK) (odR OO) (mdR9 MM) (rdR9 RR))) (fp := [(a 0, ob 11 ic [some (a 1), some (a 2), some (a 6), some (a 8), some (a 15), (kpR KK), (odR OO), (mdR9 MM), (rdR9 RR), none, none]), (a 8, ob 10 (fun _ => 0) (rD (a 9) (a 11) (a 14))), (a 9, ob 0 li (rL (a 10))), (a 11, ob 6 ri (rQ (a 12) (a 13))), (a 14, ob 8 s [])]) (rc := [(a 1, aB g 400 Tc), (a 2, ob 7 si [some (a 3), some (a 4), some (a 5), y, none, none, none]), (a 3, aI g 401 th), (a 4, aI g 401 be), (a 5, aI g 401 nu), (a 6, ob 0 di (rL (a 7))), (a 7, aI g 192 dh), (a 10, aI g 192 cf), (a 12, aI g 2 yf), (a 13, aR g 6 af), (a 15, ob 8 tr [])]) [0, 8, 9, 11, 14, 1, 2, 3, 4, 5, 6, 7, 10, 12, 13, 15] (by decide) rfl rfl) (by decide) (by rw [hS.2.2.1.2.2.2.2]; rfl)
  refine rel_p hR' (c_X11_countD ?_) ([(a 1, aB g 400 Tc), (a 2, ob 7 si [some (a 3), some (a 4), some (a 5), y, none, none, none]), (a 3, aI g 401 th), (a 4, aI g 401 be), (a 5, aI g 401 nu), (a 6, ob 0 di (rL (a 7))), (a 7, aI g 192 dh), (a 10, aI g 192 cf), (a 12, aI g 2 yf), (a 13, aR g 6 af), (a 15, ob 8 tr [])] ++ ((kpW g KK ++ (odW g (a 8) OO ++ (mdW g (a 8) MM ++ rdW g RR))) ++ plW g PL)) (pm (n := 16) (C := (cC g a ic Tc si th be nu di dh li cf ri yf s tr af y (kpR KK) (odR OO) (mdR9 MM) (rdR9 RR))) (fp := [(a 0, ob 11 ic [some (a 1), some (a 2), some (a 6), some (a 8), some (a 15), (kpR KK), (odR OO), (mdR9 MM), (rdR9 RR), none, none]), (a 8, ob 10 (fun _ => 0) (rD (a 9) (a 11) (a 14))), (a 9, ob 0 li (rL (a 10))), (a 11, ob 6 ri (rQ (a 12) (a 13))), (a 14, ob 8 s [])]) (rc := [(a 1, aB g 400 Tc), (a 2, ob 7 si [some (a 3), some (a 4), some (a 5), y, none, none, none]), (a 3, aI g 401 th), (a 4, aI g 401 be), (a 5, aI g 401 nu), (a 6, ob 0 di (rL (a 7))), (a 7, aI g 192 dh), (a 10, aI g 192 cf), (a 12, aI g 2 yf), (a 13, aR g 6 af), (a 15, ob 8 tr [])]) [0, 8, 9, 11, 14, 1, 2, 3, 4, 5, 6, 7, 10, 12, 13, 15] (by decide) rfl rfl) (by decide) (by unfold ctV; rw [if_neg h0, if_neg h1, if_neg h2, if_neg h3, if_neg h4, if_neg h5, if_neg h6])
  have hk : ∀ (k : Int), p0.toInt = k → p0 = Int32.ofInt k := fun k hk => by rw [← hk, Int32.ofInt_toInt]
  have a0 : ¬ p0.toInt = 0 := fun z => h0 (hk 0 z)
  have a1 : ¬ p0.toInt = 1 := fun z => h1 (hk 1 z)
  have a2 : ¬ p0.toInt = 2 := fun z => h2 (hk 2 z)
  have a3 : ¬ p0.toInt = 3 := fun z => h3 (hk 3 z)
  have a4 : ¬ p0.toInt = 4 := fun z => h4 (hk 4 z)
  have a5 : ¬ p0.toInt = 5 := fun z => h5 (hk 5 z)
  have a6 : ¬ p0.toInt = 6 := fun z => h6 (hk 6 z)
  omega

