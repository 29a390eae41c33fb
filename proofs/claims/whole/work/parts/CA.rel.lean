/-! ===== worlds in blocks; rooms ===== -/
theorem hr_mono {s : State} {pl : Platform} {r r' : Room} (hf : r.frames ≤ r'.frames) (hl : r.locals ≤ r'.locals) (hc : r.cells ≤ r'.cells) (hs : r.slots ≤ r'.slots) (h : s.hasRoom pl r' = true) : s.hasRoom pl r = true := by
  simp only [State.hasRoom, Bool.and_eq_true, decide_eq_true_eq] at h ⊢
  obtain ⟨⟨⟨⟨h0, h1, h2, h3, h4, h5⟩, h6⟩, h7⟩, h8⟩ := h
  refine ⟨⟨⟨⟨?_, ?_, ?_, ?_, ?_, h5⟩, ?_⟩, ?_⟩, h8⟩ <;> omega
/-- a contract with more room, over a larger world in another order -/
theorem ct_u {l : Launch} {g : Gh} {y : MethodName} {hd : Cond} {d rc rs d' rc' rs' : Nat} {args : List Value} {w : va_W} {post post' : Pst} {px px' : Pxc} (c : Ct l g y hd d rc rs args w post px) (wr : va_W) {W : va_W} (hW : (w ++ wr).Perm W) (h1 : d ≤ d') (h2 : rc ≤ rc') (h3 : rs ≤ rs') (hp : ∀ v w1 k n, post v w1 k n → ∃ W1, (w1 ++ wr).Perm W1 ∧ post' v W1 k n) (hx : ∀ E w1 k n, px E w1 k n → ∃ W1, (w1 ++ wr).Perm W1 ∧ px' E W1 k n) : Ct l g y hd d' rc' rs' args W post' px' := by
  refine ct_x (post := post) (px := px) ?_ wr hW hp hx
  intro hst sz p e a1 a2 a3 s m a below a4 a5 a6 a7
  obtain ⟨b1, b2, b3, b4, b5, b6, b7, b8⟩ := (Spec.appliesLoose_iff a4).mp a5
  have b9 : s.hasRoom e.platform (rm d rc rs) = true := hr_mono (r' := rm d' rc' rs') h1 (by show 40 * d ≤ 40 * d'; omega) h2 h3 b7
  exact c hst sz p e a1 a2 a3 s m a below a4 ((Spec.appliesLoose_iff a4).mpr ⟨b1, b2, b3, b4, b5, b6, b9, b8⟩) a6 a7
def bj {α : Type} : List (List α) → List α
  | [] => []
  | [x] => x
  | x :: z :: t => x ++ bj (z :: t)
theorem bj_cons {α : Type} (x : List α) (t : List (List α)) : bj (x :: t) = x ++ bj t := by
  cases t with
  | nil => rw [bj, bj, List.append_nil]
  | cons z t => rfl
theorem bj_perm {α : Type} {A B : List (List α)} (h : A.Perm B) : (bj A).Perm (bj B) := by
  induction h with
  | nil => exact List.Perm.refl _
  | cons x _ ih => rw [bj_cons, bj_cons]; exact ih.append_left x
  | swap x z t =>
    rw [bj_cons, bj_cons, bj_cons, bj_cons, ← List.append_assoc, ← List.append_assoc]
    exact List.perm_append_comm.append_right _
  | trans _ _ h1 h2 => exact h1.trans h2
theorem ix_self {α : Type} : ∀ A : List α, (List.range A.length).filterMap (fun i => A[i]?) = A
  | [] => rfl
  | x :: A => by
    rw [List.length_cons, List.range_succ_eq_map, List.filterMap_cons]
    simp only [List.getElem?_cons_zero, List.filterMap_map]
    congr 1
    exact ix_self A
theorem bl_p {α : Type} {A : List (List α)} (is : List Nat) (h : is.isPerm (List.range A.length) = true) : (bj (is.filterMap (fun i => A[i]?))).Perm (bj A) := by
  have h1 := (List.isPerm_iff.mp h).filterMap (fun i => A[i]?)
  rw [ix_self] at h1
  exact bj_perm h1
/-- an order of cells, by their places -/
theorem p_ix {α : Type} {C D : List α} {n : Nat} (is : List Nat) (h1 : is.isPerm (List.range n) = true) (h2 : C.length = n) (h3 : is.map (fun i => C[i]?) = D.map some) : D.Perm C := by
  have h := (List.isPerm_iff.mp h1).map (fun i => C[i]?)
  rw [h3, ← h2] at h
  have h5 := h.filterMap (fun x => x)
  rw [List.filterMap_map, List.filterMap_map] at h5
  have e1 : D.filterMap ((fun x => x) ∘ some) = D := by
    have : ((fun x => x) ∘ some : α → Option α) = some := rfl
    rw [this, List.filterMap_some]
  have e2 : (List.range C.length).filterMap ((fun x => x) ∘ (fun i => C[i]?)) = C := ix_self C
  rw [e1, e2] at h5
  exact h5
theorem pm {α : Type} {C fp rc X : List α} {n : Nat} (is : List Nat) (h1 : is.isPerm (List.range n) = true) (h2 : C.length = n) (h3 : is.map (fun i => C[i]?) = (fp ++ rc).map some) : (fp ++ (rc ++ X)).Perm (C ++ X) := by
  rw [← List.append_assoc]
  exact (p_ix is h1 h2 h3).append_right X
/-- with the pool behind the part -/
theorem pmP {α : Type} {C fp rc X P : List α} {n : Nat} (is : List Nat) (h1 : is.isPerm (List.range n) = true) (h2 : C.length = n) (h3 : is.map (fun i => C[i]?) = (fp ++ rc).map some) : ((fp ++ P) ++ (rc ++ X)).Perm (C ++ (X ++ P)) := by
  refine List.Perm.trans ?_ ((p_ix is h1 h2 h3).append_right (X ++ P))
  have h := bl_p (A := [fp, rc, X, P]) [0, 3, 1, 2] rfl
  simpa [bj, List.append_assoc] using h
/-- with the first of the lists in the part too -/
theorem pmK {α : Type} {C fp rc K X P : List α} {n : Nat} (is : List Nat) (h1 : is.isPerm (List.range n) = true) (h2 : C.length = n) (h3 : is.map (fun i => C[i]?) = (fp ++ rc).map some) : (((fp ++ K) ++ P) ++ (rc ++ X)).Perm (C ++ ((K ++ X) ++ P)) := by
  refine List.Perm.trans ?_ ((p_ix is h1 h2 h3).append_right ((K ++ X) ++ P))
  have h := bl_p (A := [fp, rc, K, X, P]) [0, 2, 4, 1, 3] rfl
  simpa [bj, List.append_assoc] using h
/-- with the second -/
theorem pmO {α : Type} {C fp rc K O X P : List α} {n : Nat} (is : List Nat) (h1 : is.isPerm (List.range n) = true) (h2 : C.length = n) (h3 : is.map (fun i => C[i]?) = (fp ++ rc).map some) : (((fp ++ O) ++ P) ++ (rc ++ (K ++ X))).Perm (C ++ ((K ++ (O ++ X)) ++ P)) := by
  refine List.Perm.trans ?_ ((p_ix is h1 h2 h3).append_right ((K ++ (O ++ X)) ++ P))
  have h := bl_p (A := [fp, rc, K, O, X, P]) [0, 3, 5, 1, 2, 4] rfl
  simpa [bj, List.append_assoc] using h
/-- with the third, in the midst, the pool apart -/
theorem pmM {α : Type} {C fp fq rc K O M X P : List α} {n : Nat} (is : List Nat) (h1 : is.isPerm (List.range n) = true) (h2 : C.length = n) (h3 : is.map (fun i => C[i]?) = ((fp ++ fq) ++ rc).map some) : ((fp ++ (M ++ fq)) ++ (rc ++ ((K ++ (O ++ X)) ++ P))).Perm (C ++ ((K ++ (O ++ (M ++ X))) ++ P)) := by
  refine List.Perm.trans ?_ ((p_ix is h1 h2 h3).append_right ((K ++ (O ++ (M ++ X))) ++ P))
  have h := bl_p (A := [fp, fq, rc, K, O, M, X, P]) [0, 5, 1, 2, 3, 4, 6, 7] rfl
  simpa [bj, List.append_assoc] using h
/-- with the fourth; behind it what is new -/
theorem pmR {α : Type} {C fp rc K O M R Y P : List α} {n : Nat} (is : List Nat) (h1 : is.isPerm (List.range n) = true) (h2 : C.length = n) (h3 : is.map (fun i => C[i]?) = (fp ++ rc).map some) : (((fp ++ R) ++ Y) ++ (rc ++ ((K ++ (O ++ M)) ++ P))).Perm (C ++ ((K ++ (O ++ (M ++ R))) ++ (P ++ Y))) := by
  refine List.Perm.trans ?_ ((p_ix is h1 h2 h3).append_right ((K ++ (O ++ (M ++ R))) ++ (P ++ Y)))
  have h := bl_p (A := [fp, rc, K, O, M, R, P, Y]) [0, 5, 7, 1, 2, 3, 4, 6] rfl
  simpa [bj, List.append_assoc] using h
/-! ===== the class's whole world ===== -/
abbrev KpT : Type := (Nat × Nat × Nat × Nat × Nat × Nat × Nat) × (Sc × Sc × Sc × Sc × Sc) × (Nat → Option Nat)
def kpR (K : Option KpT) : Option Nat := K.map (fun z => z.1.1)
def kpW (g : Gh) : Option KpT → va_W
  | none => []
  | some z => [(z.1.1, ob 10 (fun _ => 0) (rD z.1.2.1 z.1.2.2.2.1 z.1.2.2.2.2.2.2)), (z.1.2.1, ob 0 z.2.1.1 (rL z.1.2.2.1)), (z.1.2.2.1, aI g 192 z.2.1.2.1), (z.1.2.2.2.1, ob 6 z.2.1.2.2.1 (rQ z.1.2.2.2.2.1 z.1.2.2.2.2.2.1)), (z.1.2.2.2.2.1, aI g 2 z.2.1.2.2.2.1), (z.1.2.2.2.2.2.1, aR g 6 z.2.2), (z.1.2.2.2.2.2.2, ob 8 z.2.1.2.2.2.2 [])]
abbrev OdZ : Type := Nat × OdT
def odR (O : Option OdZ) : Option Nat := O.map (fun z => z.1)
def odW (g : Gh) (sd : Nat) : Option OdZ → va_W
  | none => []
  | some z => [(z.1, ob 2 z.2.1.2.1 (rO12 z.2.1.1 (some sd))), ((z.2.1.1 0), ob 3 (plI z.2.1.2.2.1) (rPl (plKe z.2.1.2.2.1) (plTa z.2.1.2.2.1))), (plKe z.2.1.2.2.1, aI g (plN z.2.1.2.2.1) (plKf z.2.1.2.2.1)), (plTa z.2.1.2.2.1, aI g (4 * plN z.2.1.2.2.1) (plTb z.2.1.2.2.1)), ((z.2.1.1 1), ob 8 z.2.1.2.2.2.1 []), ((z.2.1.1 2), ob 8 z.2.1.2.2.2.2.1 []), ((z.2.1.1 3), aI g 48 z.2.1.2.2.2.2.2.1), ((z.2.1.1 4), aI g 31 z.2.1.2.2.2.2.2.2), ((z.2.1.1 5), aI g z.2.2.1.1 z.2.2.1.2), ((z.2.1.1 6), aI g z.2.2.2.1.1 z.2.2.2.1.2), ((z.2.1.1 7), aI g z.2.2.2.2.1.1 z.2.2.2.2.1.2), ((z.2.1.1 13), aI g z.2.2.2.2.2.1.1 z.2.2.2.2.2.1.2.1), ((z.2.1.1 14), aI g z.2.2.2.2.2.1.1 z.2.2.2.2.2.1.2.2), ((z.2.1.1 15), aI g z.2.2.2.2.2.2.1 z.2.2.2.2.2.2.2.1), ((z.2.1.1 16), aI g z.2.2.2.2.2.2.1 z.2.2.2.2.2.2.2.2)]
def odKz (O : Option OdZ) : Nat := match O with
  | none => 0
  | some z => ozK z.2
def odSz (O : Option OdZ) : Nat := match O with
  | none => 0
  | some z => ozS z.2
def odOK (O : Option OdZ) : Prop := ∀ z, O = some z → OdG z.2
abbrev MdZ : Type := (Nat × Nat × Nat) × MrS × MrS × Sc × (Nat → Int64) × Sc × Sc
def mdR9 (M : Option MdZ) : Option Nat := M.map (fun z => z.1.1)
def mdW (g : Gh) (sd : Nat) : Option MdZ → va_W
  | none => []
  | some x => [(x.1.1, obj 1 x.2.2.2.1 (rMd x.1.2.1 x.1.2.2 x.2.1 x.2.2.1 (some sd)) x.2.2.2.2.1), (x.1.2.1, ob 8 x.2.2.2.2.2.1 []), (x.1.2.2, ob 8 x.2.2.2.2.2.2 []), (mrA x.2.1, ob 3 (plI (mrP x.2.1)) (rPl (plKe (mrP x.2.1)) (plTa (mrP x.2.1)))), (plKe (mrP x.2.1), aI g (plN (mrP x.2.1)) (plKf (mrP x.2.1))), (plTa (mrP x.2.1), aI g (4 * plN (mrP x.2.1)) (plTb (mrP x.2.1))), (mrC x.2.1, aI g (plN (mrP x.2.1)) (mrF x.2.1)), (mrN x.2.1, aJ g (plN (mrP x.2.1)) (mrG x.2.1)), (mrA x.2.2.1, ob 3 (plI (mrP x.2.2.1)) (rPl (plKe (mrP x.2.2.1)) (plTa (mrP x.2.2.1)))), (plKe (mrP x.2.2.1), aI g (plN (mrP x.2.2.1)) (plKf (mrP x.2.2.1))), (plTa (mrP x.2.2.1), aI g (4 * plN (mrP x.2.2.1)) (plTb (mrP x.2.2.1))), (mrC x.2.2.1, aI g (plN (mrP x.2.2.1)) (mrF x.2.2.1)), (mrN x.2.2.1, aJ g (plN (mrP x.2.2.1)) (mrG x.2.2.1))]
def mdKz (M : Option MdZ) : Nat := match M with
  | none => 0
  | some x => plN (mrP x.2.1) + plN (mrP x.2.2.1)
def mdOK (M : Option MdZ) : Prop := ∀ x, M = some x → PlO (mrP x.2.1) ∧ plN (mrP x.2.1) ≤ 4096 ∧ PlO (mrP x.2.2.1) ∧ plN (mrP x.2.2.1) ≤ 4096
abbrev RdZ : Type := Nat × Nat × Sc × Sc × Option Nat
def rdR9 (R : Option RdZ) : Option Nat := R.map (fun z => z.1)
def rdW (g : Gh) : Option RdZ → va_W
  | none => []
  | some z => [(z.1, ob 5 z.2.2.1 [some z.2.1, none, none, z.2.2.2.2]), (z.2.1, aI g 400 z.2.2.2.1)]
abbrev KM9 : Nat := odKM + 8192
abbrev NM9 : Nat := odSM + 14 * 8192
theorem odKz_le {O : Option OdZ} (h : odOK O) : odKz O ≤ odKM ∧ odSz O ≤ odSM := by
  cases O with
  | none => exact ⟨Nat.zero_le _, Nat.zero_le _⟩
  | some z =>
    obtain ⟨h1, h2, h3, h4, h5, h6, h7⟩ := h z rfl
    have h3 := h3.1
    have h4 := h4.1
    have h5 := h5.1
    have h6 := h6.1
    have h7 := h7.1
    unfold odKz odSz ozK ozS odK odS odKM odSM
    dsimp only
    refine ⟨by omega, by omega⟩
theorem mdKz_le {M : Option MdZ} (h : mdOK M) : mdKz M ≤ 8192 := by
  cases M with
  | none => exact Nat.zero_le _
  | some z =>
    obtain ⟨h1, h2, h3, h4⟩ := h z rfl
    unfold mdKz
    dsimp only
    omega
/-- a court's laws, its rules, its score: the class's against the reference's -/
def SR (m li cf ri yf : Sc) (af : Nat → Option Nat) (s : Sc) (PL : List RuR) (Rl : Nat → RLs) (num : Nat) : Prop :=
  (CoM m li cf ∧ CoV m ∧ SmO m ∧ li 4 = m 192 ∧ ∃ c : Nat, c ≤ 12 ∧ m 192 = nI c) ∧ (ri 2 = nI num ∧ m 193 = nI num ∧ RsO num yf af PL Rl ∧ (∀ p, p ≤ 1 → yf p = m (199 + p)) ∧ ∀ r, r < num → RuA m r (Rl r)) ∧ SA m s (S m) ∧ VG (S m) ∧ HOK m
def kpOK (kp : Sc) (h3 : Int32) (K : Option KpT) (PL : List RuR) : Prop := match K with
  | none => h3 = 0
  | some z => h3 = 1 ∧ ∃ Rl num, SR kp z.2.1.1 z.2.1.2.1 z.2.1.2.2.1 z.2.1.2.2.2.1 z.2.2 z.2.1.2.2.2.2 PL Rl num
def cC (g : Gh) (a : Nat → Nat) (ic Tc si th be nu di dh li cf ri yf s tr : Sc) (af : Nat → Option Nat) (y kr or9 mr rr : Option Nat) : va_W :=
  [(a 0, ob 11 ic [some (a 1), some (a 2), some (a 6), some (a 8), some (a 15), kr, or9, mr, rr, none, none]), (a 1, aB g 400 Tc), (a 2, ob 7 si [some (a 3), some (a 4), some (a 5), y, none, none, none]), (a 3, aI g 401 th), (a 4, aI g 401 be), (a 5, aI g 401 nu), (a 6, ob 0 di (rL (a 7))), (a 7, aI g 192 dh), (a 8, ob 10 (fun _ => 0) (rD (a 9) (a 11) (a 14))), (a 9, ob 0 li (rL (a 10))), (a 10, aI g 192 cf), (a 11, ob 6 ri (rQ (a 12) (a 13))), (a 12, aI g 2 yf), (a 13, aR g 6 af), (a 14, ob 8 s []), (a 15, ob 8 tr [])]
def cW (g : Gh) (a : Nat → Nat) (ic Tc si th be nu di dh li cf ri yf s tr : Sc) (af : Nat → Option Nat) (y : Option Nat) (KK : Option KpT) (OO : Option OdZ) (MM : Option MdZ) (RR : Option RdZ) (PL : List RuR) : va_W :=
  cC g a ic Tc si th be nu di dh li cf ri yf s tr af y (kpR KK) (odR OO) (mdR9 MM) (rdR9 RR) ++ ((kpW g KK ++ (odW g (a 8) OO ++ (mdW g (a 8) MM ++ rdW g RR))) ++ plW g PL)
/-- the class's world T stands as the reference's m, kept kp, tape tp of e letters, fault ft; h3: is there an image -/
def Rel (g : Gh) (a : Nat → Nat) (m kp tp : Sc) (h3 : Int32) (e : Nat) (ft : Int32) (T : va_W) (K N : Nat) : Prop :=
  ∃ (ic Tc si th be nu di dh li cf ri yf s tr : Sc) (af : Nat → Option Nat) (y : Option Nat) (KK : Option KpT) (OO : Option OdZ) (MM : Option MdZ) (RR : Option RdZ) (PL : List RuR) (Rl : Nat → RLs) (num : Nat),
    T = cW g a ic Tc si th be nu di dh li cf ri yf s tr af y KK OO MM RR PL ∧ (ic 9 = nI e ∧ e ≤ 400 ∧ (∀ k, k < 400 → ByA (Tc k) (tp k)) ∧ ic 10 = ft) ∧ SR m li cf ri yf af s PL Rl num ∧ kpOK kp h3 KK PL ∧ (odOK OO ∧ mdOK MM) ∧ K = odKz OO + mdKz MM ∧ N = odSz OO + 14 * mdKz MM
def RelP (g : Gh) (a : Nat → Nat) (m kp tp : Sc) (h3 : Int32) (e : Nat) (ft : Int32) (K N : Nat) (T : va_W) (k n : Nat) : Prop := ∃ K' N', Rel g a m kp tp h3 e ft T K' N' ∧ k + K ≤ K' + 32 ∧ n + N ≤ N' + 2000

