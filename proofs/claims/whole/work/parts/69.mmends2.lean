/-! ===== mends: the walk ===== -/
theorem lgc_le (v : Int64) : lg_cmp v 0 ≤ 0 ↔ v ≤ 0 := lg_cmp_le v 0
/-- the last look: the least number of mends -/
theorem md_final {l : Launch} {g : Gh} {q : Nat} {A : Nat → Nat} {a : Act} {i0 m tp : Sc} {a1 a2 a3 a4 wy : Int32} {n : Nat} {v9 : Int64} {L : St} {i x ss ns : Sc} {cs nc : Nat → Int64} (hL : RepS L (i 30) ss cs) (hc : AllC L) (hi : smK (upd (upd i0 6 0) 0 0) i) (hv : mdR (mdV m L a1 a2 a3 a4 · L.length) wy 31 0 = v9) (z7 z8 z9 z10 z11 z12 : Option Value) : WPs l g mtX12_mends 5 0 0 (pE (fun z : Sc × Sc × Sc × Sc × (Nat → Int64) × (Nat → Int64) => some (.long v9)) (fun z : Sc × Sc × Sc × Sc × (Nat → Int64) × (Nat → Int64) => [(q, ob 12 z.1 (rM A)), (A 1, aI g 2616 m), (A 5, aI g 400 tp), (A 16, aI g 9 z.2.1), (A 26, aI g 4000 z.2.2.1), (A 27, aI g 4000 z.2.2.2.1), (A 28, aJ g 124000 z.2.2.2.2.1), (A 29, aJ g 124000 z.2.2.2.2.2)]) (fun z : Sc × Sc × Sc × Sc × (Nat → Int64) × (Nat → Int64) => smK (upd (upd i0 6 0) 0 0) z.1)) noX a 373 [some (.ref q), some (.int a1), some (.int a2), some (.int a3), some (.int a4), some (.int wy), some (.int (nI n)), z7, z8, z9, z10, z11, z12] [] [(q, ob 12 i (rM A)), (A 1, aI g 2616 m), (A 5, aI g 400 tp), (A 16, aI g 9 x), (A 26, aI g 4000 ss), (A 27, aI g 4000 ns), (A 28, aJ g 124000 cs), (A 29, aJ g 124000 nc)] 0 0 := by
  have K376 : ∀ (c j : Nat), c + j = 31 → mdR (mdV m L a1 a2 a3 a4 · L.length) wy c j = v9 → ∀ (x : Sc) (z8 z9 z10 z11 z12 : Option Value), WPs l g mtX12_mends 5 0 0 (pE (fun z : Sc × Sc × Sc × Sc × (Nat → Int64) × (Nat → Int64) => some (.long v9)) (fun z : Sc × Sc × Sc × Sc × (Nat → Int64) × (Nat → Int64) => [(q, ob 12 z.1 (rM A)), (A 1, aI g 2616 m), (A 5, aI g 400 tp), (A 16, aI g 9 z.2.1), (A 26, aI g 4000 z.2.2.1), (A 27, aI g 4000 z.2.2.2.1), (A 28, aJ g 124000 z.2.2.2.2.1), (A 29, aJ g 124000 z.2.2.2.2.2)]) (fun z : Sc × Sc × Sc × Sc × (Nat → Int64) × (Nat → Int64) => smK (upd (upd i0 6 0) 0 0) z.1)) noX a 376 [some (.ref q), some (.int a1), some (.int a2), some (.int a3), some (.int a4), some (.int wy), some (.int (nI n)), some (.int (nI j)), z8, z9, z10, z11, z12] [] [(q, ob 12 i (rM A)), (A 1, aI g 2616 m), (A 5, aI g 400 tp), (A 16, aI g 9 x), (A 26, aI g 4000 ss), (A 27, aI g 4000 ns), (A 28, aJ g 124000 cs), (A 29, aJ g 124000 nc)] 0 0 := by
    intro c
    induction c with
    | zero =>
      intro j hj hv x z8 z9 z10 z11 z12
      obtain rfl : j = 31 := by omega
      rw [mdR] at hv
      have hge : (31 : Int32) ≤ nI 31 := by decide
      by_cases hw : wy = 0
      · rw [if_pos hw] at hv
        subst hv
        refine q_iload 7 378 dX12_mends_376 rfl rfl ?_
        refine q_bipush 31 380 dX12_mends_378 bc_31 rfl ?_
        refine q_icmp_ge 503 383 dX12_mends_380 (by decide) rfl (fun h380 => ?_) (fun h380 => absurd hge h380)
        refine q_iload 5 505 dX12_mends_503 rfl rfl ?_
        refine q_if_eq 512 508 dX12_mends_505 (by decide) rfl (fun h505 => ?_) (fun h505 => absurd hw h505)
        refine q_ldc2 (-1) 515 k_X12_306 dX12_mends_512 rfl ?_
        refine q_lreturn dX12_mends_515 rfl ?_
        exact pE.mk (_, _, _, _, _, _) hi rfl rfl
      · rw [if_neg hw] at hv
        subst hv
        refine q_iload 7 378 dX12_mends_376 rfl rfl ?_
        refine q_bipush 31 380 dX12_mends_378 bc_31 rfl ?_
        refine q_icmp_ge 503 383 dX12_mends_380 (by decide) rfl (fun h380 => ?_) (fun h380 => absurd hge h380)
        refine q_iload 5 505 dX12_mends_503 rfl rfl ?_
        refine q_if_eq 512 508 dX12_mends_505 (by decide) rfl (fun h505 => absurd h505 hw) (fun h505 => ?_)
        refine q_lconst 0 509 dX12_mends_508 (by decide) rfl ?_
        refine q_goto 515 dX12_mends_509 (by decide) ?_
        refine q_lreturn dX12_mends_515 rfl ?_
        exact pE.mk (_, _, _, _, _, _) hi rfl rfl
    | succ c ih =>
      intro j hj hv x z8 z9 z10 z11 z12
      rw [mdR] at hv
      have hlt : ¬ (31 : Int32) ≤ nI j := nI_ge (b := 31) (by omega) (by decide)
      have K389 : ∀ (c9 s : Nat), c9 + s = L.length → ∀ (x : Sc) (z11 z12 : Option Value), WPs l g mtX12_mends 5 0 0 (pE (fun z : Sc × Sc × Sc × Sc × (Nat → Int64) × (Nat → Int64) => some (.long v9)) (fun z : Sc × Sc × Sc × Sc × (Nat → Int64) × (Nat → Int64) => [(q, ob 12 z.1 (rM A)), (A 1, aI g 2616 m), (A 5, aI g 400 tp), (A 16, aI g 9 z.2.1), (A 26, aI g 4000 z.2.2.1), (A 27, aI g 4000 z.2.2.2.1), (A 28, aJ g 124000 z.2.2.2.2.1), (A 29, aJ g 124000 z.2.2.2.2.2)]) (fun z : Sc × Sc × Sc × Sc × (Nat → Int64) × (Nat → Int64) => smK (upd (upd i0 6 0) 0 0) z.1)) noX a 389 [some (.ref q), some (.int a1), some (.int a2), some (.int a3), some (.int a4), some (.int wy), some (.int (nI n)), some (.int (nI j)), some (.long (mdV m L a1 a2 a3 a4 j s)), none, some (.int (nI s)), z11, z12] [] [(q, ob 12 i (rM A)), (A 1, aI g 2616 m), (A 5, aI g 400 tp), (A 16, aI g 9 x), (A 26, aI g 4000 ss), (A 27, aI g 4000 ns), (A 28, aJ g 124000 cs), (A 29, aJ g 124000 nc)] 0 0 := by
        intro c9
        induction c9 with
        | zero =>
          intro s hs x z11 z12
          obtain rfl : s = L.length := by omega
          have hge : i 30 ≤ nI L.length := by rw [hL.1]; exact Int32.le_refl _
          by_cases hp : mdV m L a1 a2 a3 a4 j L.length ≤ 0
          · rw [if_pos hp] at hv
            have K1 := ih (j + 1) (by omega) hv
            clear ih
            have hp2 := (lgc_le _).mpr hp
            generalize mdV m L a1 a2 a3 a4 j L.length = v8 at *
            refine q_iload 10 391 dX12_mends_389 rfl rfl ?_
            refine q_aload_n 0 392 dX12_mends_391 rfl rfl rfl ?_
            refine q_getI 0 395 f_X12_296 dX12_mends_392 rfl rfl rfl ?_
            refine q_icmp_ge 476 398 dX12_mends_395 (by decide) rfl (fun h395 => ?_) (fun h395 => absurd hge h395)
            refine q_lload 8 478 dX12_mends_476 rfl rfl ?_
            refine q_lconst 0 479 dX12_mends_478 (by decide) rfl ?_
            refine q_lcmp 480 dX12_mends_479 rfl ?_
            refine q_if_le 497 483 dX12_mends_480 (by decide) rfl (fun h480 => ?_) (fun h480 => absurd hp2 h480)
            refine q_iinc 7 (nI (j + 1)) 500 (L' := [_, _, _, _, _, _, _, _, _, _, _, _, _]) dX12_mends_497 rfl (inc1 (j)) (by decide) rfl rfl ?_
            refine q_goto 376 dX12_mends_500 (by decide) ?_
            exact K1 _ _ _ _ _ _
          · rw [if_neg hp] at hv
            clear ih
            have hp2 := fun h => hp ((lgc_le _).mp h)
            generalize mdV m L a1 a2 a3 a4 j L.length = v8 at *
            by_cases hw : wy = 0
            · rw [if_pos hw] at hv
              subst hv
              refine q_iload 10 391 dX12_mends_389 rfl rfl ?_
              refine q_aload_n 0 392 dX12_mends_391 rfl rfl rfl ?_
              refine q_getI 0 395 f_X12_296 dX12_mends_392 rfl rfl rfl ?_
              refine q_icmp_ge 476 398 dX12_mends_395 (by decide) rfl (fun h395 => ?_) (fun h395 => absurd hge h395)
              refine q_lload 8 478 dX12_mends_476 rfl rfl ?_
              refine q_lconst 0 479 dX12_mends_478 (by decide) rfl ?_
              refine q_lcmp 480 dX12_mends_479 rfl ?_
              refine q_if_le 497 483 dX12_mends_480 (by decide) rfl (fun h480 => absurd h480 hp2) (fun h480 => ?_)
              refine q_iload 5 485 dX12_mends_483 rfl rfl ?_
              refine q_if_eq 493 488 dX12_mends_485 (by decide) rfl (fun h485 => ?_) (fun h485 => absurd hw h485)
              refine q_iload 7 495 dX12_mends_493 rfl rfl ?_
              refine q_i2l 496 dX12_mends_495 rfl ?_
              refine q_lreturn dX12_mends_496 rfl ?_
              exact pE.mk (_, _, _, _, _, _) hi rfl rfl
            · rw [if_neg hw] at hv
              subst hv
              refine q_iload 10 391 dX12_mends_389 rfl rfl ?_
              refine q_aload_n 0 392 dX12_mends_391 rfl rfl rfl ?_
              refine q_getI 0 395 f_X12_296 dX12_mends_392 rfl rfl rfl ?_
              refine q_icmp_ge 476 398 dX12_mends_395 (by decide) rfl (fun h395 => ?_) (fun h395 => absurd hge h395)
              refine q_lload 8 478 dX12_mends_476 rfl rfl ?_
              refine q_lconst 0 479 dX12_mends_478 (by decide) rfl ?_
              refine q_lcmp 480 dX12_mends_479 rfl ?_
              refine q_if_le 497 483 dX12_mends_480 (by decide) rfl (fun h480 => absurd h480 hp2) (fun h480 => ?_)
              refine q_iload 5 485 dX12_mends_483 rfl rfl ?_
              refine q_if_eq 493 488 dX12_mends_485 (by decide) rfl (fun h485 => absurd h485 hw) (fun h485 => ?_)
              refine q_lload 8 490 dX12_mends_488 rfl rfl ?_
              refine q_goto 496 dX12_mends_490 (by decide) ?_
              refine q_lreturn dX12_mends_496 rfl ?_
              exact pE.mk (_, _, _, _, _, _) hi rfl rfl
        | succ c9 ih9 =>
          intro s hs x z11 z12
          have hs9 : s < L.length := by omega
          have hl4 := hL.2.1
          have hge : ¬ i 30 ≤ nI s := by rw [hL.1]; exact nI_ge hs9 (by omega)
          obtain ⟨e1, e2, e3⟩ := hL.2.2 s hs9
          have e4 := e3 j (by omega)
          have K1 := ih9 (s + 1) (by omega)
          rw [mdV] at K1
          clear ih ih9 hv e3
          have hu := UW_eq m x (c := (L.getD s d0).1) e2
          generalize hco : (L.getD s d0).1 = co at *
          have b1 : 31 * s + j < 124000 := by omega
          generalize hk1 : 31 * s + j = k1 at *
          generalize hu9 : UW m co = u at *
          generalize mdV m L a1 a2 a3 a4 j s = v8 at *
          generalize (L.getD s d0).2 j = fj at *
          refine q_iload 10 391 dX12_mends_389 rfl rfl ?_
          refine q_aload_n 0 392 dX12_mends_391 rfl rfl rfl ?_
          refine q_getI 0 395 f_X12_296 dX12_mends_392 rfl rfl rfl ?_
          refine q_icmp_ge 476 398 dX12_mends_395 (by decide) rfl (fun h395 => absurd h395 hge) (fun h395 => ?_)
          refine q_aload_n 0 399 dX12_mends_398 rfl rfl rfl ?_
          refine q_aload_n 0 400 dX12_mends_399 rfl rfl rfl ?_
          refine q_getR 0 403 f_X12_54 dX12_mends_400 rfl rfl rfl rfl ?_
          refine q_iload 10 405 dX12_mends_403 rfl rfl ?_
          refine q_iald 4 s 406 dX12_mends_405 rfl ⟨rfl, by omega, by decide⟩ rfl ?_
          rw [e1]
          refine q_cVv 0 [0, 1, 3] [2, 4, 5, 6, 7] [5, 6, 0, 7, 1, 2, 3, 4] 409 (wr := [_, _, _, _, _]) (w1 := _) (ws' := [_, _, _, _, _, _, _, _]) p_unwhole m_X12_299 dX12_mends_406 rfl rfl rfl rfl rfl rfl rfl rfl (by decide) (by decide) (by decide) (by decide) (Nat.le_of_ble_eq_true rfl) (by omega) (by omega) (by omega) rfl ?_
          refine q_ax 3 u rfl (fun k hk => (UW_eq m x e2 k hk).trans (congrFun hu9 k)) rfl ?_
          refine q_aload_n 0 410 dX12_mends_409 rfl rfl rfl ?_
          refine q_getR 0 413 f_X12_29 dX12_mends_410 rfl rfl rfl rfl ?_
          refine q_iconst 0 414 dX12_mends_413 ic_0 rfl ?_
          refine q_iald 3 0 415 dX12_mends_414 rfl ⟨by decide, by decide, by decide⟩ rfl ?_
          refine q_iload_n 1 416 dX12_mends_415 rfl rfl rfl ?_
          refine q_icmp_ne 470 419 dX12_mends_416 (by decide) rfl (fun hz1 => ?_) (fun hz1 => ?_)
          · refine q_iinc 10 (nI (s + 1)) 473 (L' := [_, _, _, _, _, _, _, _, _, _, _, _, _]) dX12_mends_470 rfl (inc1 (s)) (by decide) rfl rfl ?_
            refine q_goto 389 dX12_mends_473 (by decide) ?_
            first
              | (rw [if_pos ⟨hz1, hz2, hz3, hz4⟩] at K1; exact K1 _ _ _)
              | (rw [if_neg (fun z => hz4 z.2.2.2)] at K1; exact K1 _ _ _)
              | (rw [if_neg (fun z => hz3 z.2.2.1)] at K1; exact K1 _ _ _)
              | (rw [if_neg (fun z => hz2 z.2.1)] at K1; exact K1 _ _ _)
              | (rw [if_neg (fun z => hz1 z.1)] at K1; exact K1 _ _ _)
          · refine q_aload_n 0 420 dX12_mends_419 rfl rfl rfl ?_
            refine q_getR 0 423 f_X12_29 dX12_mends_420 rfl rfl rfl rfl ?_
            refine q_iconst 1 424 dX12_mends_423 ic_1 rfl ?_
            refine q_iald 3 1 425 dX12_mends_424 rfl ⟨by decide, by decide, by decide⟩ rfl ?_
            refine q_iload_n 2 426 dX12_mends_425 rfl rfl rfl ?_
            refine q_icmp_ne 470 429 dX12_mends_426 (by decide) rfl (fun hz2 => ?_) (fun hz2 => ?_)
            · refine q_iinc 10 (nI (s + 1)) 473 (L' := [_, _, _, _, _, _, _, _, _, _, _, _, _]) dX12_mends_470 rfl (inc1 (s)) (by decide) rfl rfl ?_
              refine q_goto 389 dX12_mends_473 (by decide) ?_
              first
                | (rw [if_pos ⟨hz1, hz2, hz3, hz4⟩] at K1; exact K1 _ _ _)
                | (rw [if_neg (fun z => hz4 z.2.2.2)] at K1; exact K1 _ _ _)
                | (rw [if_neg (fun z => hz3 z.2.2.1)] at K1; exact K1 _ _ _)
                | (rw [if_neg (fun z => hz2 z.2.1)] at K1; exact K1 _ _ _)
                | (rw [if_neg (fun z => hz1 z.1)] at K1; exact K1 _ _ _)
            · refine q_aload_n 0 430 dX12_mends_429 rfl rfl rfl ?_
              refine q_getR 0 433 f_X12_29 dX12_mends_430 rfl rfl rfl rfl ?_
              refine q_bipush 7 435 dX12_mends_433 bc_7 rfl ?_
              refine q_iald 3 7 436 dX12_mends_435 rfl ⟨by decide, by decide, by decide⟩ rfl ?_
              refine q_iload_n 3 437 dX12_mends_436 rfl rfl rfl ?_
              refine q_icmp_ne 470 440 dX12_mends_437 (by decide) rfl (fun hz3 => ?_) (fun hz3 => ?_)
              · refine q_iinc 10 (nI (s + 1)) 473 (L' := [_, _, _, _, _, _, _, _, _, _, _, _, _]) dX12_mends_470 rfl (inc1 (s)) (by decide) rfl rfl ?_
                refine q_goto 389 dX12_mends_473 (by decide) ?_
                first
                  | (rw [if_pos ⟨hz1, hz2, hz3, hz4⟩] at K1; exact K1 _ _ _)
                  | (rw [if_neg (fun z => hz4 z.2.2.2)] at K1; exact K1 _ _ _)
                  | (rw [if_neg (fun z => hz3 z.2.2.1)] at K1; exact K1 _ _ _)
                  | (rw [if_neg (fun z => hz2 z.2.1)] at K1; exact K1 _ _ _)
                  | (rw [if_neg (fun z => hz1 z.1)] at K1; exact K1 _ _ _)
              · refine q_aload_n 0 441 dX12_mends_440 rfl rfl rfl ?_
                refine q_getR 0 444 f_X12_29 dX12_mends_441 rfl rfl rfl rfl ?_
                refine q_bipush 8 446 dX12_mends_444 bc_8 rfl ?_
                refine q_iald 3 8 447 dX12_mends_446 rfl ⟨by decide, by decide, by decide⟩ rfl ?_
                refine q_iload 4 449 dX12_mends_447 rfl rfl ?_
                refine q_icmp_ne 470 452 dX12_mends_449 (by decide) rfl (fun hz4 => ?_) (fun hz4 => ?_)
                · refine q_iinc 10 (nI (s + 1)) 473 (L' := [_, _, _, _, _, _, _, _, _, _, _, _, _]) dX12_mends_470 rfl (inc1 (s)) (by decide) rfl rfl ?_
                  refine q_goto 389 dX12_mends_473 (by decide) ?_
                  first
                    | (rw [if_pos ⟨hz1, hz2, hz3, hz4⟩] at K1; exact K1 _ _ _)
                    | (rw [if_neg (fun z => hz4 z.2.2.2)] at K1; exact K1 _ _ _)
                    | (rw [if_neg (fun z => hz3 z.2.2.1)] at K1; exact K1 _ _ _)
                    | (rw [if_neg (fun z => hz2 z.2.1)] at K1; exact K1 _ _ _)
                    | (rw [if_neg (fun z => hz1 z.1)] at K1; exact K1 _ _ _)
                · refine q_lload 8 454 dX12_mends_452 rfl rfl ?_
                  refine q_aload_n 0 455 dX12_mends_454 rfl rfl rfl ?_
                  refine q_getR 0 458 f_X12_61 dX12_mends_455 rfl rfl rfl rfl ?_
                  refine q_bipush 31 460 dX12_mends_458 bc_31 rfl ?_
                  refine q_iload 10 462 dX12_mends_460 rfl rfl ?_
                  refine q_imul 463 dX12_mends_462 rfl ?_
                  refine q_iload 7 465 dX12_mends_463 rfl rfl ?_
                  refine q_iadd 466 dX12_mends_465 rfl ?_
                  rw [ix31, hk1]
                  refine q_lald 6 k1 467 dX12_mends_466 rfl ⟨rfl, by omega, by decide⟩ rfl ?_
                  rw [e4]
                  refine q_ladd 468 dX12_mends_467 rfl ?_
                  refine q_lstore 8 470 (L' := [_, _, _, _, _, _, _, _, _, _, _, _, _]) dX12_mends_468 (by decide) rfl rfl ?_
                  refine q_iinc 10 (nI (s + 1)) 473 (L' := [_, _, _, _, _, _, _, _, _, _, _, _, _]) dX12_mends_470 rfl (inc1 (s)) (by decide) rfl rfl ?_
                  refine q_goto 389 dX12_mends_473 (by decide) ?_
                  first
                    | (rw [if_pos ⟨hz1, hz2, hz3, hz4⟩] at K1; exact K1 _ _ _)
                    | (rw [if_neg (fun z => hz4 z.2.2.2)] at K1; exact K1 _ _ _)
                    | (rw [if_neg (fun z => hz3 z.2.2.1)] at K1; exact K1 _ _ _)
                    | (rw [if_neg (fun z => hz2 z.2.1)] at K1; exact K1 _ _ _)
                    | (rw [if_neg (fun z => hz1 z.1)] at K1; exact K1 _ _ _)
      have K1 := K389 L.length 0 rfl
      rw [show mdV m L a1 a2 a3 a4 j 0 = 0 from rfl] at K1
      clear ih hv K389
      refine q_iload 7 378 dX12_mends_376 rfl rfl ?_
      refine q_bipush 31 380 dX12_mends_378 bc_31 rfl ?_
      refine q_icmp_ge 503 383 dX12_mends_380 (by decide) rfl (fun h380 => absurd h380 hlt) (fun h380 => ?_)
      refine q_lconst 0 384 dX12_mends_383 (by decide) rfl ?_
      refine q_lstore 8 386 (L' := [_, _, _, _, _, _, _, _, _, _, _, _, _]) dX12_mends_384 (by decide) rfl rfl ?_
      refine q_iconst 0 387 dX12_mends_386 ic_0 rfl ?_
      refine q_istore 10 389 (L' := [_, _, _, _, _, _, _, _, _, _, _, _, _]) dX12_mends_387 (by decide) rfl rfl ?_
      exact K1 _ _ _
  have K1 := K376 31 0 rfl hv
  clear hv K376
  refine q_iconst 0 374 dX12_mends_373 ic_0 rfl ?_
  refine q_istore 7 376 (L' := [_, _, _, _, _, _, _, _, _, _, _, _, _]) dX12_mends_374 (by decide) rfl rfl ?_
  exact K1 _ _ _ _ _ _
/-- the next states become the states -/
theorem md_copy {l : Launch} {g : Gh} {q : Nat} {A : Nat → Nat} {a : Act} {i0 m tp : Sc} {a1 a2 a3 a4 wy : Int32} {n : Nat} {v9 : Int64} {L : St} {kk : Nat} {how : Int32} {i x ss ns : Sc} {cs nc : Nat → Int64} (hL : RepS L (i 31) ns nc) (hi : smK (upd (upd i0 6 0) 0 0) i)
    (cont : ∀ (i2 ss2 : Sc) (cs2 : Nat → Int64) (z8 z9 z10 z11 z12 : Option Value), RepS L (i2 30) ss2 cs2 → smK (upd (upd i0 6 0) 0 0) i2 → WPs l g mtX12_mends 5 0 0 (pE (fun z : Sc × Sc × Sc × Sc × (Nat → Int64) × (Nat → Int64) => some (.long v9)) (fun z : Sc × Sc × Sc × Sc × (Nat → Int64) × (Nat → Int64) => [(q, ob 12 z.1 (rM A)), (A 1, aI g 2616 m), (A 5, aI g 400 tp), (A 16, aI g 9 z.2.1), (A 26, aI g 4000 z.2.2.1), (A 27, aI g 4000 z.2.2.2.1), (A 28, aJ g 124000 z.2.2.2.2.1), (A 29, aJ g 124000 z.2.2.2.2.2)]) (fun z : Sc × Sc × Sc × Sc × (Nat → Int64) × (Nat → Int64) => smK (upd (upd i0 6 0) 0 0) z.1)) noX a 93 [some (.ref q), some (.int a1), some (.int a2), some (.int a3), some (.int a4), some (.int wy), some (.int (nI n)), some (.int (nI (kk + 2))), z8, z9, z10, z11, z12] [] [(q, ob 12 i2 (rM A)), (A 1, aI g 2616 m), (A 5, aI g 400 tp), (A 16, aI g 9 x), (A 26, aI g 4000 ss2), (A 27, aI g 4000 ns), (A 28, aJ g 124000 cs2), (A 29, aJ g 124000 nc)] 0 0) (z9 z10 z11 z12 : Option Value) :
    WPs l g mtX12_mends 5 0 0 (pE (fun z : Sc × Sc × Sc × Sc × (Nat → Int64) × (Nat → Int64) => some (.long v9)) (fun z : Sc × Sc × Sc × Sc × (Nat → Int64) × (Nat → Int64) => [(q, ob 12 z.1 (rM A)), (A 1, aI g 2616 m), (A 5, aI g 400 tp), (A 16, aI g 9 z.2.1), (A 26, aI g 4000 z.2.2.1), (A 27, aI g 4000 z.2.2.2.1), (A 28, aJ g 124000 z.2.2.2.2.1), (A 29, aJ g 124000 z.2.2.2.2.2)]) (fun z : Sc × Sc × Sc × Sc × (Nat → Int64) × (Nat → Int64) => smK (upd (upd i0 6 0) 0 0) z.1)) noX a 285 [some (.ref q), some (.int a1), some (.int a2), some (.int a3), some (.int a4), some (.int wy), some (.int (nI n)), some (.int (nI kk)), some (.int how), z9, z10, z11, z12] [] [(q, ob 12 i (rM A)), (A 1, aI g 2616 m), (A 5, aI g 400 tp), (A 16, aI g 9 x), (A 26, aI g 4000 ss), (A 27, aI g 4000 ns), (A 28, aJ g 124000 cs), (A 29, aJ g 124000 nc)] 0 0 := by
  have hl4 := hL.2.1
  have K296 : ∀ (i2 : Sc), i2 30 = nI L.length → smK (upd (upd i0 6 0) 0 0) i2 → ∀ (c s : Nat), c + s = L.length → ∀ (ss2 : Sc) (cs2 : Nat → Int64) (z10 z11 z12 : Option Value), (∀ k, k < s → ss2 k = ns k ∧ ∀ j, j < 31 → cs2 (31 * k + j) = nc (31 * k + j)) → WPs l g mtX12_mends 5 0 0 (pE (fun z : Sc × Sc × Sc × Sc × (Nat → Int64) × (Nat → Int64) => some (.long v9)) (fun z : Sc × Sc × Sc × Sc × (Nat → Int64) × (Nat → Int64) => [(q, ob 12 z.1 (rM A)), (A 1, aI g 2616 m), (A 5, aI g 400 tp), (A 16, aI g 9 z.2.1), (A 26, aI g 4000 z.2.2.1), (A 27, aI g 4000 z.2.2.2.1), (A 28, aJ g 124000 z.2.2.2.2.1), (A 29, aJ g 124000 z.2.2.2.2.2)]) (fun z : Sc × Sc × Sc × Sc × (Nat → Int64) × (Nat → Int64) => smK (upd (upd i0 6 0) 0 0) z.1)) noX a 296 [some (.ref q), some (.int a1), some (.int a2), some (.int a3), some (.int a4), some (.int wy), some (.int (nI n)), some (.int (nI kk)), some (.int how), some (.int (nI s)), z10, z11, z12] [] [(q, ob 12 i2 (rM A)), (A 1, aI g 2616 m), (A 5, aI g 400 tp), (A 16, aI g 9 x), (A 26, aI g 4000 ss2), (A 27, aI g 4000 ns), (A 28, aJ g 124000 cs2), (A 29, aJ g 124000 nc)] 0 0 := by
    intro i2 h30 hi2 c
    induction c with
    | zero =>
      intro s hs ss2 cs2 z10 z11 z12 hq
      obtain rfl : s = L.length := by omega
      have hge : i2 30 ≤ nI L.length := by rw [h30]; exact Int32.le_refl _
      have hR : RepS L (i2 30) ss2 cs2 := ⟨h30, hl4, fun k hk => ⟨((hq k hk).1).trans (hL.2.2 k hk).1, (hL.2.2 k hk).2.1, fun j hj => ((hq k hk).2 j hj).trans ((hL.2.2 k hk).2.2 j hj)⟩⟩
      have K1 := fun z8 z9 z10 z11 z12 => cont i2 ss2 cs2 z8 z9 z10 z11 z12 hR hi2
      clear cont
      refine q_iload 9 298 dX12_mends_296 rfl rfl ?_
      refine q_aload_n 0 299 dX12_mends_298 rfl rfl rfl ?_
      refine q_getI 0 302 f_X12_296 dX12_mends_299 rfl rfl rfl ?_
      refine q_icmp_ge 367 305 dX12_mends_302 (by decide) rfl (fun h302 => ?_) (fun h302 => absurd hge h302)
      refine q_iinc 7 (nI (kk + 2)) 370 (L' := [_, _, _, _, _, _, _, _, _, _, _, _, _]) dX12_mends_367 rfl (inc2 (kk)) (by decide) rfl rfl ?_
      refine q_goto 93 dX12_mends_370 (by decide) ?_
      exact K1 _ _ _ _ _
    | succ c ih =>
      intro s hs ss2 cs2 z10 z11 z12 hq
      have hge : ¬ i2 30 ≤ nI s := by rw [h30]; exact nI_ge (by omega) (by omega)
      have K322 : ∀ (c9 j : Nat), c9 + j = 31 → ∀ (cs3 : Nat → Int64), (∀ k, k < s → ∀ j, j < 31 → cs3 (31 * k + j) = nc (31 * k + j)) → (∀ y, y < j → cs3 (31 * s + y) = nc (31 * s + y)) → WPs l g mtX12_mends 5 0 0 (pE (fun z : Sc × Sc × Sc × Sc × (Nat → Int64) × (Nat → Int64) => some (.long v9)) (fun z : Sc × Sc × Sc × Sc × (Nat → Int64) × (Nat → Int64) => [(q, ob 12 z.1 (rM A)), (A 1, aI g 2616 m), (A 5, aI g 400 tp), (A 16, aI g 9 z.2.1), (A 26, aI g 4000 z.2.2.1), (A 27, aI g 4000 z.2.2.2.1), (A 28, aJ g 124000 z.2.2.2.2.1), (A 29, aJ g 124000 z.2.2.2.2.2)]) (fun z : Sc × Sc × Sc × Sc × (Nat → Int64) × (Nat → Int64) => smK (upd (upd i0 6 0) 0 0) z.1)) noX a 322 [some (.ref q), some (.int a1), some (.int a2), some (.int a3), some (.int a4), some (.int wy), some (.int (nI n)), some (.int (nI kk)), some (.int how), some (.int (nI s)), some (.int (nI j)), z11, z12] [] [(q, ob 12 i2 (rM A)), (A 1, aI g 2616 m), (A 5, aI g 400 tp), (A 16, aI g 9 x), (A 26, aI g 4000 (upd ss2 s (ns s))), (A 27, aI g 4000 ns), (A 28, aJ g 124000 cs3), (A 29, aJ g 124000 nc)] 0 0 := by
        intro c9
        induction c9 with
        | zero =>
          intro j hj cs3 h1 h2
          obtain rfl : j = 31 := by omega
          have hge2 : (31 : Int32) ≤ nI 31 := by decide
          have K1 := fun z10 z11 z12 => ih (s + 1) (by omega) (upd ss2 s (ns s)) cs3 z10 z11 z12 (by
            intro k hk
            by_cases hks : k = s
            · subst hks
              exact ⟨pk_us, h2⟩
            · rw [pk_un hks]
              exact ⟨(hq k (by omega)).1, h1 k (by omega)⟩)
          clear ih cont
          refine q_iload 10 324 dX12_mends_322 rfl rfl ?_
          refine q_bipush 31 326 dX12_mends_324 bc_31 rfl ?_
          refine q_icmp_ge 361 329 dX12_mends_326 (by decide) rfl (fun h326 => ?_) (fun h326 => absurd hge2 h326)
          refine q_iinc 9 (nI (s + 1)) 364 (L' := [_, _, _, _, _, _, _, _, _, _, _, _, _]) dX12_mends_361 rfl (inc1 (s)) (by decide) rfl rfl ?_
          refine q_goto 296 dX12_mends_364 (by decide) ?_
          exact K1 _ _ _
        | succ c9 ih9 =>
          intro j hj cs3 h1 h2
          have hlt : ¬ (31 : Int32) ≤ nI j := nI_ge (b := 31) (by omega) (by decide)
          have b1 : 31 * s + j < 124000 := by omega
          have K1 := ih9 (j + 1) (by omega) (vp_updL cs3 (31 * s + j) (nc (31 * s + j))) (by
            intro k hk y hy
            rw [pk_uLn (by omega)]
            exact h1 k hk y hy) (by
            intro y hy
            by_cases hyj : y = j
            · subst hyj
              exact pk_uLs
            · rw [pk_uLn (by omega)]
              exact h2 y (by omega))
          clear ih ih9 cont
          generalize hk1 : 31 * s + j = k1 at *
          refine q_iload 10 324 dX12_mends_322 rfl rfl ?_
          refine q_bipush 31 326 dX12_mends_324 bc_31 rfl ?_
          refine q_icmp_ge 361 329 dX12_mends_326 (by decide) rfl (fun h326 => absurd h326 hlt) (fun h326 => ?_)
          refine q_aload_n 0 330 dX12_mends_329 rfl rfl rfl ?_
          refine q_getR 0 333 f_X12_61 dX12_mends_330 rfl rfl rfl rfl ?_
          refine q_bipush 31 335 dX12_mends_333 bc_31 rfl ?_
          refine q_iload 9 337 dX12_mends_335 rfl rfl ?_
          refine q_imul 338 dX12_mends_337 rfl ?_
          refine q_iload 10 340 dX12_mends_338 rfl rfl ?_
          refine q_iadd 341 dX12_mends_340 rfl ?_
          rw [ix31, hk1]
          refine q_aload_n 0 342 dX12_mends_341 rfl rfl rfl ?_
          refine q_getR 0 345 f_X12_64 dX12_mends_342 rfl rfl rfl rfl ?_
          refine q_bipush 31 347 dX12_mends_345 bc_31 rfl ?_
          refine q_iload 9 349 dX12_mends_347 rfl rfl ?_
          refine q_imul 350 dX12_mends_349 rfl ?_
          refine q_iload 10 352 dX12_mends_350 rfl rfl ?_
          refine q_iadd 353 dX12_mends_352 rfl ?_
          rw [ix31, hk1]
          refine q_lald 7 k1 354 dX12_mends_353 rfl ⟨rfl, by omega, by decide⟩ rfl ?_
          refine q_last 6 k1 355 (w' := [_, _, _, _, _, _, _, _]) dX12_mends_354 rfl ⟨rfl, by omega, by decide⟩ rfl rfl ?_
          refine q_iinc 10 (nI (j + 1)) 358 (L' := [_, _, _, _, _, _, _, _, _, _, _, _, _]) dX12_mends_355 rfl (inc1 (j)) (by decide) rfl rfl ?_
          refine q_goto 322 dX12_mends_358 (by decide) ?_
          exact K1
      have K1 := K322 31 0 rfl cs2 (fun k hk => (hq k hk).2) (fun y hy => absurd hy (Nat.not_lt_zero _))
      clear ih K322 cont
      refine q_iload 9 298 dX12_mends_296 rfl rfl ?_
      refine q_aload_n 0 299 dX12_mends_298 rfl rfl rfl ?_
      refine q_getI 0 302 f_X12_296 dX12_mends_299 rfl rfl rfl ?_
      refine q_icmp_ge 367 305 dX12_mends_302 (by decide) rfl (fun h302 => absurd h302 hge) (fun h302 => ?_)
      refine q_aload_n 0 306 dX12_mends_305 rfl rfl rfl ?_
      refine q_getR 0 309 f_X12_54 dX12_mends_306 rfl rfl rfl rfl ?_
      refine q_iload 9 311 dX12_mends_309 rfl rfl ?_
      refine q_aload_n 0 312 dX12_mends_311 rfl rfl rfl ?_
      refine q_getR 0 315 f_X12_57 dX12_mends_312 rfl rfl rfl rfl ?_
      refine q_iload 9 317 dX12_mends_315 rfl rfl ?_
      refine q_iald 5 s 318 dX12_mends_317 rfl ⟨rfl, by omega, by decide⟩ rfl ?_
      refine q_iast 4 s 319 (w' := [_, _, _, _, _, _, _, _]) dX12_mends_318 rfl ⟨rfl, by omega, by decide⟩ rfl rfl ?_
      refine q_iconst 0 320 dX12_mends_319 ic_0 rfl ?_
      refine q_istore 10 322 (L' := [_, _, _, _, _, _, _, _, _, _, _, _, _]) dX12_mends_320 (by decide) rfl rfl ?_
      exact K1
  have K1 := fun z10 z11 z12 => K296 (upd i 30 (i 31)) hL.1 hi L.length 0 rfl ss cs z10 z11 z12 (fun k hk => absurd hk (Nat.not_lt_zero _))
  clear K296 cont
  refine q_aload_n 0 286 dX12_mends_285 rfl rfl rfl ?_
  refine q_aload_n 0 287 dX12_mends_286 rfl rfl rfl ?_
  refine q_getI 0 290 f_X12_293 dX12_mends_287 rfl rfl rfl ?_
  refine q_putI 0 293 (w' := [_, _, _, _, _, _, _, _]) f_X12_296 ft_X12_30 dX12_mends_290 rfl rfl rfl rfl ?_
  refine q_iconst 0 294 dX12_mends_293 ic_0 rfl ?_
  refine q_istore 9 296 (L' := [_, _, _, _, _, _, _, _, _, _, _, _, _]) dX12_mends_294 (by decide) rfl rfl ?_
  exact K1 _ _ _
/-- the other ways in which a ball may have died -/
theorem md_o {l : Launch} {g : Gh} {q : Nat} {A : Nat → Nat} {a : Act} {i0 m tp : Sc} {a1 a2 a3 a4 wy : Int32} {n : Nat} {v9 : Int64} {G s co : Nat} {kk : Nat} {how : Int32} {L B : St} {f : Nat → Int64} {ss : Sc} {cs : Nat → Int64} (hH : HOK m) (hG : m 194 = nI G) (hG6 : G ≤ 6) (hco : cOK co) (hss : ss s = nI co) (hs : s < 4000) (hf : ∀ j, j < 31 → cs (31 * s + j) = f j) (h6 : UW m co 6 = 1) (ho : rOver m (UW m co) = 0) (hB : AllC B) (hlen : (mdO m (UW m co) f (as0 (UW m co) how) B 3).length ≤ 4000)
    (cont : ∀ (i2 x2 ns2 : Sc) (nc2 : Nat → Int64) (z10 z11 z12 : Option Value), RepS L (i2 30) ss cs → RepS (mdO m (UW m co) f (as0 (UW m co) how) B 3) (i2 31) ns2 nc2 → smK (upd (upd i0 6 0) 0 0) i2 → WPs l g mtX12_mends 5 0 0 (pE (fun z : Sc × Sc × Sc × Sc × (Nat → Int64) × (Nat → Int64) => some (.long v9)) (fun z : Sc × Sc × Sc × Sc × (Nat → Int64) × (Nat → Int64) => [(q, ob 12 z.1 (rM A)), (A 1, aI g 2616 m), (A 5, aI g 400 tp), (A 16, aI g 9 z.2.1), (A 26, aI g 4000 z.2.2.1), (A 27, aI g 4000 z.2.2.2.1), (A 28, aJ g 124000 z.2.2.2.2.1), (A 29, aJ g 124000 z.2.2.2.2.2)]) (fun z : Sc × Sc × Sc × Sc × (Nat → Int64) × (Nat → Int64) => smK (upd (upd i0 6 0) 0 0) z.1)) noX a 279 [some (.ref q), some (.int a1), some (.int a2), some (.int a3), some (.int a4), some (.int wy), some (.int (nI n)), some (.int (nI kk)), some (.int how), some (.int (nI s)), z10, z11, z12] [] [(q, ob 12 i2 (rM A)), (A 1, aI g 2616 m), (A 5, aI g 400 tp), (A 16, aI g 9 x2), (A 26, aI g 4000 ss), (A 27, aI g 4000 ns2), (A 28, aJ g 124000 cs), (A 29, aJ g 124000 nc2)] 0 0) :
    ∀ (c o : Nat), c + o = 3 → ∀ (i x ns : Sc) (nc : Nat → Int64), RepS L (i 30) ss cs → RepS (mdO m (UW m co) f (as0 (UW m co) how) B o) (i 31) ns nc → smK (upd (upd i0 6 0) 0 0) i → WPs l g mtX12_mends 5 0 0 (pE (fun z : Sc × Sc × Sc × Sc × (Nat → Int64) × (Nat → Int64) => some (.long v9)) (fun z : Sc × Sc × Sc × Sc × (Nat → Int64) × (Nat → Int64) => [(q, ob 12 z.1 (rM A)), (A 1, aI g 2616 m), (A 5, aI g 400 tp), (A 16, aI g 9 z.2.1), (A 26, aI g 4000 z.2.2.1), (A 27, aI g 4000 z.2.2.2.1), (A 28, aJ g 124000 z.2.2.2.2.1), (A 29, aJ g 124000 z.2.2.2.2.2)]) (fun z : Sc × Sc × Sc × Sc × (Nat → Int64) × (Nat → Int64) => smK (upd (upd i0 6 0) 0 0) z.1)) noX a 227 [some (.ref q), some (.int a1), some (.int a2), some (.int a3), some (.int a4), some (.int wy), some (.int (nI n)), some (.int (nI kk)), some (.int how), some (.int (nI s)), some (.int 1), some (.int (as0 (UW m co) how)), some (.int (nI (12 + o)))] [] [(q, ob 12 i (rM A)), (A 1, aI g 2616 m), (A 5, aI g 400 tp), (A 16, aI g 9 x), (A 26, aI g 4000 ss), (A 27, aI g 4000 ns), (A 28, aJ g 124000 cs), (A 29, aJ g 124000 nc)] 0 0 := by
  intro c
  induction c with
  | zero =>
    intro o hoo i x ns nc hL hR hi
    obtain rfl : o = 3 := by omega
    have hge : (15 : Int32) ≤ nI 15 := by decide
    have K1 := fun z10 z11 z12 => cont i x ns nc z10 z11 z12 hL hR hi
    clear cont
    generalize as0 (UW m co) how = as9 at *
    refine q_iload 12 229 dX12_mends_227 rfl rfl ?_
    refine q_bipush 15 231 dX12_mends_229 bc_15 rfl ?_
    refine q_icmp_ge 279 234 dX12_mends_231 (by decide) rfl (fun h231 => ?_) (fun h231 => absurd hge h231)
    exact K1 _ _ _
  | succ c ih =>
    intro o hoo i x ns nc hL hR hi
    have hlt : ¬ (15 : Int32) ≤ nI (12 + o) := nI_ge (b := 15) (by omega) (by decide)
    have hx := UW_VG m hco
    have hu := fun x => UW_eq m x (c := co) (by have := hco.1; omega)
    have hm9 := mdO_ge m (UW m co) f (as0 (UW m co) how) B (o + 1) (3 - (o + 1))
    rw [show o + 1 + (3 - (o + 1)) = 3 by omega] at hm9
    by_cases ha : nI (12 + o) = as0 (UW m co) how
    · have K1 := ih (o + 1) (by omega) i x ns nc hL (by rw [mdO, if_pos ha]; exact hR) hi
      clear ih cont
      rw [show 12 + (o + 1) = 12 + o + 1 from rfl] at K1
      generalize as0 (UW m co) how = as9 at *
      generalize 12 + o = o9 at *
      refine q_iload 12 229 dX12_mends_227 rfl rfl ?_
      refine q_bipush 15 231 dX12_mends_229 bc_15 rfl ?_
      refine q_icmp_ge 279 234 dX12_mends_231 (by decide) rfl (fun h231 => absurd h231 hlt) (fun h231 => ?_)
      refine q_iload 10 236 dX12_mends_234 rfl rfl ?_
      refine q_if_eq 279 239 dX12_mends_236 (by decide) rfl (fun h236 => absurd h236 (by decide)) (fun h236 => ?_)
      refine q_iload 12 241 dX12_mends_239 rfl rfl ?_
      refine q_iload 11 243 dX12_mends_241 rfl rfl ?_
      refine q_icmp_ne 249 246 dX12_mends_243 (by decide) rfl (fun h243 => absurd ha h243) (fun h243 => ?_)
      refine q_goto 273 dX12_mends_246 (by decide) ?_
      refine q_iinc 12 (nI (o9 + 1)) 276 (L' := [_, _, _, _, _, _, _, _, _, _, _, _, _]) dX12_mends_273 rfl (inc1 (o9)) (by decide) rfl rfl ?_
      refine q_goto 227 dX12_mends_276 (by decide) ?_
      exact K1
    · have hy := VG_rRal (how := nI (12 + o)) hH hG hG6 hx ho (fun h => absurd (h6.symm.trans h) (by decide))
      obtain ⟨w1, w2, -⟩ := wh_of (m := m) hy
      have hm8 : (mdO m (UW m co) f (as0 (UW m co) how) B (o + 1)).length ≤ 4000 := Nat.le_trans hm9 hlen
      rw [mdO, if_neg ha] at hm8
      have hJ := fun (i2 : Sc) (e : i2 31 = i 31) => p_joins (l := l) (g := g) (q := q) (A := A) (i := i2) (x := rRal m (UW m co) (nI (12 + o))) (ns := ns) (cs := cs) (nc := nc) (mo := 1) w2 (by have := w1.1; omega) (by rw [e]; exact hR) hf hs (by decide) (jn_room hm8)
      have K1 := fun i2 x2 ns2 nc2 h1 h2 h3 => ih (o + 1) (by omega) i2 x2 ns2 nc2 h1 h2 h3
      rw [mdO, if_neg ha] at K1
      clear ih cont hm9 hm8 hlen
      rw [show 12 + (o + 1) = 12 + o + 1 from rfl] at K1
      generalize jn (wC (rRal m (UW m co) (nI (12 + o)))) f 1 (mdO m (UW m co) f (as0 (UW m co) how) B o) = B2 at *
      generalize as0 (UW m co) how = as9 at *
      generalize 12 + o = o9 at *
      generalize hu9 : UW m co = u at *
      refine q_iload 12 229 dX12_mends_227 rfl rfl ?_
      refine q_bipush 15 231 dX12_mends_229 bc_15 rfl ?_
      refine q_icmp_ge 279 234 dX12_mends_231 (by decide) rfl (fun h231 => absurd h231 hlt) (fun h231 => ?_)
      refine q_iload 10 236 dX12_mends_234 rfl rfl ?_
      refine q_if_eq 279 239 dX12_mends_236 (by decide) rfl (fun h236 => absurd h236 (by decide)) (fun h236 => ?_)
      refine q_iload 12 241 dX12_mends_239 rfl rfl ?_
      refine q_iload 11 243 dX12_mends_241 rfl rfl ?_
      refine q_icmp_ne 249 246 dX12_mends_243 (by decide) rfl (fun h243 => ?_) (fun h243 => absurd h243 ha)
      refine q_aload_n 0 250 dX12_mends_249 rfl rfl rfl ?_
      refine q_aload_n 0 251 dX12_mends_250 rfl rfl rfl ?_
      refine q_getR 0 254 f_X12_54 dX12_mends_251 rfl rfl rfl rfl ?_
      refine q_iload 9 256 dX12_mends_254 rfl rfl ?_
      refine q_iald 4 s 257 dX12_mends_256 rfl ⟨rfl, by omega, by decide⟩ rfl ?_
      rw [hss]
      refine q_cVv 0 [0, 1, 3] [2, 4, 5, 6, 7] [5, 6, 0, 7, 1, 2, 3, 4] 260 (wr := [_, _, _, _, _]) (w1 := _) (ws' := [_, _, _, _, _, _, _, _]) p_unwhole m_X12_299 dX12_mends_257 rfl rfl rfl rfl rfl rfl rfl rfl (by decide) (by decide) (by decide) (by decide) (Nat.le_of_ble_eq_true rfl) (by omega) (by omega) (by omega) rfl ?_
      refine q_ax 3 u rfl (fun k hk => hu _ k hk) rfl ?_
      refine q_aload_n 0 261 dX12_mends_260 rfl rfl rfl ?_
      refine q_iload 12 263 dX12_mends_261 rfl rfl ?_
      refine q_cVv 0 [0, 1, 3] [2, 4, 5, 6, 7] [5, 6, 0, 7, 1, 2, 3, 4] 266 (wr := [_, _, _, _, _]) (w1 := _) (ws' := [_, _, _, _, _, _, _, _]) (c_M_rallies hx.1.2.1) m_X12_230 dX12_mends_263 rfl rfl rfl rfl rfl rfl rfl rfl (by decide) (by decide) (by decide) (by decide) (Nat.le_of_ble_eq_true rfl) (by omega) (by omega) (by omega) rfl ?_
      have hi2 := sm2_iRal i m u (nI o9)
      generalize iRal i m u (nI o9) = i5 at *
      refine q_aload_n 0 267 dX12_mends_266 rfl rfl rfl ?_
      refine q_iload 9 269 dX12_mends_267 rfl rfl ?_
      refine q_iconst 1 270 dX12_mends_269 ic_1 rfl ?_
      refine q_xVv 0 [0, 3, 5, 6, 7] [1, 2, 4] [3, 0, 1, 4, 2, 5, 6, 7] 273 (wr := [_, _, _]) (w1 := _) (ws' := fun _ => [_, _, _, _, _, _, _, _]) (hJ i5 (hi2 31 (by decide) (by decide))) m_X12_302 dX12_mends_270 rfl rfl rfl rfl rfl rfl rfl (fun _ => rfl) (by decide) (by decide) (by decide) (by decide) (Nat.le_of_ble_eq_true rfl) (by omega) (by omega) (by omega) rfl (fun z9 hx9 => ?_)
      obtain ⟨i6, ns6, nc6⟩ := z9
      dsimp only at hx9 ⊢
      refine q_iinc 12 (nI (o9 + 1)) 276 (L' := [_, _, _, _, _, _, _, _, _, _, _, _, _]) dX12_mends_273 rfl (inc1 (o9)) (by decide) rfl rfl ?_
      refine q_goto 227 dX12_mends_276 (by decide) ?_
      exact K1 _ _ _ _ (by rw [hx9.1 30 (by decide), hi2 30 (by decide) (by decide)]; exact hL) hx9.2 ((hi.tr hi2.K).tr ⟨hx9.1 0 (by decide), hx9.1 3 (by decide), hx9.1 6 (by decide), hx9.1 10 (by decide), fun z => by unfold f01; rw [hx9.1 13 (by decide), hx9.1 14 (by decide)]; exact z⟩)
/-- one rally, from all states -/
theorem md_s {l : Launch} {g : Gh} {q : Nat} {A : Nat → Nat} {a : Act} {i0 m tp : Sc} {a1 a2 a3 a4 wy : Int32} {n : Nat} {v9 : Int64} {G : Nat} {kk : Nat} {how : Int32} {L : St} {ss : Sc} {cs : Nat → Int64} (hH : HOK m) (hG : m 194 = nI G) (hG6 : G ≤ 6) (hh : hOK how) (hA : AllC L) (hlen : (mdF m how L L.length).length ≤ 4000)
    (cont : ∀ (i2 x2 ns2 : Sc) (nc2 : Nat → Int64) (z9 z10 z11 z12 : Option Value), RepS L (i2 30) ss cs → RepS (mdF m how L L.length) (i2 31) ns2 nc2 → smK (upd (upd i0 6 0) 0 0) i2 → WPs l g mtX12_mends 5 0 0 (pE (fun z : Sc × Sc × Sc × Sc × (Nat → Int64) × (Nat → Int64) => some (.long v9)) (fun z : Sc × Sc × Sc × Sc × (Nat → Int64) × (Nat → Int64) => [(q, ob 12 z.1 (rM A)), (A 1, aI g 2616 m), (A 5, aI g 400 tp), (A 16, aI g 9 z.2.1), (A 26, aI g 4000 z.2.2.1), (A 27, aI g 4000 z.2.2.2.1), (A 28, aJ g 124000 z.2.2.2.2.1), (A 29, aJ g 124000 z.2.2.2.2.2)]) (fun z : Sc × Sc × Sc × Sc × (Nat → Int64) × (Nat → Int64) => smK (upd (upd i0 6 0) 0 0) z.1)) noX a 285 [some (.ref q), some (.int a1), some (.int a2), some (.int a3), some (.int a4), some (.int wy), some (.int (nI n)), some (.int (nI kk)), some (.int how), z9, z10, z11, z12] [] [(q, ob 12 i2 (rM A)), (A 1, aI g 2616 m), (A 5, aI g 400 tp), (A 16, aI g 9 x2), (A 26, aI g 4000 ss), (A 27, aI g 4000 ns2), (A 28, aJ g 124000 cs), (A 29, aJ g 124000 nc2)] 0 0) :
    ∀ (c s : Nat), c + s = L.length → ∀ (i x ns : Sc) (nc : Nat → Int64) (z10 z11 z12 : Option Value), RepS L (i 30) ss cs → RepS (mdF m how L s) (i 31) ns nc → smK (upd (upd i0 6 0) 0 0) i → WPs l g mtX12_mends 5 0 0 (pE (fun z : Sc × Sc × Sc × Sc × (Nat → Int64) × (Nat → Int64) => some (.long v9)) (fun z : Sc × Sc × Sc × Sc × (Nat → Int64) × (Nat → Int64) => [(q, ob 12 z.1 (rM A)), (A 1, aI g 2616 m), (A 5, aI g 400 tp), (A 16, aI g 9 z.2.1), (A 26, aI g 4000 z.2.2.1), (A 27, aI g 4000 z.2.2.2.1), (A 28, aJ g 124000 z.2.2.2.2.1), (A 29, aJ g 124000 z.2.2.2.2.2)]) (fun z : Sc × Sc × Sc × Sc × (Nat → Int64) × (Nat → Int64) => smK (upd (upd i0 6 0) 0 0) z.1)) noX a 116 [some (.ref q), some (.int a1), some (.int a2), some (.int a3), some (.int a4), some (.int wy), some (.int (nI n)), some (.int (nI kk)), some (.int how), some (.int (nI s)), z10, z11, z12] [] [(q, ob 12 i (rM A)), (A 1, aI g 2616 m), (A 5, aI g 400 tp), (A 16, aI g 9 x), (A 26, aI g 4000 ss), (A 27, aI g 4000 ns), (A 28, aJ g 124000 cs), (A 29, aJ g 124000 nc)] 0 0 := by
  intro c
  induction c with
  | zero =>
    intro s hs i x ns nc z10 z11 z12 hL hR hi
    obtain rfl : s = L.length := by omega
    have hge : i 30 ≤ nI L.length := by rw [hL.1]; exact Int32.le_refl _
    have K1 := fun z9 z10 z11 z12 => cont i x ns nc z9 z10 z11 z12 hL hR hi
    clear cont
    refine q_iload 9 118 dX12_mends_116 rfl rfl ?_
    refine q_aload_n 0 119 dX12_mends_118 rfl rfl rfl ?_
    refine q_getI 0 122 f_X12_296 dX12_mends_119 rfl rfl rfl ?_
    refine q_icmp_ge 285 125 dX12_mends_122 (by decide) rfl (fun h122 => ?_) (fun h122 => absurd hge h122)
    exact K1 _ _ _ _
  | succ c ih =>
    intro s hs i x ns nc z10 z11 z12 hL hR hi
    have hs9 : s < L.length := by omega
    have hl4 := hL.2.1
    have hge : ¬ i 30 ≤ nI s := by rw [hL.1]; exact nI_ge hs9 (by omega)
    obtain ⟨e1, e2, e3⟩ := hL.2.2 s hs9
    have hco := hA s hs9
    have hm9 := mdF_ge m how L (s + 1) c
    rw [show s + 1 + c = L.length by omega] at hm9
    have hm8 : (mdF m how L (s + 1)).length ≤ 4000 := Nat.le_trans hm9 hlen
    have hAs := mdF_AllC hH hG hG6 hh hA s (by omega)
    have K279 : ∀ (i2 x2 ns2 : Sc) (nc2 : Nat → Int64) (z10 z11 z12 : Option Value), RepS L (i2 30) ss cs → RepS (mdJ m how (mdF m how L s) (L.getD s d0)) (i2 31) ns2 nc2 → smK (upd (upd i0 6 0) 0 0) i2 → WPs l g mtX12_mends 5 0 0 (pE (fun z : Sc × Sc × Sc × Sc × (Nat → Int64) × (Nat → Int64) => some (.long v9)) (fun z : Sc × Sc × Sc × Sc × (Nat → Int64) × (Nat → Int64) => [(q, ob 12 z.1 (rM A)), (A 1, aI g 2616 m), (A 5, aI g 400 tp), (A 16, aI g 9 z.2.1), (A 26, aI g 4000 z.2.2.1), (A 27, aI g 4000 z.2.2.2.1), (A 28, aJ g 124000 z.2.2.2.2.1), (A 29, aJ g 124000 z.2.2.2.2.2)]) (fun z : Sc × Sc × Sc × Sc × (Nat → Int64) × (Nat → Int64) => smK (upd (upd i0 6 0) 0 0) z.1)) noX a 279 [some (.ref q), some (.int a1), some (.int a2), some (.int a3), some (.int a4), some (.int wy), some (.int (nI n)), some (.int (nI kk)), some (.int how), some (.int (nI s)), z10, z11, z12] [] [(q, ob 12 i2 (rM A)), (A 1, aI g 2616 m), (A 5, aI g 400 tp), (A 16, aI g 9 x2), (A 26, aI g 4000 ss), (A 27, aI g 4000 ns2), (A 28, aJ g 124000 cs), (A 29, aJ g 124000 nc2)] 0 0 := by
      intro i2 x2 ns2 nc2 z10 z11 z12 h1 h2 h3
      have K1 := ih (s + 1) (by omega) i2 x2 ns2 nc2 z10 z11 z12 h1 h2 h3
      clear ih cont
      refine q_iinc 9 (nI (s + 1)) 282 (L' := [_, _, _, _, _, _, _, _, _, _, _, _, _]) dX12_mends_279 rfl (inc1 (s)) (by decide) rfl rfl ?_
      refine q_goto 116 dX12_mends_282 (by decide) ?_
      exact K1
    clear ih cont
    rw [mdF] at hm8
    generalize mdF m how L s = B at *
    generalize hco9 : L.getD s d0 = e at *
    obtain ⟨co, f⟩ := e
    dsimp only at e1 e2 e3 hco
    have hx := UW_VG m hco
    have hu := fun x => UW_eq m x (c := co) e2
    unfold mdJ at K279 hm8
    dsimp only at K279 hm8
    by_cases ho : rOver m (UW m co) = 0
    · rw [if_pos ho] at K279 hm8
      have hy := VG_rRal (how := how) hH hG hG6 hx ho (fun _ h => hh h)
      obtain ⟨w1, w2, -⟩ := wh_of (m := m) hy
      have hm7 : (jn (wC (rRal m (UW m co) how)) f 0 B).length ≤ 4000 := by
        by_cases hq : 2 ≤ how ∧ UW m co 6 = 1
        · rw [if_pos hq] at hm8
          exact Nat.le_trans (mdO_ge _ _ _ _ _ 0 3) hm8
        · rw [if_neg hq] at hm8; exact hm8
      have hJ := fun (i2 : Sc) (e : i2 31 = i 31) => p_joins (l := l) (g := g) (q := q) (A := A) (i := i2) (x := rRal m (UW m co) how) (ns := ns) (cs := cs) (nc := nc) (mo := 0) w2 (by have := w1.1; omega) (by rw [e]; exact hR) e3 (show s < 4000 by omega) (by decide) (jn_room hm7)
      have K227 : (2 ≤ how ∧ UW m co 6 = 1) → ∀ (i2 x2 ns2 : Sc) (nc2 : Nat → Int64), RepS L (i2 30) ss cs → RepS (jn (wC (rRal m (UW m co) how)) f 0 B) (i2 31) ns2 nc2 → smK (upd (upd i0 6 0) 0 0) i2 → WPs l g mtX12_mends 5 0 0 (pE (fun z : Sc × Sc × Sc × Sc × (Nat → Int64) × (Nat → Int64) => some (.long v9)) (fun z : Sc × Sc × Sc × Sc × (Nat → Int64) × (Nat → Int64) => [(q, ob 12 z.1 (rM A)), (A 1, aI g 2616 m), (A 5, aI g 400 tp), (A 16, aI g 9 z.2.1), (A 26, aI g 4000 z.2.2.1), (A 27, aI g 4000 z.2.2.2.1), (A 28, aJ g 124000 z.2.2.2.2.1), (A 29, aJ g 124000 z.2.2.2.2.2)]) (fun z : Sc × Sc × Sc × Sc × (Nat → Int64) × (Nat → Int64) => smK (upd (upd i0 6 0) 0 0) z.1)) noX a 227 [some (.ref q), some (.int a1), some (.int a2), some (.int a3), some (.int a4), some (.int wy), some (.int (nI n)), some (.int (nI kk)), some (.int how), some (.int (nI s)), some (.int 1), some (.int (as0 (UW m co) how)), some (.int 12)] [] [(q, ob 12 i2 (rM A)), (A 1, aI g 2616 m), (A 5, aI g 400 tp), (A 16, aI g 9 x2), (A 26, aI g 4000 ss), (A 27, aI g 4000 ns2), (A 28, aJ g 124000 cs), (A 29, aJ g 124000 nc2)] 0 0 := by
        intro hq i2 x2 ns2 nc2 h1 h2 h3
        rw [if_pos hq] at K279 hm8
        exact md_o hH hG hG6 hco e1 (show s < 4000 by omega) e3 hq.2 ho (jn_AllC w1 hAs) hm8 K279 3 0 rfl i2 x2 ns2 nc2 h1 h2 h3
      have K227n : ¬ (2 ≤ how ∧ UW m co 6 = 1) → ∀ (i2 x2 ns2 : Sc) (nc2 : Nat → Int64), RepS L (i2 30) ss cs → RepS (jn (wC (rRal m (UW m co) how)) f 0 B) (i2 31) ns2 nc2 → smK (upd (upd i0 6 0) 0 0) i2 → WPs l g mtX12_mends 5 0 0 (pE (fun z : Sc × Sc × Sc × Sc × (Nat → Int64) × (Nat → Int64) => some (.long v9)) (fun z : Sc × Sc × Sc × Sc × (Nat → Int64) × (Nat → Int64) => [(q, ob 12 z.1 (rM A)), (A 1, aI g 2616 m), (A 5, aI g 400 tp), (A 16, aI g 9 z.2.1), (A 26, aI g 4000 z.2.2.1), (A 27, aI g 4000 z.2.2.2.1), (A 28, aJ g 124000 z.2.2.2.2.1), (A 29, aJ g 124000 z.2.2.2.2.2)]) (fun z : Sc × Sc × Sc × Sc × (Nat → Int64) × (Nat → Int64) => smK (upd (upd i0 6 0) 0 0) z.1)) noX a 227 [some (.ref q), some (.int a1), some (.int a2), some (.int a3), some (.int a4), some (.int wy), some (.int (nI n)), some (.int (nI kk)), some (.int how), some (.int (nI s)), some (.int 0), some (.int (as0 (UW m co) how)), some (.int 12)] [] [(q, ob 12 i2 (rM A)), (A 1, aI g 2616 m), (A 5, aI g 400 tp), (A 16, aI g 9 x2), (A 26, aI g 4000 ss), (A 27, aI g 4000 ns2), (A 28, aJ g 124000 cs), (A 29, aJ g 124000 nc2)] 0 0 := by
        intro hq i2 x2 ns2 nc2 h1 h2 h3
        rw [if_neg hq] at K279
        have K1 := fun z10 z11 z12 => K279 i2 x2 ns2 nc2 z10 z11 z12 h1 h2 h3
        clear K279 K227
        generalize as0 (UW m co) how = as9 at *
        refine q_iload 12 229 dX12_mends_227 rfl rfl ?_
        refine q_bipush 15 231 dX12_mends_229 bc_15 rfl ?_
        refine q_icmp_ge 279 234 dX12_mends_231 (by decide) rfl (fun h231 => absurd h231 (by decide)) (fun h231 => ?_)
        refine q_iload 10 236 dX12_mends_234 rfl rfl ?_
        refine q_if_eq 279 239 dX12_mends_236 (by decide) rfl (fun h236 => ?_) (fun h236 => absurd (by decide) h236)
        exact K1 _ _ _
      clear K279 hm8 hm7 hlen
      generalize jn (wC (rRal m (UW m co) how)) f 0 B = B2 at *
      have ha0 : as0 (UW m co) how = if how - 2 < UW m co 4 then 12 else if UW m co 4 < how - 2 then 13 else 14 := rfl
      generalize as0 (UW m co) how = as9 at *
      generalize hu9 : UW m co = u at *
      have K208 : ∀ (md : Int32), (md = 1 ∧ (2 ≤ how ∧ u 6 = 1)) ∨ (md = 0 ∧ ¬ (2 ≤ how ∧ u 6 = 1)) → ∀ (z11 z12 : Option Value), WPs l g mtX12_mends 5 0 0 (pE (fun z : Sc × Sc × Sc × Sc × (Nat → Int64) × (Nat → Int64) => some (.long v9)) (fun z : Sc × Sc × Sc × Sc × (Nat → Int64) × (Nat → Int64) => [(q, ob 12 z.1 (rM A)), (A 1, aI g 2616 m), (A 5, aI g 400 tp), (A 16, aI g 9 z.2.1), (A 26, aI g 4000 z.2.2.1), (A 27, aI g 4000 z.2.2.2.1), (A 28, aJ g 124000 z.2.2.2.2.1), (A 29, aJ g 124000 z.2.2.2.2.2)]) (fun z : Sc × Sc × Sc × Sc × (Nat → Int64) × (Nat → Int64) => smK (upd (upd i0 6 0) 0 0) z.1)) noX a 208 [some (.ref q), some (.int a1), some (.int a2), some (.int a3), some (.int a4), some (.int wy), some (.int (nI n)), some (.int (nI kk)), some (.int how), some (.int (nI s)), some (.int md), z11, z12] [.int as9] [(q, ob 12 i (rM A)), (A 1, aI g 2616 m), (A 5, aI g 400 tp), (A 16, aI g 9 u), (A 26, aI g 4000 ss), (A 27, aI g 4000 ns), (A 28, aJ g 124000 cs), (A 29, aJ g 124000 nc)] 0 0 := by
        intro md hmd z11 z12
        refine q_istore 11 210 (L' := [_, _, _, _, _, _, _, _, _, _, _, _, _]) dX12_mends_208 (by decide) rfl rfl ?_
        refine q_aload_n 0 211 dX12_mends_210 rfl rfl rfl ?_
        refine q_iload 8 213 dX12_mends_211 rfl rfl ?_
        refine q_cVv 0 [0, 1, 3] [2, 4, 5, 6, 7] [5, 6, 0, 7, 1, 2, 3, 4] 216 (wr := [_, _, _, _, _]) (w1 := _) (ws' := [_, _, _, _, _, _, _, _]) (c_M_rallies hx.1.2.1) m_X12_230 dX12_mends_213 rfl rfl rfl rfl rfl rfl rfl rfl (by decide) (by decide) (by decide) (by decide) (Nat.le_of_ble_eq_true rfl) (by omega) (by omega) (by omega) rfl ?_
        have hi2 := sm2_iRal i m u how
        generalize iRal i m u how = i5 at *
        refine q_aload_n 0 217 dX12_mends_216 rfl rfl rfl ?_
        refine q_iload 9 219 dX12_mends_217 rfl rfl ?_
        refine q_iconst 0 220 dX12_mends_219 ic_0 rfl ?_
        refine q_xVv 0 [0, 3, 5, 6, 7] [1, 2, 4] [3, 0, 1, 4, 2, 5, 6, 7] 223 (wr := [_, _, _]) (w1 := _) (ws' := fun _ => [_, _, _, _, _, _, _, _]) (hJ i5 (hi2 31 (by decide) (by decide))) m_X12_302 dX12_mends_220 rfl rfl rfl rfl rfl rfl rfl (fun _ => rfl) (by decide) (by decide) (by decide) (by decide) (Nat.le_of_ble_eq_true rfl) (by omega) (by omega) (by omega) rfl (fun z9 hx9 => ?_)
        obtain ⟨i6, ns6, nc6⟩ := z9
        dsimp only at hx9 ⊢
        refine q_bipush 12 225 dX12_mends_223 bc_12 rfl ?_
        refine q_istore 12 227 (L' := [_, _, _, _, _, _, _, _, _, _, _, _, _]) dX12_mends_225 (by decide) rfl rfl ?_
        have g1 : RepS L (i6 30) ss cs := by rw [hx9.1 30 (by decide), hi2 30 (by decide) (by decide)]; exact hL
        have g3 := (hi.tr hi2.K).tr (⟨hx9.1 0 (by decide), hx9.1 3 (by decide), hx9.1 6 (by decide), hx9.1 10 (by decide), fun z => by unfold f01; rw [hx9.1 13 (by decide), hx9.1 14 (by decide)]; exact z⟩ : smK i5 i6)
        rcases hmd with ⟨rfl, hq⟩ | ⟨rfl, hq⟩
        · exact K227 hq _ _ _ _ g1 hx9.2 g3
        · exact K227n hq _ _ _ _ g1 hx9.2 g3
      clear K227 K227n hJ
      have K170 : ∀ (md : Int32), (md = 1 ∧ (2 ≤ how ∧ u 6 = 1)) ∨ (md = 0 ∧ ¬ (2 ≤ how ∧ u 6 = 1)) → ∀ (z11 z12 : Option Value), WPs l g mtX12_mends 5 0 0 (pE (fun z : Sc × Sc × Sc × Sc × (Nat → Int64) × (Nat → Int64) => some (.long v9)) (fun z : Sc × Sc × Sc × Sc × (Nat → Int64) × (Nat → Int64) => [(q, ob 12 z.1 (rM A)), (A 1, aI g 2616 m), (A 5, aI g 400 tp), (A 16, aI g 9 z.2.1), (A 26, aI g 4000 z.2.2.1), (A 27, aI g 4000 z.2.2.2.1), (A 28, aJ g 124000 z.2.2.2.2.1), (A 29, aJ g 124000 z.2.2.2.2.2)]) (fun z : Sc × Sc × Sc × Sc × (Nat → Int64) × (Nat → Int64) => smK (upd (upd i0 6 0) 0 0) z.1)) noX a 170 [some (.ref q), some (.int a1), some (.int a2), some (.int a3), some (.int a4), some (.int wy), some (.int (nI n)), some (.int (nI kk)), some (.int how), some (.int (nI s)), some (.int md), z11, z12] [] [(q, ob 12 i (rM A)), (A 1, aI g 2616 m), (A 5, aI g 400 tp), (A 16, aI g 9 u), (A 26, aI g 4000 ss), (A 27, aI g 4000 ns), (A 28, aJ g 124000 cs), (A 29, aJ g 124000 nc)] 0 0 := by
        intro md hmd z11 z12
        have K1 := K208 md hmd z11 z12
        clear K208
        refine q_iload 8 172 dX12_mends_170 rfl rfl ?_
        refine q_iconst 2 173 dX12_mends_172 ic_2 rfl ?_
        refine q_isub 174 dX12_mends_173 rfl ?_
        refine q_aload_n 0 175 dX12_mends_174 rfl rfl rfl ?_
        refine q_getR 0 178 f_X12_29 dX12_mends_175 rfl rfl rfl rfl ?_
        refine q_iconst 4 179 dX12_mends_178 ic_4 rfl ?_
        refine q_iald 3 4 180 dX12_mends_179 rfl ⟨by decide, by decide, by decide⟩ rfl ?_
        refine q_icmp_ge 188 183 dX12_mends_180 (by decide) rfl (fun hz1 => ?_) (fun hz1 => ?_)
        · refine q_iload 8 190 dX12_mends_188 rfl rfl ?_
          refine q_iconst 2 191 dX12_mends_190 ic_2 rfl ?_
          refine q_isub 192 dX12_mends_191 rfl ?_
          refine q_aload_n 0 193 dX12_mends_192 rfl rfl rfl ?_
          refine q_getR 0 196 f_X12_29 dX12_mends_193 rfl rfl rfl rfl ?_
          refine q_iconst 4 197 dX12_mends_196 ic_4 rfl ?_
          refine q_iald 3 4 198 dX12_mends_197 rfl ⟨by decide, by decide, by decide⟩ rfl ?_
          refine q_icmp_le 206 201 dX12_mends_198 (by decide) rfl (fun hz2 => ?_) (fun hz2 => ?_)
          · refine q_bipush 14 208 dX12_mends_206 bc_14 rfl ?_
            first
              | (rw [ha0, if_neg (Int32.not_lt.mpr hz1), if_neg (Int32.not_lt.mpr hz2)] at K1; exact K1)
              | (rw [ha0, if_neg (Int32.not_lt.mpr hz1), if_pos (Int32.not_le.mp hz2)] at K1; exact K1)
              | (rw [ha0, if_pos (Int32.not_le.mp hz1)] at K1; exact K1)
          · refine q_bipush 13 203 dX12_mends_201 bc_13 rfl ?_
            refine q_goto 208 dX12_mends_203 (by decide) ?_
            first
              | (rw [ha0, if_neg (Int32.not_lt.mpr hz1), if_neg (Int32.not_lt.mpr hz2)] at K1; exact K1)
              | (rw [ha0, if_neg (Int32.not_lt.mpr hz1), if_pos (Int32.not_le.mp hz2)] at K1; exact K1)
              | (rw [ha0, if_pos (Int32.not_le.mp hz1)] at K1; exact K1)
        · refine q_bipush 12 185 dX12_mends_183 bc_12 rfl ?_
          refine q_goto 208 dX12_mends_185 (by decide) ?_
          first
            | (rw [ha0, if_neg (Int32.not_lt.mpr hz1), if_neg (Int32.not_lt.mpr hz2)] at K1; exact K1)
            | (rw [ha0, if_neg (Int32.not_lt.mpr hz1), if_pos (Int32.not_le.mp hz2)] at K1; exact K1)
            | (rw [ha0, if_pos (Int32.not_le.mp hz1)] at K1; exact K1)
      clear K208
      refine q_iload 9 118 dX12_mends_116 rfl rfl ?_
      refine q_aload_n 0 119 dX12_mends_118 rfl rfl rfl ?_
      refine q_getI 0 122 f_X12_296 dX12_mends_119 rfl rfl rfl ?_
      refine q_icmp_ge 285 125 dX12_mends_122 (by decide) rfl (fun h122 => absurd h122 hge) (fun h122 => ?_)
      refine q_aload_n 0 126 dX12_mends_125 rfl rfl rfl ?_
      refine q_aload_n 0 127 dX12_mends_126 rfl rfl rfl ?_
      refine q_getR 0 130 f_X12_54 dX12_mends_127 rfl rfl rfl rfl ?_
      refine q_iload 9 132 dX12_mends_130 rfl rfl ?_
      refine q_iald 4 s 133 dX12_mends_132 rfl ⟨rfl, by omega, by decide⟩ rfl ?_
      rw [e1]
      refine q_cVv 0 [0, 1, 3] [2, 4, 5, 6, 7] [5, 6, 0, 7, 1, 2, 3, 4] 136 (wr := [_, _, _, _, _]) (w1 := _) (ws' := [_, _, _, _, _, _, _, _]) p_unwhole m_X12_299 dX12_mends_133 rfl rfl rfl rfl rfl rfl rfl rfl (by decide) (by decide) (by decide) (by decide) (Nat.le_of_ble_eq_true rfl) (by omega) (by omega) (by omega) rfl ?_
      refine q_ax 3 u rfl (fun k hk => hu _ k hk) rfl ?_
      refine q_aload_n 0 137 dX12_mends_136 rfl rfl rfl ?_
      refine q_cVi 0 [0, 1, 3] [2, 4, 5, 6, 7] [5, 6, 0, 7, 1, 2, 3, 4] 140 (wr := [_, _, _, _, _]) (w1 := _) (ws' := [_, _, _, _, _, _, _, _]) c_M_isOver m_X12_227 dX12_mends_137 rfl rfl rfl rfl rfl rfl rfl rfl (by decide) (by decide) (by decide) (by decide) (Nat.le_of_ble_eq_true rfl) (by omega) (by omega) (by omega) rfl ?_
      refine q_if_eq 146 143 dX12_mends_140 (by decide) rfl (fun h140 => ?_) (fun h140 => absurd ho h140)
      refine q_iload 8 148 dX12_mends_146 rfl rfl ?_
      refine q_iconst 2 149 dX12_mends_148 ic_2 rfl ?_
      refine q_icmp_lt 167 152 dX12_mends_149 (by decide) rfl (fun hz1 => ?_) (fun hz1 => ?_)
      · refine q_iconst 0 168 dX12_mends_167 ic_0 rfl ?_
        refine q_istore 10 170 (L' := [_, _, _, _, _, _, _, _, _, _, _, _, _]) dX12_mends_168 (by decide) rfl rfl ?_
        first
          | (exact K170 _ (Or.inl ⟨rfl, Int32.not_lt.mp hz1, hz2⟩) _ _)
          | (exact K170 _ (Or.inr ⟨rfl, fun z => hz2 z.2⟩) _ _)
          | (exact K170 _ (Or.inr ⟨rfl, fun z => (Int32.not_lt.mpr z.1) hz1⟩) _ _)
      · refine q_aload_n 0 153 dX12_mends_152 rfl rfl rfl ?_
        refine q_getR 0 156 f_X12_29 dX12_mends_153 rfl rfl rfl rfl ?_
        refine q_bipush 6 158 dX12_mends_156 bc_6 rfl ?_
        refine q_iald 3 6 159 dX12_mends_158 rfl ⟨by decide, by decide, by decide⟩ rfl ?_
        refine q_iconst 1 160 dX12_mends_159 ic_1 rfl ?_
        refine q_icmp_ne 167 163 dX12_mends_160 (by decide) rfl (fun hz2 => ?_) (fun hz2 => ?_)
        · refine q_iconst 0 168 dX12_mends_167 ic_0 rfl ?_
          refine q_istore 10 170 (L' := [_, _, _, _, _, _, _, _, _, _, _, _, _]) dX12_mends_168 (by decide) rfl rfl ?_
          first
            | (exact K170 _ (Or.inl ⟨rfl, Int32.not_lt.mp hz1, hz2⟩) _ _)
            | (exact K170 _ (Or.inr ⟨rfl, fun z => hz2 z.2⟩) _ _)
            | (exact K170 _ (Or.inr ⟨rfl, fun z => (Int32.not_lt.mpr z.1) hz1⟩) _ _)
        · refine q_iconst 1 164 dX12_mends_163 ic_1 rfl ?_
          refine q_goto 168 dX12_mends_164 (by decide) ?_
          refine q_istore 10 170 (L' := [_, _, _, _, _, _, _, _, _, _, _, _, _]) dX12_mends_168 (by decide) rfl rfl ?_
          first
            | (exact K170 _ (Or.inl ⟨rfl, Int32.not_lt.mp hz1, hz2⟩) _ _)
            | (exact K170 _ (Or.inr ⟨rfl, fun z => hz2 z.2⟩) _ _)
            | (exact K170 _ (Or.inr ⟨rfl, fun z => (Int32.not_lt.mpr z.1) hz1⟩) _ _)
    · rw [if_neg ho] at K279
      clear hm8
      have K1 := fun x2 z10 z11 z12 => K279 i x2 ns nc z10 z11 z12 hL hR hi
      clear K279
      generalize hu9 : UW m co = u at *
      refine q_iload 9 118 dX12_mends_116 rfl rfl ?_
      refine q_aload_n 0 119 dX12_mends_118 rfl rfl rfl ?_
      refine q_getI 0 122 f_X12_296 dX12_mends_119 rfl rfl rfl ?_
      refine q_icmp_ge 285 125 dX12_mends_122 (by decide) rfl (fun h122 => absurd h122 hge) (fun h122 => ?_)
      refine q_aload_n 0 126 dX12_mends_125 rfl rfl rfl ?_
      refine q_aload_n 0 127 dX12_mends_126 rfl rfl rfl ?_
      refine q_getR 0 130 f_X12_54 dX12_mends_127 rfl rfl rfl rfl ?_
      refine q_iload 9 132 dX12_mends_130 rfl rfl ?_
      refine q_iald 4 s 133 dX12_mends_132 rfl ⟨rfl, by omega, by decide⟩ rfl ?_
      rw [e1]
      refine q_cVv 0 [0, 1, 3] [2, 4, 5, 6, 7] [5, 6, 0, 7, 1, 2, 3, 4] 136 (wr := [_, _, _, _, _]) (w1 := _) (ws' := [_, _, _, _, _, _, _, _]) p_unwhole m_X12_299 dX12_mends_133 rfl rfl rfl rfl rfl rfl rfl rfl (by decide) (by decide) (by decide) (by decide) (Nat.le_of_ble_eq_true rfl) (by omega) (by omega) (by omega) rfl ?_
      refine q_ax 3 u rfl (fun k hk => hu _ k hk) rfl ?_
      refine q_aload_n 0 137 dX12_mends_136 rfl rfl rfl ?_
      refine q_cVi 0 [0, 1, 3] [2, 4, 5, 6, 7] [5, 6, 0, 7, 1, 2, 3, 4] 140 (wr := [_, _, _, _, _]) (w1 := _) (ws' := [_, _, _, _, _, _, _, _]) c_M_isOver m_X12_227 dX12_mends_137 rfl rfl rfl rfl rfl rfl rfl rfl (by decide) (by decide) (by decide) (by decide) (Nat.le_of_ble_eq_true rfl) (by omega) (by omega) (by omega) rfl ?_
      refine q_if_eq 146 143 dX12_mends_140 (by decide) rfl (fun h140 => absurd h140 ho) (fun h140 => ?_)
      refine q_goto 279 dX12_mends_143 (by decide) ?_
      exact K1 _ _ _ _
/-- what mends answers -/
def mnV (m tp : Sc) (a b c d wy : Int32) (n : Nat) : Int64 := mdR (mdV m (mdL m tp (n / 2)) a b c d · (mdL m tp (n / 2)).length) wy 31 0
theorem lgV_1 {tp : Sc} {n : Nat} (h0 : ¬ lgV tp n = 0) : n ≤ 60 ∧ n % 2 = 0 ∧ ¬ lgB tp (n / 2) 0 = 0 := by
  unfold lgV at h0
  by_cases h1 : n % 2 = 1
  · rw [if_pos h1] at h0; exact absurd rfl h0
  · rw [if_neg h1] at h0
    by_cases h2 : 60 < n
    · rw [if_pos h2] at h0; exact absurd rfl h0
    · rw [if_neg h2] at h0
      exact ⟨by omega, by omega, h0⟩
theorem lgB_K {tp : Sc} : ∀ (c k : Nat), ¬ lgB tp c k = 0 → ∀ j, j < c → lgK tp (k + 2 * j)
  | 0, _, _, j, hj => absurd hj (Nat.not_lt_zero _)
  | c + 1, k, h, 0, _ => (lgB_s h).1
  | c + 1, k, h, j + 1, hj => by
    have := lgB_K c (k + 2) (lgB_s h).2 j (by omega)
    rw [show k + 2 * (j + 1) = k + 2 + 2 * j by omega]
    exact this
theorem mdL_AllC {m tp : Sc} {G : Nat} (hH : HOK m) (hG : m 194 = nI G) (hG6 : G ≤ 6) (hV : VG (S m)) : ∀ k, (∀ j, j < k → lgK tp (2 * j)) → AllC (mdL m tp k)
  | 0, _ => by
    intro k hk
    have : k = 0 := by simp [mdL] at hk; omega
    subst this
    exact (wh_of (m := m) hV).1
  | k + 1, h => mdF_AllC hH hG hG6 (fun h2 => hwF_ln (h k (by omega)) h2) (mdL_AllC hH hG hG6 hV k (fun j hj => h j (by omega))) _ (Nat.le_refl _)
theorem p_mends0 {l : Launch} {g : Gh} {q : Nat} {A : Nat → Nat} {i tp : Sc} {n : Nat} {a1 a2 a3 a4 wy : Int32} (hn : n ≤ 400) (h6 : i 6 = nI n) (h0 : lgV tp n = 0) : Cp l g yX12_mends (Cond.code yX12_mends cX12_mends 13 (some .long)) 3 [.ref q, .int a1, .int a2, .int a3, .int a4, .int wy] [(q, ob 12 i (rM A)), (A 5, aI g 400 tp)] (some (.long 0)) [(q, ob 12 (upd (upd i 6 0) 0 1) (rM A)), (A 5, aI g 400 tp)] := by
  refine ct_of (M := mtX12_mends) [some (.ref q), some (.int a1), some (.int a2), some (.int a3), some (.int a4), some (.int wy), none, none, none, none, none, none, none] rfl (by decide) (Nat.le_of_ble_eq_true rfl) (fun _ h => h) (fun a => ?_)
  refine q_aload_n 0 1 dX12_mends_0 rfl rfl rfl ?_
  refine q_getI 0 4 f_X12_74 dX12_mends_1 rfl rfl rfl ?_
  rw [h6]
  refine q_istore 6 6 (L' := [_, _, _, _, _, _, _, _, _, _, _, _, _]) dX12_mends_4 (by decide) rfl rfl ?_
  refine q_aload_n 0 7 dX12_mends_6 rfl rfl rfl ?_
  refine q_iconst 0 8 dX12_mends_7 ic_0 rfl ?_
  refine q_putI 0 11 (w' := [_, _]) f_X12_74 ft_X12_6 dX12_mends_8 rfl rfl rfl rfl ?_
  refine q_aload_n 0 12 dX12_mends_11 rfl rfl rfl ?_
  refine q_aload_n 0 13 dX12_mends_12 rfl rfl rfl ?_
  refine q_iload 6 15 dX12_mends_13 rfl rfl ?_
  refine q_cVi 0 [0, 1] [] [0, 1] 18 (wr := []) (w1 := _) (ws' := [_, _]) (p_isLog hn) m_X12_284 dX12_mends_15 rfl rfl rfl rfl rfl rfl rfl rfl (by decide) (by decide) (by decide) (by decide) (Nat.le_of_ble_eq_true rfl) (by omega) (by omega) (by omega) rfl ?_
  refine q_if_ne 25 21 dX12_mends_18 (by decide) rfl (fun h18 => absurd h0 h18) (fun h18 => ?_)
  refine q_iconst 1 22 dX12_mends_21 ic_1 rfl ?_
  refine q_goto 26 dX12_mends_22 (by decide) ?_
  refine q_putI 0 29 (w' := [_, _]) f_X12_67 ft_X12_0 dX12_mends_26 rfl rfl rfl rfl ?_
  refine q_aload_n 0 30 dX12_mends_29 rfl rfl rfl ?_
  refine q_getI 0 33 f_X12_67 dX12_mends_30 rfl rfl rfl ?_
  refine q_if_le 38 36 dX12_mends_33 (by decide) rfl (fun h33 => absurd h33 (by show ¬ (1 : Int32) ≤ 0; decide)) (fun h33 => ?_)
  refine q_lconst 0 37 dX12_mends_36 (by decide) rfl ?_
  refine q_lreturn dX12_mends_37 rfl ?_
  exact pR.rf
theorem p_mends1 {l : Launch} {g : Gh} {q : Nat} {A : Nat → Nat} {i m tp x ss ns : Sc} {cs nc : Nat → Int64} {n G : Nat} {a1 a2 a3 a4 wy : Int32} (hH : HOK m) (hG : m 194 = nI G) (hG6 : G ≤ 6) (hV : VG (S m)) (hn : n ≤ 400) (h6 : i 6 = nI n) (h0 : ¬ lgV tp n = 0) (hlen : ∀ k, k ≤ n / 2 → (mdL m tp k).length ≤ 4000) :
    Ce l g yX12_mends (Cond.code yX12_mends cX12_mends 13 (some .long)) 5 [.ref q, .int a1, .int a2, .int a3, .int a4, .int wy] [(q, ob 12 i (rM A)), (A 1, aI g 2616 m), (A 5, aI g 400 tp), (A 16, aI g 9 x), (A 26, aI g 4000 ss), (A 27, aI g 4000 ns), (A 28, aJ g 124000 cs), (A 29, aJ g 124000 nc)]
      (fun z : Sc × Sc × Sc × Sc × (Nat → Int64) × (Nat → Int64) => some (.long (mnV m tp a1 a2 a3 a4 wy n))) (fun z : Sc × Sc × Sc × Sc × (Nat → Int64) × (Nat → Int64) => [(q, ob 12 z.1 (rM A)), (A 1, aI g 2616 m), (A 5, aI g 400 tp), (A 16, aI g 9 z.2.1), (A 26, aI g 4000 z.2.2.1), (A 27, aI g 4000 z.2.2.2.1), (A 28, aJ g 124000 z.2.2.2.2.1), (A 29, aJ g 124000 z.2.2.2.2.2)]) (fun z : Sc × Sc × Sc × Sc × (Nat → Int64) × (Nat → Int64) => smK (upd (upd i 6 0) 0 0) z.1) := by
  refine ct_of (M := mtX12_mends) [some (.ref q), some (.int a1), some (.int a2), some (.int a3), some (.int a4), some (.int wy), none, none, none, none, none, none, none] rfl (by decide) (Nat.le_of_ble_eq_true rfl) (fun _ h => h) (fun a => ?_)
  obtain ⟨hn60, hn2, hlB⟩ := lgV_1 h0
  have hK : ∀ j, j < n / 2 → lgK tp (2 * j) := fun j hj => by
    have := lgB_K (n / 2) 0 hlB j hj
    rw [Nat.zero_add] at this
    exact this
  generalize hv9 : mnV m tp a1 a2 a3 a4 wy n = v9
  unfold mnV at hv9
  have K93 : ∀ (c k : Nat), c + k = n / 2 → ∀ (i2 x2 ss2 ns2 : Sc) (cs2 nc2 : Nat → Int64) (z8 z9 z10 z11 z12 : Option Value), RepS (mdL m tp k) (i2 30) ss2 cs2 → smK (upd (upd i 6 0) 0 0) i2 → WPs l g mtX12_mends 5 0 0 (pE (fun z : Sc × Sc × Sc × Sc × (Nat → Int64) × (Nat → Int64) => some (.long v9)) (fun z : Sc × Sc × Sc × Sc × (Nat → Int64) × (Nat → Int64) => [(q, ob 12 z.1 (rM A)), (A 1, aI g 2616 m), (A 5, aI g 400 tp), (A 16, aI g 9 z.2.1), (A 26, aI g 4000 z.2.2.1), (A 27, aI g 4000 z.2.2.2.1), (A 28, aJ g 124000 z.2.2.2.2.1), (A 29, aJ g 124000 z.2.2.2.2.2)]) (fun z : Sc × Sc × Sc × Sc × (Nat → Int64) × (Nat → Int64) => smK (upd (upd i 6 0) 0 0) z.1)) noX a 93 [some (.ref q), some (.int a1), some (.int a2), some (.int a3), some (.int a4), some (.int wy), some (.int (nI n)), some (.int (nI (2 * k))), z8, z9, z10, z11, z12] [] [(q, ob 12 i2 (rM A)), (A 1, aI g 2616 m), (A 5, aI g 400 tp), (A 16, aI g 9 x2), (A 26, aI g 4000 ss2), (A 27, aI g 4000 ns2), (A 28, aJ g 124000 cs2), (A 29, aJ g 124000 nc2)] 0 0 := by
    intro c
    induction c with
    | zero =>
      intro k hk i2 x2 ss2 ns2 cs2 nc2 z8 z9 z10 z11 z12 hR hi2
      obtain rfl : k = n / 2 := by omega
      have hge : nI n ≤ nI (2 * (n / 2)) := by rw [show 2 * (n / 2) = n by omega]; exact Int32.le_refl _
      have K1 := fun z7 z8 z9 z10 z11 z12 => md_final (l := l) (g := g) (q := q) (A := A) (a := a) (i0 := i) (tp := tp) (n := n) (x := x2) (ns := ns2) (nc := nc2) hR (mdL_AllC hH hG hG6 hV _ hK) hi2 hv9 z7 z8 z9 z10 z11 z12
      generalize 2 * (n / 2) = k9 at *
      refine q_iload 7 95 dX12_mends_93 rfl rfl ?_
      refine q_iload 6 97 dX12_mends_95 rfl rfl ?_
      refine q_icmp_ge 373 100 dX12_mends_97 (by decide) rfl (fun h97 => ?_) (fun h97 => absurd hge h97)
      exact K1 _ _ _ _ _ _
    | succ c ih =>
      intro k hk i2 x2 ss2 ns2 cs2 nc2 z8 z9 z10 z11 z12 hR hi2
      have hlt : ¬ nI n ≤ nI (2 * k) := nI_ge (by omega) (by omega)
      have hAk := mdL_AllC hH hG hG6 hV k (fun j hj => hK j (by omega))
      have hhow : hOK (hwF tp (2 * k)) := fun h2 => hwF_ln (hK k (by omega)) h2
      have hl9 := hlen (k + 1) (by omega)
      rw [mdL] at hl9
      have K1 := md_s (l := l) (g := g) (q := q) (A := A) (a := a) (i0 := i) (tp := tp) (a1 := a1) (a2 := a2) (a3 := a3) (a4 := a4) (wy := wy) (n := n) (v9 := v9) (kk := 2 * k) (ss := ss2) (cs := cs2) hH hG hG6 hhow hAk hl9
        (fun i3 x3 ns3 nc3 z9 z10 z11 z12 h1 h2 h3 => md_copy h2 h3 (fun i4 ss4 cs4 z8 z9 z10 z11 z12 g1 g2 => ih (k + 1) (by omega) i4 x3 ss4 ns3 cs4 nc3 z8 z9 z10 z11 z12 g1 g2) z9 z10 z11 z12) (mdL m tp k).length 0 rfl
      clear ih hv9
      have hR0 : RepS (mdF m (hwF tp (2 * k)) (mdL m tp k) 0) (upd i2 31 0 31) ns2 nc2 := ⟨rfl, by show (0 : Nat) ≤ 4000; decide, fun k hk => absurd hk (Nat.not_lt_zero _)⟩
      have b1 : 2 * k + 1 < 400 := by omega
      generalize 2 * k = k9 at *
      refine q_iload 7 95 dX12_mends_93 rfl rfl ?_
      refine q_iload 6 97 dX12_mends_95 rfl rfl ?_
      refine q_icmp_ge 373 100 dX12_mends_97 (by decide) rfl (fun h97 => absurd h97 hlt) (fun h97 => ?_)
      refine q_aload_n 0 101 dX12_mends_100 rfl rfl rfl ?_
      refine q_iload 7 103 dX12_mends_101 rfl rfl ?_
      refine q_cVi 0 [0, 2] [1, 3, 4, 5, 6, 7] [6, 0, 7, 1, 2, 3, 4, 5] 106 (wr := [_, _, _, _, _, _]) (w1 := _) (ws' := [_, _, _, _, _, _, _, _]) (p_howOf b1) m_X12_287 dX12_mends_103 rfl rfl rfl rfl rfl rfl rfl rfl (by decide) (by decide) (by decide) (by decide) (Nat.le_of_ble_eq_true rfl) (by omega) (by omega) (by omega) rfl ?_
      refine q_istore 8 108 (L' := [_, _, _, _, _, _, _, _, _, _, _, _, _]) dX12_mends_106 (by decide) rfl rfl ?_
      refine q_aload_n 0 109 dX12_mends_108 rfl rfl rfl ?_
      refine q_iconst 0 110 dX12_mends_109 ic_0 rfl ?_
      refine q_putI 0 113 (w' := [_, _, _, _, _, _, _, _]) f_X12_293 ft_X12_31 dX12_mends_110 rfl rfl rfl rfl ?_
      refine q_iconst 0 114 dX12_mends_113 ic_0 rfl ?_
      refine q_istore 9 116 (L' := [_, _, _, _, _, _, _, _, _, _, _, _, _]) dX12_mends_114 (by decide) rfl rfl ?_
      exact K1 _ _ _ _ _ _ _ hR hR0 hi2
  have K60 : ∀ (c j : Nat), c + j = 31 → ∀ (i2 x2 ss2 : Sc) (cs2 : Nat → Int64), i2 30 = 1 → ss2 0 = rWh (S m) → (∀ y, y < j → cs2 y = if y = 0 then 1 else 0) → smK (upd (upd i 6 0) 0 0) i2 → WPs l g mtX12_mends 5 0 0 (pE (fun z : Sc × Sc × Sc × Sc × (Nat → Int64) × (Nat → Int64) => some (.long v9)) (fun z : Sc × Sc × Sc × Sc × (Nat → Int64) × (Nat → Int64) => [(q, ob 12 z.1 (rM A)), (A 1, aI g 2616 m), (A 5, aI g 400 tp), (A 16, aI g 9 z.2.1), (A 26, aI g 4000 z.2.2.1), (A 27, aI g 4000 z.2.2.2.1), (A 28, aJ g 124000 z.2.2.2.2.1), (A 29, aJ g 124000 z.2.2.2.2.2)]) (fun z : Sc × Sc × Sc × Sc × (Nat → Int64) × (Nat → Int64) => smK (upd (upd i 6 0) 0 0) z.1)) noX a 60 [some (.ref q), some (.int a1), some (.int a2), some (.int a3), some (.int a4), some (.int wy), some (.int (nI n)), some (.int (nI j)), none, none, none, none, none] [] [(q, ob 12 i2 (rM A)), (A 1, aI g 2616 m), (A 5, aI g 400 tp), (A 16, aI g 9 x2), (A 26, aI g 4000 ss2), (A 27, aI g 4000 ns), (A 28, aJ g 124000 cs2), (A 29, aJ g 124000 nc)] 0 0 := by
    intro c
    induction c with
    | zero =>
      intro j hj i2 x2 ss2 cs2 e1 e2 e3 hi2
      obtain rfl : j = 31 := by omega
      have hge : (31 : Int32) ≤ nI 31 := by decide
      obtain ⟨w1, w2, -⟩ := wh_of (m := m) hV
      have hR : RepS (mdL m tp 0) (i2 30) ss2 cs2 := by
        refine ⟨by rw [e1]; rfl, by show (1 : Nat) ≤ 4000; decide, fun k hk => ?_⟩
        have : k = 0 := by simp [mdL] at hk; omega
        subst this
        exact ⟨by rw [e2, w2]; rfl, by have := w1.1; show wC (S m) < 2 ^ 20; omega, fun y hy => e3 (31 * 0 + y) (by omega) |>.trans (by show _ = if y = 0 then (1 : Int64) else 0; rw [show 31 * 0 + y = y by omega])⟩
      have K1 := fun z8 z9 z10 z11 z12 => K93 (n / 2) 0 rfl i2 x2 ss2 ns cs2 nc z8 z9 z10 z11 z12 hR hi2
      clear K93 hv9
      refine q_iload 7 62 dX12_mends_60 rfl rfl ?_
      refine q_bipush 31 64 dX12_mends_62 bc_31 rfl ?_
      refine q_icmp_ge 90 67 dX12_mends_64 (by decide) rfl (fun h64 => ?_) (fun h64 => absurd hge h64)
      refine q_iconst 0 91 dX12_mends_90 ic_0 rfl ?_
      refine q_istore 7 93 (L' := [_, _, _, _, _, _, _, _, _, _, _, _, _]) dX12_mends_91 (by decide) rfl rfl ?_
      exact K1 _ _ _ _ _
    | succ c ih =>
      intro j hj i2 x2 ss2 cs2 e1 e2 e3 hi2
      have hlt : ¬ (31 : Int32) ≤ nI j := nI_ge (b := 31) (by omega) (by decide)
      have K1 := ih (j + 1) (by omega) i2 x2 ss2 (vp_updL cs2 j (if j = 0 then 1 else 0)) e1 e2 (by
        intro y hy
        by_cases hyj : y = j
        · subst hyj; exact pk_uLs
        · rw [pk_uLn hyj]; exact e3 y (by omega)) hi2
      clear ih K93 hv9
      by_cases hj0 : j = 0
      · rw [if_pos hj0] at K1
        have hz : nI j = 0 := by rw [hj0]; rfl
        refine q_iload 7 62 dX12_mends_60 rfl rfl ?_
        refine q_bipush 31 64 dX12_mends_62 bc_31 rfl ?_
        refine q_icmp_ge 90 67 dX12_mends_64 (by decide) rfl (fun h64 => absurd h64 hlt) (fun h64 => ?_)
        refine q_aload_n 0 68 dX12_mends_67 rfl rfl rfl ?_
        refine q_getR 0 71 f_X12_61 dX12_mends_68 rfl rfl rfl rfl ?_
        refine q_iload 7 73 dX12_mends_71 rfl rfl ?_
        refine q_iload 7 75 dX12_mends_73 rfl rfl ?_
        refine q_if_ne 82 78 dX12_mends_75 (by decide) rfl (fun h75 => absurd hz h75) (fun h75 => ?_)
        refine q_lconst 1 79 dX12_mends_78 (by decide) rfl ?_
        refine q_goto 83 dX12_mends_79 (by decide) ?_
        refine q_last 6 j 84 (w' := [_, _, _, _, _, _, _, _]) dX12_mends_83 rfl ⟨rfl, by omega, by decide⟩ rfl rfl ?_
        refine q_iinc 7 (nI (j + 1)) 87 (L' := [_, _, _, _, _, _, _, _, _, _, _, _, _]) dX12_mends_84 rfl (inc1 (j)) (by decide) rfl rfl ?_
        refine q_goto 60 dX12_mends_87 (by decide) ?_
        exact K1
      · rw [if_neg hj0] at K1
        have hz : ¬ nI j = 0 := nI_ne0 (by omega) (by omega)
        refine q_iload 7 62 dX12_mends_60 rfl rfl ?_
        refine q_bipush 31 64 dX12_mends_62 bc_31 rfl ?_
        refine q_icmp_ge 90 67 dX12_mends_64 (by decide) rfl (fun h64 => absurd h64 hlt) (fun h64 => ?_)
        refine q_aload_n 0 68 dX12_mends_67 rfl rfl rfl ?_
        refine q_getR 0 71 f_X12_61 dX12_mends_68 rfl rfl rfl rfl ?_
        refine q_iload 7 73 dX12_mends_71 rfl rfl ?_
        refine q_iload 7 75 dX12_mends_73 rfl rfl ?_
        refine q_if_ne 82 78 dX12_mends_75 (by decide) rfl (fun h75 => ?_) (fun h75 => absurd h75 hz)
        refine q_lconst 0 83 dX12_mends_82 (by decide) rfl ?_
        refine q_last 6 j 84 (w' := [_, _, _, _, _, _, _, _]) dX12_mends_83 rfl ⟨rfl, by omega, by decide⟩ rfl rfl ?_
        refine q_iinc 7 (nI (j + 1)) 87 (L' := [_, _, _, _, _, _, _, _, _, _, _, _, _]) dX12_mends_84 rfl (inc1 (j)) (by decide) rfl rfl ?_
        refine q_goto 60 dX12_mends_87 (by decide) ?_
        exact K1
  have K1 := K60 31 0 rfl (upd (upd (upd i 6 0) 0 0) 30 1) (S m) (upd ss 0 (rWh (S m))) cs rfl rfl (fun y hy => absurd hy (Nat.not_lt_zero _)) ⟨rfl, rfl, rfl, rfl, fun z => z⟩
  clear K93 K60 hv9
  refine q_aload_n 0 1 dX12_mends_0 rfl rfl rfl ?_
  refine q_getI 0 4 f_X12_74 dX12_mends_1 rfl rfl rfl ?_
  rw [h6]
  refine q_istore 6 6 (L' := [_, _, _, _, _, _, _, _, _, _, _, _, _]) dX12_mends_4 (by decide) rfl rfl ?_
  refine q_aload_n 0 7 dX12_mends_6 rfl rfl rfl ?_
  refine q_iconst 0 8 dX12_mends_7 ic_0 rfl ?_
  refine q_putI 0 11 (w' := [_, _, _, _, _, _, _, _]) f_X12_74 ft_X12_6 dX12_mends_8 rfl rfl rfl rfl ?_
  refine q_aload_n 0 12 dX12_mends_11 rfl rfl rfl ?_
  refine q_aload_n 0 13 dX12_mends_12 rfl rfl rfl ?_
  refine q_iload 6 15 dX12_mends_13 rfl rfl ?_
  refine q_cVi 0 [0, 2] [1, 3, 4, 5, 6, 7] [6, 0, 7, 1, 2, 3, 4, 5] 18 (wr := [_, _, _, _, _, _]) (w1 := _) (ws' := [_, _, _, _, _, _, _, _]) (p_isLog hn) m_X12_284 dX12_mends_15 rfl rfl rfl rfl rfl rfl rfl rfl (by decide) (by decide) (by decide) (by decide) (Nat.le_of_ble_eq_true rfl) (by omega) (by omega) (by omega) rfl ?_
  refine q_if_ne 25 21 dX12_mends_18 (by decide) rfl (fun h18 => ?_) (fun h18 => absurd h18 h0)
  refine q_iconst 0 26 dX12_mends_25 ic_0 rfl ?_
  refine q_putI 0 29 (w' := [_, _, _, _, _, _, _, _]) f_X12_67 ft_X12_0 dX12_mends_26 rfl rfl rfl rfl ?_
  refine q_aload_n 0 30 dX12_mends_29 rfl rfl rfl ?_
  refine q_getI 0 33 f_X12_67 dX12_mends_30 rfl rfl rfl ?_
  refine q_if_le 38 36 dX12_mends_33 (by decide) rfl (fun h33 => ?_) (fun h33 => absurd z_le h33)
  refine q_aload_n 0 39 dX12_mends_38 rfl rfl rfl ?_
  refine q_cVv 0 [0, 1, 3] [2, 4, 5, 6, 7] [5, 6, 0, 7, 1, 2, 3, 4] 42 (wr := [_, _, _, _, _]) (w1 := _) (ws' := [_, _, _, _, _, _, _, _]) c_M_takes m_X12_200 dX12_mends_39 rfl rfl rfl rfl rfl rfl rfl rfl (by decide) (by decide) (by decide) (by decide) (Nat.le_of_ble_eq_true rfl) (by omega) (by omega) (by omega) rfl ?_
  refine q_ax 3 (S m) rfl (take_S m _) rfl ?_
  refine q_aload_n 0 43 dX12_mends_42 rfl rfl rfl ?_
  refine q_getR 0 46 f_X12_54 dX12_mends_43 rfl rfl rfl rfl ?_
  refine q_iconst 0 47 dX12_mends_46 ic_0 rfl ?_
  refine q_aload_n 0 48 dX12_mends_47 rfl rfl rfl ?_
  refine q_cVi 0 [0, 3] [1, 2, 4, 5, 6, 7] [6, 0, 1, 7, 2, 3, 4, 5] 51 (wr := [_, _, _, _, _, _]) (w1 := _) (ws' := [_, _, _, _, _, _, _, _]) p_whole m_X12_290 dX12_mends_48 rfl rfl rfl rfl rfl rfl rfl rfl (by decide) (by decide) (by decide) (by decide) (Nat.le_of_ble_eq_true rfl) (by omega) (by omega) (by omega) rfl ?_
  refine q_iast 4 0 52 (w' := [_, _, _, _, _, _, _, _]) dX12_mends_51 rfl ⟨by decide, by decide, by decide⟩ rfl rfl ?_
  refine q_aload_n 0 53 dX12_mends_52 rfl rfl rfl ?_
  refine q_iconst 1 54 dX12_mends_53 ic_1 rfl ?_
  refine q_putI 0 57 (w' := [_, _, _, _, _, _, _, _]) f_X12_296 ft_X12_30 dX12_mends_54 rfl rfl rfl rfl ?_
  refine q_iconst 0 58 dX12_mends_57 ic_0 rfl ?_
  refine q_istore 7 60 (L' := [_, _, _, _, _, _, _, _, _, _, _, _, _]) dX12_mends_58 (by decide) rfl rfl ?_
  exact K1

