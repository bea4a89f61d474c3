/-! ===== layer 2: who is above whom, class's side ===== -/
section
variable {T : Tb} {I I' I'' : Nat → Nat → Int32} {J : Nat → Nat → Int64} {b v : Bool} {f k B : Nat} {P : Nat → Nat → Option Nat} {a g w c s m : Int} {r x y : Nat} {Q A E' : Nat → Nat → Bool} {o' : Nat → Bool}
/-- g comes -/
def cmb (T : Tb) (g : Nat) : Bool := decide (g < ng T) && com T g
theorem bcom10 (ht : tvC T) : bcom T = bt 10 (cmb T) := bt_up (ng_le ht)
def evP (T : Tb) (m : Int) (B x y r : Nat) : Bool := decide (T 5 r = 1) && (!B.testBit r && ctf T m r x y)
/-- x is above y in the room m, x is even with y, the rules of B left out -/
def abv (T : Tb) (m : Int) (B x y : Nat) : Bool := anyb (nr T) (srcP T m B x y)
def evn (T : Tb) (m : Int) (B x y : Nat) : Bool := anyb (nr T) (evP T m B x y)
def oth (T : Tb) (r x y : Nat) : Bool := cmb T x && (cpl T r x y && cmb T y)
theorem oth_src (ht : tvC T) (hv : tvD T) (hr : (r : Int) < T 0 4) (h5 : T 5 r = 0) : oth T r x y = (com T x && (com T y && hcu T r x y)) := by
  cases e : hcu T r x y
  · simp [oth, cpl, e]
  · have h := (hcu_ng ht hv hr e).1
    simp [oth, cpl, e, h5, cmb, h.1, h.2]
theorem hcu_sym (h5 : T 5 r ≠ 0) : hcu T r y x = hcu T r x y := by simp [hcu, h5, Bool.or_comm]
theorem oth_ev (ht : tvC T) (hv : tvD T) (hr : (r : Int) < T 0 4) (h5 : T 5 r ≠ 0) : (oth T r x y || oth T r y x) = (com T x && (com T y && hcu T r x y)) := by
  cases e : hcu T r x y
  · have e2 := (hcu_sym (x := x) (y := y) h5).trans e
    simp [oth, cpl, e, e2]
  · have e2 := (hcu_sym (x := x) (y := y) h5).trans e
    have h := hcu_ng ht hv hr e
    rcases Nat.lt_or_gt_of_ne h.2 with q | q
    · simp [oth, cpl, e, e2, h5, cmb, h.1.1, h.1.2, q, show ¬ y < x by omega]
    · simp [oth, cpl, e, e2, h5, cmb, h.1.1, h.1.2, q, show ¬ x < y by omega, Bool.and_comm]
theorem cl_evenWith (h : row 49 Q I) (hx : x < 10) : ∃ I', Rank_addEvenWith S0 (some 47) (iI (x : Int)) (iI (bt 10 o' : Int)) (I, J, Pst b f) = some (I', J, Pst b f) ∧ Agr (fun o => o ≠ 49) I I' ∧ row 49 (fun z w => Q z w || (decide (w = x) && o' z)) I' := by
  have key := jheap (J := J) (P := Pst b f) (I := I) (body := Rank_addEvenWith_L2 S0 (some 47) (iI (x : Int)) (iI (bt 10 o' : Int))) (fun k I' => Agr (fun o => o ≠ 49) I I' ∧ row 49 (fun z w => Q z w || (decide (z < k) && (decide (w = x) && o' z))) I') 0 10 ⟨Agr.refl _ _, h.ext fun z w _ _ => by simp⟩ (by omega) (by omega) (fun k I1 _ hk h1 => ?_) (fun I1 h1 => ?_)
  · obtain ⟨I2, e1, e2, e3⟩ := key
    have e1' : jloop (Rank_addEvenWith_L2 S0 (some 47) (iI (x : Int)) (iI (bt 10 o' : Int))) jN (iI 0, (I, J, Pst b f)) = some (I2, J, Pst b f) := e1
    exact ⟨I2, by simp only [Rank_addEvenWith, rc0, gi0, gl0, pi0, pl0, pz0, pr0, gr0_0, gr0_1, gr0_2, gr0_3, gr0_4, gr0_5, gr0_6, gr0_7, gr0_8, rc1, gi1, gl1, pi1, pl1, pz1, pr1, gr1_0, rc3, gi3, gl3, pi3, pl3, pz3, pr3, gr3_0, gr3_10, gr3_11, rc47, gi47, gl47, pi47, pl47, pz47, pr47, gr47_0, gr47_1, gr47_2, gr47_3, gr47_4, gr47_5, gr47_6, rc55, gi55, gl55, pi55, pl55, pz55, pr55, gr55_0, gr55_1, rc58, gi58, gl58, pi58, pl58, pz58, pr58, gr58_0, gr58_1, rc61, gi61, gl61, pi61, pl61, pz61, pr61, gr61_0, gr61_1, gr61_2, gr61_7, rc62, gi62, gl62, pi62, pl62, pz62, pr62, gr62_0, gr62_1, gr62_2, gr62_3, gr62_4, gr62_5, ld2, st2, an2, ld4, st4, an4, ld5, st5, an5, an6, ld48, st48, an48, ld49, st49, an49, ld50, st50, an50, ld51, st51, an51, ld52, st52, an52, ld53, st53, an53, ld54, st54, an54, ld56, st56, an56, ld57, st57, an57, ld59, st59, an59, ld60, st60, an60, ld63, st63, an63, ld64, st64, an64, ld65, st65, an65, ld66, st66, an66, ld67, st67, an67, ld68, st68, an68, ld69, st69, an69, ld70, st70, an70, rcct, gict, glct, pict, plct, pzct, prct, grct_0, grct_1, grct_2, grct_3, ldctm, stctm, anctm, ldctr, stctr, anctr, ldctp, stctp, anctp, anctR, rcru, giru, glru, piru, plru, pzru, prru, grru_7, ldcu, stcu, ancu, arct, ar6, rcro, giro, piro, pzro, grro_1, grro_2, grro_3, rcfo, gifo, pifo, pzfo, grfo_0, grfo_1, ldfop, stfop, anfop, ldfoe, stfoe, anfoe, Option.bind_some, if_true, if_false, n_0, e1'], e2, e3.ext fun z w hz _ => by simp [hz]⟩
  · simp (maxSteps := 4000000) (disch := omega) only [Rank_addEvenWith_L2, rc0, gi0, gl0, pi0, pl0, pz0, pr0, gr0_0, gr0_1, gr0_2, gr0_3, gr0_4, gr0_5, gr0_6, gr0_7, gr0_8, rc1, gi1, gl1, pi1, pl1, pz1, pr1, gr1_0, rc3, gi3, gl3, pi3, pl3, pz3, pr3, gr3_0, gr3_10, gr3_11, rc47, gi47, gl47, pi47, pl47, pz47, pr47, gr47_0, gr47_1, gr47_2, gr47_3, gr47_4, gr47_5, gr47_6, rc55, gi55, gl55, pi55, pl55, pz55, pr55, gr55_0, gr55_1, rc58, gi58, gl58, pi58, pl58, pz58, pr58, gr58_0, gr58_1, rc61, gi61, gl61, pi61, pl61, pz61, pr61, gr61_0, gr61_1, gr61_2, gr61_7, rc62, gi62, gl62, pi62, pl62, pz62, pr62, gr62_0, gr62_1, gr62_2, gr62_3, gr62_4, gr62_5, ld2, st2, an2, ld4, st4, an4, ld5, st5, an5, an6, ld48, st48, an48, ld49, st49, an49, ld50, st50, an50, ld51, st51, an51, ld52, st52, an52, ld53, st53, an53, ld54, st54, an54, ld56, st56, an56, ld57, st57, an57, ld59, st59, an59, ld60, st60, an60, ld63, st63, an63, ld64, st64, an64, ld65, st65, an65, ld66, st66, an66, ld67, st67, an67, ld68, st68, an68, ld69, st69, an69, ld70, st70, an70, rcct, gict, glct, pict, plct, pzct, prct, grct_0, grct_1, grct_2, grct_3, ldctm, stctm, anctm, ldctr, stctr, anctr, ldctp, stctp, anctp, anctR, rcru, giru, glru, piru, plru, pzru, prru, grru_7, ldcu, stcu, ancu, arct, ar6, rcro, giro, piro, pzro, grro_1, grro_2, grro_3, rcfo, gifo, pifo, pzfo, grfo_0, grfo_1, ldfop, stfop, anfop, ldfoe, stfoe, anfoe, Option.bind_some, if_true, if_false, n_0, n_1, n_2, n_3, n_4, n_5, n_6, n_7, n_8, n_9, n_10, n_12, n_15, n_20, n_24, n_32, n_48, n_57, n_59, n_80, n_97, n_99, n_100, n_122, n_680, n_700, n_999, n_1023, n_1024, iI_neg, iI_add, iI_sub, iI_lt, iI_le, iI_eq, show ¬ (10 : Int) ≤ (k : Int) by omega, bt10_has hk, bI_0, Int.toNat_natCast]
    cases e : o' k
    · refine ⟨I1, by simp only [Option.bind_some, if_true, if_false], h1.1, h1.2.ext fun z w _ _ => ?_⟩
      by_cases q : z = k
      · subst q; simp [e]
      · have : (z < k + 1) = (z < k) := propext ⟨fun _ => by omega, fun _ => by omega⟩
        simp only [this]
    · have h49 : I1 49 k ||| iI (bt 10 (fun y => decide (y = x)) : Int) = iI (bt 10 (fun w => Q k w || (decide (k < k + 1) && (decide (w = x) && o' k))) : Int) := by
        rw [h1.2 k hk, sI_or]
        exact sI_ext fun w _ => by simp [e]
      refine ⟨hup I1 49 k (iI (bt 10 (fun w => Q k w || (decide (k < k + 1) && (decide (w = x) && o' k))) : Int)), ?_, h1.1.hup (by omega), ?_⟩
      · simp (maxSteps := 4000000) (disch := omega) only [Bool.true_eq_false, Option.bind_some, if_true, if_false, rc0, gi0, gl0, pi0, pl0, pz0, pr0, gr0_0, gr0_1, gr0_2, gr0_3, gr0_4, gr0_5, gr0_6, gr0_7, gr0_8, rc1, gi1, gl1, pi1, pl1, pz1, pr1, gr1_0, rc3, gi3, gl3, pi3, pl3, pz3, pr3, gr3_0, gr3_10, gr3_11, rc47, gi47, gl47, pi47, pl47, pz47, pr47, gr47_0, gr47_1, gr47_2, gr47_3, gr47_4, gr47_5, gr47_6, rc55, gi55, gl55, pi55, pl55, pz55, pr55, gr55_0, gr55_1, rc58, gi58, gl58, pi58, pl58, pz58, pr58, gr58_0, gr58_1, rc61, gi61, gl61, pi61, pl61, pz61, pr61, gr61_0, gr61_1, gr61_2, gr61_7, rc62, gi62, gl62, pi62, pl62, pz62, pr62, gr62_0, gr62_1, gr62_2, gr62_3, gr62_4, gr62_5, ld2, st2, an2, ld4, st4, an4, ld5, st5, an5, an6, ld48, st48, an48, ld49, st49, an49, ld50, st50, an50, ld51, st51, an51, ld52, st52, an52, ld53, st53, an53, ld54, st54, an54, ld56, st56, an56, ld57, st57, an57, ld59, st59, an59, ld60, st60, an60, ld63, st63, an63, ld64, st64, an64, ld65, st65, an65, ld66, st66, an66, ld67, st67, an67, ld68, st68, an68, ld69, st69, an69, ld70, st70, an70, rcct, gict, glct, pict, plct, pzct, prct, grct_0, grct_1, grct_2, grct_3, ldctm, stctm, anctm, ldctr, stctr, anctr, ldctp, stctp, anctp, anctR, rcru, giru, glru, piru, plru, pzru, prru, grru_7, ldcu, stcu, ancu, arct, ar6, rcro, giro, piro, pzro, grro_1, grro_2, grro_3, rcfo, gifo, pifo, pzfo, grfo_0, grfo_1, ldfop, stfop, anfop, ldfoe, stfoe, anfoe, Int.toNat_natCast, sI_one hx, h49]
      · refine row.up (R := fun z w => Q z w || (decide (z < k + 1) && (decide (w = x) && o' z))) h1.2 fun z w hz _ _ => ?_
        have : (z < k + 1) = (z < k) := propext ⟨fun _ => by omega, fun _ => by omega⟩
        simp only [this]
  · simp (maxSteps := 4000000) (disch := omega) only [Rank_addEvenWith_L2, n_0, n_1, n_2, n_3, n_4, n_5, n_6, n_7, n_8, n_9, n_10, n_12, n_15, n_20, n_24, n_32, n_48, n_57, n_59, n_80, n_97, n_99, n_100, n_122, n_680, n_700, n_999, n_1023, n_1024, iI_neg, iI_add, iI_sub, iI_lt, iI_le, iI_eq, Option.bind_some, if_true, if_false, show (10 : Int) ≤ ((10 : Nat) : Int) by omega]
def adA (T : Tb) (A : Nat → Nat → Bool) (r j x y : Nat) : Bool := A x y || (decide (T 5 r = 0) && (decide (x < j) && oth T r x y))
def adE (T : Tb) (A : Nat → Nat → Bool) (r j x y : Nat) : Bool := A x y || (decide (T 5 r = 1) && ((decide (x < j) && oth T r x y) || (decide (y < j) && oth T r y x)))
theorem lt_sk (z k : Nat) (h : z ≠ k) : (z < k + 1) = (z < k) := propext ⟨fun _ => by omega, fun _ => by omega⟩
theorem cl_add1 (hd : cD T b I) (ht : tvC T) (hv : tvD T) (h7 : I 47 7 = iI (bt 10 (cmb T) : Int)) (hr : (r : Int) < T 0 4) (hk : k < 10) (hA : row 48 (adA T A r k) I) (hE : row 49 (adE T E' r k) I) : ∃ I', Rank_addCouples_L2 S0 (some 47) (some (ru b r)) (iI (k : Int), (I, J, Pst b f)) = some (.inl (iI ((k : Int) + 1), (I', J, Pst b f))) ∧ Agr (fun o => o ≠ 48 ∧ o ≠ 49) I I' ∧ row 48 (adA T A r (k + 1)) I' ∧ row 49 (adE T E' r (k + 1)) I' := by
  have h0 := ht.1
  obtain ⟨d1, d2, d3, d4, d5, d6, d7, d8⟩ := hd r hr
  have v1 := (hv r hr).1
  have hj : ((if cmb T k = false then some (iI 0) else some (iI (bt 10 (fun y => cpl T r k y && cmb T y) : Int))) : Option Int32) = some (iI (bt 10 (oth T r k) : Int)) := by
    cases e : cmb T k
    · simp only [if_true]
      rw [sI_z]
      exact congrArg some (sI_ext fun y _ => by simp [oth, e])
    · simp only [Bool.true_eq_false, if_false]
      exact congrArg some (sI_ext fun y _ => by simp [oth, e])
  simp (maxSteps := 4000000) (disch := omega) only [Rank_addCouples_L2, rc0, gi0, gl0, pi0, pl0, pz0, pr0, gr0_0, gr0_1, gr0_2, gr0_3, gr0_4, gr0_5, gr0_6, gr0_7, gr0_8, rc1, gi1, gl1, pi1, pl1, pz1, pr1, gr1_0, rc3, gi3, gl3, pi3, pl3, pz3, pr3, gr3_0, gr3_10, gr3_11, rc47, gi47, gl47, pi47, pl47, pz47, pr47, gr47_0, gr47_1, gr47_2, gr47_3, gr47_4, gr47_5, gr47_6, rc55, gi55, gl55, pi55, pl55, pz55, pr55, gr55_0, gr55_1, rc58, gi58, gl58, pi58, pl58, pz58, pr58, gr58_0, gr58_1, rc61, gi61, gl61, pi61, pl61, pz61, pr61, gr61_0, gr61_1, gr61_2, gr61_7, rc62, gi62, gl62, pi62, pl62, pz62, pr62, gr62_0, gr62_1, gr62_2, gr62_3, gr62_4, gr62_5, ld2, st2, an2, ld4, st4, an4, ld5, st5, an5, an6, ld48, st48, an48, ld49, st49, an49, ld50, st50, an50, ld51, st51, an51, ld52, st52, an52, ld53, st53, an53, ld54, st54, an54, ld56, st56, an56, ld57, st57, an57, ld59, st59, an59, ld60, st60, an60, ld63, st63, an63, ld64, st64, an64, ld65, st65, an65, ld66, st66, an66, ld67, st67, an67, ld68, st68, an68, ld69, st69, an69, ld70, st70, an70, rcct, gict, glct, pict, plct, pzct, prct, grct_0, grct_1, grct_2, grct_3, ldctm, stctm, anctm, ldctr, stctr, anctr, ldctp, stctp, anctp, anctR, rcru, giru, glru, piru, plru, pzru, prru, grru_7, ldcu, stcu, ancu, arct, ar6, rcro, giro, piro, pzro, grro_1, grro_2, grro_3, rcfo, gifo, pifo, pzfo, grfo_0, grfo_1, ldfop, stfop, anfop, ldfoe, stfoe, anfoe, Option.bind_some, if_true, if_false, n_0, n_1, n_2, n_3, n_4, n_5, n_6, n_7, n_8, n_9, n_10, n_12, n_15, n_20, n_24, n_32, n_48, n_57, n_59, n_80, n_97, n_99, n_100, n_122, n_680, n_700, n_999, n_1023, n_1024, iI_neg, iI_add, iI_sub, iI_lt, iI_le, iI_eq, show ¬ (10 : Int) ≤ (k : Int) by omega, h7, bt10_has hk, bI_0, Int.toNat_natCast, d8 k hk, sI_and, hj, d1]
  rcases (show T 5 r = 0 ∨ T 5 r = 1 ∨ T 5 r = 2 by omega) with z | z | z
  · have h48 : I 48 k ||| iI (bt 10 (oth T r k) : Int) = iI (bt 10 (adA T A r (k + 1) k) : Int) := by
      rw [hA k hk, sI_or]
      exact sI_ext fun w _ => by simp [adA, z]
    refine ⟨hup I 48 k (iI (bt 10 (adA T A r (k + 1) k) : Int)), ?_, (Agr.refl _ I).hup (by omega), ?_, ?_⟩
    · simp (maxSteps := 4000000) (disch := omega) only [z, Option.bind_some, if_true, if_false, rc0, gi0, gl0, pi0, pl0, pz0, pr0, gr0_0, gr0_1, gr0_2, gr0_3, gr0_4, gr0_5, gr0_6, gr0_7, gr0_8, rc1, gi1, gl1, pi1, pl1, pz1, pr1, gr1_0, rc3, gi3, gl3, pi3, pl3, pz3, pr3, gr3_0, gr3_10, gr3_11, rc47, gi47, gl47, pi47, pl47, pz47, pr47, gr47_0, gr47_1, gr47_2, gr47_3, gr47_4, gr47_5, gr47_6, rc55, gi55, gl55, pi55, pl55, pz55, pr55, gr55_0, gr55_1, rc58, gi58, gl58, pi58, pl58, pz58, pr58, gr58_0, gr58_1, rc61, gi61, gl61, pi61, pl61, pz61, pr61, gr61_0, gr61_1, gr61_2, gr61_7, rc62, gi62, gl62, pi62, pl62, pz62, pr62, gr62_0, gr62_1, gr62_2, gr62_3, gr62_4, gr62_5, ld2, st2, an2, ld4, st4, an4, ld5, st5, an5, an6, ld48, st48, an48, ld49, st49, an49, ld50, st50, an50, ld51, st51, an51, ld52, st52, an52, ld53, st53, an53, ld54, st54, an54, ld56, st56, an56, ld57, st57, an57, ld59, st59, an59, ld60, st60, an60, ld63, st63, an63, ld64, st64, an64, ld65, st65, an65, ld66, st66, an66, ld67, st67, an67, ld68, st68, an68, ld69, st69, an69, ld70, st70, an70, rcct, gict, glct, pict, plct, pzct, prct, grct_0, grct_1, grct_2, grct_3, ldctm, stctm, anctm, ldctr, stctr, anctr, ldctp, stctp, anctp, anctR, rcru, giru, glru, piru, plru, pzru, prru, grru_7, ldcu, stcu, ancu, arct, ar6, rcro, giro, piro, pzro, grro_1, grro_2, grro_3, rcfo, gifo, pifo, pzfo, grfo_0, grfo_1, ldfop, stfop, anfop, ldfoe, stfoe, anfoe, Int.toNat_natCast, h48]
    · refine row.up (R := adA T A r (k + 1)) hA fun z w hz _ _ => ?_
      simp only [adA, lt_sk z k hz]
    · refine row.agr (I := I) (hE.ext fun z' w _ _ => ?_) fun x => by simp [hup]
      simp [adE, z]
  · have h49 : I 49 k ||| iI (bt 10 (oth T r k) : Int) = iI (bt 10 (fun w => adE T E' r k k w || oth T r k w) : Int) := by
      rw [hE k hk, sI_or]
    have hR : row 49 (fun z w => adE T E' r k z w || (decide (z = k) && oth T r k w)) (hup I 49 k (iI (bt 10 (fun w => adE T E' r k k w || oth T r k w) : Int))) := by
      have := row.up (R := fun z w => adE T E' r k z w || (decide (z = k) && oth T r k w)) (x := k) hE fun z w hz _ _ => by simp [hz]
      simpa using this
    obtain ⟨I2, e1, e2, e3⟩ := cl_evenWith (J := J) (b := b) (f := f) (o' := oth T r k) hR hk
    refine ⟨I2, ?_, ((Agr.refl _ I).hup (by omega)).trans (e2.sub fun o h => h.2), ?_, ?_⟩
    · simp (maxSteps := 4000000) (disch := omega) only [z, show ¬ (1 : Int) = 0 by omega, Option.bind_some, if_true, if_false, rc0, gi0, gl0, pi0, pl0, pz0, pr0, gr0_0, gr0_1, gr0_2, gr0_3, gr0_4, gr0_5, gr0_6, gr0_7, gr0_8, rc1, gi1, gl1, pi1, pl1, pz1, pr1, gr1_0, rc3, gi3, gl3, pi3, pl3, pz3, pr3, gr3_0, gr3_10, gr3_11, rc47, gi47, gl47, pi47, pl47, pz47, pr47, gr47_0, gr47_1, gr47_2, gr47_3, gr47_4, gr47_5, gr47_6, rc55, gi55, gl55, pi55, pl55, pz55, pr55, gr55_0, gr55_1, rc58, gi58, gl58, pi58, pl58, pz58, pr58, gr58_0, gr58_1, rc61, gi61, gl61, pi61, pl61, pz61, pr61, gr61_0, gr61_1, gr61_2, gr61_7, rc62, gi62, gl62, pi62, pl62, pz62, pr62, gr62_0, gr62_1, gr62_2, gr62_3, gr62_4, gr62_5, ld2, st2, an2, ld4, st4, an4, ld5, st5, an5, an6, ld48, st48, an48, ld49, st49, an49, ld50, st50, an50, ld51, st51, an51, ld52, st52, an52, ld53, st53, an53, ld54, st54, an54, ld56, st56, an56, ld57, st57, an57, ld59, st59, an59, ld60, st60, an60, ld63, st63, an63, ld64, st64, an64, ld65, st65, an65, ld66, st66, an66, ld67, st67, an67, ld68, st68, an68, ld69, st69, an69, ld70, st70, an70, rcct, gict, glct, pict, plct, pzct, prct, grct_0, grct_1, grct_2, grct_3, ldctm, stctm, anctm, ldctr, stctr, anctr, ldctp, stctp, anctp, anctR, rcru, giru, glru, piru, plru, pzru, prru, grru_7, ldcu, stcu, ancu, arct, ar6, rcro, giro, piro, pzro, grro_1, grro_2, grro_3, rcfo, gifo, pifo, pzfo, grfo_0, grfo_1, ldfop, stfop, anfop, ldfoe, stfoe, anfoe, Int.toNat_natCast, h49, e1]
    · refine row.agr (I := I) (hA.ext fun z' w _ _ => ?_) fun x => (e2 48 (by omega) x).trans (by simp [hup])
      simp [adA, z]
    · refine e3.ext fun z' w _ _ => ?_
      simp only [adE, z, decide_true, Bool.true_and]
      by_cases q1 : z' = k
      · subst q1
        by_cases q2 : w = z'
        · subst q2
          simp only [decide_true, Bool.true_and, Nat.lt_irrefl, decide_false, Bool.false_and, Bool.false_or, Bool.or_false, Nat.lt_succ_self]
          cases E' w w <;> cases oth T r w w <;> rfl
        · simp only [lt_sk w z' q2, q2, decide_false, Bool.false_and, Bool.or_false, decide_true, Bool.true_and, Nat.lt_irrefl, Nat.lt_succ_self, Bool.false_or]
          cases E' z' w <;> cases oth T r z' w <;> cases decide (w < z') <;> cases oth T r w z' <;> rfl
      · by_cases q2 : w = k
        · subst q2
          simp only [lt_sk z' w q1, q1, decide_false, Bool.false_and, Bool.or_false, decide_true, Bool.true_and, Nat.lt_irrefl, Nat.lt_succ_self]
          cases E' z' w <;> cases oth T r z' w <;> cases decide (z' < w) <;> cases oth T r w z' <;> rfl
        · simp only [lt_sk z' k q1, lt_sk w k q2, q1, q2, decide_false, Bool.false_and, Bool.or_false]
  · refine ⟨I, ?_, Agr.refl _ _, ?_, ?_⟩
    · simp (maxSteps := 4000000) (disch := omega) only [z, show ¬ (2 : Int) = 0 by omega, show ¬ (2 : Int) = 1 by omega, Option.bind_some, if_true, if_false]
    · exact hA.ext fun z' w _ _ => by simp [adA, z]
    · exact hE.ext fun z' w _ _ => by simp [adE, z]
theorem cl_add (hd : cD T b I) (ht : tvC T) (hv : tvD T) (h7 : I 47 7 = iI (bt 10 (cmb T) : Int)) (hr : (r : Int) < T 0 4) (hA : row 48 A I) (hE : row 49 E' I) : ∃ I', Rank_addCouples S0 (some 47) (some (ru b r)) (I, J, Pst b f) = some (I', J, Pst b f) ∧ Agr (fun o => o ≠ 48 ∧ o ≠ 49) I I' ∧ row 48 (adA T A r 10) I' ∧ row 49 (adE T E' r 10) I' := by
  have h0 := ht.1
  have key := jheap (J := J) (P := Pst b f) (I := I) (body := Rank_addCouples_L2 S0 (some 47) (some (ru b r))) (fun k I' => Agr (fun o => o ≠ 48 ∧ o ≠ 49) I I' ∧ row 48 (adA T A r k) I' ∧ row 49 (adE T E' r k) I') 0 10 ⟨Agr.refl _ _, hA.ext fun x y _ _ => by simp [adA], hE.ext fun x y _ _ => by simp [adE]⟩ (by omega) (by omega) (fun k I1 _ hk h1 => ?_) (fun I1 h1 => ?_)
  · obtain ⟨I2, e1, e2⟩ := key
    have e1' : jloop (Rank_addCouples_L2 S0 (some 47) (some (ru b r))) jN (iI 0, (I, J, Pst b f)) = some (I2, J, Pst b f) := e1
    exact ⟨I2, by simp only [Rank_addCouples, rc0, gi0, gl0, pi0, pl0, pz0, pr0, gr0_0, gr0_1, gr0_2, gr0_3, gr0_4, gr0_5, gr0_6, gr0_7, gr0_8, rc1, gi1, gl1, pi1, pl1, pz1, pr1, gr1_0, rc3, gi3, gl3, pi3, pl3, pz3, pr3, gr3_0, gr3_10, gr3_11, rc47, gi47, gl47, pi47, pl47, pz47, pr47, gr47_0, gr47_1, gr47_2, gr47_3, gr47_4, gr47_5, gr47_6, rc55, gi55, gl55, pi55, pl55, pz55, pr55, gr55_0, gr55_1, rc58, gi58, gl58, pi58, pl58, pz58, pr58, gr58_0, gr58_1, rc61, gi61, gl61, pi61, pl61, pz61, pr61, gr61_0, gr61_1, gr61_2, gr61_7, rc62, gi62, gl62, pi62, pl62, pz62, pr62, gr62_0, gr62_1, gr62_2, gr62_3, gr62_4, gr62_5, ld2, st2, an2, ld4, st4, an4, ld5, st5, an5, an6, ld48, st48, an48, ld49, st49, an49, ld50, st50, an50, ld51, st51, an51, ld52, st52, an52, ld53, st53, an53, ld54, st54, an54, ld56, st56, an56, ld57, st57, an57, ld59, st59, an59, ld60, st60, an60, ld63, st63, an63, ld64, st64, an64, ld65, st65, an65, ld66, st66, an66, ld67, st67, an67, ld68, st68, an68, ld69, st69, an69, ld70, st70, an70, rcct, gict, glct, pict, plct, pzct, prct, grct_0, grct_1, grct_2, grct_3, ldctm, stctm, anctm, ldctr, stctr, anctr, ldctp, stctp, anctp, anctR, rcru, giru, glru, piru, plru, pzru, prru, grru_7, ldcu, stcu, ancu, arct, ar6, rcro, giro, piro, pzro, grro_1, grro_2, grro_3, rcfo, gifo, pifo, pzfo, grfo_0, grfo_1, ldfop, stfop, anfop, ldfoe, stfoe, anfoe, Option.bind_some, if_true, if_false, n_0, e1'], e2⟩
  · have hd1 : cD T b I1 := hd.agr (h1.1.sub fun o h => by have := ct_or b; omega) (by omega)
    obtain ⟨I2, e1, e2, e3⟩ := cl_add1 (J := J) (f := f) hd1 ht hv ((h1.1 47 (by omega) 7).trans h7) hr hk h1.2.1 h1.2.2
    exact ⟨I2, e1, h1.1.trans e2, e3⟩
  · simp (maxSteps := 4000000) (disch := omega) only [Rank_addCouples_L2, n_0, n_1, n_2, n_3, n_4, n_5, n_6, n_7, n_8, n_9, n_10, n_12, n_15, n_20, n_24, n_32, n_48, n_57, n_59, n_80, n_97, n_99, n_100, n_122, n_680, n_700, n_999, n_1023, n_1024, iI_neg, iI_add, iI_sub, iI_lt, iI_le, iI_eq, Option.bind_some, if_true, if_false, show (10 : Int) ≤ ((10 : Nat) : Int) by omega]
/-- what the class keeps of the ranks -/
def rkC (T : Tb) (m : Int) (B : Nat) (I : Nat → Nat → Int32) : Prop := I 47 7 = iI (bt 10 (cmb T) : Int) ∧ row 48 (abv T m B) I ∧ row 49 (evn T m B) I
abbrev outR (o : Nat) : Prop := o < 47 ∨ 49 < o
theorem cl_look1 (E : EC T b I) (V : TV T) (hm : 0 ≤ m ∧ m < 4) (hB : B < 4096) (h7 : I 47 7 = iI (bt 10 (cmb T) : Int)) (hk : k < nr T) (hA : row 48 (fun x y => anyb k (srcP T m B x y)) I) (hE : row 49 (fun x y => anyb k (evP T m B x y)) I) : ∃ I', Rank_look_L27 S0 (some 47) (some (ct b)) (iI m) (iI (B : Int)) (iI (k : Int), (I, J, Pst b f)) = some (.inl (iI ((k : Int) + 1), (I', J, Pst b f))) ∧ Agr (fun o => o ≠ 48 ∧ o ≠ 49) I I' ∧ row 48 (fun x y => anyb (k + 1) (srcP T m B x y)) I' ∧ row 49 (fun x y => anyb (k + 1) (evP T m B x y)) I' := by
  obtain ⟨⟨eA, eB⟩, ⟨eC, eD⟩, eE⟩ := id E
  obtain ⟨⟨vA, vB⟩, ⟨vC, vD⟩, vE, vF⟩ := id V
  have h0 := vC.1
  have h1 := nrI vC
  have hk' : (k : Int) < T 0 4 := by omega
  have hh := hasI B (k : Int) (by omega) (by omega)
  rw [Int.toNat_natCast] at hh
  simp (maxSteps := 4000000) (disch := omega) only [Rank_look_L27, rc0, gi0, gl0, pi0, pl0, pz0, pr0, gr0_0, gr0_1, gr0_2, gr0_3, gr0_4, gr0_5, gr0_6, gr0_7, gr0_8, rc1, gi1, gl1, pi1, pl1, pz1, pr1, gr1_0, rc3, gi3, gl3, pi3, pl3, pz3, pr3, gr3_0, gr3_10, gr3_11, rc47, gi47, gl47, pi47, pl47, pz47, pr47, gr47_0, gr47_1, gr47_2, gr47_3, gr47_4, gr47_5, gr47_6, rc55, gi55, gl55, pi55, pl55, pz55, pr55, gr55_0, gr55_1, rc58, gi58, gl58, pi58, pl58, pz58, pr58, gr58_0, gr58_1, rc61, gi61, gl61, pi61, pl61, pz61, pr61, gr61_0, gr61_1, gr61_2, gr61_7, rc62, gi62, gl62, pi62, pl62, pz62, pr62, gr62_0, gr62_1, gr62_2, gr62_3, gr62_4, gr62_5, ld2, st2, an2, ld4, st4, an4, ld5, st5, an5, an6, ld48, st48, an48, ld49, st49, an49, ld50, st50, an50, ld51, st51, an51, ld52, st52, an52, ld53, st53, an53, ld54, st54, an54, ld56, st56, an56, ld57, st57, an57, ld59, st59, an59, ld60, st60, an60, ld63, st63, an63, ld64, st64, an64, ld65, st65, an65, ld66, st66, an66, ld67, st67, an67, ld68, st68, an68, ld69, st69, an69, ld70, st70, an70, rcct, gict, glct, pict, plct, pzct, prct, grct_0, grct_1, grct_2, grct_3, ldctm, stctm, anctm, ldctr, stctr, anctr, ldctp, stctp, anctp, anctR, rcru, giru, glru, piru, plru, pzru, prru, grru_7, ldcu, stcu, ancu, arct, ar6, rcro, giro, piro, pzro, grro_1, grro_2, grro_3, rcfo, gifo, pifo, pzfo, grfo_0, grfo_1, ldfop, stfop, anfop, ldfoe, stfoe, anfoe, Option.bind_some, if_true, if_false, n_0, n_1, n_2, n_3, n_4, n_5, n_6, n_7, n_8, n_9, n_10, n_12, n_15, n_20, n_24, n_32, n_48, n_57, n_59, n_80, n_97, n_99, n_100, n_122, n_680, n_700, n_999, n_1023, n_1024, iI_neg, iI_add, iI_sub, iI_lt, iI_le, iI_eq, eC.1.2.2, show ¬ T 0 4 ≤ (k : Int) by omega, show ¬ (12 : Int) ≤ (k : Int) by omega, Int.toNat_natCast, hh, bI_0, cl_countsIn eD vC vD hk' hm]
  cases e1 : B.testBit k
  · cases e2 : ctn T m k
    · refine ⟨I, by simp only [Option.bind_some, if_true, if_false], Agr.refl _ _, hA.ext fun x y _ _ => ?_, hE.ext fun x y _ _ => ?_⟩
      · simp [anyb_s, srcP, ctf, e2]
      · simp [anyb_s, evP, ctf, e2]
    · obtain ⟨I2, z1, z2, z3, z4⟩ := cl_add (J := J) (f := f) eD vC vD h7 hk' hA hE
      refine ⟨I2, by simp only [Bool.true_eq_false, Option.bind_some, if_true, if_false, z1], z2, z3.ext fun x y hx hy => ?_, z4.ext fun x y hx hy => ?_⟩
      · simp only [adA, anyb_s, hx, decide_true, Bool.true_and]
        by_cases q : T 5 k = 0
        · simp [q, oth_src vC vD hk' q, srcP, ctf, e1, e2]
        · simp [q, srcP]
      · simp only [adE, anyb_s, hx, hy, decide_true, Bool.true_and]
        by_cases q : T 5 k = 1
        · rw [oth_ev vC vD hk' (by omega)]
          simp [q, evP, ctf, e1, e2]
        · simp [q, evP]
  · refine ⟨I, by simp only [Bool.true_eq_false, Option.bind_some, if_true, if_false], Agr.refl _ _, hA.ext fun x y _ _ => ?_, hE.ext fun x y _ _ => ?_⟩
    · simp [anyb_s, srcP, e1]
    · simp [anyb_s, evP, e1]
theorem cl_look (E : EC T b I) (V : TV T) (hm : 0 ≤ m ∧ m < 4) (hB : B < 4096) : ∃ I', Rank_look S0 (some 47) (some (ct b)) (iI m) (iI (B : Int)) (I, J, Pst b f) = some (I', J, Pst b f) ∧ Agr outR I I' ∧ rkC T m B I' := by
  obtain ⟨⟨eA, eB⟩, ⟨eC, eD⟩, eE⟩ := id E
  obtain ⟨⟨vA, vB⟩, ⟨vC, vD⟩, vE, vF⟩ := id V
  have h0 := vC.1
  have h1 := nrI vC
  obtain ⟨I1, f1, f2, f3⟩ := fillI (J := J) (P := Pst b f) (I := hup I 47 7 (iI (bt 10 (cmb T) : Int))) (N := 10) (ob := 48) (vl := iI 0) (by omega) an48 (fun a I ha => st48 (by omega))
  obtain ⟨I2, g1, g2, g3⟩ := fillI (J := J) (P := Pst b f) (I := I1) (N := 10) (ob := 49) (vl := iI 0) (by omega) an49 (fun a I ha => st49 (by omega))
  have a2 : Agr outR I I2 := (((Agr.refl _ I).hup (by omega)).trans (f2.sub fun o h => by omega)).trans (g2.sub fun o h => by omega)
  have h7 : I2 47 7 = iI (bt 10 (cmb T) : Int) := (g2 47 (by omega) 7).trans ((f2 47 (by omega) 7).trans (by simp [hup]))
  have r48 : row 48 (fun x y => anyb 0 (srcP T m B x y)) I2 := fun x hx => (g2 48 (by omega) x).trans ((f3 x hx).trans (by rw [sI_z]; rfl))
  have r49 : row 49 (fun x y => anyb 0 (evP T m B x y)) I2 := fun x hx => (g3 x hx).trans (by rw [sI_z]; rfl)
  have key := jheap (J := J) (P := Pst b f) (I := I2) (body := Rank_look_L27 S0 (some 47) (some (ct b)) (iI m) (iI (B : Int))) (fun k I' => Agr (fun o => o ≠ 48 ∧ o ≠ 49) I2 I' ∧ row 48 (fun x y => anyb k (srcP T m B x y)) I' ∧ row 49 (fun x y => anyb k (evP T m B x y)) I') 0 (nr T) ⟨Agr.refl _ _, r48, r49⟩ (by omega) (by omega) (fun k I3 _ hk q1 => ?_) (fun I3 q1 => ?_)
  · obtain ⟨I3, e1, e2, e3, e4⟩ := key
    have e1' : jloop (Rank_look_L27 S0 (some 47) (some (ct b)) (iI m) (iI (B : Int))) jN (iI 0, (I2, J, Pst b f)) = some (I3, J, Pst b f) := e1
    refine ⟨I3, ?_, a2.trans (e2.sub fun o h => by omega), (e2 47 (by omega) 7).trans h7, e3, e4⟩
    simp only [Rank_look, rc0, gi0, gl0, pi0, pl0, pz0, pr0, gr0_0, gr0_1, gr0_2, gr0_3, gr0_4, gr0_5, gr0_6, gr0_7, gr0_8, rc1, gi1, gl1, pi1, pl1, pz1, pr1, gr1_0, rc3, gi3, gl3, pi3, pl3, pz3, pr3, gr3_0, gr3_10, gr3_11, rc47, gi47, gl47, pi47, pl47, pz47, pr47, gr47_0, gr47_1, gr47_2, gr47_3, gr47_4, gr47_5, gr47_6, rc55, gi55, gl55, pi55, pl55, pz55, pr55, gr55_0, gr55_1, rc58, gi58, gl58, pi58, pl58, pz58, pr58, gr58_0, gr58_1, rc61, gi61, gl61, pi61, pl61, pz61, pr61, gr61_0, gr61_1, gr61_2, gr61_7, rc62, gi62, gl62, pi62, pl62, pz62, pr62, gr62_0, gr62_1, gr62_2, gr62_3, gr62_4, gr62_5, ld2, st2, an2, ld4, st4, an4, ld5, st5, an5, an6, ld48, st48, an48, ld49, st49, an49, ld50, st50, an50, ld51, st51, an51, ld52, st52, an52, ld53, st53, an53, ld54, st54, an54, ld56, st56, an56, ld57, st57, an57, ld59, st59, an59, ld60, st60, an60, ld63, st63, an63, ld64, st64, an64, ld65, st65, an65, ld66, st66, an66, ld67, st67, an67, ld68, st68, an68, ld69, st69, an69, ld70, st70, an70, rcct, gict, glct, pict, plct, pzct, prct, grct_0, grct_1, grct_2, grct_3, ldctm, stctm, anctm, ldctr, stctr, anctr, ldctp, stctp, anctp, anctR, rcru, giru, glru, piru, plru, pzru, prru, grru_7, ldcu, stcu, ancu, arct, ar6, rcro, giro, piro, pzro, grro_1, grro_2, grro_3, rcfo, gifo, pifo, pzfo, grfo_0, grfo_1, ldfop, stfop, anfop, ldfoe, stfoe, anfoe, Option.bind_some, if_true, if_false, eE.1.1, bcom10 vC, n_0, f1, g1, e1']
  · have a3 := a2.trans (q1.1.sub fun o h => by omega)
    obtain ⟨I4, e1, e2, e3⟩ := cl_look1 (J := J) (f := f) (E.agr V (a3.sub fun o h => by omega)) V hm hB ((q1.1 47 (by omega) 7).trans h7) hk q1.2.1 q1.2.2
    exact ⟨I4, e1, q1.1.trans e2, e3⟩
  · have a3 := a2.trans (q1.1.sub fun o h => by omega)
    have E1 := E.agr V (a3.sub fun o h => by omega)
    simp (maxSteps := 4000000) (disch := omega) only [Rank_look_L27, rc0, gi0, gl0, pi0, pl0, pz0, pr0, gr0_0, gr0_1, gr0_2, gr0_3, gr0_4, gr0_5, gr0_6, gr0_7, gr0_8, rc1, gi1, gl1, pi1, pl1, pz1, pr1, gr1_0, rc3, gi3, gl3, pi3, pl3, pz3, pr3, gr3_0, gr3_10, gr3_11, rc47, gi47, gl47, pi47, pl47, pz47, pr47, gr47_0, gr47_1, gr47_2, gr47_3, gr47_4, gr47_5, gr47_6, rc55, gi55, gl55, pi55, pl55, pz55, pr55, gr55_0, gr55_1, rc58, gi58, gl58, pi58, pl58, pz58, pr58, gr58_0, gr58_1, rc61, gi61, gl61, pi61, pl61, pz61, pr61, gr61_0, gr61_1, gr61_2, gr61_7, rc62, gi62, gl62, pi62, pl62, pz62, pr62, gr62_0, gr62_1, gr62_2, gr62_3, gr62_4, gr62_5, ld2, st2, an2, ld4, st4, an4, ld5, st5, an5, an6, ld48, st48, an48, ld49, st49, an49, ld50, st50, an50, ld51, st51, an51, ld52, st52, an52, ld53, st53, an53, ld54, st54, an54, ld56, st56, an56, ld57, st57, an57, ld59, st59, an59, ld60, st60, an60, ld63, st63, an63, ld64, st64, an64, ld65, st65, an65, ld66, st66, an66, ld67, st67, an67, ld68, st68, an68, ld69, st69, an69, ld70, st70, an70, rcct, gict, glct, pict, plct, pzct, prct, grct_0, grct_1, grct_2, grct_3, ldctm, stctm, anctm, ldctr, stctr, anctr, ldctp, stctp, anctp, anctR, rcru, giru, glru, piru, plru, pzru, prru, grru_7, ldcu, stcu, ancu, arct, ar6, rcro, giro, piro, pzro, grro_1, grro_2, grro_3, rcfo, gifo, pifo, pzfo, grfo_0, grfo_1, ldfop, stfop, anfop, ldfoe, stfoe, anfoe, Option.bind_some, if_true, if_false, n_0, n_1, n_2, n_3, n_4, n_5, n_6, n_7, n_8, n_9, n_10, n_12, n_15, n_20, n_24, n_32, n_48, n_57, n_59, n_80, n_97, n_99, n_100, n_122, n_680, n_700, n_999, n_1023, n_1024, iI_neg, iI_add, iI_sub, iI_lt, iI_le, iI_eq, E1.2.1.1.1.2.2, show T 0 4 ≤ (nr T : Int) by omega]
theorem cl_rank1 (E : EC T b I) (V : TV T) (hm : isM T m) : ∃ I', Fi_lookAtRank S0 (some 0) (iI m) (I, J, Pst b f) = some (iI 1, (I', J, Pst b f)) ∧ Agr outR I I' ∧ rkC T m 0 I' := by
  obtain ⟨⟨eA, eB⟩, ⟨eC, eD⟩, eE⟩ := id E
  obtain ⟨⟨vA, vB⟩, ⟨vC, vD⟩, vE, vF⟩ := id V
  have hB := vB.1
  obtain ⟨I1, a1, a2, a3⟩ := cl_look (J := J) (f := f) (m := m) (B := 0) E V (by omega) (by omega)
  rw [show ((0 : Nat) : Int) = 0 from rfl] at a1
  refine ⟨I1, ?_, a2, a3⟩
  simp (maxSteps := 4000000) (disch := omega) only [Fi_lookAtRank, rc0, gi0, gl0, pi0, pl0, pz0, pr0, gr0_0, gr0_1, gr0_2, gr0_3, gr0_4, gr0_5, gr0_6, gr0_7, gr0_8, rc1, gi1, gl1, pi1, pl1, pz1, pr1, gr1_0, rc3, gi3, gl3, pi3, pl3, pz3, pr3, gr3_0, gr3_10, gr3_11, rc47, gi47, gl47, pi47, pl47, pz47, pr47, gr47_0, gr47_1, gr47_2, gr47_3, gr47_4, gr47_5, gr47_6, rc55, gi55, gl55, pi55, pl55, pz55, pr55, gr55_0, gr55_1, rc58, gi58, gl58, pi58, pl58, pz58, pr58, gr58_0, gr58_1, rc61, gi61, gl61, pi61, pl61, pz61, pr61, gr61_0, gr61_1, gr61_2, gr61_7, rc62, gi62, gl62, pi62, pl62, pz62, pr62, gr62_0, gr62_1, gr62_2, gr62_3, gr62_4, gr62_5, ld2, st2, an2, ld4, st4, an4, ld5, st5, an5, an6, ld48, st48, an48, ld49, st49, an49, ld50, st50, an50, ld51, st51, an51, ld52, st52, an52, ld53, st53, an53, ld54, st54, an54, ld56, st56, an56, ld57, st57, an57, ld59, st59, an59, ld60, st60, an60, ld63, st63, an63, ld64, st64, an64, ld65, st65, an65, ld66, st66, an66, ld67, st67, an67, ld68, st68, an68, ld69, st69, an69, ld70, st70, an70, rcct, gict, glct, pict, plct, pzct, prct, grct_0, grct_1, grct_2, grct_3, ldctm, stctm, anctm, ldctr, stctr, anctr, ldctp, stctp, anctp, anctR, rcru, giru, glru, piru, plru, pzru, prru, grru_7, ldcu, stcu, ancu, arct, ar6, rcro, giro, piro, pzro, grro_1, grro_2, grro_3, rcfo, gifo, pifo, pzfo, grfo_0, grfo_1, ldfop, stfop, anfop, ldfoe, stfoe, anfoe, Option.bind_some, if_true, if_false, n_0, n_1, n_2, n_3, n_4, n_5, n_6, n_7, n_8, n_9, n_10, n_12, n_15, n_20, n_24, n_32, n_48, n_57, n_59, n_80, n_97, n_99, n_100, n_122, n_680, n_700, n_999, n_1023, n_1024, iI_neg, iI_add, iI_sub, cl_roomOrNull eB vB (show rg m by omega), iff_true_intro hm, reduceCtorEq, a1]
theorem cl_rank0 (E : EC T b I) (V : TV T) (hr : rg m) (hm : ¬ isM T m) : Fi_lookAtRank S0 (some 0) (iI m) (I, J, Pst b f) = some (iI 0, (I, J, Pst b f)) := by
  obtain ⟨⟨eA, eB⟩, ⟨eC, eD⟩, eE⟩ := id E
  obtain ⟨⟨vA, vB⟩, ⟨vC, vD⟩, vE, vF⟩ := id V
  simp (maxSteps := 4000000) (disch := omega) only [Fi_lookAtRank, rc0, gi0, gl0, pi0, pl0, pz0, pr0, gr0_0, gr0_1, gr0_2, gr0_3, gr0_4, gr0_5, gr0_6, gr0_7, gr0_8, rc1, gi1, gl1, pi1, pl1, pz1, pr1, gr1_0, rc3, gi3, gl3, pi3, pl3, pz3, pr3, gr3_0, gr3_10, gr3_11, rc47, gi47, gl47, pi47, pl47, pz47, pr47, gr47_0, gr47_1, gr47_2, gr47_3, gr47_4, gr47_5, gr47_6, rc55, gi55, gl55, pi55, pl55, pz55, pr55, gr55_0, gr55_1, rc58, gi58, gl58, pi58, pl58, pz58, pr58, gr58_0, gr58_1, rc61, gi61, gl61, pi61, pl61, pz61, pr61, gr61_0, gr61_1, gr61_2, gr61_7, rc62, gi62, gl62, pi62, pl62, pz62, pr62, gr62_0, gr62_1, gr62_2, gr62_3, gr62_4, gr62_5, ld2, st2, an2, ld4, st4, an4, ld5, st5, an5, an6, ld48, st48, an48, ld49, st49, an49, ld50, st50, an50, ld51, st51, an51, ld52, st52, an52, ld53, st53, an53, ld54, st54, an54, ld56, st56, an56, ld57, st57, an57, ld59, st59, an59, ld60, st60, an60, ld63, st63, an63, ld64, st64, an64, ld65, st65, an65, ld66, st66, an66, ld67, st67, an67, ld68, st68, an68, ld69, st69, an69, ld70, st70, an70, rcct, gict, glct, pict, plct, pzct, prct, grct_0, grct_1, grct_2, grct_3, ldctm, stctm, anctm, ldctr, stctr, anctr, ldctp, stctp, anctp, anctR, rcru, giru, glru, piru, plru, pzru, prru, grru_7, ldcu, stcu, ancu, arct, ar6, rcro, giro, piro, pzro, grro_1, grro_2, grro_3, rcfo, gifo, pifo, pzfo, grfo_0, grfo_1, ldfop, stfop, anfop, ldfoe, stfoe, anfoe, Option.bind_some, if_true, if_false, n_0, n_1, n_2, n_3, n_4, n_5, n_6, n_7, n_8, n_9, n_10, n_12, n_15, n_20, n_24, n_32, n_48, n_57, n_59, n_80, n_97, n_99, n_100, n_122, n_680, n_700, n_999, n_1023, n_1024, iI_neg, iI_add, iI_sub, cl_roomOrNull eB vB hr, iff_false_intro hm]
end
