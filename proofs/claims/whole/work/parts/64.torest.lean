/-! ===== layer 2: toRest, class's side ===== -/
section
variable {T : Tb} {I I' I'' : Nat → Nat → Int32} {J : Nat → Nat → Int64} {b : Bool} {f k n B : Nat} {P : Nat → Nat → Option Nat} {m w c c1 c2 : Int} {x y z g r h R C q j : Nat} {A : Nat → Nat → Bool} {W : Nat → Bool} {v : Int32}
theorem pow_nr (ht : tvC T) : 2 ^ nr T ≤ 4096 := by
  have h0 := ht.1
  have h1 := nrI ht
  exact Nat.pow_le_pow_right (n := 2) (j := 12) (by decide) (by omega)
theorem cl_weightOf (hc : cC T b I) (hd : cD T b I) (ht : tvC T) (hv : tvD T) (hB : h < 4096) : Court_weightOf S0 (some (ct b)) (iI (h : Int)) (I, J, Pst b f) = some (iI (wof T h)) := by
  have h0 := ht.1
  have h1 := nrI ht
  have e := jgather (body := Court_weightOf_L4 S0 (some (ct b)) (iI (h : Int)) (I, J, Pst b f)) (fun k => iI (wsm T h k)) (nr T) (fun k hk => ?_) ?_ (by omega)
  · have e' : jloop (Court_weightOf_L4 S0 (some (ct b)) (iI (h : Int)) (I, J, Pst b f)) jN (iI 0, iI 0) = some (iI (wof T h)) := e
    simp only [Court_weightOf, rc0, gi0, gl0, pi0, pl0, pz0, pr0, gr0_0, gr0_1, gr0_2, gr0_3, gr0_4, gr0_5, gr0_6, gr0_7, gr0_8, rc1, gi1, gl1, pi1, pl1, pz1, pr1, gr1_0, rc3, gi3, gl3, pi3, pl3, pz3, pr3, gr3_0, gr3_10, gr3_11, rc47, gi47, gl47, pi47, pl47, pz47, pr47, gr47_0, gr47_1, gr47_2, gr47_3, gr47_4, gr47_5, gr47_6, rc55, gi55, gl55, pi55, pl55, pz55, pr55, gr55_0, gr55_1, rc58, gi58, gl58, pi58, pl58, pz58, pr58, gr58_0, gr58_1, rc61, gi61, gl61, pi61, pl61, pz61, pr61, gr61_0, gr61_1, gr61_2, gr61_7, rc62, gi62, gl62, pi62, pl62, pz62, pr62, gr62_0, gr62_1, gr62_2, gr62_3, gr62_4, gr62_5, ld2, st2, an2, ld4, st4, an4, ld5, st5, an5, an6, ld48, st48, an48, ld49, st49, an49, ld50, st50, an50, ld51, st51, an51, ld52, st52, an52, ld53, st53, an53, ld54, st54, an54, ld56, st56, an56, ld57, st57, an57, ld59, st59, an59, ld60, st60, an60, ld63, st63, an63, ld64, st64, an64, ld65, st65, an65, ld66, st66, an66, ld67, st67, an67, ld68, st68, an68, ld69, st69, an69, ld70, st70, an70, rcct, gict, glct, pict, plct, pzct, prct, grct_0, grct_1, grct_2, grct_3, ldctm, stctm, anctm, ldctr, stctr, anctr, ldctp, stctp, anctp, anctR, rcru, giru, glru, piru, plru, pzru, prru, grru_7, ldcu, stcu, ancu, arct, ar6, rcro, giro, piro, pzro, grro_1, grro_2, grro_3, rcfo, gifo, pifo, pzfo, grfo_0, grfo_1, ldfop, stfop, anfop, ldfoe, stfoe, anfoe, Option.bind_some, if_true, if_false, n_0, e']
  · have hk' : (k : Int) < T 0 4 := by omega
    have d4 := (hd k hk').2.2.2.1
    have hh := hasI h (k : Int) (by omega) (by omega)
    rw [Int.toNat_natCast] at hh
    simp (maxSteps := 4000000) (disch := omega) only [Court_weightOf_L4, rc0, gi0, gl0, pi0, pl0, pz0, pr0, gr0_0, gr0_1, gr0_2, gr0_3, gr0_4, gr0_5, gr0_6, gr0_7, gr0_8, rc1, gi1, gl1, pi1, pl1, pz1, pr1, gr1_0, rc3, gi3, gl3, pi3, pl3, pz3, pr3, gr3_0, gr3_10, gr3_11, rc47, gi47, gl47, pi47, pl47, pz47, pr47, gr47_0, gr47_1, gr47_2, gr47_3, gr47_4, gr47_5, gr47_6, rc55, gi55, gl55, pi55, pl55, pz55, pr55, gr55_0, gr55_1, rc58, gi58, gl58, pi58, pl58, pz58, pr58, gr58_0, gr58_1, rc61, gi61, gl61, pi61, pl61, pz61, pr61, gr61_0, gr61_1, gr61_2, gr61_7, rc62, gi62, gl62, pi62, pl62, pz62, pr62, gr62_0, gr62_1, gr62_2, gr62_3, gr62_4, gr62_5, ld2, st2, an2, ld4, st4, an4, ld5, st5, an5, an6, ld48, st48, an48, ld49, st49, an49, ld50, st50, an50, ld51, st51, an51, ld52, st52, an52, ld53, st53, an53, ld54, st54, an54, ld56, st56, an56, ld57, st57, an57, ld59, st59, an59, ld60, st60, an60, ld63, st63, an63, ld64, st64, an64, ld65, st65, an65, ld66, st66, an66, ld67, st67, an67, ld68, st68, an68, ld69, st69, an69, ld70, st70, an70, rcct, gict, glct, pict, plct, pzct, prct, grct_0, grct_1, grct_2, grct_3, ldctm, stctm, anctm, ldctr, stctr, anctr, ldctp, stctp, anctp, anctR, rcru, giru, glru, piru, plru, pzru, prru, grru_7, ldcu, stcu, ancu, arct, ar6, rcro, giro, piro, pzro, grro_1, grro_2, grro_3, rcfo, gifo, pifo, pzfo, grfo_0, grfo_1, ldfop, stfop, anfop, ldfoe, stfoe, anfoe, Option.bind_some, if_true, if_false, n_0, n_1, n_2, n_3, n_4, n_5, n_6, n_7, n_8, n_9, n_10, n_12, n_15, n_20, n_24, n_32, n_48, n_57, n_59, n_80, n_97, n_99, n_100, n_122, n_680, n_700, n_999, n_1023, n_1024, iI_neg, iI_add, iI_sub, iI_lt, iI_le, iI_eq, hc.1.2.2, show ¬ T 0 4 ≤ (k : Int) by omega, show ¬ (12 : Int) ≤ (k : Int) by omega, hh, bI_0, Int.toNat_natCast, d4]
    show _ = some (Sum.inl (iI (wsm T h k + (if h.testBit k = true then T 8 k else 0)), iI ((k : Int) + 1)))
    cases e1 : h.testBit k
    · simp only [Option.bind_some, if_true, if_false, Bool.false_eq_true]
    · simp only [Option.bind_some, if_true, if_false, Bool.true_eq_false]
  · simp (maxSteps := 4000000) (disch := omega) only [Court_weightOf_L4, rc0, gi0, gl0, pi0, pl0, pz0, pr0, gr0_0, gr0_1, gr0_2, gr0_3, gr0_4, gr0_5, gr0_6, gr0_7, gr0_8, rc1, gi1, gl1, pi1, pl1, pz1, pr1, gr1_0, rc3, gi3, gl3, pi3, pl3, pz3, pr3, gr3_0, gr3_10, gr3_11, rc47, gi47, gl47, pi47, pl47, pz47, pr47, gr47_0, gr47_1, gr47_2, gr47_3, gr47_4, gr47_5, gr47_6, rc55, gi55, gl55, pi55, pl55, pz55, pr55, gr55_0, gr55_1, rc58, gi58, gl58, pi58, pl58, pz58, pr58, gr58_0, gr58_1, rc61, gi61, gl61, pi61, pl61, pz61, pr61, gr61_0, gr61_1, gr61_2, gr61_7, rc62, gi62, gl62, pi62, pl62, pz62, pr62, gr62_0, gr62_1, gr62_2, gr62_3, gr62_4, gr62_5, ld2, st2, an2, ld4, st4, an4, ld5, st5, an5, an6, ld48, st48, an48, ld49, st49, an49, ld50, st50, an50, ld51, st51, an51, ld52, st52, an52, ld53, st53, an53, ld54, st54, an54, ld56, st56, an56, ld57, st57, an57, ld59, st59, an59, ld60, st60, an60, ld63, st63, an63, ld64, st64, an64, ld65, st65, an65, ld66, st66, an66, ld67, st67, an67, ld68, st68, an68, ld69, st69, an69, ld70, st70, an70, rcct, gict, glct, pict, plct, pzct, prct, grct_0, grct_1, grct_2, grct_3, ldctm, stctm, anctm, ldctr, stctr, anctr, ldctp, stctp, anctp, anctR, rcru, giru, glru, piru, plru, pzru, prru, grru_7, ldcu, stcu, ancu, arct, ar6, rcro, giro, piro, pzro, grro_1, grro_2, grro_3, rcfo, gifo, pifo, pzfo, grfo_0, grfo_1, ldfop, stfop, anfop, ldfoe, stfoe, anfoe, Option.bind_some, if_true, if_false, n_0, n_1, n_2, n_3, n_4, n_5, n_6, n_7, n_8, n_9, n_10, n_12, n_15, n_20, n_24, n_32, n_48, n_57, n_59, n_80, n_97, n_99, n_100, n_122, n_680, n_700, n_999, n_1023, n_1024, iI_neg, iI_add, iI_sub, iI_lt, iI_le, iI_eq, hc.1.2.2, show T 0 4 ≤ (nr T : Int) by omega]
theorem cl_hasCouple (hd : cD T b I) (ht : tvC T) (hr : (r : Int) < T 0 4) : Rule_hasCoupleOf S0 (some (ru b r)) (iI (bt 10 (cmb T) : Int)) (I, J, Pst b f) = some (bI (hcp T r)) := by
  have h0 := ht.1
  have d8 := (hd r hr).2.2.2.2.2.2.2
  have e := jsearch (body := Rule_hasCoupleOf_L2 S0 (some (ru b r)) (iI (bt 10 (cmb T) : Int)) (I, J, Pst b f)) 10 (fun x => cmb T x && anyb 10 (fun y => cpl T r x y && cmb T y)) (fun _ => iI 1) (fun k hk => ?_) ?_ (by omega)
  · simp (maxSteps := 4000000) (disch := omega) only [Rule_hasCoupleOf, rc0, gi0, gl0, pi0, pl0, pz0, pr0, gr0_0, gr0_1, gr0_2, gr0_3, gr0_4, gr0_5, gr0_6, gr0_7, gr0_8, rc1, gi1, gl1, pi1, pl1, pz1, pr1, gr1_0, rc3, gi3, gl3, pi3, pl3, pz3, pr3, gr3_0, gr3_10, gr3_11, rc47, gi47, gl47, pi47, pl47, pz47, pr47, gr47_0, gr47_1, gr47_2, gr47_3, gr47_4, gr47_5, gr47_6, rc55, gi55, gl55, pi55, pl55, pz55, pr55, gr55_0, gr55_1, rc58, gi58, gl58, pi58, pl58, pz58, pr58, gr58_0, gr58_1, rc61, gi61, gl61, pi61, pl61, pz61, pr61, gr61_0, gr61_1, gr61_2, gr61_7, rc62, gi62, gl62, pi62, pl62, pz62, pr62, gr62_0, gr62_1, gr62_2, gr62_3, gr62_4, gr62_5, ld2, st2, an2, ld4, st4, an4, ld5, st5, an5, an6, ld48, st48, an48, ld49, st49, an49, ld50, st50, an50, ld51, st51, an51, ld52, st52, an52, ld53, st53, an53, ld54, st54, an54, ld56, st56, an56, ld57, st57, an57, ld59, st59, an59, ld60, st60, an60, ld63, st63, an63, ld64, st64, an64, ld65, st65, an65, ld66, st66, an66, ld67, st67, an67, ld68, st68, an68, ld69, st69, an69, ld70, st70, an70, rcct, gict, glct, pict, plct, pzct, prct, grct_0, grct_1, grct_2, grct_3, ldctm, stctm, anctm, ldctr, stctr, anctr, ldctp, stctp, anctp, anctR, rcru, giru, glru, piru, plru, pzru, prru, grru_7, ldcu, stcu, ancu, arct, ar6, rcro, giro, piro, pzro, grro_1, grro_2, grro_3, rcfo, gifo, pifo, pzfo, grfo_0, grfo_1, ldfop, stfop, anfop, ldfoe, stfoe, anfoe, Option.bind_some, if_true, if_false, n_0, n_1, e]
    cases z : hcp T r
    · have : ¬ fst_ 10 (fun x => cmb T x && anyb 10 (fun y => cpl T r x y && cmb T y)) < 10 := fun q => by
        have := fst_any.mp q
        rw [show anyb 10 (fun x => cmb T x && anyb 10 (fun y => cpl T r x y && cmb T y)) = false from z] at this
        cases this
      rw [if_neg this]; rfl
    · rw [if_pos (fst_any.mpr z)]; rfl
  · simp (maxSteps := 4000000) (disch := omega) only [Rule_hasCoupleOf_L2, rc0, gi0, gl0, pi0, pl0, pz0, pr0, gr0_0, gr0_1, gr0_2, gr0_3, gr0_4, gr0_5, gr0_6, gr0_7, gr0_8, rc1, gi1, gl1, pi1, pl1, pz1, pr1, gr1_0, rc3, gi3, gl3, pi3, pl3, pz3, pr3, gr3_0, gr3_10, gr3_11, rc47, gi47, gl47, pi47, pl47, pz47, pr47, gr47_0, gr47_1, gr47_2, gr47_3, gr47_4, gr47_5, gr47_6, rc55, gi55, gl55, pi55, pl55, pz55, pr55, gr55_0, gr55_1, rc58, gi58, gl58, pi58, pl58, pz58, pr58, gr58_0, gr58_1, rc61, gi61, gl61, pi61, pl61, pz61, pr61, gr61_0, gr61_1, gr61_2, gr61_7, rc62, gi62, gl62, pi62, pl62, pz62, pr62, gr62_0, gr62_1, gr62_2, gr62_3, gr62_4, gr62_5, ld2, st2, an2, ld4, st4, an4, ld5, st5, an5, an6, ld48, st48, an48, ld49, st49, an49, ld50, st50, an50, ld51, st51, an51, ld52, st52, an52, ld53, st53, an53, ld54, st54, an54, ld56, st56, an56, ld57, st57, an57, ld59, st59, an59, ld60, st60, an60, ld63, st63, an63, ld64, st64, an64, ld65, st65, an65, ld66, st66, an66, ld67, st67, an67, ld68, st68, an68, ld69, st69, an69, ld70, st70, an70, rcct, gict, glct, pict, plct, pzct, prct, grct_0, grct_1, grct_2, grct_3, ldctm, stctm, anctm, ldctr, stctr, anctr, ldctp, stctp, anctp, anctR, rcru, giru, glru, piru, plru, pzru, prru, grru_7, ldcu, stcu, ancu, arct, ar6, rcro, giro, piro, pzro, grro_1, grro_2, grro_3, rcfo, gifo, pifo, pzfo, grfo_0, grfo_1, ldfop, stfop, anfop, ldfoe, stfoe, anfoe, Option.bind_some, if_true, if_false, n_0, n_1, n_2, n_3, n_4, n_5, n_6, n_7, n_8, n_9, n_10, n_12, n_15, n_20, n_24, n_32, n_48, n_57, n_59, n_80, n_97, n_99, n_100, n_122, n_680, n_700, n_999, n_1023, n_1024, iI_neg, iI_add, iI_sub, iI_lt, iI_le, iI_eq, show ¬ (10 : Int) ≤ (k : Int) by omega, bt10_has hk, bI_0, Int.toNat_natCast, d8 k hk, sI_and, sI_0]
    cases cmb T k
    · rfl
    · cases anyb 10 (fun y => cpl T r k y && cmb T y) <;> rfl
  · simp (maxSteps := 4000000) (disch := omega) only [Rule_hasCoupleOf_L2, Option.bind_some, if_true, if_false, n_0, n_1, n_2, n_3, n_4, n_5, n_6, n_7, n_8, n_9, n_10, n_12, n_15, n_20, n_24, n_32, n_48, n_57, n_59, n_80, n_97, n_99, n_100, n_122, n_680, n_700, n_999, n_1023, n_1024, iI_neg, iI_add, iI_sub, iI_lt, iI_le, iI_eq, show (10 : Int) ≤ ((10 : Nat) : Int) by omega]
theorem cl_ranking (hc : cC T b I) (hd : cD T b I) (he : cE T b I) (ht : tvC T) (hv : tvD T) (hm : 0 ≤ m ∧ m < 4) : Court_rankingRules S0 (some (ct b)) (iI m) (I, J, Pst b f) = some (iI (RR T m : Int)) := by
  have h0 := ht.1
  have h1 := nrI ht
  have e := jgather (body := Court_rankingRules_L4 S0 (some (ct b)) (iI m) (I, J, Pst b f)) (fun k => iI (bt k (rkr T m) : Int)) (nr T) (fun k hk => ?_) ?_ (by omega)
  · have e' : jloop (Court_rankingRules_L4 S0 (some (ct b)) (iI m) (I, J, Pst b f)) jN (iI 0, iI 0) = some (iI (RR T m : Int)) := e
    simp only [Court_rankingRules, rc0, gi0, gl0, pi0, pl0, pz0, pr0, gr0_0, gr0_1, gr0_2, gr0_3, gr0_4, gr0_5, gr0_6, gr0_7, gr0_8, rc1, gi1, gl1, pi1, pl1, pz1, pr1, gr1_0, rc3, gi3, gl3, pi3, pl3, pz3, pr3, gr3_0, gr3_10, gr3_11, rc47, gi47, gl47, pi47, pl47, pz47, pr47, gr47_0, gr47_1, gr47_2, gr47_3, gr47_4, gr47_5, gr47_6, rc55, gi55, gl55, pi55, pl55, pz55, pr55, gr55_0, gr55_1, rc58, gi58, gl58, pi58, pl58, pz58, pr58, gr58_0, gr58_1, rc61, gi61, gl61, pi61, pl61, pz61, pr61, gr61_0, gr61_1, gr61_2, gr61_7, rc62, gi62, gl62, pi62, pl62, pz62, pr62, gr62_0, gr62_1, gr62_2, gr62_3, gr62_4, gr62_5, ld2, st2, an2, ld4, st4, an4, ld5, st5, an5, an6, ld48, st48, an48, ld49, st49, an49, ld50, st50, an50, ld51, st51, an51, ld52, st52, an52, ld53, st53, an53, ld54, st54, an54, ld56, st56, an56, ld57, st57, an57, ld59, st59, an59, ld60, st60, an60, ld63, st63, an63, ld64, st64, an64, ld65, st65, an65, ld66, st66, an66, ld67, st67, an67, ld68, st68, an68, ld69, st69, an69, ld70, st70, an70, rcct, gict, glct, pict, plct, pzct, prct, grct_0, grct_1, grct_2, grct_3, ldctm, stctm, anctm, ldctr, stctr, anctr, ldctp, stctp, anctp, anctR, rcru, giru, glru, piru, plru, pzru, prru, grru_7, ldcu, stcu, ancu, arct, ar6, rcro, giro, piro, pzro, grro_1, grro_2, grro_3, rcfo, gifo, pifo, pzfo, grfo_0, grfo_1, ldfop, stfop, anfop, ldfoe, stfoe, anfoe, Option.bind_some, if_true, if_false, n_0, e']
  · have hk' : (k : Int) < T 0 4 := by omega
    have d1 := (hd k hk').1
    have v1 := (hv k hk').1
    have e7 := he.1.1
    rw [bcom10 ht] at e7
    simp (maxSteps := 4000000) (disch := omega) only [Court_rankingRules_L4, rc0, gi0, gl0, pi0, pl0, pz0, pr0, gr0_0, gr0_1, gr0_2, gr0_3, gr0_4, gr0_5, gr0_6, gr0_7, gr0_8, rc1, gi1, gl1, pi1, pl1, pz1, pr1, gr1_0, rc3, gi3, gl3, pi3, pl3, pz3, pr3, gr3_0, gr3_10, gr3_11, rc47, gi47, gl47, pi47, pl47, pz47, pr47, gr47_0, gr47_1, gr47_2, gr47_3, gr47_4, gr47_5, gr47_6, rc55, gi55, gl55, pi55, pl55, pz55, pr55, gr55_0, gr55_1, rc58, gi58, gl58, pi58, pl58, pz58, pr58, gr58_0, gr58_1, rc61, gi61, gl61, pi61, pl61, pz61, pr61, gr61_0, gr61_1, gr61_2, gr61_7, rc62, gi62, gl62, pi62, pl62, pz62, pr62, gr62_0, gr62_1, gr62_2, gr62_3, gr62_4, gr62_5, ld2, st2, an2, ld4, st4, an4, ld5, st5, an5, an6, ld48, st48, an48, ld49, st49, an49, ld50, st50, an50, ld51, st51, an51, ld52, st52, an52, ld53, st53, an53, ld54, st54, an54, ld56, st56, an56, ld57, st57, an57, ld59, st59, an59, ld60, st60, an60, ld63, st63, an63, ld64, st64, an64, ld65, st65, an65, ld66, st66, an66, ld67, st67, an67, ld68, st68, an68, ld69, st69, an69, ld70, st70, an70, rcct, gict, glct, pict, plct, pzct, prct, grct_0, grct_1, grct_2, grct_3, ldctm, stctm, anctm, ldctr, stctr, anctr, ldctp, stctp, anctp, anctR, rcru, giru, glru, piru, plru, pzru, prru, grru_7, ldcu, stcu, ancu, arct, ar6, rcro, giro, piro, pzro, grro_1, grro_2, grro_3, rcfo, gifo, pifo, pzfo, grfo_0, grfo_1, ldfop, stfop, anfop, ldfoe, stfoe, anfoe, Option.bind_some, if_true, if_false, n_0, n_1, n_2, n_3, n_4, n_5, n_6, n_7, n_8, n_9, n_10, n_12, n_15, n_20, n_24, n_32, n_48, n_57, n_59, n_80, n_97, n_99, n_100, n_122, n_680, n_700, n_999, n_1023, n_1024, iI_neg, iI_add, iI_sub, iI_lt, iI_le, iI_eq, hc.1.2.2, show ¬ T 0 4 ≤ (k : Int) by omega, show ¬ (12 : Int) ≤ (k : Int) by omega, Int.toNat_natCast, d1, cl_countsIn hd ht hv hk' hm, e7, cl_hasCouple hd ht hk', bI_0, oneI', nI_or]
    by_cases z1 : T 5 k = 0
    · cases z2 : ctn T m k
      · rw [← bt_0 (k := k) (p := rkr T m) (by simp [rkr, z2])]
        simp only [z1, Option.bind_some, if_true, if_false]
      · cases z3 : hcp T k
        · rw [← bt_0 (k := k) (p := rkr T m) (by simp [rkr, z3])]
          simp only [z1, Bool.true_eq_false, Option.bind_some, if_true, if_false]
        · rw [← bt_s (k := k) (p := rkr T m) (by simp [rkr, z1, z2, z3])]
          simp only [z1, Bool.true_eq_false, Option.bind_some, if_true, if_false]
    · rw [← bt_0 (k := k) (p := rkr T m) (by simp [rkr, z1])]
      simp only [z1, Option.bind_some, if_true, if_false]
  · simp (maxSteps := 4000000) (disch := omega) only [Court_rankingRules_L4, rc0, gi0, gl0, pi0, pl0, pz0, pr0, gr0_0, gr0_1, gr0_2, gr0_3, gr0_4, gr0_5, gr0_6, gr0_7, gr0_8, rc1, gi1, gl1, pi1, pl1, pz1, pr1, gr1_0, rc3, gi3, gl3, pi3, pl3, pz3, pr3, gr3_0, gr3_10, gr3_11, rc47, gi47, gl47, pi47, pl47, pz47, pr47, gr47_0, gr47_1, gr47_2, gr47_3, gr47_4, gr47_5, gr47_6, rc55, gi55, gl55, pi55, pl55, pz55, pr55, gr55_0, gr55_1, rc58, gi58, gl58, pi58, pl58, pz58, pr58, gr58_0, gr58_1, rc61, gi61, gl61, pi61, pl61, pz61, pr61, gr61_0, gr61_1, gr61_2, gr61_7, rc62, gi62, gl62, pi62, pl62, pz62, pr62, gr62_0, gr62_1, gr62_2, gr62_3, gr62_4, gr62_5, ld2, st2, an2, ld4, st4, an4, ld5, st5, an5, an6, ld48, st48, an48, ld49, st49, an49, ld50, st50, an50, ld51, st51, an51, ld52, st52, an52, ld53, st53, an53, ld54, st54, an54, ld56, st56, an56, ld57, st57, an57, ld59, st59, an59, ld60, st60, an60, ld63, st63, an63, ld64, st64, an64, ld65, st65, an65, ld66, st66, an66, ld67, st67, an67, ld68, st68, an68, ld69, st69, an69, ld70, st70, an70, rcct, gict, glct, pict, plct, pzct, prct, grct_0, grct_1, grct_2, grct_3, ldctm, stctm, anctm, ldctr, stctr, anctr, ldctp, stctp, anctp, anctR, rcru, giru, glru, piru, plru, pzru, prru, grru_7, ldcu, stcu, ancu, arct, ar6, rcro, giro, piro, pzro, grro_1, grro_2, grro_3, rcfo, gifo, pifo, pzfo, grfo_0, grfo_1, ldfop, stfop, anfop, ldfoe, stfoe, anfoe, Option.bind_some, if_true, if_false, n_0, n_1, n_2, n_3, n_4, n_5, n_6, n_7, n_8, n_9, n_10, n_12, n_15, n_20, n_24, n_32, n_48, n_57, n_59, n_80, n_97, n_99, n_100, n_122, n_680, n_700, n_999, n_1023, n_1024, iI_neg, iI_add, iI_sub, iI_lt, iI_le, iI_eq, hc.1.2.2, show T 0 4 ≤ (nr T : Int) by omega]
theorem sbsI (h1 : h < 4096) (h2 : R < 4096) : (iI (h : Int) &&& (iI (R : Int) ^^^ iI (-1)) = iI 0) = sbs h R := by
  have hx : h ^^^ (h &&& R) < 2 ^ 12 := Nat.xor_lt_two_pow h1 (Nat.lt_of_le_of_lt Nat.and_le_left h1)
  rw [nI_andn, iI_eq (by omega)]
  refine propext ⟨fun e k hk => ?_, fun e => ?_⟩
  · have e2 : h ^^^ (h &&& R) = 0 := by omega
    have := congrArg (fun z => Nat.testBit z k) e2
    simp only [Nat.testBit_xor, Nat.testBit_and, hk, Nat.zero_testBit] at this
    cases e3 : R.testBit k
    · rw [e3] at this; simp at this
    · rfl
  · have e2 : h ^^^ (h &&& R) = 0 := Nat.eq_of_testBit_eq fun k => by
      rw [Nat.testBit_xor, Nat.testBit_and, Nat.zero_testBit]
      cases e3 : h.testBit k
      · rfl
      · rw [e k e3]; rfl
    omega
theorem cl_without (E : EC T b I) (V : TV T) (hm : 0 ≤ m ∧ m < 4) (hB : h < 4096) : ∃ I', Rank_isRinglessWithout S0 (some 47) (some (ct b)) (iI m) (iI (h : Int)) (I, J, Pst b f) = some (bI (acy (abv T m h)), (I', J, Pst b f)) ∧ Agr outR I I' := by
  obtain ⟨I1, a1, a2, a3⟩ := cl_look (J := J) (f := f) E V hm hB
  have hr := cl_ringless (J := J) (b := b) (f := f) a3.2.1 a3.1 (fun x y hxy => (abv_ng V.2.1.1 V.2.1.2 hxy).1.2)
  refine ⟨I1, ?_, a2⟩
  simp only [Rank_isRinglessWithout, rc0, gi0, gl0, pi0, pl0, pz0, pr0, gr0_0, gr0_1, gr0_2, gr0_3, gr0_4, gr0_5, gr0_6, gr0_7, gr0_8, rc1, gi1, gl1, pi1, pl1, pz1, pr1, gr1_0, rc3, gi3, gl3, pi3, pl3, pz3, pr3, gr3_0, gr3_10, gr3_11, rc47, gi47, gl47, pi47, pl47, pz47, pr47, gr47_0, gr47_1, gr47_2, gr47_3, gr47_4, gr47_5, gr47_6, rc55, gi55, gl55, pi55, pl55, pz55, pr55, gr55_0, gr55_1, rc58, gi58, gl58, pi58, pl58, pz58, pr58, gr58_0, gr58_1, rc61, gi61, gl61, pi61, pl61, pz61, pr61, gr61_0, gr61_1, gr61_2, gr61_7, rc62, gi62, gl62, pi62, pl62, pz62, pr62, gr62_0, gr62_1, gr62_2, gr62_3, gr62_4, gr62_5, ld2, st2, an2, ld4, st4, an4, ld5, st5, an5, an6, ld48, st48, an48, ld49, st49, an49, ld50, st50, an50, ld51, st51, an51, ld52, st52, an52, ld53, st53, an53, ld54, st54, an54, ld56, st56, an56, ld57, st57, an57, ld59, st59, an59, ld60, st60, an60, ld63, st63, an63, ld64, st64, an64, ld65, st65, an65, ld66, st66, an66, ld67, st67, an67, ld68, st68, an68, ld69, st69, an69, ld70, st70, an70, rcct, gict, glct, pict, plct, pzct, prct, grct_0, grct_1, grct_2, grct_3, ldctm, stctm, anctm, ldctr, stctr, anctr, ldctp, stctp, anctp, anctR, rcru, giru, glru, piru, plru, pzru, prru, grru_7, ldcu, stcu, ancu, arct, ar6, rcro, giro, piro, pzro, grro_1, grro_2, grro_3, rcfo, gifo, pifo, pzfo, grfo_0, grfo_1, ldfop, stfop, anfop, ldfoe, stfoe, anfoe, Option.bind_some, if_true, if_false, a1, hr, n_1, bI_and1]
theorem lb_lt (hR : okr T m R) (hq : R < 2 ^ nr T) : lb T m R h < 2 ^ nr T := by
  have h1 := (lb_is hR h).1.1
  rcases Nat.lt_or_ge (lb T m R h) (2 ^ nr T) with z | z
  · exact z
  · obtain ⟨i, hi, h2⟩ := Nat.exists_ge_and_testBit_of_ge_two_pow z
    have := tb_lt hq (h1 i h2)
    omega
theorem lb_zero (ht : tvC T) (hv : tvD T) (hR : okr T m R) (hq : R < 2 ^ nr T) (h0 : wof T (lb T m R h) ≤ 0) : lb T m R h = 0 := by
  apply Classical.byContradiction
  intro hne
  have h1 := wof_lt (h := 0) (R := lb T m R h) ht hv (fun k hk => by rw [Nat.zero_testBit] at hk; cases hk) (lb_lt hR hq) (fun e => hne e.symm)
  have := wof_rg (h := 0) ht hv
  omega
theorem i10 : ¬ iI 1 = iI 0 := by decide
theorem bet_t {α : Type} (e : bet T h q) (u v : Option α) {d1 : Decidable (wof T h < wof T q)} {d2 : Decidable (wof T h = wof T q)} {d3 : Decidable ((cnt 12 q.testBit : Int) ≤ (cnt 12 h.testBit : Int))} {d4 : Decidable ((@ite _ ((cnt 12 q.testBit : Int) ≤ (cnt 12 h.testBit : Int)) d3 (iI 0) (iI 1)) = iI 0)} {d5 : ∀ j : Int32, Decidable (j = iI 0)} : (@ite (Option Int32) _ d1 (some (iI 1)) (@ite _ _ d2 (@ite _ ((@ite _ ((cnt 12 q.testBit : Int) ≤ (cnt 12 h.testBit : Int)) d3 (iI 0) (iI 1)) = iI 0) d4 (some (iI 0)) (some (iI 1))) (some (iI 0)))).bind (fun j => @ite _ (j = iI 0) (d5 j) u v) = v := by
  unfold bet at e
  have h10 := i10
  rcases e with z | ⟨z1, z2⟩
  · rw [if_pos z, Option.bind_some, if_neg h10]
  · have h3 : (@ite _ ((cnt 12 q.testBit : Int) ≤ (cnt 12 h.testBit : Int)) d3 (iI 0) (iI 1)) = iI 1 := if_neg (by omega)
    rw [if_neg (by omega), if_pos z1, if_neg (by rw [h3]; exact h10), Option.bind_some, if_neg h10]
theorem bet_f {α : Type} (e : ¬ bet T h q) (u : Option α) (v : Option α) {d1 : Decidable (wof T h < wof T q)} {d2 : Decidable (wof T h = wof T q)} {d3 : Decidable ((cnt 12 q.testBit : Int) ≤ (cnt 12 h.testBit : Int))} {d4 : Decidable ((@ite _ ((cnt 12 q.testBit : Int) ≤ (cnt 12 h.testBit : Int)) d3 (iI 0) (iI 1)) = iI 0)} {d5 : ∀ j : Int32, Decidable (j = iI 0)} : (@ite (Option Int32) _ d1 (some (iI 1)) (@ite _ _ d2 (@ite _ ((@ite _ ((cnt 12 q.testBit : Int) ≤ (cnt 12 h.testBit : Int)) d3 (iI 0) (iI 1)) = iI 0) d4 (some (iI 0)) (some (iI 1))) (some (iI 0)))).bind (fun j => @ite _ (j = iI 0) (d5 j) u v) = u := by
  unfold bet at e
  by_cases z : wof T h = wof T q
  · have h3 : (@ite _ ((cnt 12 q.testBit : Int) ≤ (cnt 12 h.testBit : Int)) d3 (iI 0) (iI 1)) = iI 0 := if_pos (by omega)
    rw [if_neg (by omega), if_pos z, if_pos h3, Option.bind_some, if_pos rfl]
  · rw [if_neg (by omega), if_neg z, Option.bind_some, if_pos rfl]
theorem cl_lightest (E : EC T b I) (V : TV T) (hm : 0 ≤ m ∧ m < 4) : ∃ I', Rank_lightestToRest S0 (some 47) (some (ct b)) (iI m) (I, J, Pst b f) = some (iI (bsr T m : Int), (I', J, Pst b f)) ∧ Agr outR I I' := by
  obtain ⟨⟨eA, eB⟩, ⟨eC, eD⟩, eE⟩ := id E
  obtain ⟨⟨vA, vB⟩, ⟨vC, vD⟩, vE, vF⟩ := id V
  have hok := ok_RR (m := m) vC vD
  have hlt := RR_lt (T := T) (m := m)
  have hp := pow_nr vC
  have key := jinv (body := Rank_lightestToRest_L19 S0 (some 47) (some (ct b)) (iI m) (iI (RR T m : Int))) (s0 := (iI (RR T m : Int), iI (wof T (RR T m)), iI 0, (I, J, Pst b f))) (fun h s => ∃ I', s = (iI (lb T m (RR T m) h : Int), iI (wof T (lb T m (RR T m) h)), iI (h : Int), (I', J, Pst b f)) ∧ Agr outR I I') (fun r => ∃ I', r = (iI (bsr T m : Int), (I', J, Pst b f)) ∧ Agr outR I I') (RR T m) ⟨I, rfl, Agr.refl _ _⟩ (fun h s hh hs => ?_) (fun s hs => ?_) (by omega)
  · obtain ⟨r, h3, I1, h4, h5⟩ := key
    refine ⟨I1, ?_, h5⟩
    simp only [Rank_lightestToRest, rc0, gi0, gl0, pi0, pl0, pz0, pr0, gr0_0, gr0_1, gr0_2, gr0_3, gr0_4, gr0_5, gr0_6, gr0_7, gr0_8, rc1, gi1, gl1, pi1, pl1, pz1, pr1, gr1_0, rc3, gi3, gl3, pi3, pl3, pz3, pr3, gr3_0, gr3_10, gr3_11, rc47, gi47, gl47, pi47, pl47, pz47, pr47, gr47_0, gr47_1, gr47_2, gr47_3, gr47_4, gr47_5, gr47_6, rc55, gi55, gl55, pi55, pl55, pz55, pr55, gr55_0, gr55_1, rc58, gi58, gl58, pi58, pl58, pz58, pr58, gr58_0, gr58_1, rc61, gi61, gl61, pi61, pl61, pz61, pr61, gr61_0, gr61_1, gr61_2, gr61_7, rc62, gi62, gl62, pi62, pl62, pz62, pr62, gr62_0, gr62_1, gr62_2, gr62_3, gr62_4, gr62_5, ld2, st2, an2, ld4, st4, an4, ld5, st5, an5, an6, ld48, st48, an48, ld49, st49, an49, ld50, st50, an50, ld51, st51, an51, ld52, st52, an52, ld53, st53, an53, ld54, st54, an54, ld56, st56, an56, ld57, st57, an57, ld59, st59, an59, ld60, st60, an60, ld63, st63, an63, ld64, st64, an64, ld65, st65, an65, ld66, st66, an66, ld67, st67, an67, ld68, st68, an68, ld69, st69, an69, ld70, st70, an70, rcct, gict, glct, pict, plct, pzct, prct, grct_0, grct_1, grct_2, grct_3, ldctm, stctm, anctm, ldctr, stctr, anctr, ldctp, stctp, anctp, anctR, rcru, giru, glru, piru, plru, pzru, prru, grru_7, ldcu, stcu, ancu, arct, ar6, rcro, giro, piro, pzro, grro_1, grro_2, grro_3, rcfo, gifo, pifo, pzfo, grfo_0, grfo_1, ldfop, stfop, anfop, ldfoe, stfoe, anfoe, Option.bind_some, if_true, if_false, cl_ranking eC eD eE vC vD hm, cl_weightOf eC eD vC vD (show RR T m < 4096 by omega), n_0, h3, h4]
  · obtain ⟨I1, rfl, q1⟩ := hs
    have E1 := E.agr V (q1.sub fun o h => by omega)
    have hl := lb_lt (h := h) hok hlt
    have hw := wof_rg (h := lb T m (RR T m) h) vC vD
    have hw2 := wof_rg (h := h) vC vD
    have hc1 := cnt_le (lb T m (RR T m) h).testBit 12
    have hc2 := cnt_le h.testBit 12
    by_cases e0 : wof T (lb T m (RR T m) h) ≤ 0
    · have hz := lb_zero vC vD hok hlt e0
      have hs := lb_stop (m := m) (R := RR T m) (h := h) vC vD (by omega) (by rw [hz]; exact cnt_0 fun k _ => Nat.zero_testBit k) (RR T m - h)
      rw [show h + (RR T m - h) = RR T m by omega] at hs
      refine ⟨.inr (iI (bsr T m : Int), (I1, J, Pst b f)), ?_, I1, rfl, q1⟩
      simp (maxSteps := 4000000) (disch := omega) only [Rank_lightestToRest_L19, Option.bind_some, if_true, if_false, n_0, n_1, n_2, n_3, n_4, n_5, n_6, n_7, n_8, n_9, n_10, n_12, n_15, n_20, n_24, n_32, n_48, n_57, n_59, n_80, n_97, n_99, n_100, n_122, n_680, n_700, n_999, n_1023, n_1024, iI_neg, iI_add, iI_sub, iI_lt, iI_le, iI_eq, show ¬ (RR T m : Int) ≤ (h : Int) by omega, e0, bsr, hs]
    · by_cases e1 : sbs h (RR T m)
      · have hwt := cl_weightOf (J := J) (f := f) E1.2.1.1 E1.2.1.2 vC vD (show h < 4096 by omega)
        by_cases e2 : bet T h (lb T m (RR T m) h)
        · obtain ⟨I2, z1, z2⟩ := cl_without (J := J) (f := f) E1 V hm (show h < 4096 by omega)
          have hi : ∀ (p : Prop) [Decidable p] (a c : Int32), (if p then some a else some c : Option Int32) = some (if p then a else c) := fun p _ a c => by split <;> rfl
          cases e3 : acy (abv T m h)
          · have hlb : lb T m (RR T m) (h + 1) = lb T m (RR T m) h := lb_f fun q => by
              have := q.2.2
              unfold okr at this
              rw [e3] at this; cases this
            refine ⟨.inl (iI (lb T m (RR T m) (h + 1) : Int), iI (wof T (lb T m (RR T m) (h + 1))), iI ((h : Int) + 1), (I2, J, Pst b f)), ?_, I2, rfl, q1.trans z2⟩
            rw [hlb]
            rw [e3] at z1
            simp (maxSteps := 4000000) (disch := omega) only [Rank_lightestToRest_L19, Option.bind_some, if_true, if_false, n_0, n_1, n_2, n_3, n_4, n_5, n_6, n_7, n_8, n_9, n_10, n_12, n_15, n_20, n_24, n_32, n_48, n_57, n_59, n_80, n_97, n_99, n_100, n_122, n_680, n_700, n_999, n_1023, n_1024, iI_neg, iI_add, iI_sub, iI_lt, iI_le, iI_eq, show ¬ (RR T m : Int) ≤ (h : Int) by omega, e0, sbsI (show h < 4096 by omega) (show RR T m < 4096 by omega), e1, hwt, pc12K h (by omega), pc12K (lb T m (RR T m) h) (by omega), hi ((cnt 12 (lb T m (RR T m) h).testBit : Int) ≤ (cnt 12 h.testBit : Int)), z1, bI_0]
            exact bet_t e2 _ _
          · have hlb : lb T m (RR T m) (h + 1) = h := lb_t ⟨e1, e2, e3⟩
            refine ⟨.inl (iI (lb T m (RR T m) (h + 1) : Int), iI (wof T (lb T m (RR T m) (h + 1))), iI ((h : Int) + 1), (I2, J, Pst b f)), ?_, I2, rfl, q1.trans z2⟩
            rw [hlb]
            rw [e3] at z1
            simp (maxSteps := 4000000) (disch := omega) only [Rank_lightestToRest_L19, Option.bind_some, if_true, if_false, n_0, n_1, n_2, n_3, n_4, n_5, n_6, n_7, n_8, n_9, n_10, n_12, n_15, n_20, n_24, n_32, n_48, n_57, n_59, n_80, n_97, n_99, n_100, n_122, n_680, n_700, n_999, n_1023, n_1024, iI_neg, iI_add, iI_sub, iI_lt, iI_le, iI_eq, show ¬ (RR T m : Int) ≤ (h : Int) by omega, e0, sbsI (show h < 4096 by omega) (show RR T m < 4096 by omega), e1, hwt, pc12K h (by omega), pc12K (lb T m (RR T m) h) (by omega), hi ((cnt 12 (lb T m (RR T m) h).testBit : Int) ≤ (cnt 12 h.testBit : Int)), z1, bI_0, Bool.true_eq_false]
            exact bet_t e2 _ _
        · have hlb : lb T m (RR T m) (h + 1) = lb T m (RR T m) h := lb_f fun q => e2 q.2.1
          have hi : ∀ (p : Prop) [Decidable p] (a c : Int32), (if p then some a else some c : Option Int32) = some (if p then a else c) := fun p _ a c => by split <;> rfl
          refine ⟨.inl (iI (lb T m (RR T m) (h + 1) : Int), iI (wof T (lb T m (RR T m) (h + 1))), iI ((h : Int) + 1), (I1, J, Pst b f)), ?_, I1, rfl, q1⟩
          rw [hlb]
          simp (maxSteps := 4000000) (disch := omega) only [Rank_lightestToRest_L19, Option.bind_some, if_true, if_false, n_0, n_1, n_2, n_3, n_4, n_5, n_6, n_7, n_8, n_9, n_10, n_12, n_15, n_20, n_24, n_32, n_48, n_57, n_59, n_80, n_97, n_99, n_100, n_122, n_680, n_700, n_999, n_1023, n_1024, iI_neg, iI_add, iI_sub, iI_lt, iI_le, iI_eq, show ¬ (RR T m : Int) ≤ (h : Int) by omega, e0, sbsI (show h < 4096 by omega) (show RR T m < 4096 by omega), e1, hwt, pc12K h (by omega), pc12K (lb T m (RR T m) h) (by omega), hi ((cnt 12 (lb T m (RR T m) h).testBit : Int) ≤ (cnt 12 h.testBit : Int))]
          exact bet_f e2 _ _
      · have hlb : lb T m (RR T m) (h + 1) = lb T m (RR T m) h := lb_f fun q => e1 q.1
        refine ⟨.inl (iI (lb T m (RR T m) (h + 1) : Int), iI (wof T (lb T m (RR T m) (h + 1))), iI ((h : Int) + 1), (I1, J, Pst b f)), ?_, I1, rfl, q1⟩
        rw [hlb]
        simp (maxSteps := 4000000) (disch := omega) only [Rank_lightestToRest_L19, Option.bind_some, if_true, if_false, n_0, n_1, n_2, n_3, n_4, n_5, n_6, n_7, n_8, n_9, n_10, n_12, n_15, n_20, n_24, n_32, n_48, n_57, n_59, n_80, n_97, n_99, n_100, n_122, n_680, n_700, n_999, n_1023, n_1024, iI_neg, iI_add, iI_sub, iI_lt, iI_le, iI_eq, show ¬ (RR T m : Int) ≤ (h : Int) by omega, e0, sbsI (show h < 4096 by omega) (show RR T m < 4096 by omega), e1]
  · obtain ⟨I1, rfl, q1⟩ := hs
    refine ⟨.inr (iI (bsr T m : Int), (I1, J, Pst b f)), ?_, I1, rfl, q1⟩
    simp (maxSteps := 4000000) (disch := omega) only [Rank_lightestToRest_L19, Option.bind_some, if_true, if_false, n_0, n_1, n_2, n_3, n_4, n_5, n_6, n_7, n_8, n_9, n_10, n_12, n_15, n_20, n_24, n_32, n_48, n_57, n_59, n_80, n_97, n_99, n_100, n_122, n_680, n_700, n_999, n_1023, n_1024, iI_neg, iI_add, iI_sub, iI_lt, iI_le, iI_eq, show (RR T m : Int) ≤ (RR T m : Int) by omega, bsr]
/-! what was found out: which change it was found at -/
def rcK (T : Tb) (c1 : Int) (I : Nat → Nat → Int32) : Prop := ∀ k : Nat, k < 4 → ∃ c, I (ro k) 6 = iI c ∧ (-1 ≤ c ∧ c ≤ c1) ∧ (c = c1 → I (ro k) 7 = iI (bsr T (k : Int) : Int))
theorem ro_is (k : Nat) : ro k = 7 + 10 * k := by unfold ro; omega
theorem EC.hro (E : EC T b I) (V : TV T) (hk : k < 4) (hj : j = 6 ∨ j = 7) : EC T b (hup I (ro k) j v) := by
  obtain ⟨⟨eA, eB⟩, ⟨eC, eD⟩, eE⟩ := E
  obtain ⟨⟨vA, vB⟩, ⟨vC, vD⟩, vE, vF⟩ := V
  have h0 := vC.1
  have hc := ct_or b
  have hr := ro_is k
  have ha : Agr (fun o => o ≠ ro k) I (_root_.Jvm.Pilot.CFirstInLaw_law_r9403_438a70.hup I (ro k) j v) := (Agr.refl _ I).hup (fun q => q rfl)
  refine ⟨⟨eA.agr (ha.sub fun o h => by omega), eB.agr (ha 0 (by omega) 9) fun k' hk' => ?_⟩, ⟨eC.agr ⟨ha _ (by omega) _, ha _ (by omega) _, ha _ (by omega) _⟩ (ha.sub fun o h => by omega), eD.agr (ha.sub fun o h => by omega) (by omega)⟩, eE.agr ⟨ha _ (by omega) _, ha _ (by omega) _⟩ (ha.sub fun o h => by omega)⟩
  exact ⟨hup_ix _ _ _ (by omega), hup_ix _ _ _ (by omega), hup_ix _ _ _ (by omega)⟩
noncomputable def trR (T : Tb) (m w : Int) : Int := if isM T m ∧ 0 ≤ w ∧ w ≤ 1 then (if w = 0 then (bsr T m : Int) else wof T (bsr T m)) else -1
abbrev outM (m : Int) (o : Nat) : Prop := (o < 47 ∨ 49 < o) ∧ o ≠ ro m.toNat
theorem cl_toRest (E : EC T b I) (V : TV T) (hK : cK c1 c2 b I) (hc1 : 0 ≤ c1 ∧ c1 < 100000) (hR : rcK T c1 I) (hm : rg m) (hw : rg w) : ∃ I', Fi_toRest S0 (some 0) (iI m) (iI w) (I, J, Pst b f) = some (iI (trR T m w), (I', J, Pst b f)) ∧ EC T b I' ∧ rcK T c1 I' ∧ Agr (outM m) I I' := by
  obtain ⟨⟨eA, eB⟩, ⟨eC, eD⟩, eE⟩ := id E
  obtain ⟨⟨vA, vB⟩, ⟨vC, vD⟩, vE, vF⟩ := id V
  have hB := vB.1
  have hp := pow_nr vC
  have hcb := ct_or b
  by_cases z : isM T m ∧ 0 ≤ w ∧ w ≤ 1
  · have hA : trR T m w = if w = 0 then (bsr T m : Int) else wof T (bsr T m) := if_pos z
    rw [hA]
    obtain ⟨c, r1, r2, r3⟩ := hR m.toNat (by omega)
    rw [show ((m.toNat : Nat) : Int) = m by omega] at r3
    have hro := ro_is m.toNat
    have hbl : bsr T m < 4096 := by
      have := lb_lt (h := RR T m) (ok_RR (m := m) vC vD) RR_lt
      unfold bsr; omega
    by_cases e : c = c1
    · refine ⟨I, ?_, E, hR, Agr.refl _ _⟩
      have hwt := cl_weightOf (J := J) (f := f) eC eD vC vD hbl
      simp (maxSteps := 4000000) (disch := omega) only [Fi_toRest, rc0, gi0, gl0, pi0, pl0, pz0, pr0, gr0_0, gr0_1, gr0_2, gr0_3, gr0_4, gr0_5, gr0_6, gr0_7, gr0_8, rc1, gi1, gl1, pi1, pl1, pz1, pr1, gr1_0, rc3, gi3, gl3, pi3, pl3, pz3, pr3, gr3_0, gr3_10, gr3_11, rc47, gi47, gl47, pi47, pl47, pz47, pr47, gr47_0, gr47_1, gr47_2, gr47_3, gr47_4, gr47_5, gr47_6, rc55, gi55, gl55, pi55, pl55, pz55, pr55, gr55_0, gr55_1, rc58, gi58, gl58, pi58, pl58, pz58, pr58, gr58_0, gr58_1, rc61, gi61, gl61, pi61, pl61, pz61, pr61, gr61_0, gr61_1, gr61_2, gr61_7, rc62, gi62, gl62, pi62, pl62, pz62, pr62, gr62_0, gr62_1, gr62_2, gr62_3, gr62_4, gr62_5, ld2, st2, an2, ld4, st4, an4, ld5, st5, an5, an6, ld48, st48, an48, ld49, st49, an49, ld50, st50, an50, ld51, st51, an51, ld52, st52, an52, ld53, st53, an53, ld54, st54, an54, ld56, st56, an56, ld57, st57, an57, ld59, st59, an59, ld60, st60, an60, ld63, st63, an63, ld64, st64, an64, ld65, st65, an65, ld66, st66, an66, ld67, st67, an67, ld68, st68, an68, ld69, st69, an69, ld70, st70, an70, rcct, gict, glct, pict, plct, pzct, prct, grct_0, grct_1, grct_2, grct_3, ldctm, stctm, anctm, ldctr, stctr, anctr, ldctp, stctp, anctp, anctR, rcru, giru, glru, piru, plru, pzru, prru, grru_7, ldcu, stcu, ancu, arct, ar6, rcro, giro, piro, pzro, grro_1, grro_2, grro_3, rcfo, gifo, pifo, pzfo, grfo_0, grfo_1, ldfop, stfop, anfop, ldfoe, stfoe, anfoe, Option.bind_some, if_true, if_false, n_0, n_1, n_2, n_3, n_4, n_5, n_6, n_7, n_8, n_9, n_10, n_12, n_15, n_20, n_24, n_32, n_48, n_57, n_59, n_80, n_97, n_99, n_100, n_122, n_680, n_700, n_999, n_1023, n_1024, iI_neg, iI_add, iI_sub, iI_lt, iI_le, iI_eq, cl_roomOrNull eB vB hm, iff_true_intro z.1, reduceCtorEq, show ¬ w < 0 by omega, show w ≤ 1 by omega, r1, hK.1, e, r3 e, hwt]
      split <;> rfl
    · obtain ⟨I1, a1, a2⟩ := cl_lightest (J := J) (f := f) (m := m) E V (by omega)
      have E1 := E.agr V (a2.sub fun o h => by omega)
      have E2 := (E1.hro (v := iI (bsr T m : Int)) V (show m.toNat < 4 by omega) (Or.inr rfl)).hro (v := iI c1) V (show m.toNat < 4 by omega) (Or.inl rfl)
      have hk1 : I1 (ct b) 9 = iI c1 := (a2 _ (by omega) _).trans hK.1
      have hwt := cl_weightOf (J := J) (f := f) E2.2.1.1 E2.2.1.2 vC vD hbl
      have hag : Agr (outM m) I (hup (hup I1 (ro m.toNat) 7 (iI (bsr T m : Int))) (ro m.toNat) 6 (iI c1)) := ((a2.sub fun o h => h.1).hup fun q => q.2 rfl).hup fun q => q.2 rfl
      refine ⟨_, ?_, E2, fun k hk => ?_, hag⟩
      · simp (maxSteps := 4000000) (disch := omega) only [Fi_toRest, rc0, gi0, gl0, pi0, pl0, pz0, pr0, gr0_0, gr0_1, gr0_2, gr0_3, gr0_4, gr0_5, gr0_6, gr0_7, gr0_8, rc1, gi1, gl1, pi1, pl1, pz1, pr1, gr1_0, rc3, gi3, gl3, pi3, pl3, pz3, pr3, gr3_0, gr3_10, gr3_11, rc47, gi47, gl47, pi47, pl47, pz47, pr47, gr47_0, gr47_1, gr47_2, gr47_3, gr47_4, gr47_5, gr47_6, rc55, gi55, gl55, pi55, pl55, pz55, pr55, gr55_0, gr55_1, rc58, gi58, gl58, pi58, pl58, pz58, pr58, gr58_0, gr58_1, rc61, gi61, gl61, pi61, pl61, pz61, pr61, gr61_0, gr61_1, gr61_2, gr61_7, rc62, gi62, gl62, pi62, pl62, pz62, pr62, gr62_0, gr62_1, gr62_2, gr62_3, gr62_4, gr62_5, ld2, st2, an2, ld4, st4, an4, ld5, st5, an5, an6, ld48, st48, an48, ld49, st49, an49, ld50, st50, an50, ld51, st51, an51, ld52, st52, an52, ld53, st53, an53, ld54, st54, an54, ld56, st56, an56, ld57, st57, an57, ld59, st59, an59, ld60, st60, an60, ld63, st63, an63, ld64, st64, an64, ld65, st65, an65, ld66, st66, an66, ld67, st67, an67, ld68, st68, an68, ld69, st69, an69, ld70, st70, an70, rcct, gict, glct, pict, plct, pzct, prct, grct_0, grct_1, grct_2, grct_3, ldctm, stctm, anctm, ldctr, stctr, anctr, ldctp, stctp, anctp, anctR, rcru, giru, glru, piru, plru, pzru, prru, grru_7, ldcu, stcu, ancu, arct, ar6, rcro, giro, piro, pzro, grro_1, grro_2, grro_3, rcfo, gifo, pifo, pzfo, grfo_0, grfo_1, ldfop, stfop, anfop, ldfoe, stfoe, anfoe, Option.bind_some, if_true, if_false, n_0, n_1, n_2, n_3, n_4, n_5, n_6, n_7, n_8, n_9, n_10, n_12, n_15, n_20, n_24, n_32, n_48, n_57, n_59, n_80, n_97, n_99, n_100, n_122, n_680, n_700, n_999, n_1023, n_1024, iI_neg, iI_add, iI_sub, iI_lt, iI_le, iI_eq, cl_roomOrNull eB vB hm, iff_true_intro z.1, reduceCtorEq, show ¬ w < 0 by omega, show w ≤ 1 by omega, r1, hK.1, e, a1, hup_obj, hk1, hup_ix, hup_same, hwt]
        split <;> rfl
      · by_cases q : k = m.toNat
        · subst q
          refine ⟨c1, hup_same _ _ _ _, by omega, fun _ => ?_⟩
          rw [hup_ix _ _ _ (by omega), hup_same, show ((m.toNat : Nat) : Int) = m by omega]
        · obtain ⟨c', r1', r2', r3'⟩ := hR k hk
          have hk' := ro_is k
          refine ⟨c', ?_, r2', fun q2 => ?_⟩
          · rw [hag (ro k) (by omega)]; exact r1'
          · rw [hag (ro k) (by omega)]; exact r3' q2
  · have hA : trR T m w = -1 := if_neg z
    rw [hA]
    refine ⟨I, ?_, E, hR, Agr.refl _ _⟩
    simp (maxSteps := 4000000) (disch := omega) only [Fi_toRest, rc0, gi0, gl0, pi0, pl0, pz0, pr0, gr0_0, gr0_1, gr0_2, gr0_3, gr0_4, gr0_5, gr0_6, gr0_7, gr0_8, rc1, gi1, gl1, pi1, pl1, pz1, pr1, gr1_0, rc3, gi3, gl3, pi3, pl3, pz3, pr3, gr3_0, gr3_10, gr3_11, rc47, gi47, gl47, pi47, pl47, pz47, pr47, gr47_0, gr47_1, gr47_2, gr47_3, gr47_4, gr47_5, gr47_6, rc55, gi55, gl55, pi55, pl55, pz55, pr55, gr55_0, gr55_1, rc58, gi58, gl58, pi58, pl58, pz58, pr58, gr58_0, gr58_1, rc61, gi61, gl61, pi61, pl61, pz61, pr61, gr61_0, gr61_1, gr61_2, gr61_7, rc62, gi62, gl62, pi62, pl62, pz62, pr62, gr62_0, gr62_1, gr62_2, gr62_3, gr62_4, gr62_5, ld2, st2, an2, ld4, st4, an4, ld5, st5, an5, an6, ld48, st48, an48, ld49, st49, an49, ld50, st50, an50, ld51, st51, an51, ld52, st52, an52, ld53, st53, an53, ld54, st54, an54, ld56, st56, an56, ld57, st57, an57, ld59, st59, an59, ld60, st60, an60, ld63, st63, an63, ld64, st64, an64, ld65, st65, an65, ld66, st66, an66, ld67, st67, an67, ld68, st68, an68, ld69, st69, an69, ld70, st70, an70, rcct, gict, glct, pict, plct, pzct, prct, grct_0, grct_1, grct_2, grct_3, ldctm, stctm, anctm, ldctr, stctr, anctr, ldctp, stctp, anctp, anctR, rcru, giru, glru, piru, plru, pzru, prru, grru_7, ldcu, stcu, ancu, arct, ar6, rcro, giro, piro, pzro, grro_1, grro_2, grro_3, rcfo, gifo, pifo, pzfo, grfo_0, grfo_1, ldfop, stfop, anfop, ldfoe, stfoe, anfoe, Option.bind_some, if_true, if_false, n_0, n_1, n_2, n_3, n_4, n_5, n_6, n_7, n_8, n_9, n_10, n_12, n_15, n_20, n_24, n_32, n_48, n_57, n_59, n_80, n_97, n_99, n_100, n_122, n_680, n_700, n_999, n_1023, n_1024, iI_neg, iI_add, iI_sub, iI_lt, iI_le, iI_eq, cl_roomOrNull eB vB hm]
    by_cases z1 : isM T m
    · simp only [iff_true_intro z1, Option.bind_some, if_true, if_false, reduceCtorEq]
      by_cases z2 : w < 0
      · simp only [z2, Option.bind_some, if_true, if_false]
      · have z3 : ¬ w ≤ 1 := fun q => z ⟨z1, by omega, q⟩
        simp only [z2, z3, Option.bind_some, if_true, if_false]
    · simp only [iff_false_intro z1, Option.bind_some, if_true, if_false]
end
