/-! ===== layer 2: seatings: the class's table, and what is to come ===== -/
section
variable {T : Tb} {I I' I'' : Nat → Nat → Int32} {J : Nat → Nat → Int64} {b : Bool} {f k n i j x y p q r a c K d : Nat} {P : Nat → Nat → Option Nat} {m : Int} {V0 V1 : hV} {F G : Nat → Nat → Nat → Int} {S : Nat → Bool} {v : Nat → Int}
def cW (T : Tb) (m : Int) : Nat → Nat → Nat → Nat → Int
  | 0 => fun _ _ _ => 0
  | r + 1 => fun i j w => if ctn T m r = true then incF T r (fun _ _ => true) (cW T m r) i j w else cW T m r i j w
def cH (T : Tb) (m : Int) : Nat → Nat → Nat → Nat → Int
  | 0 => fun _ _ _ => 0
  | r + 1 => fun i j w => if ctn T m r = true then incG T r (fun _ _ => true) (cH T m r) i j w else cH T m r i j w
theorem cH_rg (ht : tvC T) (hv : tvD T) : ∀ r : Nat, (r : Int) ≤ T 0 4 → ∀ i j w, 0 ≤ cH T m r i j w ∧ cH T m r i j w ≤ 9
  | 0, _, i, j, w => by simp [cH]
  | r + 1, hr, i, j, w => by
    have ih := cH_rg ht hv r (by omega) i j w
    have v4 := (hv r (by omega)).2.2.2.1
    show 0 ≤ (if ctn T m r = true then incG T r (fun _ _ => true) (cH T m r) i j w else cH T m r i j w) ∧ (if ctn T m r = true then incG T r (fun _ _ => true) (cH T m r) i j w else cH T m r i j w) ≤ 9
    split
    · exact hm_rg (hm_rg ih (by omega)) (by omega)
    · exact ih
theorem cW_rg (ht : tvC T) (hv : tvD T) : ∀ r : Nat, (r : Int) ≤ T 0 4 → ∀ i j w, 0 ≤ cW T m r i j w ∧ cW T m r i j w ≤ 18 * r
  | 0, _, i, j, w => by simp [cW]
  | r + 1, hr, i, j, w => by
    have ih := cW_rg ht hv r (by omega) i j w
    have v4 := (hv r (by omega)).2.2.2.1
    show 0 ≤ (if ctn T m r = true then incF T r (fun _ _ => true) (cW T m r) i j w else cW T m r i j w) ∧ (if ctn T m r = true then incF T r (fun _ _ => true) (cW T m r) i j w else cW T m r i j w) ≤ _
    unfold incF
    (repeat' split) <;> omega
theorem cl_layRule (hd : cD T b I) (ht : tvC T) (hv : tvD T) (hr : (r : Int) < T 0 4) (hK : nK T ≤ 7) (hu : tuC T I) (hG : ∀ i j w, 0 ≤ G i j w ∧ G i j w ≤ 9) (h : tab (nK T) F G I) : ∃ I', Pairs_layRule S0 (some 62) (some (ru b r)) (I, J, Pst b f) = some (I', J, Pst b f) ∧ Agr oT I I' ∧ tab (nK T) (incF T r (fun _ _ => true) F) (incG T r (fun _ _ => true) G) I' := by
  have h0 := ht.1
  have key := jheap (J := J) (P := Pst b f) (I := I) (body := Pairs_layRule_L2 S0 (some 62) (some (ru b r))) (fun a I' => Agr oT I I' ∧ tab (nK T) (incF T r (prC a 0) F) (incG T r (prC a 0) G) I') 0 (nK T) ⟨Agr.refl _ _, tab_ext h fun i j w _ _ _ => ?_⟩ (by omega) (by omega) (fun a I1 _ ha q1 => ?_) (fun I1 q1 => ?_)
  · obtain ⟨I2, e1, e2, e3⟩ := key
    have e1' : jloop (Pairs_layRule_L2 S0 (some 62) (some (ru b r))) jN (iI 0, (I, J, Pst b f)) = some (I2, J, Pst b f) := e1
    refine ⟨I2, by simp only [Pairs_layRule, rc0, gi0, gl0, pi0, pl0, pz0, pr0, gr0_0, gr0_1, gr0_2, gr0_3, gr0_4, gr0_5, gr0_6, gr0_7, gr0_8, rc1, gi1, gl1, pi1, pl1, pz1, pr1, gr1_0, rc3, gi3, gl3, pi3, pl3, pz3, pr3, gr3_0, gr3_10, gr3_11, rc47, gi47, gl47, pi47, pl47, pz47, pr47, gr47_0, gr47_1, gr47_2, gr47_3, gr47_4, gr47_5, gr47_6, rc55, gi55, gl55, pi55, pl55, pz55, pr55, gr55_0, gr55_1, rc58, gi58, gl58, pi58, pl58, pz58, pr58, gr58_0, gr58_1, rc61, gi61, gl61, pi61, pl61, pz61, pr61, gr61_0, gr61_1, gr61_2, gr61_7, rc62, gi62, gl62, pi62, pl62, pz62, pr62, gr62_0, gr62_1, gr62_2, gr62_3, gr62_4, gr62_5, ld2, st2, an2, ld4, st4, an4, ld5, st5, an5, an6, ld48, st48, an48, ld49, st49, an49, ld50, st50, an50, ld51, st51, an51, ld52, st52, an52, ld53, st53, an53, ld54, st54, an54, ld56, st56, an56, ld57, st57, an57, ld59, st59, an59, ld60, st60, an60, ld63, st63, an63, ld64, st64, an64, ld65, st65, an65, ld66, st66, an66, ld67, st67, an67, ld68, st68, an68, ld69, st69, an69, ld70, st70, an70, rcct, gict, glct, pict, plct, pzct, prct, grct_0, grct_1, grct_2, grct_3, ldctm, stctm, anctm, ldctr, stctr, anctr, ldctp, stctp, anctp, anctR, rcru, giru, glru, piru, plru, pzru, prru, grru_7, ldcu, stcu, ancu, arct, ar6, rcro, giro, piro, pzro, grro_1, grro_2, grro_3, rcfo, gifo, pifo, pzfo, grfo_0, grfo_1, ldfop, stfop, anfop, ldfoe, stfoe, anfoe, Option.bind_some, if_true, if_false, n_0, e1'], e2, tab_ext e3 fun i j w h1 h2 h3 => incF_eq ?_ ?_⟩
    · rw [show prC (nK T) 0 i j = true from prC_t.mpr (by omega)]
    · rw [show prC (nK T) 0 j i = true from prC_t.mpr (by omega)]
  · unfold incF incG
    rw [show prC 0 0 i j = false from prC_f.mpr (by omega), show prC 0 0 j i = false from prC_f.mpr (by omega), Bool.false_and, Bool.false_and, hm_f, hm_f, if_neg (show ¬ false = true by decide)]
    exact ⟨by omega, rfl⟩
  · have hd1 : cD T b I1 := hd.agr (q1.1.sub fun o h => by have := ct_or b; omega) (by omega)
    have hu1 : tuC T I1 := ⟨(q1.1 62 (by omega) 6).trans hu.1, fun i hi => (q1.1 63 (by omega) i).trans (hu.2 i hi)⟩
    obtain ⟨I2, a1, a2, a3⟩ := cl_rrow (J := J) (f := f) (V0 := (I1, J, Pst b f)) hd1 ht hv hr hK hu1 ha hG q1.2
    refine ⟨I2, ?_, q1.1.trans a2, a3⟩
    simp (maxSteps := 4000000) (disch := omega) only [Pairs_layRule_L2, rc0, gi0, gl0, pi0, pl0, pz0, pr0, gr0_0, gr0_1, gr0_2, gr0_3, gr0_4, gr0_5, gr0_6, gr0_7, gr0_8, rc1, gi1, gl1, pi1, pl1, pz1, pr1, gr1_0, rc3, gi3, gl3, pi3, pl3, pz3, pr3, gr3_0, gr3_10, gr3_11, rc47, gi47, gl47, pi47, pl47, pz47, pr47, gr47_0, gr47_1, gr47_2, gr47_3, gr47_4, gr47_5, gr47_6, rc55, gi55, gl55, pi55, pl55, pz55, pr55, gr55_0, gr55_1, rc58, gi58, gl58, pi58, pl58, pz58, pr58, gr58_0, gr58_1, rc61, gi61, gl61, pi61, pl61, pz61, pr61, gr61_0, gr61_1, gr61_2, gr61_7, rc62, gi62, gl62, pi62, pl62, pz62, pr62, gr62_0, gr62_1, gr62_2, gr62_3, gr62_4, gr62_5, ld2, st2, an2, ld4, st4, an4, ld5, st5, an5, an6, ld48, st48, an48, ld49, st49, an49, ld50, st50, an50, ld51, st51, an51, ld52, st52, an52, ld53, st53, an53, ld54, st54, an54, ld56, st56, an56, ld57, st57, an57, ld59, st59, an59, ld60, st60, an60, ld63, st63, an63, ld64, st64, an64, ld65, st65, an65, ld66, st66, an66, ld67, st67, an67, ld68, st68, an68, ld69, st69, an69, ld70, st70, an70, rcct, gict, glct, pict, plct, pzct, prct, grct_0, grct_1, grct_2, grct_3, ldctm, stctm, anctm, ldctr, stctr, anctr, ldctp, stctp, anctp, anctR, rcru, giru, glru, piru, plru, pzru, prru, grru_7, ldcu, stcu, ancu, arct, ar6, rcro, giro, piro, pzro, grro_1, grro_2, grro_3, rcfo, gifo, pifo, pzfo, grfo_0, grfo_1, ldfop, stfop, anfop, ldfoe, stfoe, anfoe, Option.bind_some, if_true, if_false, n_0, n_1, n_2, n_3, n_4, n_5, n_6, n_7, n_8, n_9, n_10, n_12, n_15, n_20, n_24, n_32, n_48, n_57, n_59, n_80, n_97, n_99, n_100, n_122, n_680, n_700, n_999, n_1023, n_1024, iI_neg, iI_add, iI_sub, iI_lt, iI_le, iI_eq, hu1.1, show ¬ (nK T : Int) ≤ (a : Int) by omega, a1]
  · have u6 : I1 62 6 = iI (nK T : Int) := (q1.1 62 (by omega) 6).trans hu.1
    simp (maxSteps := 4000000) (disch := omega) only [Pairs_layRule_L2, rc0, gi0, gl0, pi0, pl0, pz0, pr0, gr0_0, gr0_1, gr0_2, gr0_3, gr0_4, gr0_5, gr0_6, gr0_7, gr0_8, rc1, gi1, gl1, pi1, pl1, pz1, pr1, gr1_0, rc3, gi3, gl3, pi3, pl3, pz3, pr3, gr3_0, gr3_10, gr3_11, rc47, gi47, gl47, pi47, pl47, pz47, pr47, gr47_0, gr47_1, gr47_2, gr47_3, gr47_4, gr47_5, gr47_6, rc55, gi55, gl55, pi55, pl55, pz55, pr55, gr55_0, gr55_1, rc58, gi58, gl58, pi58, pl58, pz58, pr58, gr58_0, gr58_1, rc61, gi61, gl61, pi61, pl61, pz61, pr61, gr61_0, gr61_1, gr61_2, gr61_7, rc62, gi62, gl62, pi62, pl62, pz62, pr62, gr62_0, gr62_1, gr62_2, gr62_3, gr62_4, gr62_5, ld2, st2, an2, ld4, st4, an4, ld5, st5, an5, an6, ld48, st48, an48, ld49, st49, an49, ld50, st50, an50, ld51, st51, an51, ld52, st52, an52, ld53, st53, an53, ld54, st54, an54, ld56, st56, an56, ld57, st57, an57, ld59, st59, an59, ld60, st60, an60, ld63, st63, an63, ld64, st64, an64, ld65, st65, an65, ld66, st66, an66, ld67, st67, an67, ld68, st68, an68, ld69, st69, an69, ld70, st70, an70, rcct, gict, glct, pict, plct, pzct, prct, grct_0, grct_1, grct_2, grct_3, ldctm, stctm, anctm, ldctr, stctr, anctr, ldctp, stctp, anctp, anctR, rcru, giru, glru, piru, plru, pzru, prru, grru_7, ldcu, stcu, ancu, arct, ar6, rcro, giro, piro, pzro, grro_1, grro_2, grro_3, rcfo, gifo, pifo, pzfo, grfo_0, grfo_1, ldfop, stfop, anfop, ldfoe, stfoe, anfoe, Option.bind_some, if_true, if_false, n_0, n_1, n_2, n_3, n_4, n_5, n_6, n_7, n_8, n_9, n_10, n_12, n_15, n_20, n_24, n_32, n_48, n_57, n_59, n_80, n_97, n_99, n_100, n_122, n_680, n_700, n_999, n_1023, n_1024, iI_neg, iI_add, iI_sub, iI_lt, iI_le, iI_eq, u6, show (nK T : Int) ≤ (nK T : Int) by omega]
theorem cl_layRules (E : EC T b I) (V : TV T) (hm : isM T m) (hK : nK T ≤ 7) (hu : tuC T I) (h : tab (nK T) (cW T m 0) (cH T m 0) I) : ∃ I', jloop (Pairs_lay_L79 S0 (some 62) (some (ct b)) (some (ro m.toNat))) jN (iI 0, (I, J, Pst b f)) = some (I', J, Pst b f) ∧ Agr oT I I' ∧ tab (nK T) (cW T m (nr T)) (cH T m (nr T)) I' := by
  obtain ⟨⟨vA, vB⟩, ⟨vC, vD⟩, vE, vF⟩ := id V
  have h0 := vC.1
  have h00 := vB.1
  have h1 := nrI vC
  refine jheap (J := J) (P := Pst b f) (I := I) (fun k I' => Agr oT I I' ∧ tab (nK T) (cW T m k) (cH T m k) I') 0 (nr T) ⟨Agr.refl _ _, h⟩ (by omega) (by omega) (fun k I1 _ hk q1 => ?_) (fun I1 q1 => ?_)
  · have E1 := E.agr V (q1.1.sub fun o h => by omega)
    obtain ⟨⟨eA, eB⟩, ⟨eC, eD⟩, eE⟩ := id E1
    have hk' : (k : Int) < T 0 4 := by omega
    have hro := (eB.2 m.toNat (by omega)).1
    rw [show ((m.toNat : Nat) : Int) = m by omega] at hro
    have hu1 : tuC T I1 := ⟨(q1.1 62 (by omega) 6).trans hu.1, fun i hi => (q1.1 63 (by omega) i).trans (hu.2 i hi)⟩
    simp (maxSteps := 4000000) (disch := omega) only [Pairs_lay_L79, rc0, gi0, gl0, pi0, pl0, pz0, pr0, gr0_0, gr0_1, gr0_2, gr0_3, gr0_4, gr0_5, gr0_6, gr0_7, gr0_8, rc1, gi1, gl1, pi1, pl1, pz1, pr1, gr1_0, rc3, gi3, gl3, pi3, pl3, pz3, pr3, gr3_0, gr3_10, gr3_11, rc47, gi47, gl47, pi47, pl47, pz47, pr47, gr47_0, gr47_1, gr47_2, gr47_3, gr47_4, gr47_5, gr47_6, rc55, gi55, gl55, pi55, pl55, pz55, pr55, gr55_0, gr55_1, rc58, gi58, gl58, pi58, pl58, pz58, pr58, gr58_0, gr58_1, rc61, gi61, gl61, pi61, pl61, pz61, pr61, gr61_0, gr61_1, gr61_2, gr61_7, rc62, gi62, gl62, pi62, pl62, pz62, pr62, gr62_0, gr62_1, gr62_2, gr62_3, gr62_4, gr62_5, ld2, st2, an2, ld4, st4, an4, ld5, st5, an5, an6, ld48, st48, an48, ld49, st49, an49, ld50, st50, an50, ld51, st51, an51, ld52, st52, an52, ld53, st53, an53, ld54, st54, an54, ld56, st56, an56, ld57, st57, an57, ld59, st59, an59, ld60, st60, an60, ld63, st63, an63, ld64, st64, an64, ld65, st65, an65, ld66, st66, an66, ld67, st67, an67, ld68, st68, an68, ld69, st69, an69, ld70, st70, an70, rcct, gict, glct, pict, plct, pzct, prct, grct_0, grct_1, grct_2, grct_3, ldctm, stctm, anctm, ldctr, stctr, anctr, ldctp, stctp, anctp, anctR, rcru, giru, glru, piru, plru, pzru, prru, grru_7, ldcu, stcu, ancu, arct, ar6, rcro, giro, piro, pzro, grro_1, grro_2, grro_3, rcfo, gifo, pifo, pzfo, grfo_0, grfo_1, ldfop, stfop, anfop, ldfoe, stfoe, anfoe, Option.bind_some, if_true, if_false, n_0, n_1, n_2, n_3, n_4, n_5, n_6, n_7, n_8, n_9, n_10, n_12, n_15, n_20, n_24, n_32, n_48, n_57, n_59, n_80, n_97, n_99, n_100, n_122, n_680, n_700, n_999, n_1023, n_1024, iI_neg, iI_add, iI_sub, iI_lt, iI_le, iI_eq, eC.1.2.2, show ¬ T 0 4 ≤ (k : Int) by omega, show ¬ (12 : Int) ≤ (k : Int) by omega, Int.toNat_natCast, hro, cl_countsIn eD vC vD hk' (show 0 ≤ m ∧ m < 4 by omega), bI_0]
    cases e : ctn T m k
    · refine ⟨I1, by simp only [Option.bind_some, if_true, if_false], q1.1, tab_ext q1.2 fun i j w _ _ _ => ?_⟩
      constructor
      · show _ = (if ctn T m k = true then _ else _)
        rw [e, if_neg (by decide)]
      · show _ = (if ctn T m k = true then _ else _)
        rw [e, if_neg (by decide)]
    · obtain ⟨I2, a1, a2, a3⟩ := cl_layRule (J := J) (f := f) (I := I1) eD vC vD hk' hK hu1 (cH_rg vC vD k (by omega)) q1.2
      refine ⟨I2, by simp only [Bool.true_eq_false, Option.bind_some, if_true, if_false, a1], q1.1.trans a2, tab_ext a3 fun i j w _ _ _ => ?_⟩
      constructor
      · show _ = (if ctn T m k = true then _ else _)
        rw [e, if_pos rfl]
      · show _ = (if ctn T m k = true then _ else _)
        rw [e, if_pos rfl]
  · have E1 := E.agr V (q1.1.sub fun o h => by omega)
    simp (maxSteps := 4000000) (disch := omega) only [Pairs_lay_L79, rc0, gi0, gl0, pi0, pl0, pz0, pr0, gr0_0, gr0_1, gr0_2, gr0_3, gr0_4, gr0_5, gr0_6, gr0_7, gr0_8, rc1, gi1, gl1, pi1, pl1, pz1, pr1, gr1_0, rc3, gi3, gl3, pi3, pl3, pz3, pr3, gr3_0, gr3_10, gr3_11, rc47, gi47, gl47, pi47, pl47, pz47, pr47, gr47_0, gr47_1, gr47_2, gr47_3, gr47_4, gr47_5, gr47_6, rc55, gi55, gl55, pi55, pl55, pz55, pr55, gr55_0, gr55_1, rc58, gi58, gl58, pi58, pl58, pz58, pr58, gr58_0, gr58_1, rc61, gi61, gl61, pi61, pl61, pz61, pr61, gr61_0, gr61_1, gr61_2, gr61_7, rc62, gi62, gl62, pi62, pl62, pz62, pr62, gr62_0, gr62_1, gr62_2, gr62_3, gr62_4, gr62_5, ld2, st2, an2, ld4, st4, an4, ld5, st5, an5, an6, ld48, st48, an48, ld49, st49, an49, ld50, st50, an50, ld51, st51, an51, ld52, st52, an52, ld53, st53, an53, ld54, st54, an54, ld56, st56, an56, ld57, st57, an57, ld59, st59, an59, ld60, st60, an60, ld63, st63, an63, ld64, st64, an64, ld65, st65, an65, ld66, st66, an66, ld67, st67, an67, ld68, st68, an68, ld69, st69, an69, ld70, st70, an70, rcct, gict, glct, pict, plct, pzct, prct, grct_0, grct_1, grct_2, grct_3, ldctm, stctm, anctm, ldctr, stctr, anctr, ldctp, stctp, anctp, anctR, rcru, giru, glru, piru, plru, pzru, prru, grru_7, ldcu, stcu, ancu, arct, ar6, rcro, giro, piro, pzro, grro_1, grro_2, grro_3, rcfo, gifo, pifo, pzfo, grfo_0, grfo_1, ldfop, stfop, anfop, ldfoe, stfoe, anfoe, Option.bind_some, if_true, if_false, n_0, n_1, n_2, n_3, n_4, n_5, n_6, n_7, n_8, n_9, n_10, n_12, n_15, n_20, n_24, n_32, n_48, n_57, n_59, n_80, n_97, n_99, n_100, n_122, n_680, n_700, n_999, n_1023, n_1024, iI_neg, iI_add, iI_sub, iI_lt, iI_le, iI_eq, E1.2.1.1.1.2.2, show T 0 4 ≤ (nr T : Int) by omega]
/-! what is to come at least -/
def lso (S : Nat → Bool) (v : Nat → Int) : Nat → Int
  | 0 => -1
  | w + 1 => if S w = true ∧ (lso S v w = -1 ∨ v w < lso S v w) then v w else lso S v w
theorem lso_s (S : Nat → Bool) (v : Nat → Int) (w : Nat) : lso S v (w + 1) = if S w = true ∧ (lso S v w = -1 ∨ v w < lso S v w) then v w else lso S v w := rfl
theorem lso_rg (h : ∀ w, 0 ≤ v w ∧ v w ≤ 1000) : ∀ k, -1 ≤ lso S v k ∧ lso S v k ≤ 1000
  | 0 => by simp [lso]
  | k + 1 => by
    have := lso_rg h k
    have := h k
    rw [lso_s]
    split <;> omega
theorem lso_le (h : ∀ w, 0 ≤ v w ∧ v w ≤ 1000) : ∀ k w, w < k → S w = true → 0 ≤ lso S v k ∧ lso S v k ≤ v w
  | 0, w, hw, _ => by omega
  | k + 1, w, hw, hs => by
    have hk := h k
    rw [lso_s]
    by_cases e : w = k
    · subst e
      split
      · omega
      · rename_i q
        have : ¬ (lso S v w = -1 ∨ v w < lso S v w) := fun z => q ⟨hs, z⟩
        have := lso_rg (S := S) h w
        omega
    · have ih := lso_le h k w (by omega) hs
      split <;> omega
def mx0 (a : Int) : Int := if 0 < a then a else 0
theorem lso_c {w : Nat} (h : ∀ w, 0 ≤ v w ∧ v w ≤ 1000) (hw : w < 8) (hs : S w = true) : 0 ≤ mx0 (lso S v 8) ∧ mx0 (lso S v 8) ≤ v w := by
  have := lso_le h 8 w hw hs
  unfold mx0
  split <;> omega
theorem cl_least {ob : Nat} (hob : ∀ (I : Nat → Nat → Int32) (a : Int), 0 ≤ a ∧ a < 392 → aI S0 (I, J, Pst b f) (some ob) (iI a) = some (I ob a.toNat)) (h8 : I 62 8 = iI (bt 8 S : Int)) (hx : x + 8 ≤ 392) (hI : ∀ w, w < 8 → I ob (x + w) = iI (v w)) (hv : ∀ w, 0 ≤ v w ∧ v w ≤ 1000) : Pairs_leastOf S0 (some 62) (some ob) (iI (x : Int)) (I, J, Pst b f) = some (iI (mx0 (lso S v 8))) := by
  have hr := lso_rg (S := S) hv
  have e := jgather (body := Pairs_leastOf_L5 S0 (some 62) (some ob) (iI (x : Int)) (I, J, Pst b f)) (fun k => iI (lso S v k)) 8 (fun k hk => ?_) ?_ (by omega)
  · have e' : jloop (Pairs_leastOf_L5 S0 (some 62) (some ob) (iI (x : Int)) (I, J, Pst b f)) jN (iI (-1), iI 0) = some (iI (lso S v 8)) := e
    have hmx : Jd_max (iI 0) (iI (lso S v 8)) = iI (mx0 (lso S v 8)) := by have := hr 8; rw [maxI (by omega)]; rfl
    simp only [Pairs_leastOf, rc0, gi0, gl0, pi0, pl0, pz0, pr0, gr0_0, gr0_1, gr0_2, gr0_3, gr0_4, gr0_5, gr0_6, gr0_7, gr0_8, rc1, gi1, gl1, pi1, pl1, pz1, pr1, gr1_0, rc3, gi3, gl3, pi3, pl3, pz3, pr3, gr3_0, gr3_10, gr3_11, rc47, gi47, gl47, pi47, pl47, pz47, pr47, gr47_0, gr47_1, gr47_2, gr47_3, gr47_4, gr47_5, gr47_6, rc55, gi55, gl55, pi55, pl55, pz55, pr55, gr55_0, gr55_1, rc58, gi58, gl58, pi58, pl58, pz58, pr58, gr58_0, gr58_1, rc61, gi61, gl61, pi61, pl61, pz61, pr61, gr61_0, gr61_1, gr61_2, gr61_7, rc62, gi62, gl62, pi62, pl62, pz62, pr62, gr62_0, gr62_1, gr62_2, gr62_3, gr62_4, gr62_5, ld2, st2, an2, ld4, st4, an4, ld5, st5, an5, an6, ld48, st48, an48, ld49, st49, an49, ld50, st50, an50, ld51, st51, an51, ld52, st52, an52, ld53, st53, an53, ld54, st54, an54, ld56, st56, an56, ld57, st57, an57, ld59, st59, an59, ld60, st60, an60, ld63, st63, an63, ld64, st64, an64, ld65, st65, an65, ld66, st66, an66, ld67, st67, an67, ld68, st68, an68, ld69, st69, an69, ld70, st70, an70, rcct, gict, glct, pict, plct, pzct, prct, grct_0, grct_1, grct_2, grct_3, ldctm, stctm, anctm, ldctr, stctr, anctr, ldctp, stctp, anctp, anctR, rcru, giru, glru, piru, plru, pzru, prru, grru_7, ldcu, stcu, ancu, arct, ar6, rcro, giro, piro, pzro, grro_1, grro_2, grro_3, rcfo, gifo, pifo, pzfo, grfo_0, grfo_1, ldfop, stfop, anfop, ldfoe, stfoe, anfoe, Option.bind_some, if_true, if_false, n_0, n_1, iI_neg, e', hmx]
  · have hb : bt 8 S < 2 ^ 8 := bt_lt _ _
    have hh : Fi_has (iI (bt 8 S : Int)) (iI (k : Int)) = bI (S k) := by
      rw [hasI _ _ (by omega) (by omega), Int.toNat_natCast, bt_bit]
      simp [hk]
    have hrk := hr k
    have hvk := hv k
    have hrd := hob I ((x : Int) + (k : Int)) (by omega)
    rw [show ((x : Int) + (k : Int)).toNat = x + k by omega, hI k hk] at hrd
    rw [lso_s]
    cases e1 : S k
    · simp (maxSteps := 4000000) (disch := omega) only [Pairs_leastOf_L5, rc0, gi0, gl0, pi0, pl0, pz0, pr0, gr0_0, gr0_1, gr0_2, gr0_3, gr0_4, gr0_5, gr0_6, gr0_7, gr0_8, rc1, gi1, gl1, pi1, pl1, pz1, pr1, gr1_0, rc3, gi3, gl3, pi3, pl3, pz3, pr3, gr3_0, gr3_10, gr3_11, rc47, gi47, gl47, pi47, pl47, pz47, pr47, gr47_0, gr47_1, gr47_2, gr47_3, gr47_4, gr47_5, gr47_6, rc55, gi55, gl55, pi55, pl55, pz55, pr55, gr55_0, gr55_1, rc58, gi58, gl58, pi58, pl58, pz58, pr58, gr58_0, gr58_1, rc61, gi61, gl61, pi61, pl61, pz61, pr61, gr61_0, gr61_1, gr61_2, gr61_7, rc62, gi62, gl62, pi62, pl62, pz62, pr62, gr62_0, gr62_1, gr62_2, gr62_3, gr62_4, gr62_5, ld2, st2, an2, ld4, st4, an4, ld5, st5, an5, an6, ld48, st48, an48, ld49, st49, an49, ld50, st50, an50, ld51, st51, an51, ld52, st52, an52, ld53, st53, an53, ld54, st54, an54, ld56, st56, an56, ld57, st57, an57, ld59, st59, an59, ld60, st60, an60, ld63, st63, an63, ld64, st64, an64, ld65, st65, an65, ld66, st66, an66, ld67, st67, an67, ld68, st68, an68, ld69, st69, an69, ld70, st70, an70, rcct, gict, glct, pict, plct, pzct, prct, grct_0, grct_1, grct_2, grct_3, ldctm, stctm, anctm, ldctr, stctr, anctr, ldctp, stctp, anctp, anctR, rcru, giru, glru, piru, plru, pzru, prru, grru_7, ldcu, stcu, ancu, arct, ar6, rcro, giro, piro, pzro, grro_1, grro_2, grro_3, rcfo, gifo, pifo, pzfo, grfo_0, grfo_1, ldfop, stfop, anfop, ldfoe, stfoe, anfoe, Option.bind_some, if_true, if_false, n_0, n_1, n_8, iI_neg, iI_add, iI_lt, iI_le, iI_eq, show ¬ (8 : Int) ≤ (k : Int) by omega, h8, hh, e1, bI_0, Bool.false_eq_true, false_and]
    · by_cases e2 : lso S v k = -1
      · simp (maxSteps := 4000000) (disch := omega) only [Pairs_leastOf_L5, rc0, gi0, gl0, pi0, pl0, pz0, pr0, gr0_0, gr0_1, gr0_2, gr0_3, gr0_4, gr0_5, gr0_6, gr0_7, gr0_8, rc1, gi1, gl1, pi1, pl1, pz1, pr1, gr1_0, rc3, gi3, gl3, pi3, pl3, pz3, pr3, gr3_0, gr3_10, gr3_11, rc47, gi47, gl47, pi47, pl47, pz47, pr47, gr47_0, gr47_1, gr47_2, gr47_3, gr47_4, gr47_5, gr47_6, rc55, gi55, gl55, pi55, pl55, pz55, pr55, gr55_0, gr55_1, rc58, gi58, gl58, pi58, pl58, pz58, pr58, gr58_0, gr58_1, rc61, gi61, gl61, pi61, pl61, pz61, pr61, gr61_0, gr61_1, gr61_2, gr61_7, rc62, gi62, gl62, pi62, pl62, pz62, pr62, gr62_0, gr62_1, gr62_2, gr62_3, gr62_4, gr62_5, ld2, st2, an2, ld4, st4, an4, ld5, st5, an5, an6, ld48, st48, an48, ld49, st49, an49, ld50, st50, an50, ld51, st51, an51, ld52, st52, an52, ld53, st53, an53, ld54, st54, an54, ld56, st56, an56, ld57, st57, an57, ld59, st59, an59, ld60, st60, an60, ld63, st63, an63, ld64, st64, an64, ld65, st65, an65, ld66, st66, an66, ld67, st67, an67, ld68, st68, an68, ld69, st69, an69, ld70, st70, an70, rcct, gict, glct, pict, plct, pzct, prct, grct_0, grct_1, grct_2, grct_3, ldctm, stctm, anctm, ldctr, stctr, anctr, ldctp, stctp, anctp, anctR, rcru, giru, glru, piru, plru, pzru, prru, grru_7, ldcu, stcu, ancu, arct, ar6, rcro, giro, piro, pzro, grro_1, grro_2, grro_3, rcfo, gifo, pifo, pzfo, grfo_0, grfo_1, ldfop, stfop, anfop, ldfoe, stfoe, anfoe, Option.bind_some, if_true, if_false, n_0, n_1, n_8, iI_neg, iI_add, iI_lt, iI_le, iI_eq, show ¬ (8 : Int) ≤ (k : Int) by omega, h8, hh, e1, bI_0, Bool.true_eq_false, e2, Sum.elim_inl, hrd, true_or, and_self]
      · by_cases e3 : lso S v k ≤ v k
        · simp (maxSteps := 4000000) (disch := omega) only [Pairs_leastOf_L5, rc0, gi0, gl0, pi0, pl0, pz0, pr0, gr0_0, gr0_1, gr0_2, gr0_3, gr0_4, gr0_5, gr0_6, gr0_7, gr0_8, rc1, gi1, gl1, pi1, pl1, pz1, pr1, gr1_0, rc3, gi3, gl3, pi3, pl3, pz3, pr3, gr3_0, gr3_10, gr3_11, rc47, gi47, gl47, pi47, pl47, pz47, pr47, gr47_0, gr47_1, gr47_2, gr47_3, gr47_4, gr47_5, gr47_6, rc55, gi55, gl55, pi55, pl55, pz55, pr55, gr55_0, gr55_1, rc58, gi58, gl58, pi58, pl58, pz58, pr58, gr58_0, gr58_1, rc61, gi61, gl61, pi61, pl61, pz61, pr61, gr61_0, gr61_1, gr61_2, gr61_7, rc62, gi62, gl62, pi62, pl62, pz62, pr62, gr62_0, gr62_1, gr62_2, gr62_3, gr62_4, gr62_5, ld2, st2, an2, ld4, st4, an4, ld5, st5, an5, an6, ld48, st48, an48, ld49, st49, an49, ld50, st50, an50, ld51, st51, an51, ld52, st52, an52, ld53, st53, an53, ld54, st54, an54, ld56, st56, an56, ld57, st57, an57, ld59, st59, an59, ld60, st60, an60, ld63, st63, an63, ld64, st64, an64, ld65, st65, an65, ld66, st66, an66, ld67, st67, an67, ld68, st68, an68, ld69, st69, an69, ld70, st70, an70, rcct, gict, glct, pict, plct, pzct, prct, grct_0, grct_1, grct_2, grct_3, ldctm, stctm, anctm, ldctr, stctr, anctr, ldctp, stctp, anctp, anctR, rcru, giru, glru, piru, plru, pzru, prru, grru_7, ldcu, stcu, ancu, arct, ar6, rcro, giro, piro, pzro, grro_1, grro_2, grro_3, rcfo, gifo, pifo, pzfo, grfo_0, grfo_1, ldfop, stfop, anfop, ldfoe, stfoe, anfoe, Option.bind_some, if_true, if_false, n_0, n_1, n_8, iI_neg, iI_add, iI_lt, iI_le, iI_eq, show ¬ (8 : Int) ≤ (k : Int) by omega, h8, hh, e1, bI_0, Bool.true_eq_false, e2, hrd, e3, Sum.elim_inr, false_or, show ¬ v k < lso S v k by omega, and_false]
        · simp (maxSteps := 4000000) (disch := omega) only [Pairs_leastOf_L5, rc0, gi0, gl0, pi0, pl0, pz0, pr0, gr0_0, gr0_1, gr0_2, gr0_3, gr0_4, gr0_5, gr0_6, gr0_7, gr0_8, rc1, gi1, gl1, pi1, pl1, pz1, pr1, gr1_0, rc3, gi3, gl3, pi3, pl3, pz3, pr3, gr3_0, gr3_10, gr3_11, rc47, gi47, gl47, pi47, pl47, pz47, pr47, gr47_0, gr47_1, gr47_2, gr47_3, gr47_4, gr47_5, gr47_6, rc55, gi55, gl55, pi55, pl55, pz55, pr55, gr55_0, gr55_1, rc58, gi58, gl58, pi58, pl58, pz58, pr58, gr58_0, gr58_1, rc61, gi61, gl61, pi61, pl61, pz61, pr61, gr61_0, gr61_1, gr61_2, gr61_7, rc62, gi62, gl62, pi62, pl62, pz62, pr62, gr62_0, gr62_1, gr62_2, gr62_3, gr62_4, gr62_5, ld2, st2, an2, ld4, st4, an4, ld5, st5, an5, an6, ld48, st48, an48, ld49, st49, an49, ld50, st50, an50, ld51, st51, an51, ld52, st52, an52, ld53, st53, an53, ld54, st54, an54, ld56, st56, an56, ld57, st57, an57, ld59, st59, an59, ld60, st60, an60, ld63, st63, an63, ld64, st64, an64, ld65, st65, an65, ld66, st66, an66, ld67, st67, an67, ld68, st68, an68, ld69, st69, an69, ld70, st70, an70, rcct, gict, glct, pict, plct, pzct, prct, grct_0, grct_1, grct_2, grct_3, ldctm, stctm, anctm, ldctr, stctr, anctr, ldctp, stctp, anctp, anctR, rcru, giru, glru, piru, plru, pzru, prru, grru_7, ldcu, stcu, ancu, arct, ar6, rcro, giro, piro, pzro, grro_1, grro_2, grro_3, rcfo, gifo, pifo, pzfo, grfo_0, grfo_1, ldfop, stfop, anfop, ldfoe, stfoe, anfoe, Option.bind_some, if_true, if_false, n_0, n_1, n_8, iI_neg, iI_add, iI_lt, iI_le, iI_eq, show ¬ (8 : Int) ≤ (k : Int) by omega, h8, hh, e1, bI_0, Bool.true_eq_false, e2, hrd, e3, Sum.elim_inl, false_or, show v k < lso S v k by omega, and_self]
  · simp (maxSteps := 4000000) (disch := omega) only [Pairs_leastOf_L5, Option.bind_some, if_true, if_false, n_8, iI_lt, iI_le, iI_eq, show (8 : Int) ≤ ((8 : Nat) : Int) by omega]
end
