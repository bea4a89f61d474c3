/-! ===== layer 2: seatings: where they sit by hand; the search ===== -/
section
variable {T : Tb} {I I' I'' : Nat → Nat → Int32} {J : Nat → Nat → Int64} {b : Bool} {f f0 k n i j x y p q d kk jj nn o : Nat} {m g lim w h mv c c1 c2 : Int} {tk kep sty : Nat → Bool} {pl : Nat → Nat} {hom : Nat → Int} {st : FdS}
def homF (T : Tb) (m g : Int) (i : Nat) : Int := if g = 2 ∧ T 14 (mg T i) = m then T 15 (mg T i) else -1
def styF (T : Tb) (m g : Int) (i : Nat) : Bool := decide (i < nK T) && decide ((g = 2 ∧ T 14 (mg T i) = m) ∧ T 13 (mg T i) = 1)
def kepF (T : Tb) (m g : Int) (k q : Nat) : Bool := anyb k (fun i => styF T m g i && decide (homF T m g i = (q : Int)))
set_option maxHeartbeats 8000000 in
theorem homF_rg (V : TV T) (hm : isM T m) (hn : (n : Int) = T 3 m.toNat) (hi : i < nK T) : -1 ≤ homF T m g i ∧ homF T m g i < n := by
  obtain ⟨⟨vA, vB⟩, ⟨vC, vD⟩, vE, vF⟩ := V
  have h3 := vB.2 _ (mN hm)
  unfold homF
  split
  · rename_i e
    rcases (vE (mg T i) (mg_lt vC hi)).2.2 with q | q
    · omega
    · have := q.2.1
      rw [e.2] at this
      omega
  · omega
set_option maxHeartbeats 8000000 in
theorem sI_one7 (h : k < 7) : shl (iI 1) (iI (k : Int)) = iI (bt 7 (fun y => decide (y = k)) : Int) := by
  rw [oneI' (k : Int) (by omega), Int.toNat_natCast, bt_one h]
abbrev oH (o : Nat) : Prop := o ≠ 61 ∧ o ≠ 70
set_option maxHeartbeats 8000000 in
theorem cl_homes (E : EC T b I) (V : TV T) (hm : isM T m) (hn : (n : Int) = T 3 m.toNat) (h8 : n ≤ 8) (hK : nK T ≤ 7) (hu : tuC T I) (h6 : I 61 6 = iI g) (hg : g = 0 ∨ g = 1 ∨ g = 2) : ∃ I', Search_lookAtHomes S0 (some 61) (some (ct b)) (some (ro m.toNat)) (I, J, Pst b f) = some (I', J, Pst b f) ∧ Agr oH I I' ∧ (∀ j, j ≠ 3 → j ≠ 4 → I' 61 j = I 61 j) ∧ seC T g (homF T m g) (styF T m g) (kepF T m g (nK T)) I' := by
  obtain ⟨⟨vA, vB⟩, ⟨vC, vD⟩, vE, vF⟩ := id V
  have hcb := ct_or b
  have hB := vB.1
  have hC := vC.1
  have key := jheap (J := J) (P := Pst b f) (I := hup (hup I 61 3 (iI 0)) 61 4 (iI 0)) (body := Search_lookAtHomes_L12 S0 (some 61) (some (ct b)) (some (ro m.toNat))) (fun k I' => (Agr oH I I' ∧ ∀ j, j ≠ 3 → j ≠ 4 → I' 61 j = I 61 j) ∧ I' 61 3 = iI (bt 7 (fun i => decide (i < k) && styF T m g i) : Int) ∧ I' 61 4 = iI (bt 8 (kepF T m g k) : Int) ∧ ∀ i, i < k → I' 70 i = iI (homF T m g i)) 0 (nK T) ⟨⟨((Agr.refl _ I).hup (by omega)).hup (by omega), fun j h1 h2 => by rw [hup_ix _ _ _ h2, hup_ix _ _ _ h1]⟩, ?_, ?_, fun i hi => by omega⟩ (by omega) (by omega) (fun k I1 _ hk q1 => ?_) (fun I1 q1 => ?_)
  · obtain ⟨I2, e1, ⟨e2, e3⟩, e4, e5, e6⟩ := key
    have e1' : jloop (Search_lookAtHomes_L12 S0 (some 61) (some (ct b)) (some (ro m.toNat))) jN (iI 0, (hup (hup I 61 3 (iI 0)) 61 4 (iI 0), J, Pst b f)) = some (I2, J, Pst b f) := e1
    refine ⟨I2, ?_, e2, e3, (e3 6 (by omega) (by omega)).trans h6, ?_, e5, e6⟩
    · unfold Search_lookAtHomes
      rw [rc61, Option.bind_some, n_0, pi61, Option.bind_some, pi61, Option.bind_some, e1', Option.bind_some]
    · rw [e4]
      refine sI_ext fun i _ => ?_
      unfold styF
      rw [← Bool.and_assoc, Bool.and_self]
  · rw [hup_ix _ _ _ (by omega), hup_same, show iI 0 = iI (bt 7 (fun _ => false) : Int) by rw [bt_z]; rfl]
    exact sI_ext fun p _ => by simp
  · rw [hup_same, show iI 0 = iI (bt 8 (fun _ => false) : Int) by rw [bt_z]; rfl]
    exact sI_ext fun p _ => rfl
  · have E1 := E.agr V (q1.1.1.sub fun o h => by omega)
    obtain ⟨⟨eA, eB⟩, ⟨eC, eD⟩, eE⟩ := id E1
    have hgx := mg_is hk
    have hlt := mg_lt vC hk
    have hG : isG T (mg T k : Int) := ⟨by omega, hlt⟩
    have u6 : I1 62 6 = iI (nK T : Int) := (q1.1.1 62 (by omega) 6).trans hu.1
    have uk : I1 63 k = iI (mg T k : Int) := (q1.1.1 63 (by omega) k).trans (hu.2 k hk)
    have g6 : I1 61 6 = iI g := (q1.1.2 6 (by omega) (by omega)).trans h6
    have s14 : I1 (ct b + 3) (mg T k) = iI (T 14 (mg T k)) := (eE.2 _ hlt).1
    have s15 : I1 (ct b + 4) (mg T k) = iI (T 15 (mg T k)) := (eE.2 _ hlt).2
    have hro : I1 (ro m.toNat) 0 = iI m := by
      have := (eB.2 m.toNat (by omega)).1
      rwa [show ((m.toNat : Nat) : Int) = m by omega] at this
    have vg := (vE _ hlt).2.2
    have vs := (vE _ hlt).2.1
    have hse := cl_isSeated (J := J) (f := f) eC eE vC vE vB (g := (mg T k : Int)) (by omega)
    have hse' : Court_isSeated S0 (some (ct b)) (iI (mg T k : Int)) (I1, J, Pst b f) = some (bI (decide (T 14 (mg T k) ≠ -1))) := by
      rw [hse, Int.toNat_natCast]
      have : (isG T (mg T k : Int) ∧ T 14 (mg T k) ≠ -1) ↔ T 14 (mg T k) ≠ -1 := ⟨And.right, fun q => ⟨hG, q⟩⟩
      rw [decide_eq_decide.mpr this]
    have c1 : ¬ (nK T : Int) ≤ (k : Int) := by omega
    have c2 : ¬ (7 : Int) ≤ (k : Int) := by omega
    have hct8 : ∀ v, hup I1 70 k v (ct b) 8 = iI (bsit T : Int) := fun v => by rw [hup_obj _ _ _ (by omega)]; exact eE.1.2
    have hsit := hasSit vC hG
    rw [Int.toNat_natCast] at hsit
    have hno : ∀ v, homF T m g k = v → styF T m g k = false → (Agr oH I (hup I1 70 k (iI v)) ∧ ∀ j, j ≠ 3 → j ≠ 4 → hup I1 70 k (iI v) 61 j = I 61 j) ∧ hup I1 70 k (iI v) 61 3 = iI (bt 7 (fun i => decide (i < k + 1) && styF T m g i) : Int) ∧ hup I1 70 k (iI v) 61 4 = iI (bt 8 (kepF T m g (k + 1)) : Int) ∧ ∀ i, i < k + 1 → hup I1 70 k (iI v) 70 i = iI (homF T m g i) := fun v h1 h2 => by
      refine ⟨⟨q1.1.1.hup (by omega), fun j a1 a2 => by rw [hup_obj _ _ _ (by omega)]; exact q1.1.2 j a1 a2⟩, ?_, ?_, fun i hi => ?_⟩
      · rw [hup_obj _ _ _ (by omega), q1.2.1]
        refine sI_ext fun i _ => ?_
        by_cases e : i = k
        · rw [e, h2, Bool.and_false, Bool.and_false]
        · simp only [lt_sk i k e]
      · rw [hup_obj _ _ _ (by omega), q1.2.2.1]
        refine sI_ext fun p _ => ?_
        show _ = (kepF T m g k p || (styF T m g k && decide (homF T m g k = (p : Int))))
        rw [h2, Bool.false_and, Bool.or_false]
      · by_cases e : i = k
        · rw [e, hup_same, h1]
        · rw [hup_ix _ _ _ e]; exact q1.2.2.2 i (by omega)
    have hf0 : ¬ (g = 2 ∧ T 14 (mg T k) = m) → homF T m g k = -1 ∧ styF T m g k = false := fun q => ⟨if_neg q, by unfold styF; rw [decide_eq_false (p := (g = 2 ∧ T 14 (mg T k) = m) ∧ T 13 (mg T k) = 1) (fun z => q z.1), Bool.and_false]⟩
    by_cases eg : g = 2
    · by_cases e1 : T 14 (mg T k) = -1
      · have h0 := hf0 fun q => by omega
        rw [decide_eq_false (p := T 14 (mg T k) ≠ -1) (fun q => q e1)] at hse'
        refine ⟨hup I1 70 k (iI (-1)), ?_, hno _ h0.1 h0.2⟩
        simp (maxSteps := 4000000) (disch := omega) only [Search_lookAtHomes_L12, rc0, gi0, gl0, pi0, pl0, pz0, pr0, gr0_0, gr0_1, gr0_2, gr0_3, gr0_4, gr0_5, gr0_6, gr0_7, gr0_8, rc1, gi1, gl1, pi1, pl1, pz1, pr1, gr1_0, rc3, gi3, gl3, pi3, pl3, pz3, pr3, gr3_0, gr3_10, gr3_11, rc47, gi47, gl47, pi47, pl47, pz47, pr47, gr47_0, gr47_1, gr47_2, gr47_3, gr47_4, gr47_5, gr47_6, rc55, gi55, gl55, pi55, pl55, pz55, pr55, gr55_0, gr55_1, rc58, gi58, gl58, pi58, pl58, pz58, pr58, gr58_0, gr58_1, rc61, gi61, gl61, pi61, pl61, pz61, pr61, gr61_0, gr61_1, gr61_2, gr61_7, rc62, gi62, gl62, pi62, pl62, pz62, pr62, gr62_0, gr62_1, gr62_2, gr62_3, gr62_4, gr62_5, ld2, st2, an2, ld4, st4, an4, ld5, st5, an5, an6, ld48, st48, an48, ld49, st49, an49, ld50, st50, an50, ld51, st51, an51, ld52, st52, an52, ld53, st53, an53, ld54, st54, an54, ld56, st56, an56, ld57, st57, an57, ld59, st59, an59, ld60, st60, an60, ld63, st63, an63, ld64, st64, an64, ld65, st65, an65, ld66, st66, an66, ld67, st67, an67, ld68, st68, an68, ld69, st69, an69, ld70, st70, an70, rcct, gict, glct, pict, plct, pzct, prct, grct_0, grct_1, grct_2, grct_3, ldctm, stctm, anctm, ldctr, stctr, anctr, ldctp, stctp, anctp, anctR, rcru, giru, glru, piru, plru, pzru, prru, grru_7, ldcu, stcu, ancu, arct, ar6, rcro, giro, piro, pzro, grro_1, grro_2, grro_3, rcfo, gifo, pifo, pzfo, grfo_0, grfo_1, ldfop, stfop, anfop, ldfoe, stfoe, anfoe, Option.bind_some, if_true, if_false, n_0, n_1, n_2, n_3, n_4, n_5, n_6, n_7, n_8, n_9, n_10, n_12, n_15, n_20, n_24, n_32, n_48, n_57, n_59, n_80, n_97, n_99, n_100, n_122, n_680, n_700, n_999, n_1023, n_1024, iI_neg, iI_add, iI_sub, iI_lt, iI_le, iI_eq, u6, c1, c2, Int.toNat_natCast, uk, g6, eq_true eg, hse', bI_0]
      · rw [decide_eq_true (p := T 14 (mg T k) ≠ -1) e1] at hse'
        by_cases e2 : T 14 (mg T k) = m
        · have h1 : homF T m g k = T 15 (mg T k) := if_pos ⟨eg, e2⟩
          have h15 : 0 ≤ T 15 (mg T k) ∧ T 15 (mg T k) < 8 := by
            rcases vg with q | q
            · omega
            · have := q.2.1
              rw [e2] at this
              omega
          obtain ⟨q, hq⟩ := nN _ h15.1
          rcases vs with e3 | e3
          · have h2 : styF T m g k = false := by
              unfold styF
              rw [decide_eq_false (p := (g = 2 ∧ T 14 (mg T k) = m) ∧ T 13 (mg T k) = 1) (fun z => by have := z.2; omega), Bool.and_false]
            rw [decide_eq_false (p := T 13 (mg T k) = 1) (by omega)] at hsit
            refine ⟨hup I1 70 k (iI (T 15 (mg T k))), ?_, hno _ h1 h2⟩
            simp (maxSteps := 4000000) (disch := omega) only [Search_lookAtHomes_L12, rc0, gi0, gl0, pi0, pl0, pz0, pr0, gr0_0, gr0_1, gr0_2, gr0_3, gr0_4, gr0_5, gr0_6, gr0_7, gr0_8, rc1, gi1, gl1, pi1, pl1, pz1, pr1, gr1_0, rc3, gi3, gl3, pi3, pl3, pz3, pr3, gr3_0, gr3_10, gr3_11, rc47, gi47, gl47, pi47, pl47, pz47, pr47, gr47_0, gr47_1, gr47_2, gr47_3, gr47_4, gr47_5, gr47_6, rc55, gi55, gl55, pi55, pl55, pz55, pr55, gr55_0, gr55_1, rc58, gi58, gl58, pi58, pl58, pz58, pr58, gr58_0, gr58_1, rc61, gi61, gl61, pi61, pl61, pz61, pr61, gr61_0, gr61_1, gr61_2, gr61_7, rc62, gi62, gl62, pi62, pl62, pz62, pr62, gr62_0, gr62_1, gr62_2, gr62_3, gr62_4, gr62_5, ld2, st2, an2, ld4, st4, an4, ld5, st5, an5, an6, ld48, st48, an48, ld49, st49, an49, ld50, st50, an50, ld51, st51, an51, ld52, st52, an52, ld53, st53, an53, ld54, st54, an54, ld56, st56, an56, ld57, st57, an57, ld59, st59, an59, ld60, st60, an60, ld63, st63, an63, ld64, st64, an64, ld65, st65, an65, ld66, st66, an66, ld67, st67, an67, ld68, st68, an68, ld69, st69, an69, ld70, st70, an70, rcct, gict, glct, pict, plct, pzct, prct, grct_0, grct_1, grct_2, grct_3, ldctm, stctm, anctm, ldctr, stctr, anctr, ldctp, stctp, anctp, anctR, rcru, giru, glru, piru, plru, pzru, prru, grru_7, ldcu, stcu, ancu, arct, ar6, rcro, giro, piro, pzro, grro_1, grro_2, grro_3, rcfo, gifo, pifo, pzfo, grfo_0, grfo_1, ldfop, stfop, anfop, ldfoe, stfoe, anfoe, Option.bind_some, if_true, if_false, n_0, n_1, n_2, n_3, n_4, n_5, n_6, n_7, n_8, n_9, n_10, n_12, n_15, n_20, n_24, n_32, n_48, n_57, n_59, n_80, n_97, n_99, n_100, n_122, n_680, n_700, n_999, n_1023, n_1024, iI_neg, iI_add, iI_sub, iI_lt, iI_le, iI_eq, u6, c1, c2, Int.toNat_natCast, uk, g6, eq_true eg, hse', bI_0, Bool.true_eq_false, s14, hro, eq_true e2, s15, hct8, hsit, show ¬ (1 : Int) = 0 by omega]
          · have h2 : styF T m g k = true := by
              unfold styF
              rw [decide_eq_true hk, decide_eq_true (p := (g = 2 ∧ T 14 (mg T k) = m) ∧ T 13 (mg T k) = 1) ⟨⟨eg, e2⟩, e3⟩]
              rfl
            rw [decide_eq_true (p := T 13 (mg T k) = 1) e3] at hsit
            rw [hq] at s15 h1
            have w3 : ∀ v, hup I1 70 k v 61 3 = iI (bt 7 (fun i => decide (i < k) && styF T m g i) : Int) := fun v => by rw [hup_obj _ _ _ (by omega)]; exact q1.2.1
            have w4 : ∀ v u, hup (hup I1 70 k v) 61 3 u 61 4 = iI (bt 8 (kepF T m g k) : Int) := fun v u => by rw [hup_ix _ _ _ (by omega), hup_obj _ _ _ (by omega)]; exact q1.2.2.1
            have w7 : ∀ v u, hup (hup I1 70 k v) 61 3 u 70 k = v := fun v u => by rw [hup_obj _ _ _ (by omega), hup_same]
            have hor : iI (bt 7 (fun i => decide (i < k) && styF T m g i) : Int) ||| iI (bt 7 (fun y => decide (y = k)) : Int) = iI (bt 7 (fun i => decide (i < k + 1) && styF T m g i) : Int) := by
              rw [sI_or]
              refine sI_ext fun i _ => ?_
              by_cases e : i = k
              · rw [e, h2]; simp
              · rw [decide_eq_false e, Bool.or_false]; simp only [lt_sk i k e]
            have hor2 : iI (bt 8 (kepF T m g k) : Int) ||| iI (bt 8 (fun y => decide (y = q)) : Int) = iI (bt 8 (kepF T m g (k + 1)) : Int) := by
              rw [sI_or]
              refine sI_ext fun p _ => ?_
              show _ = (kepF T m g k p || (styF T m g k && decide (homF T m g k = (p : Int))))
              rw [h2, h1, Bool.true_and]
              congr 1
              exact decide_eq_decide.mpr ⟨fun z => by omega, fun z => by omega⟩
            refine ⟨hup (hup (hup I1 70 k (iI (q : Int))) 61 3 (iI (bt 7 (fun i => decide (i < k + 1) && styF T m g i) : Int))) 61 4 (iI (bt 8 (kepF T m g (k + 1)) : Int)), ?_, ⟨((q1.1.1.hup (by omega)).hup (by omega)).hup (by omega), fun j a1 a2 => ?_⟩, ?_, hup_same _ _ _ _, fun i hi => ?_⟩
            · simp (maxSteps := 4000000) (disch := omega) only [Search_lookAtHomes_L12, rc0, gi0, gl0, pi0, pl0, pz0, pr0, gr0_0, gr0_1, gr0_2, gr0_3, gr0_4, gr0_5, gr0_6, gr0_7, gr0_8, rc1, gi1, gl1, pi1, pl1, pz1, pr1, gr1_0, rc3, gi3, gl3, pi3, pl3, pz3, pr3, gr3_0, gr3_10, gr3_11, rc47, gi47, gl47, pi47, pl47, pz47, pr47, gr47_0, gr47_1, gr47_2, gr47_3, gr47_4, gr47_5, gr47_6, rc55, gi55, gl55, pi55, pl55, pz55, pr55, gr55_0, gr55_1, rc58, gi58, gl58, pi58, pl58, pz58, pr58, gr58_0, gr58_1, rc61, gi61, gl61, pi61, pl61, pz61, pr61, gr61_0, gr61_1, gr61_2, gr61_7, rc62, gi62, gl62, pi62, pl62, pz62, pr62, gr62_0, gr62_1, gr62_2, gr62_3, gr62_4, gr62_5, ld2, st2, an2, ld4, st4, an4, ld5, st5, an5, an6, ld48, st48, an48, ld49, st49, an49, ld50, st50, an50, ld51, st51, an51, ld52, st52, an52, ld53, st53, an53, ld54, st54, an54, ld56, st56, an56, ld57, st57, an57, ld59, st59, an59, ld60, st60, an60, ld63, st63, an63, ld64, st64, an64, ld65, st65, an65, ld66, st66, an66, ld67, st67, an67, ld68, st68, an68, ld69, st69, an69, ld70, st70, an70, rcct, gict, glct, pict, plct, pzct, prct, grct_0, grct_1, grct_2, grct_3, ldctm, stctm, anctm, ldctr, stctr, anctr, ldctp, stctp, anctp, anctR, rcru, giru, glru, piru, plru, pzru, prru, grru_7, ldcu, stcu, ancu, arct, ar6, rcro, giro, piro, pzro, grro_1, grro_2, grro_3, rcfo, gifo, pifo, pzfo, grfo_0, grfo_1, ldfop, stfop, anfop, ldfoe, stfoe, anfoe, Option.bind_some, if_true, if_false, n_0, n_1, n_2, n_3, n_4, n_5, n_6, n_7, n_8, n_9, n_10, n_12, n_15, n_20, n_24, n_32, n_48, n_57, n_59, n_80, n_97, n_99, n_100, n_122, n_680, n_700, n_999, n_1023, n_1024, iI_neg, iI_add, iI_sub, iI_lt, iI_le, iI_eq, u6, c1, c2, Int.toNat_natCast, uk, g6, eq_true eg, hse', bI_0, Bool.true_eq_false, s14, hro, eq_true e2, s15, hct8, hsit, show ¬ (1 : Int) = 0 by omega, w3, w4, w7, sI_one7 (show k < 7 by omega), hor, sI_one8 (show q < 8 by omega), hor2]
            · rw [hup_ix _ _ _ a2, hup_ix _ _ _ a1, hup_obj _ _ _ (by omega)]; exact q1.1.2 j a1 a2
            · rw [hup_ix _ _ _ (by omega), hup_same]
            · rw [hup_obj _ _ _ (by omega), hup_obj _ _ _ (by omega)]
              by_cases e : i = k
              · rw [e, hup_same, h1]
              · rw [hup_ix _ _ _ e]; exact q1.2.2.2 i (by omega)
        · have h0 := hf0 fun q => e2 q.2
          refine ⟨hup I1 70 k (iI (-1)), ?_, hno _ h0.1 h0.2⟩
          simp (maxSteps := 4000000) (disch := omega) only [Search_lookAtHomes_L12, rc0, gi0, gl0, pi0, pl0, pz0, pr0, gr0_0, gr0_1, gr0_2, gr0_3, gr0_4, gr0_5, gr0_6, gr0_7, gr0_8, rc1, gi1, gl1, pi1, pl1, pz1, pr1, gr1_0, rc3, gi3, gl3, pi3, pl3, pz3, pr3, gr3_0, gr3_10, gr3_11, rc47, gi47, gl47, pi47, pl47, pz47, pr47, gr47_0, gr47_1, gr47_2, gr47_3, gr47_4, gr47_5, gr47_6, rc55, gi55, gl55, pi55, pl55, pz55, pr55, gr55_0, gr55_1, rc58, gi58, gl58, pi58, pl58, pz58, pr58, gr58_0, gr58_1, rc61, gi61, gl61, pi61, pl61, pz61, pr61, gr61_0, gr61_1, gr61_2, gr61_7, rc62, gi62, gl62, pi62, pl62, pz62, pr62, gr62_0, gr62_1, gr62_2, gr62_3, gr62_4, gr62_5, ld2, st2, an2, ld4, st4, an4, ld5, st5, an5, an6, ld48, st48, an48, ld49, st49, an49, ld50, st50, an50, ld51, st51, an51, ld52, st52, an52, ld53, st53, an53, ld54, st54, an54, ld56, st56, an56, ld57, st57, an57, ld59, st59, an59, ld60, st60, an60, ld63, st63, an63, ld64, st64, an64, ld65, st65, an65, ld66, st66, an66, ld67, st67, an67, ld68, st68, an68, ld69, st69, an69, ld70, st70, an70, rcct, gict, glct, pict, plct, pzct, prct, grct_0, grct_1, grct_2, grct_3, ldctm, stctm, anctm, ldctr, stctr, anctr, ldctp, stctp, anctp, anctR, rcru, giru, glru, piru, plru, pzru, prru, grru_7, ldcu, stcu, ancu, arct, ar6, rcro, giro, piro, pzro, grro_1, grro_2, grro_3, rcfo, gifo, pifo, pzfo, grfo_0, grfo_1, ldfop, stfop, anfop, ldfoe, stfoe, anfoe, Option.bind_some, if_true, if_false, n_0, n_1, n_2, n_3, n_4, n_5, n_6, n_7, n_8, n_9, n_10, n_12, n_15, n_20, n_24, n_32, n_48, n_57, n_59, n_80, n_97, n_99, n_100, n_122, n_680, n_700, n_999, n_1023, n_1024, iI_neg, iI_add, iI_sub, iI_lt, iI_le, iI_eq, u6, c1, c2, Int.toNat_natCast, uk, g6, eq_true eg, hse', bI_0, Bool.true_eq_false, s14, hro, eq_false e2]
    · have h0 := hf0 fun q => eg q.1
      refine ⟨hup I1 70 k (iI (-1)), ?_, hno _ h0.1 h0.2⟩
      simp (maxSteps := 4000000) (disch := omega) only [Search_lookAtHomes_L12, rc0, gi0, gl0, pi0, pl0, pz0, pr0, gr0_0, gr0_1, gr0_2, gr0_3, gr0_4, gr0_5, gr0_6, gr0_7, gr0_8, rc1, gi1, gl1, pi1, pl1, pz1, pr1, gr1_0, rc3, gi3, gl3, pi3, pl3, pz3, pr3, gr3_0, gr3_10, gr3_11, rc47, gi47, gl47, pi47, pl47, pz47, pr47, gr47_0, gr47_1, gr47_2, gr47_3, gr47_4, gr47_5, gr47_6, rc55, gi55, gl55, pi55, pl55, pz55, pr55, gr55_0, gr55_1, rc58, gi58, gl58, pi58, pl58, pz58, pr58, gr58_0, gr58_1, rc61, gi61, gl61, pi61, pl61, pz61, pr61, gr61_0, gr61_1, gr61_2, gr61_7, rc62, gi62, gl62, pi62, pl62, pz62, pr62, gr62_0, gr62_1, gr62_2, gr62_3, gr62_4, gr62_5, ld2, st2, an2, ld4, st4, an4, ld5, st5, an5, an6, ld48, st48, an48, ld49, st49, an49, ld50, st50, an50, ld51, st51, an51, ld52, st52, an52, ld53, st53, an53, ld54, st54, an54, ld56, st56, an56, ld57, st57, an57, ld59, st59, an59, ld60, st60, an60, ld63, st63, an63, ld64, st64, an64, ld65, st65, an65, ld66, st66, an66, ld67, st67, an67, ld68, st68, an68, ld69, st69, an69, ld70, st70, an70, rcct, gict, glct, pict, plct, pzct, prct, grct_0, grct_1, grct_2, grct_3, ldctm, stctm, anctm, ldctr, stctr, anctr, ldctp, stctp, anctp, anctR, rcru, giru, glru, piru, plru, pzru, prru, grru_7, ldcu, stcu, ancu, arct, ar6, rcro, giro, piro, pzro, grro_1, grro_2, grro_3, rcfo, gifo, pifo, pzfo, grfo_0, grfo_1, ldfop, stfop, anfop, ldfoe, stfoe, anfoe, Option.bind_some, if_true, if_false, n_0, n_1, n_2, n_3, n_4, n_5, n_6, n_7, n_8, n_9, n_10, n_12, n_15, n_20, n_24, n_32, n_48, n_57, n_59, n_80, n_97, n_99, n_100, n_122, n_680, n_700, n_999, n_1023, n_1024, iI_neg, iI_add, iI_sub, iI_lt, iI_le, iI_eq, u6, c1, c2, Int.toNat_natCast, uk, g6, eq_false eg]
  · have u6 : I1 62 6 = iI (nK T : Int) := (q1.1.1 62 (by omega) 6).trans hu.1
    simp (maxSteps := 4000000) (disch := omega) only [Search_lookAtHomes_L12, rc0, gi0, gl0, pi0, pl0, pz0, pr0, gr0_0, gr0_1, gr0_2, gr0_3, gr0_4, gr0_5, gr0_6, gr0_7, gr0_8, rc1, gi1, gl1, pi1, pl1, pz1, pr1, gr1_0, rc3, gi3, gl3, pi3, pl3, pz3, pr3, gr3_0, gr3_10, gr3_11, rc47, gi47, gl47, pi47, pl47, pz47, pr47, gr47_0, gr47_1, gr47_2, gr47_3, gr47_4, gr47_5, gr47_6, rc55, gi55, gl55, pi55, pl55, pz55, pr55, gr55_0, gr55_1, rc58, gi58, gl58, pi58, pl58, pz58, pr58, gr58_0, gr58_1, rc61, gi61, gl61, pi61, pl61, pz61, pr61, gr61_0, gr61_1, gr61_2, gr61_7, rc62, gi62, gl62, pi62, pl62, pz62, pr62, gr62_0, gr62_1, gr62_2, gr62_3, gr62_4, gr62_5, ld2, st2, an2, ld4, st4, an4, ld5, st5, an5, an6, ld48, st48, an48, ld49, st49, an49, ld50, st50, an50, ld51, st51, an51, ld52, st52, an52, ld53, st53, an53, ld54, st54, an54, ld56, st56, an56, ld57, st57, an57, ld59, st59, an59, ld60, st60, an60, ld63, st63, an63, ld64, st64, an64, ld65, st65, an65, ld66, st66, an66, ld67, st67, an67, ld68, st68, an68, ld69, st69, an69, ld70, st70, an70, rcct, gict, glct, pict, plct, pzct, prct, grct_0, grct_1, grct_2, grct_3, ldctm, stctm, anctm, ldctr, stctr, anctr, ldctp, stctp, anctp, anctR, rcru, giru, glru, piru, plru, pzru, prru, grru_7, ldcu, stcu, ancu, arct, ar6, rcro, giro, piro, pzro, grro_1, grro_2, grro_3, rcfo, gifo, pifo, pzfo, grfo_0, grfo_1, ldfop, stfop, anfop, ldfoe, stfoe, anfoe, Option.bind_some, if_true, if_false, iI_lt, iI_le, iI_eq, u6, show (nK T : Int) ≤ (nK T : Int) by omega]
/-! nothing found yet -/
def st0 : FdS := (false, 0, 0, 0, 0, fun _ => -1, fun _ _ => false)
def fnd (T : Tb) (m : Int) (n : Nat) (g lim : Int) : FdS := sFd T m n g lim (homF T m g) (styF T m g) (nK T) (fun _ => false) (fun _ => 0) 0 0 0 st0
set_option maxHeartbeats 8000000 in
theorem cl_forget (hk : kk < 4 ∧ jj < 3) (hf : f = fo kk jj) : ∃ I', Found_forget S0 (some f) (iI c) (iI lim) (I, J, Pst b f0) = some (I', J, Pst b f0) ∧ Agr (fun o => o ≠ f ∧ o ≠ f + 1 ∧ o ≠ f + 2) I I' ∧ I' f 2 = iI c ∧ fdC T f lim st0 I' := by
  have hfo := fo_is hk
  subst hf
  obtain ⟨I1, f1, f2, f3⟩ := fillI (J := J) (P := Pst b f0) (I := hup (hup (hup (hup I (fo kk jj) 2 (iI c)) (fo kk jj) 3 (iI lim)) (fo kk jj) 4 (bI false)) (fo kk jj) 8 (bI false)) (N := 10) (ob := fo kk jj + 1) (vl := iI (-1)) (by omega) (anfop hk) (fun a I ha => stfop hk (by omega))
  obtain ⟨I2, g1, g2, g3⟩ := fillI (J := J) (P := Pst b f0) (I := I1) (N := 10) (ob := fo kk jj + 2) (vl := bI false) (by omega) (anfoe hk) (fun a I ha => stfoe hk (by omega))
  have a5 : ∀ k, I2 (fo kk jj) k = hup (hup (hup (hup I (fo kk jj) 2 (iI c)) (fo kk jj) 3 (iI lim)) (fo kk jj) 4 (bI false)) (fo kk jj) 8 (bI false) (fo kk jj) k := fun k => (g2 (fo kk jj) (by omega) k).trans (f2 (fo kk jj) (by omega) k)
  refine ⟨I2, ?_, ((((((Agr.refl _ I).hup (by omega)).hup (by omega)).hup (by omega)).hup (by omega)).trans (f2.sub fun o h => by omega)).trans (g2.sub fun o h => by omega), ?_, ⟨?_, ?_, ?_⟩, (fun q => by cases q), fun y hy => ?_⟩
  · unfold Found_forget
    rw [rcfo hk, Option.bind_some, n_1, iI_neg, show (0 : Int32) = bI false from rfl, pifo hk, Option.bind_some, pifo hk, Option.bind_some, pzfo hk, Option.bind_some, pifo hk, Option.bind_some, grfo_0 hk, Option.bind_some, f1, Option.bind_some, grfo_1 hk, Option.bind_some, g1, Option.bind_some]
  · rw [a5]; simp [hup]
  · rw [a5]; simp [hup]
  · rw [a5]; simp [hup, st0]
  · rw [a5]; simp [hup, st0]; rfl
  · refine ⟨?_, ?_⟩
    · rw [g2 _ (by omega), f3 y hy]
      show iI (-1) = iI (if cmb T y = true then -1 else -1)
      rw [ite_self]
    · rw [g3 y hy, show bI false = iI (bt 8 (fun _ => false) : Int) by rw [bt_z]; rfl]
      exact sI_ext fun p _ => by simp [st0]
set_option maxHeartbeats 8000000 in
theorem Pst_f (b : Bool) (f f' : Nat) : hup (Pst b f) 61 7 (some f') = Pst b f' := by
  funext o k
  unfold hup Pst
  by_cases e : o = 61 ∧ k = 7
  · obtain ⟨rfl, rfl⟩ := e
    simp
  · rw [if_neg e]
    simp only [e, if_false]
abbrev oK (f o : Nat) : Prop := (o < 61 ∨ 70 < o) ∧ o ≠ f ∧ o ≠ f + 1 ∧ o ≠ f + 2
set_option maxHeartbeats 8000000 in
theorem cl_seek (E : EC T b I) (V : TV T) (hm : isM T m) (hn : (n : Int) = T 3 m.toNat) (h8 : n ≤ 8) (hK : nK T ≤ 7) (hk : kk < 4 ∧ jj < 3) (hf : f = fo kk jj) (hl : rg lim) (hg : g = 0 ∨ g = 1 ∨ g = 2) (hF : fdC T f lim st0 I) : ∃ I', Search_seek S0 (some 61) (some (ct b)) (some (ro m.toNat)) (iI g) (some f) (I, J, Pst b f0) = some (I', J, Pst b f) ∧ Agr (oK f) I I' ∧ I' f 2 = I f 2 ∧ fdC T f lim (fnd T m n g lim) I' := by
  obtain ⟨⟨vA, vB⟩, ⟨vC, vD⟩, vE, vF⟩ := id V
  have hfo := fo_is hk
  have ag0 : Agr (fun o => o ≠ 61) I (hup (hup I 61 6 (iI g)) 61 5 (iI 0)) := ((Agr.refl _ I).hup (by omega)).hup (by omega)
  obtain ⟨I1, a1, a2, a3⟩ := cl_lay (J := J) (f := f) (n := n) (E.agr V (ag0.sub fun o h => by omega)) V hm hn h8 hK
  have ag1 := (ag0.sub (s' := fun o => o < 61 ∨ 68 < o) fun o h => by omega).trans (a2.sub fun o h => by omega)
  have h16 : I1 61 6 = iI g := by rw [a2 61 (by omega) 6]; simp [hup]
  have h15 : I1 61 5 = iI 0 := by rw [a2 61 (by omega) 5]; simp [hup]
  obtain ⟨I2, b1, b2, b3, b4⟩ := cl_homes (J := J) (f := f) (n := n) (E.agr V (ag1.sub fun o h => by omega)) V hm hn h8 hK a3.1.1 h16 hg
  have hP2 := a3.agr (b2.sub fun o h => by omega)
  have h25 : I2 61 5 = iI (bt 8 (fun _ => false) : Int) := by rw [b3 5 (by omega) (by omega), h15, bt_z]; rfl
  have ag2 : Agr (fun o => o < 61 ∨ 70 < o) I I2 := (ag1.sub fun o h => by omega).trans (b2.sub fun o h => by omega)
  have hh : ∀ i, i < nK T → -1 ≤ homF T m g i ∧ homF T m g i < 10 := fun i hi => by have := homF_rg (g := g) V hm hn hi; omega
  have hkp : ∀ p, kepF T m g (nK T) p = true → ∃ j, j < nK T ∧ styF T m g j = true ∧ homF T m g j = (p : Int) := fun p hp => by
    obtain ⟨j, j1, j2⟩ := anyb_iff.mp hp
    simp only [Bool.and_eq_true, decide_eq_true_eq] at j2
    exact ⟨j, j1, j2⟩
  obtain ⟨I3, c1, ⟨c2, c3, c4, c5⟩, c6, c7⟩ := cl_seat (J := J) (b := b) vC vD hK h8 hk hf hl hg hh hkp (nK T) RD (fun _ => false) (fun _ => 0) 0 0 0 st0 I2 (Nat.le_refl _) (by unfold RD; omega) hP2 b4 h25 (hF.agr (ag2.sub fun o h => by omega)) (fun q => by cases q) (fun j hj => by omega) (fun j hj => by omega) (fun j hj => by omega) (by omega) (by omega) (by omega)
  rw [Nat.sub_self] at c1
  refine ⟨I3, ?_, (ag2.sub fun o h => h.1).trans (c2.sub fun o h => by omega), c5.trans (ag2 f (by omega) 2), c6⟩
  have c1' : Search_seatFrom S0 RD (some 61) (iI 0) (iI 0) (iI 0) (iI 0) (I2, J, Pst b f) = some (I3, J, Pst b f) := c1
  unfold Search_seek
  rw [rc61, Option.bind_some, pi61, Option.bind_some, pr61, Option.bind_some, Pst_f, n_0, pi61, Option.bind_some, gr61_0, Option.bind_some, a1, Option.bind_some, b1, Option.bind_some, c1', Option.bind_some]
end
