/-! ===== layer 2: slights, slight, minds, class's side ===== -/
section
variable {T : Tb} {I I' : Nat → Nat → Int32} {J : Nat → Nat → Int64} {b v : Bool} {f k : Nat} {P : Nat → Nat → Option Nat} {a g w c1 c2 c s p m n q o : Int} {r x y : Nat} {pl : Nat → Int} {L : List S3}
/-- the places of those seated in the room m by hand, s places on -/
def plh (T : Tb) (m s : Int) (g : Nat) : Int := if (g : Int) < T 0 2 ∧ T 14 g = m then (T 15 g + s) % T 3 m.toNat else -1
theorem plh_ok (V : TV T) (hm : isM T m) : plV T m (plh T m s) := fun g => by
  obtain ⟨⟨vA, vB⟩, ⟨vC, vD⟩, vE, vF⟩ := V
  have h1 := (vB.2 _ (mN hm)).2
  unfold plh
  by_cases q : (g : Int) < T 0 2 ∧ T 14 g = m
  · rw [if_pos q]
    have := vE g q.1
    have h2 := mod_rg (a := T 15 g + s) h1
    exact Or.inr ⟨⟨q.1, by omega⟩, h2⟩
  · rw [if_neg q]; exact Or.inl rfl
theorem cl_onward {k : Nat} (h : cB T I) (ht : tvB T) (hk : k < T 0 1) (ha : 0 ≤ a ∧ a < 10) (hs : 0 ≤ s ∧ s < 20) : Room_onward S0 (some (ro k)) (iI a) (iI s) (I, J, P) = some (iI ((a + s) % T 3 k)) := by
  have h0 := ht.1
  have h1 := ht.2 k hk
  have h2 := (h.2 k (by omega)).2 hk
  simp (disch := omega) only [Room_onward, rc0, gi0, gl0, pi0, pl0, pz0, pr0, gr0_0, gr0_1, gr0_2, gr0_3, gr0_4, gr0_5, gr0_6, gr0_7, gr0_8, rc1, gi1, gl1, pi1, pl1, pz1, pr1, gr1_0, rc3, gi3, gl3, pi3, pl3, pz3, pr3, gr3_0, gr3_10, gr3_11, rc47, gi47, gl47, pi47, pl47, pz47, pr47, gr47_0, gr47_1, gr47_2, gr47_3, gr47_4, gr47_5, gr47_6, rc55, gi55, gl55, pi55, pl55, pz55, pr55, gr55_0, gr55_1, rc58, gi58, gl58, pi58, pl58, pz58, pr58, gr58_0, gr58_1, rc61, gi61, gl61, pi61, pl61, pz61, pr61, gr61_0, gr61_1, gr61_2, gr61_7, rc62, gi62, gl62, pi62, pl62, pz62, pr62, gr62_0, gr62_1, gr62_2, gr62_3, gr62_4, gr62_5, ld2, st2, an2, ld4, st4, an4, ld5, st5, an5, an6, ld48, st48, an48, ld49, st49, an49, ld50, st50, an50, ld51, st51, an51, ld52, st52, an52, ld53, st53, an53, ld54, st54, an54, ld56, st56, an56, ld57, st57, an57, ld59, st59, an59, ld60, st60, an60, ld63, st63, an63, ld64, st64, an64, ld65, st65, an65, ld66, st66, an66, ld67, st67, an67, ld68, st68, an68, ld69, st69, an69, ld70, st70, an70, rcct, gict, glct, pict, plct, pzct, prct, grct_0, grct_1, grct_2, grct_3, ldctm, stctm, anctm, ldctr, stctr, anctr, ldctp, stctp, anctp, anctR, rcru, giru, glru, piru, plru, pzru, prru, grru_7, ldcu, stcu, ancu, arct, ar6, rcro, giro, piro, pzro, grro_1, grro_2, grro_3, rcfo, gifo, pifo, pzfo, grfo_0, grfo_1, ldfop, stfop, anfop, ldfoe, stfoe, anfoe, Option.bind_some, if_true, if_false, n_0, n_1, n_2, n_3, n_4, n_5, n_6, n_7, n_8, n_9, n_10, n_12, n_15, n_20, n_24, n_32, n_48, n_57, n_59, n_80, n_97, n_99, n_100, n_122, n_680, n_700, n_999, n_1023, n_1024, iI_neg, iI_add, iI_sub, iI_lt, iI_le, iI_eq, h2.2, show ¬ T 3 k ≤ 0 by omega, jnzI, irmI]
theorem cl_handst (E : EC T b I) (V : TV T) (hm : isM T m) (hs : 0 ≤ s ∧ s < 20) (hk : k < 10) : Slights_seatByHand_L3 S0 (some 55) (some (ct b)) (some (ro m.toNat)) (iI s) (iI (k : Int), (I, J, Pst b f)) = some (.inl (iI ((k : Int) + 1), (hup I 56 k (iI (plh T m s k)), J, Pst b f))) := by
  obtain ⟨⟨eA, eB⟩, ⟨eC, eD⟩, eE⟩ := id E
  obtain ⟨⟨vA, vB⟩, ⟨vC, vD⟩, vE, vF⟩ := id V
  have h0 := vC.1
  have h00 := vB.1
  have hro := (eB.2 m.toNat (by omega)).1
  rw [show ((m.toNat : Nat) : Int) = m by omega] at hro
  have hsd := cl_isSeated (J := J) (f := f) eC eE vC vE vB (g := (k : Int)) (by omega)
  simp only [Int.toNat_natCast] at hsd
  simp (disch := omega) only [Slights_seatByHand_L3, n_0, n_1, n_2, n_3, n_4, n_5, n_6, n_7, n_8, n_9, n_10, n_12, n_15, n_20, n_24, n_32, n_48, n_57, n_59, n_80, n_97, n_99, n_100, n_122, n_680, n_700, n_999, n_1023, n_1024, iI_neg, iI_add, iI_sub, iI_lt, iI_le, iI_eq, show ¬ (10 : Int) ≤ (k : Int) by omega, hsd, Option.bind_some, if_true, if_false, rc0, gi0, gl0, pi0, pl0, pz0, pr0, gr0_0, gr0_1, gr0_2, gr0_3, gr0_4, gr0_5, gr0_6, gr0_7, gr0_8, rc1, gi1, gl1, pi1, pl1, pz1, pr1, gr1_0, rc3, gi3, gl3, pi3, pl3, pz3, pr3, gr3_0, gr3_10, gr3_11, rc47, gi47, gl47, pi47, pl47, pz47, pr47, gr47_0, gr47_1, gr47_2, gr47_3, gr47_4, gr47_5, gr47_6, rc55, gi55, gl55, pi55, pl55, pz55, pr55, gr55_0, gr55_1, rc58, gi58, gl58, pi58, pl58, pz58, pr58, gr58_0, gr58_1, rc61, gi61, gl61, pi61, pl61, pz61, pr61, gr61_0, gr61_1, gr61_2, gr61_7, rc62, gi62, gl62, pi62, pl62, pz62, pr62, gr62_0, gr62_1, gr62_2, gr62_3, gr62_4, gr62_5, ld2, st2, an2, ld4, st4, an4, ld5, st5, an5, an6, ld48, st48, an48, ld49, st49, an49, ld50, st50, an50, ld51, st51, an51, ld52, st52, an52, ld53, st53, an53, ld54, st54, an54, ld56, st56, an56, ld57, st57, an57, ld59, st59, an59, ld60, st60, an60, ld63, st63, an63, ld64, st64, an64, ld65, st65, an65, ld66, st66, an66, ld67, st67, an67, ld68, st68, an68, ld69, st69, an69, ld70, st70, an70, rcct, gict, glct, pict, plct, pzct, prct, grct_0, grct_1, grct_2, grct_3, ldctm, stctm, anctm, ldctr, stctr, anctr, ldctp, stctp, anctp, anctR, rcru, giru, glru, piru, plru, pzru, prru, grru_7, ldcu, stcu, ancu, arct, ar6, rcro, giro, piro, pzro, grro_1, grro_2, grro_3, rcfo, gifo, pifo, pzfo, grfo_0, grfo_1, ldfop, stfop, anfop, ldfoe, stfoe, anfoe, bI_0, decide_eq_false_iff_not, Int.toNat_natCast, hro]
  by_cases z : isG T (k : Int) ∧ T 14 k ≠ -1
  · have he := eE.2 k z.1.2
    have hv := vE k z.1.2
    have hz := z.2
    by_cases e : T 14 k = m
    · have h3 := (vB.2 _ (mN hm)).2
      have hb : 0 ≤ T 15 k ∧ T 15 k < 10 := by
        rcases hv.2.2 with q1 | q1
        · exact absurd q1.1 hz
        · have := q1.2.1; rw [e] at this; omega
      have hp : plh T m s k = (T 15 k + s) % T 3 m.toNat := by unfold plh; rw [if_pos ⟨z.1.2, e⟩]
      simp only [iff_true_intro z, not_true, Option.bind_some, if_true, if_false]
      simp (disch := omega) only [Option.bind_some, if_true, if_false, he.1, he.2, e, iI_lt, iI_le, iI_eq, show ¬ (1 : Int) = 0 by omega, cl_onward eB vB (mN hm) hb hs, hp]
    · have hp : plh T m s k = -1 := by unfold plh; rw [if_neg fun q1 => e q1.2]
      simp only [iff_true_intro z, not_true, Option.bind_some, if_true, if_false]
      simp (disch := omega) only [Option.bind_some, if_true, if_false, he.1, he.2, e, iI_lt, iI_le, iI_eq, hp]
  · have hp : plh T m s k = -1 := by
      unfold plh
      refine if_neg fun q1 => z ⟨⟨by omega, q1.1⟩, ?_⟩
      have := q1.2
      omega
    simp (disch := omega) only [iff_false_intro z, not_false_eq_true, Option.bind_some, if_true, if_false, iI_lt, iI_le, iI_eq, hp]
theorem cl_seatByHand (E : EC T b I) (V : TV T) (hm : isM T m) (hs : 0 ≤ s ∧ s < 20) : ∃ I', Slights_seatByHand S0 (some 55) (some (ct b)) (some (ro m.toNat)) (iI s) (I, J, Pst b f) = some (I', J, Pst b f) ∧ Agr (fun o => o ≠ 56) I I' ∧ plC (plh T m s) I' := by
  have key := jheap (J := J) (P := Pst b f) (I := I) (body := Slights_seatByHand_L3 S0 (some 55) (some (ct b)) (some (ro m.toNat)) (iI s)) (fun k I' => Agr (fun o => o ≠ 56) I I' ∧ ∀ g, g < k → I' 56 g = iI (plh T m s g)) 0 10 ⟨Agr.refl _ _, fun g hg => by omega⟩ (by omega) (by omega) (fun k I1 _ hk h1 => ?_) (fun I1 h1 => ?_)
  · obtain ⟨I2, e1, e2⟩ := key
    have e1' : jloop (Slights_seatByHand_L3 S0 (some 55) (some (ct b)) (some (ro m.toNat)) (iI s)) jN (iI 0, (I, J, Pst b f)) = some (I2, J, Pst b f) := e1
    exact ⟨I2, by simp only [Slights_seatByHand, rc0, gi0, gl0, pi0, pl0, pz0, pr0, gr0_0, gr0_1, gr0_2, gr0_3, gr0_4, gr0_5, gr0_6, gr0_7, gr0_8, rc1, gi1, gl1, pi1, pl1, pz1, pr1, gr1_0, rc3, gi3, gl3, pi3, pl3, pz3, pr3, gr3_0, gr3_10, gr3_11, rc47, gi47, gl47, pi47, pl47, pz47, pr47, gr47_0, gr47_1, gr47_2, gr47_3, gr47_4, gr47_5, gr47_6, rc55, gi55, gl55, pi55, pl55, pz55, pr55, gr55_0, gr55_1, rc58, gi58, gl58, pi58, pl58, pz58, pr58, gr58_0, gr58_1, rc61, gi61, gl61, pi61, pl61, pz61, pr61, gr61_0, gr61_1, gr61_2, gr61_7, rc62, gi62, gl62, pi62, pl62, pz62, pr62, gr62_0, gr62_1, gr62_2, gr62_3, gr62_4, gr62_5, ld2, st2, an2, ld4, st4, an4, ld5, st5, an5, an6, ld48, st48, an48, ld49, st49, an49, ld50, st50, an50, ld51, st51, an51, ld52, st52, an52, ld53, st53, an53, ld54, st54, an54, ld56, st56, an56, ld57, st57, an57, ld59, st59, an59, ld60, st60, an60, ld63, st63, an63, ld64, st64, an64, ld65, st65, an65, ld66, st66, an66, ld67, st67, an67, ld68, st68, an68, ld69, st69, an69, ld70, st70, an70, rcct, gict, glct, pict, plct, pzct, prct, grct_0, grct_1, grct_2, grct_3, ldctm, stctm, anctm, ldctr, stctr, anctr, ldctp, stctp, anctp, anctR, rcru, giru, glru, piru, plru, pzru, prru, grru_7, ldcu, stcu, ancu, arct, ar6, rcro, giro, piro, pzro, grro_1, grro_2, grro_3, rcfo, gifo, pifo, pzfo, grfo_0, grfo_1, ldfop, stfop, anfop, ldfoe, stfoe, anfoe, Option.bind_some, if_true, if_false, n_0, e1'], e2.1, e2.2⟩
  · refine ⟨hup I1 56 k (iI (plh T m s k)), cl_handst (E.agr V (h1.1.sub fun o h => by omega)) V hm hs hk, h1.1.hup (by omega), fun g hg => ?_⟩
    by_cases e : g = k
    · simp [hup, e]
    · simp only [hup, e, and_false, if_false]
      exact h1.2 g (by omega)
  · simp (disch := omega) only [Slights_seatByHand_L3, n_0, n_1, n_2, n_3, n_4, n_5, n_6, n_7, n_8, n_9, n_10, n_12, n_15, n_20, n_24, n_32, n_48, n_57, n_59, n_80, n_97, n_99, n_100, n_122, n_680, n_700, n_999, n_1023, n_1024, iI_neg, iI_add, iI_sub, iI_lt, iI_le, iI_eq, Option.bind_some, if_true, if_false, show (10 : Int) ≤ ((10 : Nat) : Int) by omega]
abbrev outT (o : Nat) : Prop := o < 55 ∨ 57 < o
abbrev tbQ (T : Tb) (m c : Int) : Prop := isM T m ∧ crs c
/-- the slights by hand in the room m, in the course c -/
def SLH (T : Tb) (m c : Int) : List S3 := SLS T m c (plh T m 0)
theorem cl_told1 (E : EC T b I) (V : TV T) (hm : isM T m) (hs : 0 ≤ s ∧ s < 20) (hc : 0 ≤ c ∧ c < 20) (hq : rg q) : ∃ I1 I', Slights_seatByHand S0 (some 55) (some (ct b)) (some (ro m.toNat)) (iI s) (I, J, Pst b f) = some (I1, J, Pst b f) ∧ Slights_tellAll S0 (some 55) (some (ct b)) (some (ro m.toNat)) (iI c) (iI q) (I1, J, Pst b f) = some (I', J, Pst b f) ∧ Agr outT I I' ∧ slC T m c (plh T m s) q (SLS T m c (plh T m s)) I' := by
  obtain ⟨I1, a1, a2, a3⟩ := cl_seatByHand (J := J) (f := f) E V hm hs
  obtain ⟨I2, b1, b2, b3⟩ := cl_tellAll (J := J) (f := f) (E.agr V (a2.sub fun o h => by omega)) V a3 (plh_ok V hm) hm hc hq
  exact ⟨I1, I2, a1, b1, (a2.sub fun o h => by omega).trans (b2.sub fun o h => by omega), b3⟩
theorem cl_hand1 (E : EC T b I) (V : TV T) (hm : rg m) (hz : tbQ T m c) (hq : rg q) : ∃ I', Fi_tellByHand S0 (some 0) (iI m) (iI c) (iI q) (I, J, Pst b f) = some (iI 1, (I', J, Pst b f)) ∧ Agr outT I I' ∧ slC T m c (plh T m 0) q (SLH T m c) I' := by
  obtain ⟨⟨eA, eB⟩, ⟨eC, eD⟩, eE⟩ := id E
  obtain ⟨⟨vA, vB⟩, ⟨vC, vD⟩, vE, vF⟩ := id V
  have hc := hz.2
  obtain ⟨I1, I2, a1, a2, a3, a4⟩ := cl_told1 (J := J) (f := f) (s := 0) (c := c) (q := q) E V hz.1 (by omega) (by omega) hq
  refine ⟨I2, ?_, a3, a4⟩
  have hrn : Fi_roomOrNull S0 (some 0) (iI m) (I, J, Pst b f) = some (some (ro m.toNat)) := by rw [cl_roomOrNull eB vB hm, if_pos hz.1]
  have hcc : ¬ Fi_isCourse (iI c) = iI 0 := by
    rw [cl_isCourse (by omega), bI_0, decide_eq_false_iff_not]
    exact fun h => h hz.2
  unfold Fi_tellByHand
  rw [rc0, Option.bind_some, hrn, Option.bind_some, n_0, n_1, if_neg (by simp), if_neg hcc, gr0_4, Option.bind_some, gr0_7, Option.bind_some, a1, Option.bind_some, gr0_4, Option.bind_some, gr0_7, Option.bind_some, a2, Option.bind_some]
theorem cl_hand0 (E : EC T b I) (V : TV T) (hm : rg m) (hc : rg c) (hz : ¬ tbQ T m c) : Fi_tellByHand S0 (some 0) (iI m) (iI c) (iI q) (I, J, Pst b f) = some (iI 0, (I, J, Pst b f)) := by
  obtain ⟨⟨eA, eB⟩, ⟨eC, eD⟩, eE⟩ := id E
  obtain ⟨⟨vA, vB⟩, ⟨vC, vD⟩, vE, vF⟩ := id V
  simp (disch := omega) only [Fi_tellByHand, rc0, gi0, gl0, pi0, pl0, pz0, pr0, gr0_0, gr0_1, gr0_2, gr0_3, gr0_4, gr0_5, gr0_6, gr0_7, gr0_8, rc1, gi1, gl1, pi1, pl1, pz1, pr1, gr1_0, rc3, gi3, gl3, pi3, pl3, pz3, pr3, gr3_0, gr3_10, gr3_11, rc47, gi47, gl47, pi47, pl47, pz47, pr47, gr47_0, gr47_1, gr47_2, gr47_3, gr47_4, gr47_5, gr47_6, rc55, gi55, gl55, pi55, pl55, pz55, pr55, gr55_0, gr55_1, rc58, gi58, gl58, pi58, pl58, pz58, pr58, gr58_0, gr58_1, rc61, gi61, gl61, pi61, pl61, pz61, pr61, gr61_0, gr61_1, gr61_2, gr61_7, rc62, gi62, gl62, pi62, pl62, pz62, pr62, gr62_0, gr62_1, gr62_2, gr62_3, gr62_4, gr62_5, ld2, st2, an2, ld4, st4, an4, ld5, st5, an5, an6, ld48, st48, an48, ld49, st49, an49, ld50, st50, an50, ld51, st51, an51, ld52, st52, an52, ld53, st53, an53, ld54, st54, an54, ld56, st56, an56, ld57, st57, an57, ld59, st59, an59, ld60, st60, an60, ld63, st63, an63, ld64, st64, an64, ld65, st65, an65, ld66, st66, an66, ld67, st67, an67, ld68, st68, an68, ld69, st69, an69, ld70, st70, an70, rcct, gict, glct, pict, plct, pzct, prct, grct_0, grct_1, grct_2, grct_3, ldctm, stctm, anctm, ldctr, stctr, anctr, ldctp, stctp, anctp, anctR, rcru, giru, glru, piru, plru, pzru, prru, grru_7, ldcu, stcu, ancu, arct, ar6, rcro, giro, piro, pzro, grro_1, grro_2, grro_3, rcfo, gifo, pifo, pzfo, grfo_0, grfo_1, ldfop, stfop, anfop, ldfoe, stfoe, anfoe, Option.bind_some, if_true, if_false, cl_roomOrNull eB vB hm, cl_isCourse hc, n_0, n_1, n_2, n_3, n_4, n_5, n_6, n_7, n_8, n_9, n_10, n_12, n_15, n_20, n_24, n_32, n_48, n_57, n_59, n_80, n_97, n_99, n_100, n_122, n_680, n_700, n_999, n_1023, n_1024, iI_neg, iI_add, iI_sub, bI_0, decide_eq_false_iff_not]
  by_cases z : isM T m
  · have z2 : ¬ crs c := fun h => hz ⟨z, h⟩
    simp only [iff_true_intro z, Option.bind_some, if_true, if_false, reduceCtorEq, iff_false_intro z2, not_false_eq_true]
  · simp only [iff_false_intro z, Option.bind_some, if_true, if_false]
/-! slights -/
def slR (T : Tb) (m c w : Int) : Int := if tbQ T m c then (if w = 0 then lwt T (SLH T m c) else if w = 1 then ((SLH T m c).length : Int) else if w = 2 then lhv T (SLH T m c) else -1) else -1
theorem cl_slights (E : EC T b I) (V : TV T) (hm : rg m) (hc : rg c) (hw : rg w) : ∃ I', Fi_slights S0 (some 0) (iI m) (iI c) (iI w) (I, J, Pst b f) = some (iI (slR T m c w), (I', J, Pst b f)) ∧ Agr outT I I' := by
  by_cases z : tbQ T m c
  · obtain ⟨I1, a1, a2, ⟨s2, s3, s4, s5⟩, ⟨s6, s7, s8⟩, s9⟩ := cl_hand1 (J := J) (f := f) (q := -1) E V hm z (by omega)
    refine ⟨I1, ?_, a2⟩
    simp (disch := omega) only [Fi_slights, rc0, gi0, gl0, pi0, pl0, pz0, pr0, gr0_0, gr0_1, gr0_2, gr0_3, gr0_4, gr0_5, gr0_6, gr0_7, gr0_8, rc1, gi1, gl1, pi1, pl1, pz1, pr1, gr1_0, rc3, gi3, gl3, pi3, pl3, pz3, pr3, gr3_0, gr3_10, gr3_11, rc47, gi47, gl47, pi47, pl47, pz47, pr47, gr47_0, gr47_1, gr47_2, gr47_3, gr47_4, gr47_5, gr47_6, rc55, gi55, gl55, pi55, pl55, pz55, pr55, gr55_0, gr55_1, rc58, gi58, gl58, pi58, pl58, pz58, pr58, gr58_0, gr58_1, rc61, gi61, gl61, pi61, pl61, pz61, pr61, gr61_0, gr61_1, gr61_2, gr61_7, rc62, gi62, gl62, pi62, pl62, pz62, pr62, gr62_0, gr62_1, gr62_2, gr62_3, gr62_4, gr62_5, ld2, st2, an2, ld4, st4, an4, ld5, st5, an5, an6, ld48, st48, an48, ld49, st49, an49, ld50, st50, an50, ld51, st51, an51, ld52, st52, an52, ld53, st53, an53, ld54, st54, an54, ld56, st56, an56, ld57, st57, an57, ld59, st59, an59, ld60, st60, an60, ld63, st63, an63, ld64, st64, an64, ld65, st65, an65, ld66, st66, an66, ld67, st67, an67, ld68, st68, an68, ld69, st69, an69, ld70, st70, an70, rcct, gict, glct, pict, plct, pzct, prct, grct_0, grct_1, grct_2, grct_3, ldctm, stctm, anctm, ldctr, stctr, anctr, ldctp, stctp, anctp, anctR, rcru, giru, glru, piru, plru, pzru, prru, grru_7, ldcu, stcu, ancu, arct, ar6, rcro, giro, piro, pzro, grro_1, grro_2, grro_3, rcfo, gifo, pifo, pzfo, grfo_0, grfo_1, ldfop, stfop, anfop, ldfoe, stfoe, anfoe, Option.bind_some, if_true, if_false, n_0, n_1, n_2, n_3, n_4, n_5, n_6, n_7, n_8, n_9, n_10, n_12, n_15, n_20, n_24, n_32, n_48, n_57, n_59, n_80, n_97, n_99, n_100, n_122, n_680, n_700, n_999, n_1023, n_1024, iI_neg, iI_add, iI_sub, iI_lt, iI_le, iI_eq, a1, show ¬ (1 : Int) = 0 by omega, s2, s3, s4, slR, iff_true_intro z]
    (repeat' split) <;> rfl
  · refine ⟨I, ?_, Agr.refl _ _⟩
    simp only [Fi_slights, rc0, gi0, gl0, pi0, pl0, pz0, pr0, gr0_0, gr0_1, gr0_2, gr0_3, gr0_4, gr0_5, gr0_6, gr0_7, gr0_8, rc1, gi1, gl1, pi1, pl1, pz1, pr1, gr1_0, rc3, gi3, gl3, pi3, pl3, pz3, pr3, gr3_0, gr3_10, gr3_11, rc47, gi47, gl47, pi47, pl47, pz47, pr47, gr47_0, gr47_1, gr47_2, gr47_3, gr47_4, gr47_5, gr47_6, rc55, gi55, gl55, pi55, pl55, pz55, pr55, gr55_0, gr55_1, rc58, gi58, gl58, pi58, pl58, pz58, pr58, gr58_0, gr58_1, rc61, gi61, gl61, pi61, pl61, pz61, pr61, gr61_0, gr61_1, gr61_2, gr61_7, rc62, gi62, gl62, pi62, pl62, pz62, pr62, gr62_0, gr62_1, gr62_2, gr62_3, gr62_4, gr62_5, ld2, st2, an2, ld4, st4, an4, ld5, st5, an5, an6, ld48, st48, an48, ld49, st49, an49, ld50, st50, an50, ld51, st51, an51, ld52, st52, an52, ld53, st53, an53, ld54, st54, an54, ld56, st56, an56, ld57, st57, an57, ld59, st59, an59, ld60, st60, an60, ld63, st63, an63, ld64, st64, an64, ld65, st65, an65, ld66, st66, an66, ld67, st67, an67, ld68, st68, an68, ld69, st69, an69, ld70, st70, an70, rcct, gict, glct, pict, plct, pzct, prct, grct_0, grct_1, grct_2, grct_3, ldctm, stctm, anctm, ldctr, stctr, anctr, ldctp, stctp, anctp, anctR, rcru, giru, glru, piru, plru, pzru, prru, grru_7, ldcu, stcu, ancu, arct, ar6, rcro, giro, piro, pzro, grro_1, grro_2, grro_3, rcfo, gifo, pifo, pzfo, grfo_0, grfo_1, ldfop, stfop, anfop, ldfoe, stfoe, anfoe, Option.bind_some, if_true, if_false, n_0, n_1, n_2, n_3, n_4, n_5, n_6, n_7, n_8, n_9, n_10, n_12, n_15, n_20, n_24, n_32, n_48, n_57, n_59, n_80, n_97, n_99, n_100, n_122, n_680, n_700, n_999, n_1023, n_1024, iI_neg, iI_add, iI_sub, cl_hand0 E V hm hc z, slR, iff_false_intro z]
/-! slight -/
theorem lat_in {d : S3 → Nat} (h : 0 ≤ q ∧ q < L.length) : lat L q d = (d (L.getD q.toNat (0, 0, 0)) : Int) := if_pos h
theorem lat_no {d : S3 → Nat} (h : ¬ (0 ≤ q ∧ q < L.length)) : lat L q d = -1 := if_neg h
theorem SLS_in (hpl : plV T m pl) (hk : k < (SLS T m c pl).length) : ((((SLS T m c pl).getD k (0, 0, 0)).1 : Int) < T 0 4 ∨ T 0 4 < 0) ∧ ((((SLS T m c pl).getD k (0, 0, 0)).2.1 : Int) < T 0 2 ∧ T 12 ((SLS T m c pl).getD k (0, 0, 0)).2.1 = 1) ∧ (((SLS T m c pl).getD k (0, 0, 0)).2.2 : Int) < T 0 2 ∧ T 12 ((SLS T m c pl).getD k (0, 0, 0)).2.2 = 1 := by
  have hall := sl1_all (p := slQ T m c pl) (N := ng T) (k := nr T) (q := fun t => ((t.1 : Int) < T 0 4 ∨ T 0 4 < 0) ∧ ((t.2.1 : Int) < T 0 2 ∧ T 12 t.2.1 = 1) ∧ (t.2.2 : Int) < T 0 2 ∧ T 12 t.2.2 = 1) (fun r x y hr h => by
    have hx := hpl x
    have hy := hpl y
    simp only [slQ, slP, Bool.and_eq_true, decide_eq_true_eq] at h
    obtain ⟨h1, h2, h3, h4⟩ := h
    refine ⟨?_, ?_, ?_⟩
    · show (r : Int) < T 0 4 ∨ _
      unfold nr at hr; omega
    · rcases hx with z | z
      · exact absurd z h2
      · exact z.1
    · rcases hy with z | z
      · exact absurd z h3
      · exact z.1)
  have e : (SLS T m c pl).getD k (0, 0, 0) = (SLS T m c pl)[k] := by simp [List.getD, hk]
  rw [e]
  exact hall _ (List.getElem_mem hk)
def sgR (T : Tb) (m c q w : Int) : Int := if tbQ T m c ∧ 0 ≤ q ∧ q < (SLH T m c).length then (if w = 0 then (((SLH T m c).getD q.toNat (0, 0, 0)).1 : Int) else if w = 1 then (((SLH T m c).getD q.toNat (0, 0, 0)).2.1 : Int) else if w = 2 then (((SLH T m c).getD q.toNat (0, 0, 0)).2.2 : Int) else if w = 3 then (if T 5 ((SLH T m c).getD q.toNat (0, 0, 0)).1 = 0 then srcO T m 0 ((SLH T m c).getD q.toNat (0, 0, 0)).2.2 ((SLH T m c).getD q.toNat (0, 0, 0)).2.1 else -1) else -1) else -1
theorem cl_toSay (h : cC T b I) (hd : cD T b I) (he : cE T b I) (ht : tvC T) (hv : tvD T) (hm : 0 ≤ m ∧ m < 4) (hr : (r : Int) < T 0 4) (hx : (x : Int) < T 0 2 ∧ T 12 x = 1) (hy : (y : Int) < T 0 2 ∧ T 12 y = 1) : Court_toSay S0 (some (ct b)) (iI (r : Int)) (iI m) (iI (x : Int)) (iI (y : Int)) (I, J, Pst b f) = some (iI (if T 5 r = 0 then srcO T m 0 y x else -1)) := by
  have h0 := ht.1
  have hR : isR T (r : Int) := by omega
  obtain ⟨d1, d2, d3, d4, d5, d6, d7, d8⟩ := hd r hr
  obtain ⟨v1, v2, v3, v4, v5, v6, v7⟩ := hv r hr
  have hg : (isG T (y : Int) ∧ T 12 (y : Int).toNat = 1) ∧ isG T (x : Int) ∧ T 12 (x : Int).toNat = 1 := by
    simp only [Int.toNat_natCast]
    omega
  have e := cl_sourceOf (J := J) (f := f) h hd he ht hv hm (g := (y : Int)) (w := (x : Int)) (by omega) (by omega)
  rw [if_pos hg] at e
  simp only [Int.toNat_natCast] at e
  simp (disch := omega) only [Court_toSay, rc0, gi0, gl0, pi0, pl0, pz0, pr0, gr0_0, gr0_1, gr0_2, gr0_3, gr0_4, gr0_5, gr0_6, gr0_7, gr0_8, rc1, gi1, gl1, pi1, pl1, pz1, pr1, gr1_0, rc3, gi3, gl3, pi3, pl3, pz3, pr3, gr3_0, gr3_10, gr3_11, rc47, gi47, gl47, pi47, pl47, pz47, pr47, gr47_0, gr47_1, gr47_2, gr47_3, gr47_4, gr47_5, gr47_6, rc55, gi55, gl55, pi55, pl55, pz55, pr55, gr55_0, gr55_1, rc58, gi58, gl58, pi58, pl58, pz58, pr58, gr58_0, gr58_1, rc61, gi61, gl61, pi61, pl61, pz61, pr61, gr61_0, gr61_1, gr61_2, gr61_7, rc62, gi62, gl62, pi62, pl62, pz62, pr62, gr62_0, gr62_1, gr62_2, gr62_3, gr62_4, gr62_5, ld2, st2, an2, ld4, st4, an4, ld5, st5, an5, an6, ld48, st48, an48, ld49, st49, an49, ld50, st50, an50, ld51, st51, an51, ld52, st52, an52, ld53, st53, an53, ld54, st54, an54, ld56, st56, an56, ld57, st57, an57, ld59, st59, an59, ld60, st60, an60, ld63, st63, an63, ld64, st64, an64, ld65, st65, an65, ld66, st66, an66, ld67, st67, an67, ld68, st68, an68, ld69, st69, an69, ld70, st70, an70, rcct, gict, glct, pict, plct, pzct, prct, grct_0, grct_1, grct_2, grct_3, ldctm, stctm, anctm, ldctr, stctr, anctr, ldctp, stctp, anctp, anctR, rcru, giru, glru, piru, plru, pzru, prru, grru_7, ldcu, stcu, ancu, arct, ar6, rcro, giro, piro, pzro, grro_1, grro_2, grro_3, rcfo, gifo, pifo, pzfo, grfo_0, grfo_1, ldfop, stfop, anfop, ldfoe, stfoe, anfoe, Option.bind_some, if_true, if_false, cl_hasRule h ht (g := (r : Int)) (by omega), n_0, n_1, n_2, n_3, n_4, n_5, n_6, n_7, n_8, n_9, n_10, n_12, n_15, n_20, n_24, n_32, n_48, n_57, n_59, n_80, n_97, n_99, n_100, n_122, n_680, n_700, n_999, n_1023, n_1024, iI_neg, iI_add, iI_sub, iI_lt, iI_le, iI_eq, bI_0, decide_eq_false_iff_not, iff_true_intro hR, not_true, Int.toNat_natCast, d1, e]
  by_cases z : T 5 r = 0
  · simp only [z, Option.bind_some, if_true, if_false]
  · simp only [z, Option.bind_some, if_true, if_false]
theorem cl_slight (E : EC T b I) (V : TV T) (hm : rg m) (hc : rg c) (hq : rg q) (hw : rg w) : ∃ I', Fi_slight S0 (some 0) (iI m) (iI c) (iI q) (iI w) (I, J, Pst b f) = some (iI (sgR T m c q w), (I', J, Pst b f)) ∧ Agr outT I I' := by
  obtain ⟨⟨vA, vB⟩, ⟨vC, vD⟩, vE, vF⟩ := id V
  have hT := vC.1
  have hB := vB.1
  by_cases q0 : q < 0
  · refine ⟨I, ?_, Agr.refl _ _⟩
    simp (disch := omega) only [Fi_slight, rc0, gi0, gl0, pi0, pl0, pz0, pr0, gr0_0, gr0_1, gr0_2, gr0_3, gr0_4, gr0_5, gr0_6, gr0_7, gr0_8, rc1, gi1, gl1, pi1, pl1, pz1, pr1, gr1_0, rc3, gi3, gl3, pi3, pl3, pz3, pr3, gr3_0, gr3_10, gr3_11, rc47, gi47, gl47, pi47, pl47, pz47, pr47, gr47_0, gr47_1, gr47_2, gr47_3, gr47_4, gr47_5, gr47_6, rc55, gi55, gl55, pi55, pl55, pz55, pr55, gr55_0, gr55_1, rc58, gi58, gl58, pi58, pl58, pz58, pr58, gr58_0, gr58_1, rc61, gi61, gl61, pi61, pl61, pz61, pr61, gr61_0, gr61_1, gr61_2, gr61_7, rc62, gi62, gl62, pi62, pl62, pz62, pr62, gr62_0, gr62_1, gr62_2, gr62_3, gr62_4, gr62_5, ld2, st2, an2, ld4, st4, an4, ld5, st5, an5, an6, ld48, st48, an48, ld49, st49, an49, ld50, st50, an50, ld51, st51, an51, ld52, st52, an52, ld53, st53, an53, ld54, st54, an54, ld56, st56, an56, ld57, st57, an57, ld59, st59, an59, ld60, st60, an60, ld63, st63, an63, ld64, st64, an64, ld65, st65, an65, ld66, st66, an66, ld67, st67, an67, ld68, st68, an68, ld69, st69, an69, ld70, st70, an70, rcct, gict, glct, pict, plct, pzct, prct, grct_0, grct_1, grct_2, grct_3, ldctm, stctm, anctm, ldctr, stctr, anctr, ldctp, stctp, anctp, anctR, rcru, giru, glru, piru, plru, pzru, prru, grru_7, ldcu, stcu, ancu, arct, ar6, rcro, giro, piro, pzro, grro_1, grro_2, grro_3, rcfo, gifo, pifo, pzfo, grfo_0, grfo_1, ldfop, stfop, anfop, ldfoe, stfoe, anfoe, Option.bind_some, if_true, if_false, n_0, n_1, n_2, n_3, n_4, n_5, n_6, n_7, n_8, n_9, n_10, n_12, n_15, n_20, n_24, n_32, n_48, n_57, n_59, n_80, n_97, n_99, n_100, n_122, n_680, n_700, n_999, n_1023, n_1024, iI_neg, iI_add, iI_sub, iI_lt, iI_le, iI_eq, q0, sgR, show ¬ 0 ≤ q by omega, false_and, and_false]
  by_cases z : tbQ T m c
  · obtain ⟨I1, a1, a2, ⟨s2, s3, s4, s5⟩, ⟨s6, s7, s8⟩, s9⟩ := cl_hand1 (J := J) (f := f) (q := q) E V hm z hq
    refine ⟨I1, ?_, a2⟩
    have hl := SLS_len (m := m) (c := c) (pl := plh T m 0) vC
    have hl' : (SLH T m c).length ≤ 1200 := hl
    by_cases z2 : q < (SLH T m c).length
    · have hin := SLS_in (c := c) (k := q.toNat) (plh_ok (s := 0) V z.1) (by show q.toNat < (SLH T m c).length; omega)
      change (((((SLH T m c).getD q.toNat (0, 0, 0)).1 : Int) < T 0 4 ∨ T 0 4 < 0) ∧ ((((SLH T m c).getD q.toNat (0, 0, 0)).2.1 : Int) < T 0 2 ∧ T 12 ((SLH T m c).getD q.toNat (0, 0, 0)).2.1 = 1) ∧ (((SLH T m c).getD q.toNat (0, 0, 0)).2.2 : Int) < T 0 2 ∧ T 12 ((SLH T m c).getD q.toNat (0, 0, 0)).2.2 = 1) at hin
      have hq' : 0 ≤ q ∧ q < (SLH T m c).length := ⟨by omega, z2⟩
      rw [lat_in hq'] at s6 s7 s8
      have hR : sgR T m c q w = (if w = 0 then (((SLH T m c).getD q.toNat (0, 0, 0)).1 : Int) else if w = 1 then (((SLH T m c).getD q.toNat (0, 0, 0)).2.1 : Int) else if w = 2 then (((SLH T m c).getD q.toNat (0, 0, 0)).2.2 : Int) else if w = 3 then (if T 5 ((SLH T m c).getD q.toNat (0, 0, 0)).1 = 0 then srcO T m 0 ((SLH T m c).getD q.toNat (0, 0, 0)).2.2 ((SLH T m c).getD q.toNat (0, 0, 0)).2.1 else -1) else -1) := by unfold sgR; rw [if_pos ⟨z, hq'⟩]
      rw [hR]
      generalize (SLH T m c).getD q.toNat (0, 0, 0) = t at *
      have E1 := E.agr V (a2.sub fun o h => by omega)
      obtain ⟨⟨eA, eB⟩, ⟨eC, eD⟩, eE⟩ := id E1
      have hs := cl_toSay (J := J) (f := f) (m := m) eC eD eE vC vD (by omega) (r := t.1) (by omega) hin.2.1 hin.2.2
      simp (disch := omega) only [Fi_slight, rc0, gi0, gl0, pi0, pl0, pz0, pr0, gr0_0, gr0_1, gr0_2, gr0_3, gr0_4, gr0_5, gr0_6, gr0_7, gr0_8, rc1, gi1, gl1, pi1, pl1, pz1, pr1, gr1_0, rc3, gi3, gl3, pi3, pl3, pz3, pr3, gr3_0, gr3_10, gr3_11, rc47, gi47, gl47, pi47, pl47, pz47, pr47, gr47_0, gr47_1, gr47_2, gr47_3, gr47_4, gr47_5, gr47_6, rc55, gi55, gl55, pi55, pl55, pz55, pr55, gr55_0, gr55_1, rc58, gi58, gl58, pi58, pl58, pz58, pr58, gr58_0, gr58_1, rc61, gi61, gl61, pi61, pl61, pz61, pr61, gr61_0, gr61_1, gr61_2, gr61_7, rc62, gi62, gl62, pi62, pl62, pz62, pr62, gr62_0, gr62_1, gr62_2, gr62_3, gr62_4, gr62_5, ld2, st2, an2, ld4, st4, an4, ld5, st5, an5, an6, ld48, st48, an48, ld49, st49, an49, ld50, st50, an50, ld51, st51, an51, ld52, st52, an52, ld53, st53, an53, ld54, st54, an54, ld56, st56, an56, ld57, st57, an57, ld59, st59, an59, ld60, st60, an60, ld63, st63, an63, ld64, st64, an64, ld65, st65, an65, ld66, st66, an66, ld67, st67, an67, ld68, st68, an68, ld69, st69, an69, ld70, st70, an70, rcct, gict, glct, pict, plct, pzct, prct, grct_0, grct_1, grct_2, grct_3, ldctm, stctm, anctm, ldctr, stctr, anctr, ldctp, stctp, anctp, anctR, rcru, giru, glru, piru, plru, pzru, prru, grru_7, ldcu, stcu, ancu, arct, ar6, rcro, giro, piro, pzro, grro_1, grro_2, grro_3, rcfo, gifo, pifo, pzfo, grfo_0, grfo_1, ldfop, stfop, anfop, ldfoe, stfoe, anfoe, Option.bind_some, if_true, if_false, n_0, n_1, n_2, n_3, n_4, n_5, n_6, n_7, n_8, n_9, n_10, n_12, n_15, n_20, n_24, n_32, n_48, n_57, n_59, n_80, n_97, n_99, n_100, n_122, n_680, n_700, n_999, n_1023, n_1024, iI_neg, iI_add, iI_sub, iI_lt, iI_le, iI_eq, q0, a1, show ¬ (1 : Int) = 0 by omega, s6, s7, s8, show ¬ (t.1 : Int) = -1 by omega, hs]
      (repeat' split) <;> rfl
    · have hq' : ¬ (0 ≤ q ∧ q < (SLH T m c).length) := by omega
      rw [lat_no hq'] at s6
      simp (disch := omega) only [Fi_slight, rc0, gi0, gl0, pi0, pl0, pz0, pr0, gr0_0, gr0_1, gr0_2, gr0_3, gr0_4, gr0_5, gr0_6, gr0_7, gr0_8, rc1, gi1, gl1, pi1, pl1, pz1, pr1, gr1_0, rc3, gi3, gl3, pi3, pl3, pz3, pr3, gr3_0, gr3_10, gr3_11, rc47, gi47, gl47, pi47, pl47, pz47, pr47, gr47_0, gr47_1, gr47_2, gr47_3, gr47_4, gr47_5, gr47_6, rc55, gi55, gl55, pi55, pl55, pz55, pr55, gr55_0, gr55_1, rc58, gi58, gl58, pi58, pl58, pz58, pr58, gr58_0, gr58_1, rc61, gi61, gl61, pi61, pl61, pz61, pr61, gr61_0, gr61_1, gr61_2, gr61_7, rc62, gi62, gl62, pi62, pl62, pz62, pr62, gr62_0, gr62_1, gr62_2, gr62_3, gr62_4, gr62_5, ld2, st2, an2, ld4, st4, an4, ld5, st5, an5, an6, ld48, st48, an48, ld49, st49, an49, ld50, st50, an50, ld51, st51, an51, ld52, st52, an52, ld53, st53, an53, ld54, st54, an54, ld56, st56, an56, ld57, st57, an57, ld59, st59, an59, ld60, st60, an60, ld63, st63, an63, ld64, st64, an64, ld65, st65, an65, ld66, st66, an66, ld67, st67, an67, ld68, st68, an68, ld69, st69, an69, ld70, st70, an70, rcct, gict, glct, pict, plct, pzct, prct, grct_0, grct_1, grct_2, grct_3, ldctm, stctm, anctm, ldctr, stctr, anctr, ldctp, stctp, anctp, anctR, rcru, giru, glru, piru, plru, pzru, prru, grru_7, ldcu, stcu, ancu, arct, ar6, rcro, giro, piro, pzro, grro_1, grro_2, grro_3, rcfo, gifo, pifo, pzfo, grfo_0, grfo_1, ldfop, stfop, anfop, ldfoe, stfoe, anfoe, Option.bind_some, if_true, if_false, n_0, n_1, n_2, n_3, n_4, n_5, n_6, n_7, n_8, n_9, n_10, n_12, n_15, n_20, n_24, n_32, n_48, n_57, n_59, n_80, n_97, n_99, n_100, n_122, n_680, n_700, n_999, n_1023, n_1024, iI_neg, iI_add, iI_sub, iI_lt, iI_le, iI_eq, q0, a1, show ¬ (1 : Int) = 0 by omega, s6, sgR, iff_false_intro hq', and_false]
  · refine ⟨I, ?_, Agr.refl _ _⟩
    simp (disch := omega) only [Fi_slight, rc0, gi0, gl0, pi0, pl0, pz0, pr0, gr0_0, gr0_1, gr0_2, gr0_3, gr0_4, gr0_5, gr0_6, gr0_7, gr0_8, rc1, gi1, gl1, pi1, pl1, pz1, pr1, gr1_0, rc3, gi3, gl3, pi3, pl3, pz3, pr3, gr3_0, gr3_10, gr3_11, rc47, gi47, gl47, pi47, pl47, pz47, pr47, gr47_0, gr47_1, gr47_2, gr47_3, gr47_4, gr47_5, gr47_6, rc55, gi55, gl55, pi55, pl55, pz55, pr55, gr55_0, gr55_1, rc58, gi58, gl58, pi58, pl58, pz58, pr58, gr58_0, gr58_1, rc61, gi61, gl61, pi61, pl61, pz61, pr61, gr61_0, gr61_1, gr61_2, gr61_7, rc62, gi62, gl62, pi62, pl62, pz62, pr62, gr62_0, gr62_1, gr62_2, gr62_3, gr62_4, gr62_5, ld2, st2, an2, ld4, st4, an4, ld5, st5, an5, an6, ld48, st48, an48, ld49, st49, an49, ld50, st50, an50, ld51, st51, an51, ld52, st52, an52, ld53, st53, an53, ld54, st54, an54, ld56, st56, an56, ld57, st57, an57, ld59, st59, an59, ld60, st60, an60, ld63, st63, an63, ld64, st64, an64, ld65, st65, an65, ld66, st66, an66, ld67, st67, an67, ld68, st68, an68, ld69, st69, an69, ld70, st70, an70, rcct, gict, glct, pict, plct, pzct, prct, grct_0, grct_1, grct_2, grct_3, ldctm, stctm, anctm, ldctr, stctr, anctr, ldctp, stctp, anctp, anctR, rcru, giru, glru, piru, plru, pzru, prru, grru_7, ldcu, stcu, ancu, arct, ar6, rcro, giro, piro, pzro, grro_1, grro_2, grro_3, rcfo, gifo, pifo, pzfo, grfo_0, grfo_1, ldfop, stfop, anfop, ldfoe, stfoe, anfoe, Option.bind_some, if_true, if_false, n_0, n_1, n_2, n_3, n_4, n_5, n_6, n_7, n_8, n_9, n_10, n_12, n_15, n_20, n_24, n_32, n_48, n_57, n_59, n_80, n_97, n_99, n_100, n_122, n_680, n_700, n_999, n_1023, n_1024, iI_neg, iI_add, iI_sub, iI_lt, iI_le, iI_eq, q0, cl_hand0 E V hm hc z, sgR, iff_false_intro z, false_and]
/-! minds -/
/-- the first of the greatest above 0 -/
def whm (F : Nat → Int) (n : Nat) : Int := match n with
  | 0 => -1
  | n + 1 => if (if whm F n = -1 then 0 else F (whm F n).toNat) < F n then n else whm F n
theorem whm_s (F : Nat → Int) (n : Nat) : whm F (n + 1) = if (if whm F n = -1 then 0 else F (whm F n).toNat) < F n then (n : Int) else whm F n := rfl
theorem whm_rg (F : Nat → Int) : ∀ n, -1 ≤ whm F n ∧ whm F n < n
  | 0 => by simp [whm]
  | n + 1 => by
    have := whm_rg F n
    rw [whm_s]
    split <;> omega
theorem whm_pos (F : Nat → Int) : ∀ n, whm F n ≠ -1 → 0 < F (whm F n).toNat
  | 0, h => absurd rfl h
  | n + 1, h => by
    have ih := whm_pos F n
    rw [whm_s] at h ⊢
    by_cases e : (if whm F n = -1 then 0 else F (whm F n).toNat) < F n
    · rw [if_pos e]
      simp only [Int.toNat_natCast]
      by_cases e2 : whm F n = -1
      · rw [if_pos e2] at e; exact e
      · rw [if_neg e2] at e; have := ih e2; omega
    · rw [if_neg e] at h ⊢; exact ih h
theorem whm_out {F : Nat → Int} {n : Nat} (h : ∀ k, n ≤ k → F k = 0) : ∀ d, whm F (n + d) = whm F n
  | 0 => rfl
  | d + 1 => by
    show whm F (n + d + 1) = _
    rw [whm_s, h (n + d) (by omega), if_neg, whm_out h d]
    by_cases e : whm F (n + d) = -1
    · rw [if_pos e]; omega
    · rw [if_neg e]
      have := whm_pos F _ e
      omega
theorem lmn_0 (g : Nat) : ∀ {L : List S3} {s : Int}, (∀ t ∈ L, g ≠ t.2.1 ∧ g ≠ t.2.2) → L.foldl (fun s t => s + ((if g = t.2.1 then on1 T m c pl t.1 t.2.1 t.2.2 else 0) + (if g = t.2.2 then on2 T m c pl t.1 t.2.1 t.2.2 else 0))) s = s
  | [], s, _ => rfl
  | t :: L, s, h => by
    have h1 := h t (by simp)
    simp only [List.foldl_cons, h1.1, h1.2, if_false, Int.add_zero]
    exact lmn_0 g fun u hu => h u (by simp [hu])
/-- how much g minds -/
def mnd (T : Tb) (m c : Int) (pl : Nat → Int) (g : Nat) : Int := lmn T m c pl g (SLS T m c pl)
theorem mnd_out (hpl : plV T m pl) (ht : tvC T) (hg : ng T ≤ g.toNat) : mnd T m c pl g.toNat = 0 := by
  have h0 := ngI ht
  refine lmn_0 g.toNat fun t hh => ?_
  have := sl1_all (p := slQ T m c pl) (N := ng T) (k := nr T) (q := fun t => (t.2.1 : Int) < T 0 2 ∧ (t.2.2 : Int) < T 0 2) (fun r x y hr h => by
    have hx := hpl x
    have hy := hpl y
    simp only [slQ, slP, Bool.and_eq_true, decide_eq_true_eq] at h
    obtain ⟨h1, h2, h3, h4⟩ := h
    constructor
    · rcases hx with z | z
      · exact absurd z h2
      · exact z.1.1
    · rcases hy with z | z
      · exact absurd z h3
      · exact z.1.1) t hh
  omega
theorem mnd_rg (ht : tvC T) (hv : tvD T) (g : Nat) : 0 ≤ mnd T m c pl g ∧ mnd T m c pl g ≤ 21600 := by
  have h1 := lmn_rg (m := m) (c := c) (pl := pl) hv g (SLS_ok (m := m) (c := c) (pl := pl) ht)
  have h2 := SLS_len (m := m) (c := c) (pl := pl) ht
  unfold mnd; omega
theorem cl_whoMost (hs : ∀ g, g < 10 → I 57 g = iI (mnd T m c pl g)) (ht : tvC T) (hv : tvD T) : Slights_whoMindsMost S0 (some 55) (I, J, Pst b f) = some (iI (whm (mnd T m c pl) 10)) := by
  have e := jfun (body := Slights_whoMindsMost_L6 S0 (some 55) (I, J, Pst b f)) (fun k => (iI (whm (mnd T m c pl) k), iI (if whm (mnd T m c pl) k = -1 then 0 else mnd T m c pl (whm (mnd T m c pl) k).toNat), iI (k : Int))) 10 (r := iI (whm (mnd T m c pl) 10)) (s0 := (iI (-1), iI 0, iI 0)) rfl (fun k hk => ?_) ?_ (by omega)
  · simp only [Slights_whoMindsMost, rc0, gi0, gl0, pi0, pl0, pz0, pr0, gr0_0, gr0_1, gr0_2, gr0_3, gr0_4, gr0_5, gr0_6, gr0_7, gr0_8, rc1, gi1, gl1, pi1, pl1, pz1, pr1, gr1_0, rc3, gi3, gl3, pi3, pl3, pz3, pr3, gr3_0, gr3_10, gr3_11, rc47, gi47, gl47, pi47, pl47, pz47, pr47, gr47_0, gr47_1, gr47_2, gr47_3, gr47_4, gr47_5, gr47_6, rc55, gi55, gl55, pi55, pl55, pz55, pr55, gr55_0, gr55_1, rc58, gi58, gl58, pi58, pl58, pz58, pr58, gr58_0, gr58_1, rc61, gi61, gl61, pi61, pl61, pz61, pr61, gr61_0, gr61_1, gr61_2, gr61_7, rc62, gi62, gl62, pi62, pl62, pz62, pr62, gr62_0, gr62_1, gr62_2, gr62_3, gr62_4, gr62_5, ld2, st2, an2, ld4, st4, an4, ld5, st5, an5, an6, ld48, st48, an48, ld49, st49, an49, ld50, st50, an50, ld51, st51, an51, ld52, st52, an52, ld53, st53, an53, ld54, st54, an54, ld56, st56, an56, ld57, st57, an57, ld59, st59, an59, ld60, st60, an60, ld63, st63, an63, ld64, st64, an64, ld65, st65, an65, ld66, st66, an66, ld67, st67, an67, ld68, st68, an68, ld69, st69, an69, ld70, st70, an70, rcct, gict, glct, pict, plct, pzct, prct, grct_0, grct_1, grct_2, grct_3, ldctm, stctm, anctm, ldctr, stctr, anctr, ldctp, stctp, anctp, anctR, rcru, giru, glru, piru, plru, pzru, prru, grru_7, ldcu, stcu, ancu, arct, ar6, rcro, giro, piro, pzro, grro_1, grro_2, grro_3, rcfo, gifo, pifo, pzfo, grfo_0, grfo_1, ldfop, stfop, anfop, ldfoe, stfoe, anfoe, Option.bind_some, if_true, if_false, n_0, n_1, iI_neg, e]
  · have h1 := mnd_rg (m := m) (c := c) (pl := pl) ht hv k
    have h2 : 0 ≤ (if whm (mnd T m c pl) k = -1 then 0 else mnd T m c pl (whm (mnd T m c pl) k).toNat) ∧ (if whm (mnd T m c pl) k = -1 then 0 else mnd T m c pl (whm (mnd T m c pl) k).toNat) ≤ 21600 := by
      split
      · omega
      · exact mnd_rg ht hv _
    simp (disch := omega) only [Slights_whoMindsMost_L6, rc0, gi0, gl0, pi0, pl0, pz0, pr0, gr0_0, gr0_1, gr0_2, gr0_3, gr0_4, gr0_5, gr0_6, gr0_7, gr0_8, rc1, gi1, gl1, pi1, pl1, pz1, pr1, gr1_0, rc3, gi3, gl3, pi3, pl3, pz3, pr3, gr3_0, gr3_10, gr3_11, rc47, gi47, gl47, pi47, pl47, pz47, pr47, gr47_0, gr47_1, gr47_2, gr47_3, gr47_4, gr47_5, gr47_6, rc55, gi55, gl55, pi55, pl55, pz55, pr55, gr55_0, gr55_1, rc58, gi58, gl58, pi58, pl58, pz58, pr58, gr58_0, gr58_1, rc61, gi61, gl61, pi61, pl61, pz61, pr61, gr61_0, gr61_1, gr61_2, gr61_7, rc62, gi62, gl62, pi62, pl62, pz62, pr62, gr62_0, gr62_1, gr62_2, gr62_3, gr62_4, gr62_5, ld2, st2, an2, ld4, st4, an4, ld5, st5, an5, an6, ld48, st48, an48, ld49, st49, an49, ld50, st50, an50, ld51, st51, an51, ld52, st52, an52, ld53, st53, an53, ld54, st54, an54, ld56, st56, an56, ld57, st57, an57, ld59, st59, an59, ld60, st60, an60, ld63, st63, an63, ld64, st64, an64, ld65, st65, an65, ld66, st66, an66, ld67, st67, an67, ld68, st68, an68, ld69, st69, an69, ld70, st70, an70, rcct, gict, glct, pict, plct, pzct, prct, grct_0, grct_1, grct_2, grct_3, ldctm, stctm, anctm, ldctr, stctr, anctr, ldctp, stctp, anctp, anctR, rcru, giru, glru, piru, plru, pzru, prru, grru_7, ldcu, stcu, ancu, arct, ar6, rcro, giro, piro, pzro, grro_1, grro_2, grro_3, rcfo, gifo, pifo, pzfo, grfo_0, grfo_1, ldfop, stfop, anfop, ldfoe, stfoe, anfoe, Option.bind_some, if_true, if_false, n_0, n_1, n_2, n_3, n_4, n_5, n_6, n_7, n_8, n_9, n_10, n_12, n_15, n_20, n_24, n_32, n_48, n_57, n_59, n_80, n_97, n_99, n_100, n_122, n_680, n_700, n_999, n_1023, n_1024, iI_neg, iI_add, iI_sub, iI_lt, iI_le, iI_eq, show ¬ (10 : Int) ≤ (k : Int) by omega, Int.toNat_natCast, hs k hk]
    rw [whm_s]
    by_cases z : (if whm (mnd T m c pl) k = -1 then 0 else mnd T m c pl (whm (mnd T m c pl) k).toNat) < mnd T m c pl k
    · rw [if_neg (by omega), if_pos z, if_neg (by omega)]
      simp only [Int.toNat_natCast]
      rfl
    · rw [if_pos (by omega), if_neg z]
      rfl
  · simp (disch := omega) only [Slights_whoMindsMost_L6, rc0, gi0, gl0, pi0, pl0, pz0, pr0, gr0_0, gr0_1, gr0_2, gr0_3, gr0_4, gr0_5, gr0_6, gr0_7, gr0_8, rc1, gi1, gl1, pi1, pl1, pz1, pr1, gr1_0, rc3, gi3, gl3, pi3, pl3, pz3, pr3, gr3_0, gr3_10, gr3_11, rc47, gi47, gl47, pi47, pl47, pz47, pr47, gr47_0, gr47_1, gr47_2, gr47_3, gr47_4, gr47_5, gr47_6, rc55, gi55, gl55, pi55, pl55, pz55, pr55, gr55_0, gr55_1, rc58, gi58, gl58, pi58, pl58, pz58, pr58, gr58_0, gr58_1, rc61, gi61, gl61, pi61, pl61, pz61, pr61, gr61_0, gr61_1, gr61_2, gr61_7, rc62, gi62, gl62, pi62, pl62, pz62, pr62, gr62_0, gr62_1, gr62_2, gr62_3, gr62_4, gr62_5, ld2, st2, an2, ld4, st4, an4, ld5, st5, an5, an6, ld48, st48, an48, ld49, st49, an49, ld50, st50, an50, ld51, st51, an51, ld52, st52, an52, ld53, st53, an53, ld54, st54, an54, ld56, st56, an56, ld57, st57, an57, ld59, st59, an59, ld60, st60, an60, ld63, st63, an63, ld64, st64, an64, ld65, st65, an65, ld66, st66, an66, ld67, st67, an67, ld68, st68, an68, ld69, st69, an69, ld70, st70, an70, rcct, gict, glct, pict, plct, pzct, prct, grct_0, grct_1, grct_2, grct_3, ldctm, stctm, anctm, ldctr, stctr, anctr, ldctp, stctp, anctp, anctR, rcru, giru, glru, piru, plru, pzru, prru, grru_7, ldcu, stcu, ancu, arct, ar6, rcro, giro, piro, pzro, grro_1, grro_2, grro_3, rcfo, gifo, pifo, pzfo, grfo_0, grfo_1, ldfop, stfop, anfop, ldfoe, stfoe, anfoe, Option.bind_some, if_true, if_false, n_0, n_1, n_2, n_3, n_4, n_5, n_6, n_7, n_8, n_9, n_10, n_12, n_15, n_20, n_24, n_32, n_48, n_57, n_59, n_80, n_97, n_99, n_100, n_122, n_680, n_700, n_999, n_1023, n_1024, iI_neg, iI_add, iI_sub, iI_lt, iI_le, iI_eq, show (10 : Int) ≤ ((10 : Nat) : Int) by omega]
theorem whm_10 (hpl : plV T m pl) (ht : tvC T) : whm (mnd T m c pl) 10 = whm (mnd T m c pl) (ng T) := by
  have h0 := ng_le ht
  have := whm_out (F := mnd T m c pl) (n := ng T) (fun k hk => mnd_out (g := (k : Int)) hpl ht (by omega)) (10 - ng T)
  rwa [show ng T + (10 - ng T) = 10 by omega] at this
def mdR (T : Tb) (m c g : Int) : Int := if tbQ T m c ∧ (g = -1 ∨ isG T g) then (if g = -1 then whm (mnd T m c (plh T m 0)) (ng T) else mnd T m c (plh T m 0) g.toNat) else -1
theorem cl_minds (E : EC T b I) (V : TV T) (hm : rg m) (hc : rg c) (hg : rg g) : ∃ I', Fi_minds S0 (some 0) (iI m) (iI c) (iI g) (I, J, Pst b f) = some (iI (mdR T m c g), (I', J, Pst b f)) ∧ Agr outT I I' := by
  obtain ⟨⟨eA, eB⟩, ⟨eC, eD⟩, eE⟩ := id E
  obtain ⟨⟨vA, vB⟩, ⟨vC, vD⟩, vE, vF⟩ := id V
  have hT := vC.1
  by_cases z : tbQ T m c
  · obtain ⟨I1, a1, a2, ⟨s2, s3, s4, s5⟩, ⟨s6, s7, s8⟩, s9⟩ := cl_hand1 (J := J) (f := f) (q := -1) E V hm z (by omega)
    have s9' : ∀ g, g < 10 → I1 57 g = iI (mnd T m c (plh T m 0) g) := s9
    by_cases g1 : g = -1
    · refine ⟨I1, ?_, a2⟩
      subst g1
      have hR : mdR T m c (-1) = whm (mnd T m c (plh T m 0)) 10 := by
        unfold mdR
        rw [if_pos ⟨z, Or.inl rfl⟩, if_pos rfl, whm_10 (plh_ok V z.1) vC]
      simp (disch := omega) only [Fi_minds, rc0, gi0, gl0, pi0, pl0, pz0, pr0, gr0_0, gr0_1, gr0_2, gr0_3, gr0_4, gr0_5, gr0_6, gr0_7, gr0_8, rc1, gi1, gl1, pi1, pl1, pz1, pr1, gr1_0, rc3, gi3, gl3, pi3, pl3, pz3, pr3, gr3_0, gr3_10, gr3_11, rc47, gi47, gl47, pi47, pl47, pz47, pr47, gr47_0, gr47_1, gr47_2, gr47_3, gr47_4, gr47_5, gr47_6, rc55, gi55, gl55, pi55, pl55, pz55, pr55, gr55_0, gr55_1, rc58, gi58, gl58, pi58, pl58, pz58, pr58, gr58_0, gr58_1, rc61, gi61, gl61, pi61, pl61, pz61, pr61, gr61_0, gr61_1, gr61_2, gr61_7, rc62, gi62, gl62, pi62, pl62, pz62, pr62, gr62_0, gr62_1, gr62_2, gr62_3, gr62_4, gr62_5, ld2, st2, an2, ld4, st4, an4, ld5, st5, an5, an6, ld48, st48, an48, ld49, st49, an49, ld50, st50, an50, ld51, st51, an51, ld52, st52, an52, ld53, st53, an53, ld54, st54, an54, ld56, st56, an56, ld57, st57, an57, ld59, st59, an59, ld60, st60, an60, ld63, st63, an63, ld64, st64, an64, ld65, st65, an65, ld66, st66, an66, ld67, st67, an67, ld68, st68, an68, ld69, st69, an69, ld70, st70, an70, rcct, gict, glct, pict, plct, pzct, prct, grct_0, grct_1, grct_2, grct_3, ldctm, stctm, anctm, ldctr, stctr, anctr, ldctp, stctp, anctp, anctR, rcru, giru, glru, piru, plru, pzru, prru, grru_7, ldcu, stcu, ancu, arct, ar6, rcro, giro, piro, pzro, grro_1, grro_2, grro_3, rcfo, gifo, pifo, pzfo, grfo_0, grfo_1, ldfop, stfop, anfop, ldfoe, stfoe, anfoe, Option.bind_some, if_true, if_false, n_0, n_1, n_2, n_3, n_4, n_5, n_6, n_7, n_8, n_9, n_10, n_12, n_15, n_20, n_24, n_32, n_48, n_57, n_59, n_80, n_97, n_99, n_100, n_122, n_680, n_700, n_999, n_1023, n_1024, iI_neg, iI_add, iI_sub, iI_lt, iI_le, iI_eq, Sum.elim_inl, a1, show ¬ (1 : Int) = 0 by omega, cl_whoMost s9' vC vD, hR]
    · by_cases g2 : isG T g
      · refine ⟨I1, ?_, a2⟩
        have hR : mdR T m c g = mnd T m c (plh T m 0) g.toNat := by
          unfold mdR
          rw [if_pos ⟨z, Or.inr g2⟩, if_neg g1]
        simp (disch := omega) only [Fi_minds, rc0, gi0, gl0, pi0, pl0, pz0, pr0, gr0_0, gr0_1, gr0_2, gr0_3, gr0_4, gr0_5, gr0_6, gr0_7, gr0_8, rc1, gi1, gl1, pi1, pl1, pz1, pr1, gr1_0, rc3, gi3, gl3, pi3, pl3, pz3, pr3, gr3_0, gr3_10, gr3_11, rc47, gi47, gl47, pi47, pl47, pz47, pr47, gr47_0, gr47_1, gr47_2, gr47_3, gr47_4, gr47_5, gr47_6, rc55, gi55, gl55, pi55, pl55, pz55, pr55, gr55_0, gr55_1, rc58, gi58, gl58, pi58, pl58, pz58, pr58, gr58_0, gr58_1, rc61, gi61, gl61, pi61, pl61, pz61, pr61, gr61_0, gr61_1, gr61_2, gr61_7, rc62, gi62, gl62, pi62, pl62, pz62, pr62, gr62_0, gr62_1, gr62_2, gr62_3, gr62_4, gr62_5, ld2, st2, an2, ld4, st4, an4, ld5, st5, an5, an6, ld48, st48, an48, ld49, st49, an49, ld50, st50, an50, ld51, st51, an51, ld52, st52, an52, ld53, st53, an53, ld54, st54, an54, ld56, st56, an56, ld57, st57, an57, ld59, st59, an59, ld60, st60, an60, ld63, st63, an63, ld64, st64, an64, ld65, st65, an65, ld66, st66, an66, ld67, st67, an67, ld68, st68, an68, ld69, st69, an69, ld70, st70, an70, rcct, gict, glct, pict, plct, pzct, prct, grct_0, grct_1, grct_2, grct_3, ldctm, stctm, anctm, ldctr, stctr, anctr, ldctp, stctp, anctp, anctR, rcru, giru, glru, piru, plru, pzru, prru, grru_7, ldcu, stcu, ancu, arct, ar6, rcro, giro, piro, pzro, grro_1, grro_2, grro_3, rcfo, gifo, pifo, pzfo, grfo_0, grfo_1, ldfop, stfop, anfop, ldfoe, stfoe, anfoe, Option.bind_some, if_true, if_false, n_0, n_1, n_2, n_3, n_4, n_5, n_6, n_7, n_8, n_9, n_10, n_12, n_15, n_20, n_24, n_32, n_48, n_57, n_59, n_80, n_97, n_99, n_100, n_122, n_680, n_700, n_999, n_1023, n_1024, iI_neg, iI_add, iI_sub, iI_lt, iI_le, iI_eq, g1, cl_hasGuest eC vC hg, bI_0, decide_eq_false_iff_not, iff_true_intro g2, not_true, Sum.elim_inl, a1, show ¬ (1 : Int) = 0 by omega, s9' g.toNat (by omega), hR]
      · refine ⟨I, ?_, Agr.refl _ _⟩
        have hR : mdR T m c g = -1 := by
          unfold mdR
          rw [if_neg]
          omega
        simp (disch := omega) only [Fi_minds, rc0, gi0, gl0, pi0, pl0, pz0, pr0, gr0_0, gr0_1, gr0_2, gr0_3, gr0_4, gr0_5, gr0_6, gr0_7, gr0_8, rc1, gi1, gl1, pi1, pl1, pz1, pr1, gr1_0, rc3, gi3, gl3, pi3, pl3, pz3, pr3, gr3_0, gr3_10, gr3_11, rc47, gi47, gl47, pi47, pl47, pz47, pr47, gr47_0, gr47_1, gr47_2, gr47_3, gr47_4, gr47_5, gr47_6, rc55, gi55, gl55, pi55, pl55, pz55, pr55, gr55_0, gr55_1, rc58, gi58, gl58, pi58, pl58, pz58, pr58, gr58_0, gr58_1, rc61, gi61, gl61, pi61, pl61, pz61, pr61, gr61_0, gr61_1, gr61_2, gr61_7, rc62, gi62, gl62, pi62, pl62, pz62, pr62, gr62_0, gr62_1, gr62_2, gr62_3, gr62_4, gr62_5, ld2, st2, an2, ld4, st4, an4, ld5, st5, an5, an6, ld48, st48, an48, ld49, st49, an49, ld50, st50, an50, ld51, st51, an51, ld52, st52, an52, ld53, st53, an53, ld54, st54, an54, ld56, st56, an56, ld57, st57, an57, ld59, st59, an59, ld60, st60, an60, ld63, st63, an63, ld64, st64, an64, ld65, st65, an65, ld66, st66, an66, ld67, st67, an67, ld68, st68, an68, ld69, st69, an69, ld70, st70, an70, rcct, gict, glct, pict, plct, pzct, prct, grct_0, grct_1, grct_2, grct_3, ldctm, stctm, anctm, ldctr, stctr, anctr, ldctp, stctp, anctp, anctR, rcru, giru, glru, piru, plru, pzru, prru, grru_7, ldcu, stcu, ancu, arct, ar6, rcro, giro, piro, pzro, grro_1, grro_2, grro_3, rcfo, gifo, pifo, pzfo, grfo_0, grfo_1, ldfop, stfop, anfop, ldfoe, stfoe, anfoe, Option.bind_some, if_true, if_false, n_0, n_1, n_2, n_3, n_4, n_5, n_6, n_7, n_8, n_9, n_10, n_12, n_15, n_20, n_24, n_32, n_48, n_57, n_59, n_80, n_97, n_99, n_100, n_122, n_680, n_700, n_999, n_1023, n_1024, iI_neg, iI_add, iI_sub, iI_lt, iI_le, iI_eq, g1, cl_hasGuest eC vC hg, bI_0, decide_eq_false_iff_not, iff_false_intro g2, not_false_eq_true, Sum.elim_inr, hR]
  · refine ⟨I, ?_, Agr.refl _ _⟩
    have hR : mdR T m c g = -1 := by unfold mdR; rw [if_neg fun q1 => z q1.1]
    by_cases g1 : g = -1
    · subst g1
      simp (disch := omega) only [Fi_minds, rc0, gi0, gl0, pi0, pl0, pz0, pr0, gr0_0, gr0_1, gr0_2, gr0_3, gr0_4, gr0_5, gr0_6, gr0_7, gr0_8, rc1, gi1, gl1, pi1, pl1, pz1, pr1, gr1_0, rc3, gi3, gl3, pi3, pl3, pz3, pr3, gr3_0, gr3_10, gr3_11, rc47, gi47, gl47, pi47, pl47, pz47, pr47, gr47_0, gr47_1, gr47_2, gr47_3, gr47_4, gr47_5, gr47_6, rc55, gi55, gl55, pi55, pl55, pz55, pr55, gr55_0, gr55_1, rc58, gi58, gl58, pi58, pl58, pz58, pr58, gr58_0, gr58_1, rc61, gi61, gl61, pi61, pl61, pz61, pr61, gr61_0, gr61_1, gr61_2, gr61_7, rc62, gi62, gl62, pi62, pl62, pz62, pr62, gr62_0, gr62_1, gr62_2, gr62_3, gr62_4, gr62_5, ld2, st2, an2, ld4, st4, an4, ld5, st5, an5, an6, ld48, st48, an48, ld49, st49, an49, ld50, st50, an50, ld51, st51, an51, ld52, st52, an52, ld53, st53, an53, ld54, st54, an54, ld56, st56, an56, ld57, st57, an57, ld59, st59, an59, ld60, st60, an60, ld63, st63, an63, ld64, st64, an64, ld65, st65, an65, ld66, st66, an66, ld67, st67, an67, ld68, st68, an68, ld69, st69, an69, ld70, st70, an70, rcct, gict, glct, pict, plct, pzct, prct, grct_0, grct_1, grct_2, grct_3, ldctm, stctm, anctm, ldctr, stctr, anctr, ldctp, stctp, anctp, anctR, rcru, giru, glru, piru, plru, pzru, prru, grru_7, ldcu, stcu, ancu, arct, ar6, rcro, giro, piro, pzro, grro_1, grro_2, grro_3, rcfo, gifo, pifo, pzfo, grfo_0, grfo_1, ldfop, stfop, anfop, ldfoe, stfoe, anfoe, Option.bind_some, if_true, if_false, n_0, n_1, n_2, n_3, n_4, n_5, n_6, n_7, n_8, n_9, n_10, n_12, n_15, n_20, n_24, n_32, n_48, n_57, n_59, n_80, n_97, n_99, n_100, n_122, n_680, n_700, n_999, n_1023, n_1024, iI_neg, iI_add, iI_sub, iI_lt, iI_le, iI_eq, Sum.elim_inl, cl_hand0 E V hm hc z, hR]
    · by_cases g2 : isG T g
      · simp (disch := omega) only [Fi_minds, rc0, gi0, gl0, pi0, pl0, pz0, pr0, gr0_0, gr0_1, gr0_2, gr0_3, gr0_4, gr0_5, gr0_6, gr0_7, gr0_8, rc1, gi1, gl1, pi1, pl1, pz1, pr1, gr1_0, rc3, gi3, gl3, pi3, pl3, pz3, pr3, gr3_0, gr3_10, gr3_11, rc47, gi47, gl47, pi47, pl47, pz47, pr47, gr47_0, gr47_1, gr47_2, gr47_3, gr47_4, gr47_5, gr47_6, rc55, gi55, gl55, pi55, pl55, pz55, pr55, gr55_0, gr55_1, rc58, gi58, gl58, pi58, pl58, pz58, pr58, gr58_0, gr58_1, rc61, gi61, gl61, pi61, pl61, pz61, pr61, gr61_0, gr61_1, gr61_2, gr61_7, rc62, gi62, gl62, pi62, pl62, pz62, pr62, gr62_0, gr62_1, gr62_2, gr62_3, gr62_4, gr62_5, ld2, st2, an2, ld4, st4, an4, ld5, st5, an5, an6, ld48, st48, an48, ld49, st49, an49, ld50, st50, an50, ld51, st51, an51, ld52, st52, an52, ld53, st53, an53, ld54, st54, an54, ld56, st56, an56, ld57, st57, an57, ld59, st59, an59, ld60, st60, an60, ld63, st63, an63, ld64, st64, an64, ld65, st65, an65, ld66, st66, an66, ld67, st67, an67, ld68, st68, an68, ld69, st69, an69, ld70, st70, an70, rcct, gict, glct, pict, plct, pzct, prct, grct_0, grct_1, grct_2, grct_3, ldctm, stctm, anctm, ldctr, stctr, anctr, ldctp, stctp, anctp, anctR, rcru, giru, glru, piru, plru, pzru, prru, grru_7, ldcu, stcu, ancu, arct, ar6, rcro, giro, piro, pzro, grro_1, grro_2, grro_3, rcfo, gifo, pifo, pzfo, grfo_0, grfo_1, ldfop, stfop, anfop, ldfoe, stfoe, anfoe, Option.bind_some, if_true, if_false, n_0, n_1, n_2, n_3, n_4, n_5, n_6, n_7, n_8, n_9, n_10, n_12, n_15, n_20, n_24, n_32, n_48, n_57, n_59, n_80, n_97, n_99, n_100, n_122, n_680, n_700, n_999, n_1023, n_1024, iI_neg, iI_add, iI_sub, iI_lt, iI_le, iI_eq, g1, cl_hasGuest eC vC hg, bI_0, decide_eq_false_iff_not, iff_true_intro g2, not_true, Sum.elim_inl, cl_hand0 E V hm hc z, hR]
      · simp (disch := omega) only [Fi_minds, rc0, gi0, gl0, pi0, pl0, pz0, pr0, gr0_0, gr0_1, gr0_2, gr0_3, gr0_4, gr0_5, gr0_6, gr0_7, gr0_8, rc1, gi1, gl1, pi1, pl1, pz1, pr1, gr1_0, rc3, gi3, gl3, pi3, pl3, pz3, pr3, gr3_0, gr3_10, gr3_11, rc47, gi47, gl47, pi47, pl47, pz47, pr47, gr47_0, gr47_1, gr47_2, gr47_3, gr47_4, gr47_5, gr47_6, rc55, gi55, gl55, pi55, pl55, pz55, pr55, gr55_0, gr55_1, rc58, gi58, gl58, pi58, pl58, pz58, pr58, gr58_0, gr58_1, rc61, gi61, gl61, pi61, pl61, pz61, pr61, gr61_0, gr61_1, gr61_2, gr61_7, rc62, gi62, gl62, pi62, pl62, pz62, pr62, gr62_0, gr62_1, gr62_2, gr62_3, gr62_4, gr62_5, ld2, st2, an2, ld4, st4, an4, ld5, st5, an5, an6, ld48, st48, an48, ld49, st49, an49, ld50, st50, an50, ld51, st51, an51, ld52, st52, an52, ld53, st53, an53, ld54, st54, an54, ld56, st56, an56, ld57, st57, an57, ld59, st59, an59, ld60, st60, an60, ld63, st63, an63, ld64, st64, an64, ld65, st65, an65, ld66, st66, an66, ld67, st67, an67, ld68, st68, an68, ld69, st69, an69, ld70, st70, an70, rcct, gict, glct, pict, plct, pzct, prct, grct_0, grct_1, grct_2, grct_3, ldctm, stctm, anctm, ldctr, stctr, anctr, ldctp, stctp, anctp, anctR, rcru, giru, glru, piru, plru, pzru, prru, grru_7, ldcu, stcu, ancu, arct, ar6, rcro, giro, piro, pzro, grro_1, grro_2, grro_3, rcfo, gifo, pifo, pzfo, grfo_0, grfo_1, ldfop, stfop, anfop, ldfoe, stfoe, anfoe, Option.bind_some, if_true, if_false, n_0, n_1, n_2, n_3, n_4, n_5, n_6, n_7, n_8, n_9, n_10, n_12, n_15, n_20, n_24, n_32, n_48, n_57, n_59, n_80, n_97, n_99, n_100, n_122, n_680, n_700, n_999, n_1023, n_1024, iI_neg, iI_add, iI_sub, iI_lt, iI_le, iI_eq, g1, cl_hasGuest eC vC hg, bI_0, decide_eq_false_iff_not, iff_false_intro g2, not_false_eq_true, Sum.elim_inr, hR]
end
