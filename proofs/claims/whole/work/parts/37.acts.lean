/-! ===== layer 2: end, room, rest, comes, seat, leave, sits ===== -/
section
variable {T : Tb} {I I' : Nat → Nat → Int32} {J : Nat → Nat → Int64} {b v : Bool} {f k : Nat} {P : Nat → Nat → Option Nat} {a c g w c1 c2 : Int}
def cK (c1 c2 : Int) (b : Bool) (I : Nat → Nat → Int32) : Prop := I (ct b) 9 = iI c1 ∧ I (ct b) 10 = iI c2
abbrev outC (b : Bool) (o : Nat) : Prop := o < ct b ∨ ct b + 29 ≤ o
def v01 (v : Bool) : Int := if v then 1 else 0
theorem bI_v (v : Bool) : bI v = iI (v01 v) := by cases v <;> rfl
theorem v01_rg (v : Bool) : v01 v = 0 ∨ v01 v = 1 := by cases v <;> simp [v01]
theorem cA.out (h : cA T I) (ha : Agr (outC b) I I') : cA T I' := h.agr (ha.sub fun o ho => by have := ct_or b; omega)
theorem cB.out (h : cB T I) (ha : Agr (outC b) I I') : cB T I' := by
  have hc := ct_or b
  refine h.agr (ha 0 (by omega) 9) fun k hk => ?_
  have : outC b (ro k) := by unfold outC ro; omega
  exact ⟨ha _ this 0, ha _ this 4, ha _ this 5⟩
/-! rest -/
abbrev rsQ (T : Tb) (g : Int) (v : Bool) : Prop := isR T g ∧ T 11 g.toNat ≠ v01 v
theorem cl_rest1 (E : EC T b I) (V : TV T) (hn : cK c1 c2 b I) (hg : rg g) (hq : rsQ T g v) : ∃ I', Fi_rest S0 (some 0) (iI g) (bI v) (I, J, Pst b f) = some (iI 1, (I', J, Pst b f)) ∧ EC (hup T 11 g.toNat (v01 v)) b I' ∧ cK (c1 + 1) (c2 + 1) b I' ∧ Agr (outC b) I I' := by
  obtain ⟨⟨eA, eB⟩, ⟨eC, eD⟩, eE⟩ := E
  obtain ⟨⟨vA, vB⟩, ⟨vC, vD⟩, vE, vF⟩ := V
  have h0 := vC.1
  have hd := eD _ (rN hq.1)
  have hv := vD _ (rN hq.1)
  have hc := ct_or b
  refine ⟨hup (hup (hup I (ru b g.toNat) 6 (bI v)) (ct b) 9 (iI (c1 + 1))) (ct b) 10 (iI (c2 + 1)), ?_, ?_, ?_, ?_⟩
  · have n1 : ¬ iI (T 11 g.toNat) = bI v := by
      rw [bI_v, iI_eq (by have := v01_rg v; omega)]; exact hq.2
    have hr := ru_gt b g.toNat
    have n2 : ct b ≠ ru b g.toNat := by unfold ru; omega
    simp (disch := omega) only [Fi_rest, Court_letRest, rc0, gi0, gl0, pi0, pl0, pz0, pr0, gr0_0, gr0_1, gr0_2, gr0_3, gr0_4, gr0_5, gr0_6, gr0_7, gr0_8, rc1, gi1, gl1, pi1, pl1, pz1, pr1, gr1_0, rc3, gi3, gl3, pi3, pl3, pz3, pr3, gr3_0, gr3_10, gr3_11, rc47, gi47, gl47, pi47, pl47, pz47, pr47, gr47_0, gr47_1, gr47_2, gr47_3, gr47_4, gr47_5, gr47_6, rc55, gi55, gl55, pi55, pl55, pz55, pr55, gr55_0, gr55_1, rc58, gi58, gl58, pi58, pl58, pz58, pr58, gr58_0, gr58_1, rc61, gi61, gl61, pi61, pl61, pz61, pr61, gr61_0, gr61_1, gr61_2, gr61_7, rc62, gi62, gl62, pi62, pl62, pz62, pr62, gr62_0, gr62_1, gr62_2, gr62_3, gr62_4, gr62_5, ld2, st2, an2, ld4, st4, an4, ld5, st5, an5, an6, ld48, st48, an48, ld49, st49, an49, ld50, st50, an50, ld51, st51, an51, ld52, st52, an52, ld53, st53, an53, ld54, st54, an54, ld56, st56, an56, ld57, st57, an57, ld59, st59, an59, ld60, st60, an60, ld63, st63, an63, ld64, st64, an64, ld65, st65, an65, ld66, st66, an66, ld67, st67, an67, ld68, st68, an68, ld69, st69, an69, ld70, st70, an70, rcct, gict, glct, pict, plct, pzct, prct, grct_0, grct_1, grct_2, grct_3, ldctm, stctm, anctm, ldctr, stctr, anctr, ldctp, stctp, anctp, anctR, rcru, giru, glru, piru, plru, pzru, prru, grru_7, ldcu, stcu, ancu, arct, ar6, rcro, giro, piro, pzro, grro_1, grro_2, grro_3, rcfo, gifo, pifo, pzfo, grfo_0, grfo_1, ldfop, stfop, anfop, ldfoe, stfoe, anfoe, Option.bind_some, if_true, if_false, cl_hasRule eC vC hg, n_0, n_1, bI_0, decide_eq_false_iff_not, iff_true_intro hq.1, not_true, hd.2.2.2.2.2.2.1, n1, hup_obj _ _ _ n2, hup_ix, hup_same, hn.1, hn.2, iI_add]
    rfl
  · have hA : Agr (outC b) I (hup (hup (hup I (ru b g.toNat) 6 (bI v)) (ct b) 9 (iI (c1 + 1))) (ct b) 10 (iI (c2 + 1))) := (((Agr.refl _ I).hup (by unfold ru; omega)).hup (by omega)).hup (by omega)
    refine ⟨⟨eA.out hA, eB.out hA⟩, ⟨eC.agr ?_ ?_, fun r hr => ?_⟩, eE.agr ?_ ?_⟩
    · have n2 : ct b ≠ ru b g.toNat := by unfold ru; omega
      simp [hup, n2]
    · exact (((Agr.refl _ I).hup (by unfold ru; omega)).hup (by omega)).hup (by omega)
    · obtain ⟨d1, d2, d3, d4, d5, d6, d7, d8⟩ := eD r hr
      have m1 : ru b r ≠ ct b := by unfold ru; omega
      have m2 : cu b r ≠ ct b := by unfold cu; omega
      have m3 : cu b r ≠ ru b g.toNat := by unfold cu ru; omega
      have m4 : (ru b r = ru b g.toNat) = (r = g.toNat) := by unfold ru; simp only [eq_iff_iff]; omega
      refine ⟨?_, ?_, ?_, ?_, ?_, ?_, ?_, fun x hx => ?_⟩
      · simpa [hup, m1] using d1
      · simpa [hup, m1] using d2
      · simpa [hup, m1] using d3
      · simpa [hup, m1] using d4
      · simpa [hup, m1] using d5
      · simpa [hup, m1] using d6
      · by_cases e : r = g.toNat
        · simp [hup, m1, m4, e, bI_v]
        · simp [hup, m1, m4, e, d7]
      · simp only [hup, m2, m3, false_and, if_false]
        exact d8 x hx
    · have n2 : ct b ≠ ru b g.toNat := by unfold ru; omega
      simp [hup, n2]
    · exact (((Agr.refl _ I).hup (by unfold ru; omega)).hup (by omega)).hup (by omega)
  · exact ⟨by simp [hup], by simp [hup]⟩
  · exact (((Agr.refl _ I).hup (by unfold ru; omega)).hup (by omega)).hup (by omega)
theorem cl_rest0 (E : EC T b I) (V : TV T) (hg : rg g) (hq : ¬ rsQ T g v) : Fi_rest S0 (some 0) (iI g) (bI v) (I, J, Pst b f) = some (iI 0, (I, J, Pst b f)) := by
  obtain ⟨⟨eA, eB⟩, ⟨eC, eD⟩, eE⟩ := E
  obtain ⟨⟨vA, vB⟩, ⟨vC, vD⟩, vE, vF⟩ := V
  have h0 := vC.1
  simp only [Fi_rest, Court_letRest, rc0, gi0, gl0, pi0, pl0, pz0, pr0, gr0_0, gr0_1, gr0_2, gr0_3, gr0_4, gr0_5, gr0_6, gr0_7, gr0_8, rc1, gi1, gl1, pi1, pl1, pz1, pr1, gr1_0, rc3, gi3, gl3, pi3, pl3, pz3, pr3, gr3_0, gr3_10, gr3_11, rc47, gi47, gl47, pi47, pl47, pz47, pr47, gr47_0, gr47_1, gr47_2, gr47_3, gr47_4, gr47_5, gr47_6, rc55, gi55, gl55, pi55, pl55, pz55, pr55, gr55_0, gr55_1, rc58, gi58, gl58, pi58, pl58, pz58, pr58, gr58_0, gr58_1, rc61, gi61, gl61, pi61, pl61, pz61, pr61, gr61_0, gr61_1, gr61_2, gr61_7, rc62, gi62, gl62, pi62, pl62, pz62, pr62, gr62_0, gr62_1, gr62_2, gr62_3, gr62_4, gr62_5, ld2, st2, an2, ld4, st4, an4, ld5, st5, an5, an6, ld48, st48, an48, ld49, st49, an49, ld50, st50, an50, ld51, st51, an51, ld52, st52, an52, ld53, st53, an53, ld54, st54, an54, ld56, st56, an56, ld57, st57, an57, ld59, st59, an59, ld60, st60, an60, ld63, st63, an63, ld64, st64, an64, ld65, st65, an65, ld66, st66, an66, ld67, st67, an67, ld68, st68, an68, ld69, st69, an69, ld70, st70, an70, rcct, gict, glct, pict, plct, pzct, prct, grct_0, grct_1, grct_2, grct_3, ldctm, stctm, anctm, ldctr, stctr, anctr, ldctp, stctp, anctp, anctR, rcru, giru, glru, piru, plru, pzru, prru, grru_7, ldcu, stcu, ancu, arct, ar6, rcro, giro, piro, pzro, grro_1, grro_2, grro_3, rcfo, gifo, pifo, pzfo, grfo_0, grfo_1, ldfop, stfop, anfop, ldfoe, stfoe, anfoe, Option.bind_some, if_true, if_false, cl_hasRule eC vC hg, n_0, n_1, bI_0, decide_eq_false_iff_not]
  by_cases hr : isR T g
  · have hd := eD _ (rN hr)
    have hv := vD _ (rN hr)
    have n1 : iI (T 11 g.toNat) = bI v := by
      rw [bI_v, iI_eq (by have := v01_rg v; omega)]
      exact Decidable.of_not_not fun q => hq ⟨hr, q⟩
    simp (disch := omega) only [iff_true_intro hr, not_true, Option.bind_some, if_true, if_false, rc0, gi0, gl0, pi0, pl0, pz0, pr0, gr0_0, gr0_1, gr0_2, gr0_3, gr0_4, gr0_5, gr0_6, gr0_7, gr0_8, rc1, gi1, gl1, pi1, pl1, pz1, pr1, gr1_0, rc3, gi3, gl3, pi3, pl3, pz3, pr3, gr3_0, gr3_10, gr3_11, rc47, gi47, gl47, pi47, pl47, pz47, pr47, gr47_0, gr47_1, gr47_2, gr47_3, gr47_4, gr47_5, gr47_6, rc55, gi55, gl55, pi55, pl55, pz55, pr55, gr55_0, gr55_1, rc58, gi58, gl58, pi58, pl58, pz58, pr58, gr58_0, gr58_1, rc61, gi61, gl61, pi61, pl61, pz61, pr61, gr61_0, gr61_1, gr61_2, gr61_7, rc62, gi62, gl62, pi62, pl62, pz62, pr62, gr62_0, gr62_1, gr62_2, gr62_3, gr62_4, gr62_5, ld2, st2, an2, ld4, st4, an4, ld5, st5, an5, an6, ld48, st48, an48, ld49, st49, an49, ld50, st50, an50, ld51, st51, an51, ld52, st52, an52, ld53, st53, an53, ld54, st54, an54, ld56, st56, an56, ld57, st57, an57, ld59, st59, an59, ld60, st60, an60, ld63, st63, an63, ld64, st64, an64, ld65, st65, an65, ld66, st66, an66, ld67, st67, an67, ld68, st68, an68, ld69, st69, an69, ld70, st70, an70, rcct, gict, glct, pict, plct, pzct, prct, grct_0, grct_1, grct_2, grct_3, ldctm, stctm, anctm, ldctr, stctr, anctr, ldctp, stctp, anctp, anctR, rcru, giru, glru, piru, plru, pzru, prru, grru_7, ldcu, stcu, ancu, arct, ar6, rcro, giro, piro, pzro, grro_1, grro_2, grro_3, rcfo, gifo, pifo, pzfo, grfo_0, grfo_1, ldfop, stfop, anfop, ldfoe, stfoe, anfoe, hd.2.2.2.2.2.2.1, n1]
    rfl
  · simp only [iff_false_intro hr, not_false_eq_true, Option.bind_some, if_true, if_false]
    rfl
theorem mo_rest1 (E : EM T I) (V : TV T) (hg : rg g) (hq : rsQ T g v) : ∃ I', Mo_rest S0 (some 132) (iI g) (bI v) (I, J, Pst b f) = some (iI 1, (I', J, Pst b f)) ∧ EM (hup T 11 g.toNat (v01 v)) I' ∧ Agr (fun o => o ≠ 165) I I' := by
  obtain ⟨⟨eA, eB⟩, ⟨eC, eD⟩, eE⟩ := E
  obtain ⟨⟨vA, vB⟩, ⟨vC, vD⟩, vE, vF⟩ := V
  have h0 := vC.1
  have hd := eD _ (rN hq.1)
  have hv := vD _ (rN hq.1)
  have n1 : ¬ iI (T 11 g.toNat) = bI v := by
    rw [bI_v, iI_eq (by have := v01_rg v; omega)]; exact hq.2
  have hA : Agr (fun o => o ≠ 165) I (hup I 165 g.toNat (bI v)) := (Agr.refl _ I).hup (by simp)
  refine ⟨hup I 165 g.toNat (bI v), ?_, ⟨⟨eA.agr (hA _ (by decide) 1) (hA.sub (by omega)), eB.agr (hA _ (by decide) 26) (hA.sub (by omega))⟩, ⟨eC.agr (hA.sub (by omega)), fun r hr => ?_⟩, eE.agr (hA.sub (by omega))⟩, hA⟩
  · simp (disch := omega) only [Mo_rest, rc132, gi132, gl132, pi132, pl132, pz132, pr132, gr132_0, gr132_6, gr132_7, gr132_8, gr132_9, gr132_10, gr132_11, gr132_12, gr132_13, gr132_14, gr132_15, gr132_16, gr132_17, gr132_18, gr132_19, gr132_20, gr132_21, gr132_22, gr132_23, gr132_24, gr132_25, gr132_27, gr132_28, gr132_29, gr132_30, gr132_32, gr132_33, gr132_34, gr132_35, gr132_36, gr132_37, gr132_38, gr132_39, gr132_40, gr132_41, gr132_42, gr132_44, gr132_45, gr132_46, gr132_47, gr132_48, gr132_49, gr132_50, gr132_51, gr132_61, gr132_62, gr132_63, ar134_0, ar134_1, ar137_0, ar137_1, ar140_0, ar140_1, ar143_0, ar143_1, ar146_0, ar146_1, ar149_0, ar149_1, ar152_0, ar152_1, ar155_0, ar155_1, ar158_0, ar158_1, ar164_0, ar164_1, ar164_2, ar164_3, ar164_4, ar164_5, ar164_6, ar164_7, ar164_8, ld133, st133, an133, an134, ld135, st135, an135, ld136, st136, an136, an137, ld138, st138, an138, ld139, st139, an139, an140, ld141, st141, an141, ld142, st142, an142, an143, ld144, st144, an144, ld145, st145, an145, an146, ld147, st147, an147, ld148, st148, an148, an149, ld150, st150, an150, ld151, st151, an151, an152, ld153, st153, an153, ld154, st154, an154, an155, ld156, st156, an156, ld157, st157, an157, an158, ld159, st159, an159, ld160, st160, an160, ld161, st161, an161, ld162, st162, an162, ld163, st163, an163, an164, ld165, st165, an165, ld166, st166, an166, ld167, st167, an167, ld168, st168, an168, ld169, st169, an169, ld170, st170, an170, ld171, st171, an171, ld172, st172, an172, ld173, st173, an173, ld174, st174, an174, ld175, st175, an175, ld176, st176, an176, ld177, st177, an177, ld178, st178, an178, ld179, st179, an179, ld180, st180, an180, ld181, st181, an181, ld182, st182, an182, ld183, st183, an183, ld184, st184, an184, ld185, st185, an185, ld186, st186, an186, ld187, st187, an187, ld188, st188, an188, ld189, st189, an189, ld190, st190, an190, ld191, st191, an191, ld192, st192, an192, ld193, st193, an193, ld194, st194, an194, ld195, st195, an195, ld196, st196, an196, ld197, st197, an197, Option.bind_some, if_true, if_false, mo_isRule eC vC hg, n_0, n_1, bI_0, decide_eq_false_iff_not, iff_true_intro hq.1, not_true, hd.2.2.2.2.2.2, n1]
  · obtain ⟨d1, d2, d3, d4, d5, d6, d7⟩ := eD r hr
    refine ⟨d1, d2, d3, d4, d5, d6, ?_⟩
    by_cases e : r = g.toNat
    · simp [hup, e, bI_v]
    · simp [hup, e, d7]
theorem mo_rest0 (E : EM T I) (V : TV T) (hg : rg g) (hq : ¬ rsQ T g v) : Mo_rest S0 (some 132) (iI g) (bI v) (I, J, Pst b f) = some (iI 0, (I, J, Pst b f)) := by
  obtain ⟨⟨eA, eB⟩, ⟨eC, eD⟩, eE⟩ := E
  obtain ⟨⟨vA, vB⟩, ⟨vC, vD⟩, vE, vF⟩ := V
  have h0 := vC.1
  simp only [Mo_rest, rc132, gi132, gl132, pi132, pl132, pz132, pr132, gr132_0, gr132_6, gr132_7, gr132_8, gr132_9, gr132_10, gr132_11, gr132_12, gr132_13, gr132_14, gr132_15, gr132_16, gr132_17, gr132_18, gr132_19, gr132_20, gr132_21, gr132_22, gr132_23, gr132_24, gr132_25, gr132_27, gr132_28, gr132_29, gr132_30, gr132_32, gr132_33, gr132_34, gr132_35, gr132_36, gr132_37, gr132_38, gr132_39, gr132_40, gr132_41, gr132_42, gr132_44, gr132_45, gr132_46, gr132_47, gr132_48, gr132_49, gr132_50, gr132_51, gr132_61, gr132_62, gr132_63, ar134_0, ar134_1, ar137_0, ar137_1, ar140_0, ar140_1, ar143_0, ar143_1, ar146_0, ar146_1, ar149_0, ar149_1, ar152_0, ar152_1, ar155_0, ar155_1, ar158_0, ar158_1, ar164_0, ar164_1, ar164_2, ar164_3, ar164_4, ar164_5, ar164_6, ar164_7, ar164_8, ld133, st133, an133, an134, ld135, st135, an135, ld136, st136, an136, an137, ld138, st138, an138, ld139, st139, an139, an140, ld141, st141, an141, ld142, st142, an142, an143, ld144, st144, an144, ld145, st145, an145, an146, ld147, st147, an147, ld148, st148, an148, an149, ld150, st150, an150, ld151, st151, an151, an152, ld153, st153, an153, ld154, st154, an154, an155, ld156, st156, an156, ld157, st157, an157, an158, ld159, st159, an159, ld160, st160, an160, ld161, st161, an161, ld162, st162, an162, ld163, st163, an163, an164, ld165, st165, an165, ld166, st166, an166, ld167, st167, an167, ld168, st168, an168, ld169, st169, an169, ld170, st170, an170, ld171, st171, an171, ld172, st172, an172, ld173, st173, an173, ld174, st174, an174, ld175, st175, an175, ld176, st176, an176, ld177, st177, an177, ld178, st178, an178, ld179, st179, an179, ld180, st180, an180, ld181, st181, an181, ld182, st182, an182, ld183, st183, an183, ld184, st184, an184, ld185, st185, an185, ld186, st186, an186, ld187, st187, an187, ld188, st188, an188, ld189, st189, an189, ld190, st190, an190, ld191, st191, an191, ld192, st192, an192, ld193, st193, an193, ld194, st194, an194, ld195, st195, an195, ld196, st196, an196, ld197, st197, an197, Option.bind_some, if_true, if_false, mo_isRule eC vC hg, n_0, n_1, bI_0, decide_eq_false_iff_not]
  by_cases hr : isR T g
  · have hd := eD _ (rN hr)
    have hv := vD _ (rN hr)
    have n1 : iI (T 11 g.toNat) = bI v := by
      rw [bI_v, iI_eq (by have := v01_rg v; omega)]
      exact Decidable.of_not_not fun q => hq ⟨hr, q⟩
    simp (disch := omega) only [iff_true_intro hr, not_true, Option.bind_some, if_true, if_false, rc132, gi132, gl132, pi132, pl132, pz132, pr132, gr132_0, gr132_6, gr132_7, gr132_8, gr132_9, gr132_10, gr132_11, gr132_12, gr132_13, gr132_14, gr132_15, gr132_16, gr132_17, gr132_18, gr132_19, gr132_20, gr132_21, gr132_22, gr132_23, gr132_24, gr132_25, gr132_27, gr132_28, gr132_29, gr132_30, gr132_32, gr132_33, gr132_34, gr132_35, gr132_36, gr132_37, gr132_38, gr132_39, gr132_40, gr132_41, gr132_42, gr132_44, gr132_45, gr132_46, gr132_47, gr132_48, gr132_49, gr132_50, gr132_51, gr132_61, gr132_62, gr132_63, ar134_0, ar134_1, ar137_0, ar137_1, ar140_0, ar140_1, ar143_0, ar143_1, ar146_0, ar146_1, ar149_0, ar149_1, ar152_0, ar152_1, ar155_0, ar155_1, ar158_0, ar158_1, ar164_0, ar164_1, ar164_2, ar164_3, ar164_4, ar164_5, ar164_6, ar164_7, ar164_8, ld133, st133, an133, an134, ld135, st135, an135, ld136, st136, an136, an137, ld138, st138, an138, ld139, st139, an139, an140, ld141, st141, an141, ld142, st142, an142, an143, ld144, st144, an144, ld145, st145, an145, an146, ld147, st147, an147, ld148, st148, an148, an149, ld150, st150, an150, ld151, st151, an151, an152, ld153, st153, an153, ld154, st154, an154, an155, ld156, st156, an156, ld157, st157, an157, an158, ld159, st159, an159, ld160, st160, an160, ld161, st161, an161, ld162, st162, an162, ld163, st163, an163, an164, ld165, st165, an165, ld166, st166, an166, ld167, st167, an167, ld168, st168, an168, ld169, st169, an169, ld170, st170, an170, ld171, st171, an171, ld172, st172, an172, ld173, st173, an173, ld174, st174, an174, ld175, st175, an175, ld176, st176, an176, ld177, st177, an177, ld178, st178, an178, ld179, st179, an179, ld180, st180, an180, ld181, st181, an181, ld182, st182, an182, ld183, st183, an183, ld184, st184, an184, ld185, st185, an185, ld186, st186, an186, ld187, st187, an187, ld188, st188, an188, ld189, st189, an189, ld190, st190, an190, ld191, st191, an191, ld192, st192, an192, ld193, st193, an193, ld194, st194, an194, ld195, st195, an195, ld196, st196, an196, ld197, st197, an197, hd.2.2.2.2.2.2, n1]
  · simp only [iff_false_intro hr, not_false_eq_true, Option.bind_some, if_true, if_false]
theorem tv_rest (V : TV T) : TV (hup T 11 k (v01 v)) := by
  obtain ⟨⟨vA, vB⟩, ⟨vC, vD⟩, vE, vF⟩ := V
  refine ⟨⟨vA, vB⟩, ⟨vC, fun r hr => ?_⟩, vE, vF⟩
  obtain ⟨d1, d2, d3, d4, d5, d6, d7⟩ := vD r hr
  refine ⟨d1, d2, d3, d4, d5, d6, ?_⟩
  by_cases e : r = k
  · have := v01_rg v
    simpa [hup, e] using this
  · simpa [hup, e] using d7
end
