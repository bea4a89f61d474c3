/-! ===== layer 2: seatings: the model's answers ===== -/
section
variable {T : Tb} {I I' I'' I0 : Nat → Nat → Int32} {J : Nat → Nat → Int64} {b md : Bool} {f k n i j x y p q r d ob : Nat} {m g w h a o lim mv : Int} {pl : Nat → Nat} {hom u : Nat → Int} {V0 V1 V2 : hV} {st : FdS} {s : FdS × FdS}
set_option maxHeartbeats 8000000 in
theorem mo_stays (V : TV T) (E0 : EM T I0) (hm : isM T m) (hb : mbM T I0) (h60 : I0 132 60 = bI md) (h53 : I0 132 53 = iI m) (hi : i < nK T) (hp : p < 10) (ha : frM zD sD I0 I) : Mo_staysElsewhere S0 (some 132) (iI (i : Int)) (iI (p : Int)) (I, J, Pst b f) = some (bI (!(if md = true then okS (styF T m 2) (homF T m 2) i p else true))) := by
  obtain ⟨⟨vA, vB⟩, ⟨vC, vD⟩, vE, vF⟩ := id V
  have hB := vB.1
  have hK10 : nK T ≤ 10 := cnt_le _ _
  have k60 : I 132 60 = bI md := (ha.2 60 (by omega)).trans h60
  have k53 : I 132 53 = iI m := (ha.2 53 (by omega)).trans h53
  have hlt := mg_lt vC hi
  have vg := (vE _ hlt).2.2
  have v13 := (vE _ hlt).2.1
  have hm10 := mg_is hi
  have u1 : I 185 i = iI (mg T i : Int) := (ha.1 185 ⟨by omega, by omega⟩ i).trans (mbM_i hb hi)
  have u13 : I 167 (mg T i) = iI (T 13 (mg T i)) := (ha.1 167 ⟨by omega, by omega⟩ _).trans (E0.2.2 _ hlt).2.1
  have u14 : I 168 (mg T i) = iI (T 14 (mg T i)) := (ha.1 168 ⟨by omega, by omega⟩ _).trans (E0.2.2 _ hlt).2.2.1
  have u15 : I 169 (mg T i) = iI (T 15 (mg T i)) := (ha.1 169 ⟨by omega, by omega⟩ _).trans (E0.2.2 _ hlt).2.2.2
  cases md
  · simp (maxSteps := 4000000) (disch := omega) only [Mo_staysElsewhere, rc132, gi132, gl132, pi132, pl132, pz132, pr132, gr132_0, gr132_6, gr132_7, gr132_8, gr132_9, gr132_10, gr132_11, gr132_12, gr132_13, gr132_14, gr132_15, gr132_16, gr132_17, gr132_18, gr132_19, gr132_20, gr132_21, gr132_22, gr132_23, gr132_24, gr132_25, gr132_27, gr132_28, gr132_29, gr132_30, gr132_32, gr132_33, gr132_34, gr132_35, gr132_36, gr132_37, gr132_38, gr132_39, gr132_40, gr132_41, gr132_42, gr132_44, gr132_45, gr132_46, gr132_47, gr132_48, gr132_49, gr132_50, gr132_51, gr132_61, gr132_62, gr132_63, ar134_0, ar134_1, ar137_0, ar137_1, ar140_0, ar140_1, ar143_0, ar143_1, ar146_0, ar146_1, ar149_0, ar149_1, ar152_0, ar152_1, ar155_0, ar155_1, ar158_0, ar158_1, ar164_0, ar164_1, ar164_2, ar164_3, ar164_4, ar164_5, ar164_6, ar164_7, ar164_8, ld133, st133, an133, an134, ld135, st135, an135, ld136, st136, an136, an137, ld138, st138, an138, ld139, st139, an139, an140, ld141, st141, an141, ld142, st142, an142, an143, ld144, st144, an144, ld145, st145, an145, an146, ld147, st147, an147, ld148, st148, an148, an149, ld150, st150, an150, ld151, st151, an151, an152, ld153, st153, an153, ld154, st154, an154, an155, ld156, st156, an156, ld157, st157, an157, an158, ld159, st159, an159, ld160, st160, an160, ld161, st161, an161, ld162, st162, an162, ld163, st163, an163, an164, ld165, st165, an165, ld166, st166, an166, ld167, st167, an167, ld168, st168, an168, ld169, st169, an169, ld170, st170, an170, ld171, st171, an171, ld172, st172, an172, ld173, st173, an173, ld174, st174, an174, ld175, st175, an175, ld176, st176, an176, ld177, st177, an177, ld178, st178, an178, ld179, st179, an179, ld180, st180, an180, ld181, st181, an181, ld182, st182, an182, ld183, st183, an183, ld184, st184, an184, ld185, st185, an185, ld186, st186, an186, ld187, st187, an187, ld188, st188, an188, ld189, st189, an189, ld190, st190, an190, ld191, st191, an191, ld192, st192, an192, ld193, st193, an193, ld194, st194, an194, ld195, st195, an195, ld196, st196, an196, ld197, st197, an197, Option.bind_some, if_true, if_false, n_0, Int.toNat_natCast, u1, k60, bI_0]
    rfl
  · rw [if_pos rfl]
    rcases v13 with e13 | e13
    · have hok : okS (styF T m 2) (homF T m 2) i p = true := by
        unfold okS styF
        rw [decide_eq_false (p := ((2 : Int) = 2 ∧ T 14 (mg T i) = m) ∧ T 13 (mg T i) = 1) (fun z => by have := z.2; omega), Bool.and_false]
        rfl
      rw [hok]
      simp (maxSteps := 4000000) (disch := omega) only [Mo_staysElsewhere, rc132, gi132, gl132, pi132, pl132, pz132, pr132, gr132_0, gr132_6, gr132_7, gr132_8, gr132_9, gr132_10, gr132_11, gr132_12, gr132_13, gr132_14, gr132_15, gr132_16, gr132_17, gr132_18, gr132_19, gr132_20, gr132_21, gr132_22, gr132_23, gr132_24, gr132_25, gr132_27, gr132_28, gr132_29, gr132_30, gr132_32, gr132_33, gr132_34, gr132_35, gr132_36, gr132_37, gr132_38, gr132_39, gr132_40, gr132_41, gr132_42, gr132_44, gr132_45, gr132_46, gr132_47, gr132_48, gr132_49, gr132_50, gr132_51, gr132_61, gr132_62, gr132_63, ar134_0, ar134_1, ar137_0, ar137_1, ar140_0, ar140_1, ar143_0, ar143_1, ar146_0, ar146_1, ar149_0, ar149_1, ar152_0, ar152_1, ar155_0, ar155_1, ar158_0, ar158_1, ar164_0, ar164_1, ar164_2, ar164_3, ar164_4, ar164_5, ar164_6, ar164_7, ar164_8, ld133, st133, an133, an134, ld135, st135, an135, ld136, st136, an136, an137, ld138, st138, an138, ld139, st139, an139, an140, ld141, st141, an141, ld142, st142, an142, an143, ld144, st144, an144, ld145, st145, an145, an146, ld147, st147, an147, ld148, st148, an148, an149, ld150, st150, an150, ld151, st151, an151, an152, ld153, st153, an153, ld154, st154, an154, an155, ld156, st156, an156, ld157, st157, an157, an158, ld159, st159, an159, ld160, st160, an160, ld161, st161, an161, ld162, st162, an162, ld163, st163, an163, an164, ld165, st165, an165, ld166, st166, an166, ld167, st167, an167, ld168, st168, an168, ld169, st169, an169, ld170, st170, an170, ld171, st171, an171, ld172, st172, an172, ld173, st173, an173, ld174, st174, an174, ld175, st175, an175, ld176, st176, an176, ld177, st177, an177, ld178, st178, an178, ld179, st179, an179, ld180, st180, an180, ld181, st181, an181, ld182, st182, an182, ld183, st183, an183, ld184, st184, an184, ld185, st185, an185, ld186, st186, an186, ld187, st187, an187, ld188, st188, an188, ld189, st189, an189, ld190, st190, an190, ld191, st191, an191, ld192, st192, an192, ld193, st193, an193, ld194, st194, an194, ld195, st195, an195, ld196, st196, an196, ld197, st197, an197, Option.bind_some, if_true, if_false, n_0, Int.toNat_natCast, u1, k60, bI_0, Bool.true_eq_false, u13, e13]
      rfl
    · by_cases e14 : T 14 (mg T i) = m
      · have hsty : styF T m 2 i = true := by
          unfold styF
          rw [decide_eq_true hi, decide_eq_true (p := ((2 : Int) = 2 ∧ T 14 (mg T i) = m) ∧ T 13 (mg T i) = 1) ⟨⟨rfl, e14⟩, e13⟩]
          rfl
        have hho : homF T m 2 i = T 15 (mg T i) := if_pos ⟨rfl, e14⟩
        have h15 : -1 ≤ T 15 (mg T i) ∧ T 15 (mg T i) < 10 := by
          rcases vg with q | q
          · omega
          · have := q.2.1
            have h3 := vB.2 _ (mN hm)
            rw [e14] at this
            omega
        by_cases e15 : T 15 (mg T i) = (p : Int)
        · have hok : okS (styF T m 2) (homF T m 2) i p = true := by unfold okS; rw [hho, decide_eq_true e15, Bool.or_true]
          rw [hok]
          simp (maxSteps := 4000000) (disch := omega) only [Mo_staysElsewhere, rc132, gi132, gl132, pi132, pl132, pz132, pr132, gr132_0, gr132_6, gr132_7, gr132_8, gr132_9, gr132_10, gr132_11, gr132_12, gr132_13, gr132_14, gr132_15, gr132_16, gr132_17, gr132_18, gr132_19, gr132_20, gr132_21, gr132_22, gr132_23, gr132_24, gr132_25, gr132_27, gr132_28, gr132_29, gr132_30, gr132_32, gr132_33, gr132_34, gr132_35, gr132_36, gr132_37, gr132_38, gr132_39, gr132_40, gr132_41, gr132_42, gr132_44, gr132_45, gr132_46, gr132_47, gr132_48, gr132_49, gr132_50, gr132_51, gr132_61, gr132_62, gr132_63, ar134_0, ar134_1, ar137_0, ar137_1, ar140_0, ar140_1, ar143_0, ar143_1, ar146_0, ar146_1, ar149_0, ar149_1, ar152_0, ar152_1, ar155_0, ar155_1, ar158_0, ar158_1, ar164_0, ar164_1, ar164_2, ar164_3, ar164_4, ar164_5, ar164_6, ar164_7, ar164_8, ld133, st133, an133, an134, ld135, st135, an135, ld136, st136, an136, an137, ld138, st138, an138, ld139, st139, an139, an140, ld141, st141, an141, ld142, st142, an142, an143, ld144, st144, an144, ld145, st145, an145, an146, ld147, st147, an147, ld148, st148, an148, an149, ld150, st150, an150, ld151, st151, an151, an152, ld153, st153, an153, ld154, st154, an154, an155, ld156, st156, an156, ld157, st157, an157, an158, ld159, st159, an159, ld160, st160, an160, ld161, st161, an161, ld162, st162, an162, ld163, st163, an163, an164, ld165, st165, an165, ld166, st166, an166, ld167, st167, an167, ld168, st168, an168, ld169, st169, an169, ld170, st170, an170, ld171, st171, an171, ld172, st172, an172, ld173, st173, an173, ld174, st174, an174, ld175, st175, an175, ld176, st176, an176, ld177, st177, an177, ld178, st178, an178, ld179, st179, an179, ld180, st180, an180, ld181, st181, an181, ld182, st182, an182, ld183, st183, an183, ld184, st184, an184, ld185, st185, an185, ld186, st186, an186, ld187, st187, an187, ld188, st188, an188, ld189, st189, an189, ld190, st190, an190, ld191, st191, an191, ld192, st192, an192, ld193, st193, an193, ld194, st194, an194, ld195, st195, an195, ld196, st196, an196, ld197, st197, an197, Option.bind_some, if_true, if_false, n_0, n_1, iI_eq, Int.toNat_natCast, u1, k60, bI_0, Bool.true_eq_false, u13, e13, show ((1 : Int) = 0) = False from eq_false (by omega), u14, k53, eq_true e14, u15, eq_true e15]
          rfl
        · have hok : okS (styF T m 2) (homF T m 2) i p = false := by unfold okS; rw [hho, hsty, decide_eq_false e15]; rfl
          rw [hok]
          simp (maxSteps := 4000000) (disch := omega) only [Mo_staysElsewhere, rc132, gi132, gl132, pi132, pl132, pz132, pr132, gr132_0, gr132_6, gr132_7, gr132_8, gr132_9, gr132_10, gr132_11, gr132_12, gr132_13, gr132_14, gr132_15, gr132_16, gr132_17, gr132_18, gr132_19, gr132_20, gr132_21, gr132_22, gr132_23, gr132_24, gr132_25, gr132_27, gr132_28, gr132_29, gr132_30, gr132_32, gr132_33, gr132_34, gr132_35, gr132_36, gr132_37, gr132_38, gr132_39, gr132_40, gr132_41, gr132_42, gr132_44, gr132_45, gr132_46, gr132_47, gr132_48, gr132_49, gr132_50, gr132_51, gr132_61, gr132_62, gr132_63, ar134_0, ar134_1, ar137_0, ar137_1, ar140_0, ar140_1, ar143_0, ar143_1, ar146_0, ar146_1, ar149_0, ar149_1, ar152_0, ar152_1, ar155_0, ar155_1, ar158_0, ar158_1, ar164_0, ar164_1, ar164_2, ar164_3, ar164_4, ar164_5, ar164_6, ar164_7, ar164_8, ld133, st133, an133, an134, ld135, st135, an135, ld136, st136, an136, an137, ld138, st138, an138, ld139, st139, an139, an140, ld141, st141, an141, ld142, st142, an142, an143, ld144, st144, an144, ld145, st145, an145, an146, ld147, st147, an147, ld148, st148, an148, an149, ld150, st150, an150, ld151, st151, an151, an152, ld153, st153, an153, ld154, st154, an154, an155, ld156, st156, an156, ld157, st157, an157, an158, ld159, st159, an159, ld160, st160, an160, ld161, st161, an161, ld162, st162, an162, ld163, st163, an163, an164, ld165, st165, an165, ld166, st166, an166, ld167, st167, an167, ld168, st168, an168, ld169, st169, an169, ld170, st170, an170, ld171, st171, an171, ld172, st172, an172, ld173, st173, an173, ld174, st174, an174, ld175, st175, an175, ld176, st176, an176, ld177, st177, an177, ld178, st178, an178, ld179, st179, an179, ld180, st180, an180, ld181, st181, an181, ld182, st182, an182, ld183, st183, an183, ld184, st184, an184, ld185, st185, an185, ld186, st186, an186, ld187, st187, an187, ld188, st188, an188, ld189, st189, an189, ld190, st190, an190, ld191, st191, an191, ld192, st192, an192, ld193, st193, an193, ld194, st194, an194, ld195, st195, an195, ld196, st196, an196, ld197, st197, an197, Option.bind_some, if_true, if_false, n_0, n_1, iI_eq, Int.toNat_natCast, u1, k60, bI_0, Bool.true_eq_false, u13, e13, show ((1 : Int) = 0) = False from eq_false (by omega), u14, k53, eq_true e14, u15, eq_false e15]
          rfl
      · have hok : okS (styF T m 2) (homF T m 2) i p = true := by
          unfold okS styF
          rw [decide_eq_false (p := ((2 : Int) = 2 ∧ T 14 (mg T i) = m) ∧ T 13 (mg T i) = 1) (fun z => e14 z.1.2), Bool.and_false]
          rfl
        rw [hok]
        simp (maxSteps := 4000000) (disch := omega) only [Mo_staysElsewhere, rc132, gi132, gl132, pi132, pl132, pz132, pr132, gr132_0, gr132_6, gr132_7, gr132_8, gr132_9, gr132_10, gr132_11, gr132_12, gr132_13, gr132_14, gr132_15, gr132_16, gr132_17, gr132_18, gr132_19, gr132_20, gr132_21, gr132_22, gr132_23, gr132_24, gr132_25, gr132_27, gr132_28, gr132_29, gr132_30, gr132_32, gr132_33, gr132_34, gr132_35, gr132_36, gr132_37, gr132_38, gr132_39, gr132_40, gr132_41, gr132_42, gr132_44, gr132_45, gr132_46, gr132_47, gr132_48, gr132_49, gr132_50, gr132_51, gr132_61, gr132_62, gr132_63, ar134_0, ar134_1, ar137_0, ar137_1, ar140_0, ar140_1, ar143_0, ar143_1, ar146_0, ar146_1, ar149_0, ar149_1, ar152_0, ar152_1, ar155_0, ar155_1, ar158_0, ar158_1, ar164_0, ar164_1, ar164_2, ar164_3, ar164_4, ar164_5, ar164_6, ar164_7, ar164_8, ld133, st133, an133, an134, ld135, st135, an135, ld136, st136, an136, an137, ld138, st138, an138, ld139, st139, an139, an140, ld141, st141, an141, ld142, st142, an142, an143, ld144, st144, an144, ld145, st145, an145, an146, ld147, st147, an147, ld148, st148, an148, an149, ld150, st150, an150, ld151, st151, an151, an152, ld153, st153, an153, ld154, st154, an154, an155, ld156, st156, an156, ld157, st157, an157, an158, ld159, st159, an159, ld160, st160, an160, ld161, st161, an161, ld162, st162, an162, ld163, st163, an163, an164, ld165, st165, an165, ld166, st166, an166, ld167, st167, an167, ld168, st168, an168, ld169, st169, an169, ld170, st170, an170, ld171, st171, an171, ld172, st172, an172, ld173, st173, an173, ld174, st174, an174, ld175, st175, an175, ld176, st176, an176, ld177, st177, an177, ld178, st178, an178, ld179, st179, an179, ld180, st180, an180, ld181, st181, an181, ld182, st182, an182, ld183, st183, an183, ld184, st184, an184, ld185, st185, an185, ld186, st186, an186, ld187, st187, an187, ld188, st188, an188, ld189, st189, an189, ld190, st190, an190, ld191, st191, an191, ld192, st192, an192, ld193, st193, an193, ld194, st194, an194, ld195, st195, an195, ld196, st196, an196, ld197, st197, an197, Option.bind_some, if_true, if_false, n_0, n_1, iI_eq, Int.toNat_natCast, u1, k60, bI_0, Bool.true_eq_false, u13, e13, show ((1 : Int) = 0) = False from eq_false (by omega), u14, k53, eq_false e14]
        rfl
abbrev zGT (k : Nat) : Prop := k = 43 ∨ (52 ≤ k ∧ k ≤ 57) ∨ k = 59 ∨ k = 60
abbrev sGT (o : Nat) : Prop := o < 185 ∨ o = 186 ∨ 194 < o
set_option maxHeartbeats 8000000 in
theorem EM.frG2 (E : EM T I) (h : frM zGT sGT I I') : EM T I' := E.frX h (by omega) (by omega) (fun o h1 h2 => by omega)
set_option maxHeartbeats 8000000 in
theorem through_L : Mo_goesThrough_L17 S0 (some 132) = Mo_few_L45 S0 (some 132) := rfl
set_option maxHeartbeats 8000000 in
theorem homF01 (h : ¬ g = 2) : homF T m g = fun _ => -1 := by
  funext i
  exact if_neg fun q => h q.1
set_option maxHeartbeats 8000000 in
theorem styF01 (h : ¬ g = 2) : styF T m g = fun _ => false := by
  funext i
  unfold styF
  rw [decide_eq_false (p := (g = 2 ∧ T 14 (mg T i) = m) ∧ T 13 (mg T i) = 1) (fun z => h z.1.1), Bool.and_false]
/-- what the model has when it went through them -/
def thM (T : Tb) (m lim : Int) (md : Bool) (I : Nat → Nat → Int32) : Prop := (mbM T I ∧ I 132 52 = iI (T 3 m.toNat)) ∧ (md = false → lsM T (fdL T m, fdM T m) I) ∧ (md = true → mdM T (fdE T m lim) I)
set_option maxHeartbeats 8000000 in
theorem mo_thru (E : EM T I) (V : TV T) (hm : rg m) (h58 : md = true → I 132 58 = iI lim) (hl : rg lim) (hA : askS T m) : ∃ I', Mo_goesThrough S0 (some 132) (iI m) (bI md) (I, J, Pst b f) = some (iI 1, (I', J, Pst b f)) ∧ frM zGT sGT I I' ∧ thM T m lim md I' := by
  obtain ⟨⟨vA, vB⟩, ⟨vC, vD⟩, vE, vF⟩ := id V
  have hB := vB.1
  obtain ⟨z1, z2, z3, z4⟩ := hA
  have h3 := vB.2 _ (mN z1)
  obtain ⟨I1, a1, a2, a3⟩ := mo_member (J := J) (b := b) (f := f) E V
  have E1 := E.frMb a2
  have r71 : I1 171 m.toNat = iI (T 3 m.toNat) := (E1.1.2.2 m.toNat (mN z1)).2
  have hn : (nP T m : Int) = T 3 m.toNat := by unfold nP; omega
  have h8 : nP T m ≤ 8 := by unfold nP; omega
  obtain ⟨I2, hI2⟩ : ∃ I2, I2 = hup (hup (hup (hup (hup (hup (hup I1 132 52 (iI (T 3 m.toNat))) 132 53 (iI m)) 132 60 (bI md)) 132 54 (iI (-1))) 132 55 (iI 0)) 132 56 (iI (-1))) 132 59 (iI (-1)) := ⟨_, rfl⟩
  have fr2 : frM zGT (fun _ => True) I1 I2 := by
    rw [hI2]
    exact (((((((frM.refl zGT (fun _ => True) I1).fld (by omega)).fld (by omega)).fld (by omega)).fld (by omega)).fld (by omega)).fld (by omega)).fld (by omega)
  have hb2 : mbM T I2 := ⟨by rw [hI2]; simp [hup]; exact a3.1, fun y hy hc => (fr2.1 185 ⟨by omega, trivial⟩ _).trans (a3.2 y hy hc)⟩
  have E2 : EM T I2 := E1.frX fr2 (by omega) (by omega) (fun o _ _ => trivial)
  have k52 : I2 132 52 = iI (nP T m : Int) := by rw [hn, hI2]; simp [hup]
  have k53 : I2 132 53 = iI m := by rw [hI2]; simp [hup]
  have k60 : I2 132 60 = bI md := by rw [hI2]; simp [hup]
  have k54 : I2 132 54 = iI (-1) := by rw [hI2]; simp [hup]
  have k55 : I2 132 55 = iI 0 := by rw [hI2]; simp [hup]
  have k56 : I2 132 56 = iI (-1) := by rw [hI2]; simp [hup]
  have k59 : I2 132 59 = iI (-1) := by rw [hI2]; simp [hup]
  have k58 : md = true → I2 132 58 = iI lim := fun q => by
    have : I2 132 58 = I1 132 58 := by rw [hI2]; simp [hup]
    rw [this, a2.2 58 (by omega)]; exact h58 q
  obtain ⟨I3, b1, b2, b3⟩ := mo_weigh (J := J) (b := b) (f := f) E2 V hb2 k52 z1 hn h8 z2
  have hb3 := hb2.frWe b2
  have E3 := E2.frWe b2
  have k52' : I3 132 52 = iI (nP T m : Int) := (b2.2 52 id).trans k52
  have k53' : I3 132 53 = iI m := (b2.2 53 id).trans k53
  have k60' : I3 132 60 = bI md := (b2.2 60 id).trans k60
  have base : frM zGT sGT I I3 := ((a2.sub (fun k q => by omega) fun o _ q => by omega).trans (fr2.sub (fun k q => q) fun o _ q => trivial)).trans (b2.sub (fun k q => q.elim) fun o _ q => by omega)
  have hstays : ∀ i p I', i < nK T → p < nP T m → frM zD sD I3 I' → Mo_staysElsewhere S0 (some 132) (iI (i : Int)) (iI (p : Int)) (I', J, Pst b f) = some (bI (!(if md = true then okS (styF T m 2) (homF T m 2) i p else true))) := fun i p I' hi hp ha => mo_stays (J := J) (b := b) (f := f) V E3 z1 hb3 k60' k53' hi (by omega) ha
  have hpre : ∀ I4, Mo_seatsFrom S0 RD (some 132) (iI 0) (iI 0) (iI 0) (iI 0) (I3, J, Pst b f) = some (I4, J, Pst b f) → Mo_goesThrough S0 (some 132) (iI m) (bI md) (I, J, Pst b f) = some (iI 1, (I4, J, Pst b f)) := fun I4 hI4 => by
    have a1' : jloop (Mo_goesThrough_L17 S0 (some 132)) jN (iI 0, (hup I 132 43 (iI 0), J, Pst b f)) = some (I1, J, Pst b f) := a1
    have q43 : ∀ v, hup I1 132 52 v 132 43 = iI (nK T : Int) := fun v => by rw [hup_ix _ _ _ (by omega)]; exact a3.1
    have q52 : ∀ v, hup I1 132 52 v 132 52 = v := fun v => hup_same _ _ _ _
    have r71' : aI S0 (I1, J, Pst b f) (some 171) (iI m) = some (iI (T 3 m.toNat)) := by rw [ld171 (by omega), r71]
    unfold Mo_goesThrough
    rw [rc132, Option.bind_some, mo_isRoom E.1.2 vB hm, Option.bind_some, decide_eq_true z1, if_neg (by decide), n_0, pi132, Option.bind_some, a1', Option.bind_some, gr132_25, Option.bind_some, r71', Option.bind_some, pi132, Option.bind_some, gi132, Option.bind_some, q43, if_neg (by rw [n_7, iI_lt (by omega)]; omega), gi132, Option.bind_some, q52, if_neg (by rw [n_8, iI_lt (by omega)]; omega), Option.bind_some, Option.bind_some, if_pos (by rw [iI_le (by omega)]; omega), pi132, Option.bind_some, pz132, Option.bind_some, n_1, iI_neg, pi132, Option.bind_some, pi132, Option.bind_some, pi132, Option.bind_some, pi132, Option.bind_some, ← hI2, b1, Option.bind_some, hI4, Option.bind_some]
  cases md
  · have hin : lsM T (st0, st0) I3 := ⟨⟨⟨rfl, (fun q => by cases q), (fun q => by cases q)⟩, (fun q => by cases q)⟩, ⟨(b2.2 54 id).trans k54, (b2.2 55 id).trans k55, (b2.2 56 id).trans k56⟩, (fun q => by cases q)⟩
    obtain ⟨I4, c1, c2, c3, c4⟩ := mo_seat (σ := FdS × FdS) (J := J) (b := b) (f := f) (I0 := I3) V h8 z2 hb3 b3 k52' lf2 (fun _ _ => true) (lsM T) (fun s I i v h => h.wr) (fun pl w h s I q1 q2 q3 q4 q5 => mo_leaf2 z2 h8 hb3 k60' q1 q2 q3 q4 q5) (fun i p I q1 q2 q3 => by have := hstays i p I q1 q2 q3; rw [if_neg (by decide)] at this; exact this) (nK T) RD (fun _ => false) (fun _ => 0) 0 0 (st0, st0) I3 (Nat.le_refl _) (by unfold RD; omega) (frM.refl _ _ _) hin (fun j hj => by omega) (fun j hj => by omega) (by omega) (by omega)
    rw [Nat.sub_self] at c1
    have c1' : Mo_seatsFrom S0 RD (some 132) (iI 0) (iI 0) (iI 0) (iI 0) (I3, J, Pst b f) = some (I4, J, Pst b f) := by
      rw [bt_z] at c1; exact c1
    refine ⟨I4, hpre I4 c1', base.trans (c2.sub (fun k q => by omega) fun o _ q => by omega), ⟨⟨(c2.2 43 (by omega)).trans hb3.1, fun y hy hc => (c2.1 185 ⟨by omega, by omega⟩ _).trans (hb3.2 y hy hc)⟩, (c2.2 52 (by omega)).trans (by rw [k52', hn])⟩, fun _ => ?_, (fun q => by cases q)⟩
    rw [sG_2 (hom := fun _ => -1) (sty := fun _ => false) (fun _ => rfl) (fun _ => rfl)] at c4
    have e1 : fdL T m = sFd T m (nP T m) 0 0 (fun _ => -1) (fun _ => false) (nK T) (fun _ => false) (fun _ => 0) 0 0 0 st0 := by unfold fdL fnd; rw [homF01 (by omega), styF01 (by omega)]
    have e2 : fdM T m = sFd T m (nP T m) 1 0 (fun _ => -1) (fun _ => false) (nK T) (fun _ => false) (fun _ => 0) 0 0 0 st0 := by unfold fdM fnd; rw [homF01 (by omega), styF01 (by omega)]
    rw [e1, e2]
    exact c4
  · have hin : mdM T st0 I3 := ⟨(fun q => by cases q), (b2.2 59 id).trans k59, (fun q => by cases q)⟩
    have k58' : I3 132 58 = iI lim := (b2.2 58 id).trans (k58 rfl)
    obtain ⟨I4, c1, c2, c3, c4⟩ := mo_seat (σ := FdS) (J := J) (b := b) (f := f) (I0 := I3) V h8 z2 hb3 b3 k52' (lfE T (homF T m 2) lim) (okS (styF T m 2) (homF T m 2)) (mdM T) (fun s I i v h => h.wr) (fun pl w h s I q1 q2 q3 q4 q5 => mo_leafE V E3 z2 z1 hn h8 hb3 k60' k53' k58' hl q1 q2 q3 q4) (fun i p I q1 q2 q3 => by have := hstays i p I q1 q2 q3; rw [if_pos rfl] at this; exact this) (nK T) RD (fun _ => false) (fun _ => 0) 0 0 st0 I3 (Nat.le_refl _) (by unfold RD; omega) (frM.refl _ _ _) hin (fun j hj => by omega) (fun j hj => by omega) (by omega) (by omega)
    rw [Nat.sub_self] at c1
    have c1' : Mo_seatsFrom S0 RD (some 132) (iI 0) (iI 0) (iI 0) (iI 0) (I3, J, Pst b f) = some (I4, J, Pst b f) := by
      rw [bt_z] at c1; exact c1
    refine ⟨I4, hpre I4 c1', base.trans (c2.sub (fun k q => by omega) fun o _ q => by omega), ⟨⟨(c2.2 43 (by omega)).trans hb3.1, fun y hy hc => (c2.1 185 ⟨by omega, by omega⟩ _).trans (hb3.2 y hy hc)⟩, (c2.2 52 (by omega)).trans (by rw [k52', hn])⟩, (fun q => by cases q), fun _ => ?_⟩
    rw [sG_E _ _ _ _ _ _ (Nat.le_refl _), Nat.sub_self] at c4
    exact c4
set_option maxHeartbeats 8000000 in
theorem mo_noThru (E : EM T I) (V : TV T) (hm : rg m) (v : Int32) (hA : ¬ askS T m) : ∃ I', Mo_goesThrough S0 (some 132) (iI m) v (I, J, Pst b f) = some (iI 0, (I', J, Pst b f)) ∧ frM zGT sGT I I' := by
  obtain ⟨⟨vA, vB⟩, ⟨vC, vD⟩, vE, vF⟩ := id V
  have hB := vB.1
  have hK10 : nK T ≤ 10 := cnt_le _ _
  by_cases z1 : isM T m
  · have h3 := vB.2 _ (mN z1)
    obtain ⟨I1, a1, a2, a3⟩ := mo_member (J := J) (b := b) (f := f) E V
    have E1 := E.frMb a2
    have r71 : I1 171 m.toNat = iI (T 3 m.toNat) := (E1.1.2.2 m.toNat (mN z1)).2
    have a1' : jloop (Mo_goesThrough_L17 S0 (some 132)) jN (iI 0, (hup I 132 43 (iI 0), J, Pst b f)) = some (I1, J, Pst b f) := a1
    have q43 : ∀ v, hup I1 132 52 v 132 43 = iI (nK T : Int) := fun v => by rw [hup_ix _ _ _ (by omega)]; exact a3.1
    have q52 : ∀ v, hup I1 132 52 v 132 52 = v := fun v => hup_same _ _ _ _
    have r71' : aI S0 (I1, J, Pst b f) (some 171) (iI m) = some (iI (T 3 m.toNat)) := by rw [ld171 (by omega), r71]
    refine ⟨hup I1 132 52 (iI (T 3 m.toNat)), ?_, (a2.sub (fun k q => by omega) fun o _ q => by omega).fld (show zGT 52 by omega)⟩
    unfold Mo_goesThrough
    rw [rc132, Option.bind_some, mo_isRoom E.1.2 vB hm, Option.bind_some, decide_eq_true z1, if_neg (by decide), n_0, pi132, Option.bind_some, a1', Option.bind_some, gr132_25, Option.bind_some, r71', Option.bind_some, pi132, Option.bind_some, gi132, Option.bind_some, q43]
    by_cases z2 : 7 < nK T
    · rw [if_pos (by rw [n_7, iI_lt (by omega)]; omega)]
    · rw [if_neg (by rw [n_7, iI_lt (by omega)]; omega), gi132, Option.bind_some, q52]
      by_cases z3 : 8 < T 3 m.toNat
      · rw [if_pos (by rw [n_8, iI_lt (by omega)]; omega)]
      · rw [if_neg (by rw [n_8, iI_lt (by omega)]; omega), Option.bind_some, Option.bind_some, if_neg (by rw [iI_le (by omega)]; exact fun q => hA ⟨z1, by omega, by omega, by omega⟩)]
  · refine ⟨I, ?_, frM.refl _ _ _⟩
    unfold Mo_goesThrough
    rw [rc132, Option.bind_some, mo_isRoom E.1.2 vB hm, Option.bind_some, decide_eq_false z1, if_pos (by rfl)]
    rfl
set_option maxHeartbeats 8000000 in
theorem mo_memberOf (h : mbM T I) (V : TV T) (hC : isC T g) : Mo_memberOf S0 (some 132) (iI g) (I, J, Pst b f) = some (iI (tnC T g : Int)) := by
  obtain ⟨⟨vA, vB⟩, ⟨vC, vD⟩, vE, vF⟩ := id V
  have hgl := isC_10 V hC
  have hc := isC_c hC
  have hlt : tnC T g < nK T := cnt_lt_of hgl hc
  have hK10 : nK T ≤ 10 := cnt_le _ _
  have h43 : I 132 43 = iI (nK T : Int) := h.1
  have e := jsearch (body := Mo_memberOf_L2 S0 (some 132) (iI g) (I, J, Pst b f)) (nK T) (fun k => decide (mg T k = g.toNat)) (fun k => iI (k : Int)) (fun k hk => ?_) ?_ (by omega)
  · have hf : fst_ (nK T) (fun k => decide (mg T k = g.toNat)) = tnC T g := fst_eq hlt (decide_eq_true (mg_cnt hgl hc)) fun j hj => decide_eq_false fun q => by
      have h1 := mg_is (show j < nK T by omega)
      have h2 : cnt (mg T j) (cmb T) = j := h1.2.2
      rw [q] at h2
      have : tnC T g = j := h2
      omega
    rw [hf, if_pos hlt] at e
    unfold Mo_memberOf
    rw [rc132, Option.bind_some, n_0, e, Option.bind_some, Sum.elim_inr]
  · have h1 := mbM_i h hk
    have h2 := mg_is hk
    have hg0 := hC.1.1
    by_cases q : mg T k = g.toNat
    · rw [decide_eq_true q, if_pos rfl]
      simp (maxSteps := 4000000) (disch := omega) only [Mo_memberOf_L2, rc132, gi132, gl132, pi132, pl132, pz132, pr132, gr132_0, gr132_6, gr132_7, gr132_8, gr132_9, gr132_10, gr132_11, gr132_12, gr132_13, gr132_14, gr132_15, gr132_16, gr132_17, gr132_18, gr132_19, gr132_20, gr132_21, gr132_22, gr132_23, gr132_24, gr132_25, gr132_27, gr132_28, gr132_29, gr132_30, gr132_32, gr132_33, gr132_34, gr132_35, gr132_36, gr132_37, gr132_38, gr132_39, gr132_40, gr132_41, gr132_42, gr132_44, gr132_45, gr132_46, gr132_47, gr132_48, gr132_49, gr132_50, gr132_51, gr132_61, gr132_62, gr132_63, ar134_0, ar134_1, ar137_0, ar137_1, ar140_0, ar140_1, ar143_0, ar143_1, ar146_0, ar146_1, ar149_0, ar149_1, ar152_0, ar152_1, ar155_0, ar155_1, ar158_0, ar158_1, ar164_0, ar164_1, ar164_2, ar164_3, ar164_4, ar164_5, ar164_6, ar164_7, ar164_8, ld133, st133, an133, an134, ld135, st135, an135, ld136, st136, an136, an137, ld138, st138, an138, ld139, st139, an139, an140, ld141, st141, an141, ld142, st142, an142, an143, ld144, st144, an144, ld145, st145, an145, an146, ld147, st147, an147, ld148, st148, an148, an149, ld150, st150, an150, ld151, st151, an151, an152, ld153, st153, an153, ld154, st154, an154, an155, ld156, st156, an156, ld157, st157, an157, an158, ld159, st159, an159, ld160, st160, an160, ld161, st161, an161, ld162, st162, an162, ld163, st163, an163, an164, ld165, st165, an165, ld166, st166, an166, ld167, st167, an167, ld168, st168, an168, ld169, st169, an169, ld170, st170, an170, ld171, st171, an171, ld172, st172, an172, ld173, st173, an173, ld174, st174, an174, ld175, st175, an175, ld176, st176, an176, ld177, st177, an177, ld178, st178, an178, ld179, st179, an179, ld180, st180, an180, ld181, st181, an181, ld182, st182, an182, ld183, st183, an183, ld184, st184, an184, ld185, st185, an185, ld186, st186, an186, ld187, st187, an187, ld188, st188, an188, ld189, st189, an189, ld190, st190, an190, ld191, st191, an191, ld192, st192, an192, ld193, st193, an193, ld194, st194, an194, ld195, st195, an195, ld196, st196, an196, ld197, st197, an197, Option.bind_some, if_true, if_false, n_1, iI_add, iI_le, iI_eq, Int.toNat_natCast, h43, show ¬ (nK T : Int) ≤ (k : Int) by omega, h1, show ((mg T k : Int) = g) = True from eq_true (by omega)]
    · rw [decide_eq_false q, if_neg (by decide)]
      simp (maxSteps := 4000000) (disch := omega) only [Mo_memberOf_L2, rc132, gi132, gl132, pi132, pl132, pz132, pr132, gr132_0, gr132_6, gr132_7, gr132_8, gr132_9, gr132_10, gr132_11, gr132_12, gr132_13, gr132_14, gr132_15, gr132_16, gr132_17, gr132_18, gr132_19, gr132_20, gr132_21, gr132_22, gr132_23, gr132_24, gr132_25, gr132_27, gr132_28, gr132_29, gr132_30, gr132_32, gr132_33, gr132_34, gr132_35, gr132_36, gr132_37, gr132_38, gr132_39, gr132_40, gr132_41, gr132_42, gr132_44, gr132_45, gr132_46, gr132_47, gr132_48, gr132_49, gr132_50, gr132_51, gr132_61, gr132_62, gr132_63, ar134_0, ar134_1, ar137_0, ar137_1, ar140_0, ar140_1, ar143_0, ar143_1, ar146_0, ar146_1, ar149_0, ar149_1, ar152_0, ar152_1, ar155_0, ar155_1, ar158_0, ar158_1, ar164_0, ar164_1, ar164_2, ar164_3, ar164_4, ar164_5, ar164_6, ar164_7, ar164_8, ld133, st133, an133, an134, ld135, st135, an135, ld136, st136, an136, an137, ld138, st138, an138, ld139, st139, an139, an140, ld141, st141, an141, ld142, st142, an142, an143, ld144, st144, an144, ld145, st145, an145, an146, ld147, st147, an147, ld148, st148, an148, an149, ld150, st150, an150, ld151, st151, an151, an152, ld153, st153, an153, ld154, st154, an154, an155, ld156, st156, an156, ld157, st157, an157, an158, ld159, st159, an159, ld160, st160, an160, ld161, st161, an161, ld162, st162, an162, ld163, st163, an163, an164, ld165, st165, an165, ld166, st166, an166, ld167, st167, an167, ld168, st168, an168, ld169, st169, an169, ld170, st170, an170, ld171, st171, an171, ld172, st172, an172, ld173, st173, an173, ld174, st174, an174, ld175, st175, an175, ld176, st176, an176, ld177, st177, an177, ld178, st178, an178, ld179, st179, an179, ld180, st180, an180, ld181, st181, an181, ld182, st182, an182, ld183, st183, an183, ld184, st184, an184, ld185, st185, an185, ld186, st186, an186, ld187, st187, an187, ld188, st188, an188, ld189, st189, an189, ld190, st190, an190, ld191, st191, an191, ld192, st192, an192, ld193, st193, an193, ld194, st194, an194, ld195, st195, an195, ld196, st196, an196, ld197, st197, an197, Option.bind_some, if_true, if_false, n_1, iI_add, iI_le, iI_eq, Int.toNat_natCast, h43, show ¬ (nK T : Int) ≤ (k : Int) by omega, h1, show ((mg T k : Int) = g) = False from eq_false (by omega)]
  · simp (maxSteps := 4000000) (disch := omega) only [Mo_memberOf_L2, rc132, gi132, gl132, pi132, pl132, pz132, pr132, gr132_0, gr132_6, gr132_7, gr132_8, gr132_9, gr132_10, gr132_11, gr132_12, gr132_13, gr132_14, gr132_15, gr132_16, gr132_17, gr132_18, gr132_19, gr132_20, gr132_21, gr132_22, gr132_23, gr132_24, gr132_25, gr132_27, gr132_28, gr132_29, gr132_30, gr132_32, gr132_33, gr132_34, gr132_35, gr132_36, gr132_37, gr132_38, gr132_39, gr132_40, gr132_41, gr132_42, gr132_44, gr132_45, gr132_46, gr132_47, gr132_48, gr132_49, gr132_50, gr132_51, gr132_61, gr132_62, gr132_63, ar134_0, ar134_1, ar137_0, ar137_1, ar140_0, ar140_1, ar143_0, ar143_1, ar146_0, ar146_1, ar149_0, ar149_1, ar152_0, ar152_1, ar155_0, ar155_1, ar158_0, ar158_1, ar164_0, ar164_1, ar164_2, ar164_3, ar164_4, ar164_5, ar164_6, ar164_7, ar164_8, ld133, st133, an133, an134, ld135, st135, an135, ld136, st136, an136, an137, ld138, st138, an138, ld139, st139, an139, an140, ld141, st141, an141, ld142, st142, an142, an143, ld144, st144, an144, ld145, st145, an145, an146, ld147, st147, an147, ld148, st148, an148, an149, ld150, st150, an150, ld151, st151, an151, an152, ld153, st153, an153, ld154, st154, an154, an155, ld156, st156, an156, ld157, st157, an157, an158, ld159, st159, an159, ld160, st160, an160, ld161, st161, an161, ld162, st162, an162, ld163, st163, an163, an164, ld165, st165, an165, ld166, st166, an166, ld167, st167, an167, ld168, st168, an168, ld169, st169, an169, ld170, st170, an170, ld171, st171, an171, ld172, st172, an172, ld173, st173, an173, ld174, st174, an174, ld175, st175, an175, ld176, st176, an176, ld177, st177, an177, ld178, st178, an178, ld179, st179, an179, ld180, st180, an180, ld181, st181, an181, ld182, st182, an182, ld183, st183, an183, ld184, st184, an184, ld185, st185, an185, ld186, st186, an186, ld187, st187, an187, ld188, st188, an188, ld189, st189, an189, ld190, st190, an190, ld191, st191, an191, ld192, st192, an192, ld193, st193, an193, ld194, st194, an194, ld195, st195, an195, ld196, st196, an196, ld197, st197, an197, Option.bind_some, if_true, if_false, iI_le, h43, show (nK T : Int) ≤ (nK T : Int) by omega]
end
