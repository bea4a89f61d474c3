/-! ===== layer 2: few, model's answer ===== -/
section
variable {T : Tb} {I I' I'' : Nat → Nat → Int32} {J : Nat → Nat → Int64} {b : Bool} {f k n B d u most : Nat} {P : Nat → Nat → Option Nat} {m w g : Int} {x y z i h : Nat}
abbrev sW (o : Nat) : Prop := o < 176 ∨ (178 < o ∧ o < 183) ∨ 186 < o
theorem mo_tries (V : TV T) (hb : mbM T I) (hq : qtM T m I) : ∃ I', jloop (Mo_few_L126 S0 (some 132)) jN (iI 0, (I, J, Pst b f)) = some (iI (fwn (QT T m) (cmb T) : Int), (I', J, Pst b f)) ∧ frM zN sP I I' ∧ hpM (fwo (QT T m) (cmb T)).1 (fwo (QT T m) (cmb T)).2 I' := by
  obtain ⟨⟨vA, vB⟩, ⟨vC, vD⟩, vE, vF⟩ := id V
  have hle : fwn (QT T m) (cmb T) ≤ 10 := fst_le _ _
  have hso := fwo_some (QT_1 (m := m) vC vD)
  have hok0 : hok (QT T m) (cmb T) (10 - 10) hp0 := ⟨fun i => Qt_0, fun i y hy => by cases hy⟩
  have hh0 : ∀ I1, hpM hp0 0 I1 := fun I1 => ⟨fun i hi => by omega, fun i y hi => by omega⟩
  have step : ∀ (most : Nat) (I2 : Nat → Nat → Int32), most ≤ 10 → frM zN sP I I2 → ∃ I', Mo_parts S0 RD (some 132) (iI 0) (iI 0) (iI (most : Int)) (I2, J, Pst b f) = some (bI (prt (QT T m) (cmb T) most 10 hp0 0).isSome, (I', J, Pst b f)) ∧ (frM zN sP I2 I' ∧ ∀ y, y < 10 - 10 → I' 183 y = I2 183 y) ∧ (prt (QT T m) (cmb T) most 10 hp0 0).elim (∀ i, i < 0 → I' 184 i = iI (bt 10 (hp0 i) : Int)) (fun r => hpM r.1 r.2 I') := fun most I2 hm ha =>
    mo_part (J := J) (b := b) (f := f) vC vD hm 10 RD hp0 0 I2 (by omega) (by unfold RD; omega) (by omega) (hb.fr ha id (by omega)) (hq.fr ha (by omega)) (hh0 I2) hok0 (fun i _ => rfl)
  have key := jinv (body := Mo_few_L126 S0 (some 132)) (s0 := (iI 0, (I, J, Pst b f))) (fun k s => ∃ I', s = (iI (k : Int), (I', J, Pst b f)) ∧ frM zN sP I I') (fun r => ∃ I', r = (iI (fwn (QT T m) (cmb T) : Int), (I', J, Pst b f)) ∧ frM zN sP I I' ∧ hpM (fwo (QT T m) (cmb T)).1 (fwo (QT T m) (cmb T)).2 I') (fwn (QT T m) (cmb T)) ⟨I, rfl, frM.refl _ _ _⟩ (fun k s hk hs => ?_) (fun s hs => ?_) (by omega)
  · obtain ⟨r, h1, I1, h2, h3, h4⟩ := key
    exact ⟨I1, by rw [h1, h2], h3, h4⟩
  · obtain ⟨I1, rfl, q1⟩ := hs
    obtain ⟨I2, a1, a2, a3⟩ := step k I1 (by omega) q1
    have hn : (prt (QT T m) (cmb T) k 10 hp0 0).isSome = false := fst_not (p := fun most => (prt (QT T m) (cmb T) most 10 hp0 0).isSome) hk
    rw [hn] at a1
    refine ⟨.inl (iI ((k + 1 : Nat) : Int), (I2, J, Pst b f)), ?_, I2, rfl, q1.trans a2.1⟩
    simp (maxSteps := 4000000) (disch := omega) only [Mo_few_L126, Option.bind_some, if_true, if_false, n_0, n_1, n_2, n_3, n_4, n_5, n_6, n_7, n_8, n_9, n_10, n_12, n_15, n_20, n_24, n_32, n_48, n_57, n_59, n_80, n_97, n_99, n_100, n_122, n_680, n_700, n_999, n_1023, n_1024, iI_neg, iI_add, iI_sub, a1, bI_0]
    rfl
  · obtain ⟨I1, rfl, q1⟩ := hs
    obtain ⟨I2, a1, a2, a3⟩ := step (fwn (QT T m) (cmb T)) I1 hle q1
    rw [hso] at a1 a3
    refine ⟨.inr (iI (fwn (QT T m) (cmb T) : Int), (I2, J, Pst b f)), ?_, I2, rfl, q1.trans a2.1, a3⟩
    simp (maxSteps := 4000000) (disch := omega) only [Mo_few_L126, Option.bind_some, if_true, if_false, n_0, n_1, n_2, n_3, n_4, n_5, n_6, n_7, n_8, n_9, n_10, n_12, n_15, n_20, n_24, n_32, n_48, n_57, n_59, n_80, n_97, n_99, n_100, n_122, n_680, n_700, n_999, n_1023, n_1024, iI_neg, iI_add, iI_sub, a1, Option.isSome_some, bI_0, Bool.true_eq_false]
theorem mo_few (E : EM T I) (V : TV T) (hm : rg m) (hg : rg g) : ∃ I', Mo_few S0 (some 132) (iI m) (iI g) (I, J, Pst b f) = some (iI (fwR T m g), (I', J, Pst b f)) ∧ frM zM sW I I' := by
  obtain ⟨⟨eA, eB⟩, ⟨eC, eD⟩, eE⟩ := id E
  obtain ⟨⟨vA, vB⟩, ⟨vC, vD⟩, vE, vF⟩ := id V
  have hB := vB.1
  have h0 := vC.1
  by_cases z : fwQ T m g
  · have z1 := z.1
    obtain ⟨I1, a1, a2, a3⟩ := mo_ranks (J := J) (b := b) (f := f) (m := m) (B := 0) E V (by omega) (by omega)
    rw [show ((0 : Nat) : Int) = 0 from rfl] at a1
    have E1 := E.frR a2
    obtain ⟨I2, b1, b2, b3⟩ := mo_member (J := J) (b := b) (f := f) E1 V
    have E2 := E1.frMb b2
    obtain ⟨I3, c1, c2, c3⟩ := mo_quiets (J := J) (b := b) (f := f) E2 V (a3.fr b2 (by omega) (by omega))
    have b3' := b3.fr c2 id (by omega)
    obtain ⟨I4, d1, d2, d3⟩ := mo_tries (J := J) (b := b) (f := f) V b3' c3
    have fr : frM zM sW I I4 := (((a2.sub (fun k h => h.elim) fun o _ h => by omega).trans (b2.sub (fun k h => h) fun o _ h => by omega)).trans (c2.sub (fun k h => h.elim) fun o _ h => by omega)).trans (d2.sub (fun k h => h.elim) fun o _ h => by omega)
    refine ⟨I4, ?_, fr⟩
    rcases z.2 with e | e
    · have hR : fwR T m g = (fwn (QT T m) (cmb T) : Int) := by unfold fwR; rw [if_pos z, if_pos e]
      rw [hR]
      simp (maxSteps := 4000000) (disch := omega) only [Mo_few, rc132, gi132, gl132, pi132, pl132, pz132, pr132, gr132_0, gr132_6, gr132_7, gr132_8, gr132_9, gr132_10, gr132_11, gr132_12, gr132_13, gr132_14, gr132_15, gr132_16, gr132_17, gr132_18, gr132_19, gr132_20, gr132_21, gr132_22, gr132_23, gr132_24, gr132_25, gr132_27, gr132_28, gr132_29, gr132_30, gr132_32, gr132_33, gr132_34, gr132_35, gr132_36, gr132_37, gr132_38, gr132_39, gr132_40, gr132_41, gr132_42, gr132_44, gr132_45, gr132_46, gr132_47, gr132_48, gr132_49, gr132_50, gr132_51, gr132_61, gr132_62, gr132_63, ar134_0, ar134_1, ar137_0, ar137_1, ar140_0, ar140_1, ar143_0, ar143_1, ar146_0, ar146_1, ar149_0, ar149_1, ar152_0, ar152_1, ar155_0, ar155_1, ar158_0, ar158_1, ar164_0, ar164_1, ar164_2, ar164_3, ar164_4, ar164_5, ar164_6, ar164_7, ar164_8, ld133, st133, an133, an134, ld135, st135, an135, ld136, st136, an136, an137, ld138, st138, an138, ld139, st139, an139, an140, ld141, st141, an141, ld142, st142, an142, an143, ld144, st144, an144, ld145, st145, an145, an146, ld147, st147, an147, ld148, st148, an148, an149, ld150, st150, an150, ld151, st151, an151, an152, ld153, st153, an153, ld154, st154, an154, an155, ld156, st156, an156, ld157, st157, an157, an158, ld159, st159, an159, ld160, st160, an160, ld161, st161, an161, ld162, st162, an162, ld163, st163, an163, an164, ld165, st165, an165, ld166, st166, an166, ld167, st167, an167, ld168, st168, an168, ld169, st169, an169, ld170, st170, an170, ld171, st171, an171, ld172, st172, an172, ld173, st173, an173, ld174, st174, an174, ld175, st175, an175, ld176, st176, an176, ld177, st177, an177, ld178, st178, an178, ld179, st179, an179, ld180, st180, an180, ld181, st181, an181, ld182, st182, an182, ld183, st183, an183, ld184, st184, an184, ld185, st185, an185, ld186, st186, an186, ld187, st187, an187, ld188, st188, an188, ld189, st189, an189, ld190, st190, an190, ld191, st191, an191, ld192, st192, an192, ld193, st193, an193, ld194, st194, an194, ld195, st195, an195, ld196, st196, an196, ld197, st197, an197, Option.bind_some, if_true, if_false, n_0, n_1, n_2, n_3, n_4, n_5, n_6, n_7, n_8, n_9, n_10, n_12, n_15, n_20, n_24, n_32, n_48, n_57, n_59, n_80, n_97, n_99, n_100, n_122, n_680, n_700, n_999, n_1023, n_1024, iI_neg, iI_add, iI_sub, iI_lt, iI_le, iI_eq, mo_isRoom eB vB hm, bI_0, decide_eq_false_iff_not, iff_true_intro z1, not_true, e, Sum.elim_inl, a1, b1, c1, d1]
    · have e1 : ¬ g = -1 := by omega
      have hR : fwR T m g = (lowP (fwH T m (fst_ 10 (fun i => fwH T m i g.toNat))) : Int) := by unfold fwR; rw [if_pos z, if_neg e1]
      rw [hR]
      obtain ⟨x, rfl⟩ := nN g e.1.1
      simp only [Int.toNat_natCast] at e ⊢
      have hxl : (x : Int) < T 0 2 := e.1.2
      have hc : cmb T x = true := by
        have := ng_of e.1
        simp only [Int.toNat_natCast] at this
        simp [cmb, com, this, e.2]
      obtain ⟨i, i1, i2⟩ := fwH_in (m := m) vC vD hc
      have hl := fwH_le (m := m) vC vD
      have hlt : fst_ 10 (fun i => fwH T m i x) < 10 := fst_any.mpr (anyb_iff.mpr ⟨i, by omega, i2⟩)
      have his := fst_is (p := fun i => fwH T m i x) hlt
      have hiu : fst_ 10 (fun i => fwH T m i x) < (fwo (QT T m) (cmb T)).2 := by
        rcases Nat.lt_or_ge (fst_ 10 (fun i => fwH T m i x)) (fwo (QT T m) (cmb T)).2 with q | q
        · exact q
        · have hso := fwo_some (QT_1 (m := m) vC vD)
          have hz := (prt_is 10 hp0 0 (fwo (QT T m) (cmb T)).1 (fwo (QT T m) (cmb T)).2 (by omega) (by omega) hso).1 (fun i _ => rfl) _ q
          have his' : (fwo (QT T m) (cmb T)).1 (fst_ 10 (fun i => fwH T m i x)) x = true := his
          rw [hz] at his'
          cases his'
      have k1 := d3.2 _ x hiu (by omega) his
      have k2 : I4 184 (fst_ 10 (fun i => fwH T m i x)) = iI (bt 10 (fwH T m (fst_ 10 (fun i => fwH T m i x))) : Int) := d3.1 _ hiu
      have m1 := (eE x hxl).1
      rw [e.2] at m1
      simp (maxSteps := 4000000) (disch := omega) only [Mo_few, rc132, gi132, gl132, pi132, pl132, pz132, pr132, gr132_0, gr132_6, gr132_7, gr132_8, gr132_9, gr132_10, gr132_11, gr132_12, gr132_13, gr132_14, gr132_15, gr132_16, gr132_17, gr132_18, gr132_19, gr132_20, gr132_21, gr132_22, gr132_23, gr132_24, gr132_25, gr132_27, gr132_28, gr132_29, gr132_30, gr132_32, gr132_33, gr132_34, gr132_35, gr132_36, gr132_37, gr132_38, gr132_39, gr132_40, gr132_41, gr132_42, gr132_44, gr132_45, gr132_46, gr132_47, gr132_48, gr132_49, gr132_50, gr132_51, gr132_61, gr132_62, gr132_63, ar134_0, ar134_1, ar137_0, ar137_1, ar140_0, ar140_1, ar143_0, ar143_1, ar146_0, ar146_1, ar149_0, ar149_1, ar152_0, ar152_1, ar155_0, ar155_1, ar158_0, ar158_1, ar164_0, ar164_1, ar164_2, ar164_3, ar164_4, ar164_5, ar164_6, ar164_7, ar164_8, ld133, st133, an133, an134, ld135, st135, an135, ld136, st136, an136, an137, ld138, st138, an138, ld139, st139, an139, an140, ld141, st141, an141, ld142, st142, an142, an143, ld144, st144, an144, ld145, st145, an145, an146, ld147, st147, an147, ld148, st148, an148, an149, ld150, st150, an150, ld151, st151, an151, an152, ld153, st153, an153, ld154, st154, an154, an155, ld156, st156, an156, ld157, st157, an157, an158, ld159, st159, an159, ld160, st160, an160, ld161, st161, an161, ld162, st162, an162, ld163, st163, an163, an164, ld165, st165, an165, ld166, st166, an166, ld167, st167, an167, ld168, st168, an168, ld169, st169, an169, ld170, st170, an170, ld171, st171, an171, ld172, st172, an172, ld173, st173, an173, ld174, st174, an174, ld175, st175, an175, ld176, st176, an176, ld177, st177, an177, ld178, st178, an178, ld179, st179, an179, ld180, st180, an180, ld181, st181, an181, ld182, st182, an182, ld183, st183, an183, ld184, st184, an184, ld185, st185, an185, ld186, st186, an186, ld187, st187, an187, ld188, st188, an188, ld189, st189, an189, ld190, st190, an190, ld191, st191, an191, ld192, st192, an192, ld193, st193, an193, ld194, st194, an194, ld195, st195, an195, ld196, st196, an196, ld197, st197, an197, Option.bind_some, if_true, if_false, n_0, n_1, n_2, n_3, n_4, n_5, n_6, n_7, n_8, n_9, n_10, n_12, n_15, n_20, n_24, n_32, n_48, n_57, n_59, n_80, n_97, n_99, n_100, n_122, n_680, n_700, n_999, n_1023, n_1024, iI_neg, iI_add, iI_sub, iI_lt, iI_le, iI_eq, mo_isRoom eB vB hm, mo_isGuest eC vC hg, bI_0, decide_eq_false_iff_not, iff_true_intro z1, iff_true_intro e.1, not_true, e1, Int.toNat_natCast, m1, show ¬ (1 : Int) = 0 by omega, Sum.elim_inl, a1, b1, c1, d1, k1, k2, sI_ntz]
  · have hR : fwR T m g = -1 := if_neg z
    rw [hR]
    refine ⟨I, ?_, frM.refl _ _ _⟩
    by_cases z1 : isM T m
    · have z2 : ¬ (g = -1 ∨ (isG T g ∧ T 12 g.toNat = 1)) := fun q => z ⟨z1, q⟩
      have z3 : ¬ g = -1 := fun q => z2 (Or.inl q)
      simp (maxSteps := 4000000) (disch := omega) only [Mo_few, rc132, gi132, gl132, pi132, pl132, pz132, pr132, gr132_0, gr132_6, gr132_7, gr132_8, gr132_9, gr132_10, gr132_11, gr132_12, gr132_13, gr132_14, gr132_15, gr132_16, gr132_17, gr132_18, gr132_19, gr132_20, gr132_21, gr132_22, gr132_23, gr132_24, gr132_25, gr132_27, gr132_28, gr132_29, gr132_30, gr132_32, gr132_33, gr132_34, gr132_35, gr132_36, gr132_37, gr132_38, gr132_39, gr132_40, gr132_41, gr132_42, gr132_44, gr132_45, gr132_46, gr132_47, gr132_48, gr132_49, gr132_50, gr132_51, gr132_61, gr132_62, gr132_63, ar134_0, ar134_1, ar137_0, ar137_1, ar140_0, ar140_1, ar143_0, ar143_1, ar146_0, ar146_1, ar149_0, ar149_1, ar152_0, ar152_1, ar155_0, ar155_1, ar158_0, ar158_1, ar164_0, ar164_1, ar164_2, ar164_3, ar164_4, ar164_5, ar164_6, ar164_7, ar164_8, ld133, st133, an133, an134, ld135, st135, an135, ld136, st136, an136, an137, ld138, st138, an138, ld139, st139, an139, an140, ld141, st141, an141, ld142, st142, an142, an143, ld144, st144, an144, ld145, st145, an145, an146, ld147, st147, an147, ld148, st148, an148, an149, ld150, st150, an150, ld151, st151, an151, an152, ld153, st153, an153, ld154, st154, an154, an155, ld156, st156, an156, ld157, st157, an157, an158, ld159, st159, an159, ld160, st160, an160, ld161, st161, an161, ld162, st162, an162, ld163, st163, an163, an164, ld165, st165, an165, ld166, st166, an166, ld167, st167, an167, ld168, st168, an168, ld169, st169, an169, ld170, st170, an170, ld171, st171, an171, ld172, st172, an172, ld173, st173, an173, ld174, st174, an174, ld175, st175, an175, ld176, st176, an176, ld177, st177, an177, ld178, st178, an178, ld179, st179, an179, ld180, st180, an180, ld181, st181, an181, ld182, st182, an182, ld183, st183, an183, ld184, st184, an184, ld185, st185, an185, ld186, st186, an186, ld187, st187, an187, ld188, st188, an188, ld189, st189, an189, ld190, st190, an190, ld191, st191, an191, ld192, st192, an192, ld193, st193, an193, ld194, st194, an194, ld195, st195, an195, ld196, st196, an196, ld197, st197, an197, Option.bind_some, if_true, if_false, n_0, n_1, n_2, n_3, n_4, n_5, n_6, n_7, n_8, n_9, n_10, n_12, n_15, n_20, n_24, n_32, n_48, n_57, n_59, n_80, n_97, n_99, n_100, n_122, n_680, n_700, n_999, n_1023, n_1024, iI_neg, iI_add, iI_sub, iI_lt, iI_le, iI_eq, mo_isRoom eB vB hm, mo_isGuest eC vC hg, bI_0, decide_eq_false_iff_not, iff_true_intro z1, not_true, z3]
      by_cases z4 : isG T g
      · have m1 := (eE g.toNat (gN z4)).1
        have v1 := (vE g.toNat (gN z4)).1
        have z5 : T 12 g.toNat = 0 := by
          rcases v1 with q | q
          · exact q
          · exact absurd (Or.inr ⟨z4, q⟩) z2
        rw [z5] at m1
        simp (maxSteps := 4000000) (disch := omega) only [iff_true_intro z4, not_true, Option.bind_some, if_true, if_false, rc132, gi132, gl132, pi132, pl132, pz132, pr132, gr132_0, gr132_6, gr132_7, gr132_8, gr132_9, gr132_10, gr132_11, gr132_12, gr132_13, gr132_14, gr132_15, gr132_16, gr132_17, gr132_18, gr132_19, gr132_20, gr132_21, gr132_22, gr132_23, gr132_24, gr132_25, gr132_27, gr132_28, gr132_29, gr132_30, gr132_32, gr132_33, gr132_34, gr132_35, gr132_36, gr132_37, gr132_38, gr132_39, gr132_40, gr132_41, gr132_42, gr132_44, gr132_45, gr132_46, gr132_47, gr132_48, gr132_49, gr132_50, gr132_51, gr132_61, gr132_62, gr132_63, ar134_0, ar134_1, ar137_0, ar137_1, ar140_0, ar140_1, ar143_0, ar143_1, ar146_0, ar146_1, ar149_0, ar149_1, ar152_0, ar152_1, ar155_0, ar155_1, ar158_0, ar158_1, ar164_0, ar164_1, ar164_2, ar164_3, ar164_4, ar164_5, ar164_6, ar164_7, ar164_8, ld133, st133, an133, an134, ld135, st135, an135, ld136, st136, an136, an137, ld138, st138, an138, ld139, st139, an139, an140, ld141, st141, an141, ld142, st142, an142, an143, ld144, st144, an144, ld145, st145, an145, an146, ld147, st147, an147, ld148, st148, an148, an149, ld150, st150, an150, ld151, st151, an151, an152, ld153, st153, an153, ld154, st154, an154, an155, ld156, st156, an156, ld157, st157, an157, an158, ld159, st159, an159, ld160, st160, an160, ld161, st161, an161, ld162, st162, an162, ld163, st163, an163, an164, ld165, st165, an165, ld166, st166, an166, ld167, st167, an167, ld168, st168, an168, ld169, st169, an169, ld170, st170, an170, ld171, st171, an171, ld172, st172, an172, ld173, st173, an173, ld174, st174, an174, ld175, st175, an175, ld176, st176, an176, ld177, st177, an177, ld178, st178, an178, ld179, st179, an179, ld180, st180, an180, ld181, st181, an181, ld182, st182, an182, ld183, st183, an183, ld184, st184, an184, ld185, st185, an185, ld186, st186, an186, ld187, st187, an187, ld188, st188, an188, ld189, st189, an189, ld190, st190, an190, ld191, st191, an191, ld192, st192, an192, ld193, st193, an193, ld194, st194, an194, ld195, st195, an195, ld196, st196, an196, ld197, st197, an197, m1, Sum.elim_inr]
      · simp only [iff_false_intro z4, not_false_eq_true, Option.bind_some, if_true, if_false, Sum.elim_inr]
    · simp (maxSteps := 4000000) (disch := omega) only [Mo_few, rc132, gi132, gl132, pi132, pl132, pz132, pr132, gr132_0, gr132_6, gr132_7, gr132_8, gr132_9, gr132_10, gr132_11, gr132_12, gr132_13, gr132_14, gr132_15, gr132_16, gr132_17, gr132_18, gr132_19, gr132_20, gr132_21, gr132_22, gr132_23, gr132_24, gr132_25, gr132_27, gr132_28, gr132_29, gr132_30, gr132_32, gr132_33, gr132_34, gr132_35, gr132_36, gr132_37, gr132_38, gr132_39, gr132_40, gr132_41, gr132_42, gr132_44, gr132_45, gr132_46, gr132_47, gr132_48, gr132_49, gr132_50, gr132_51, gr132_61, gr132_62, gr132_63, ar134_0, ar134_1, ar137_0, ar137_1, ar140_0, ar140_1, ar143_0, ar143_1, ar146_0, ar146_1, ar149_0, ar149_1, ar152_0, ar152_1, ar155_0, ar155_1, ar158_0, ar158_1, ar164_0, ar164_1, ar164_2, ar164_3, ar164_4, ar164_5, ar164_6, ar164_7, ar164_8, ld133, st133, an133, an134, ld135, st135, an135, ld136, st136, an136, an137, ld138, st138, an138, ld139, st139, an139, an140, ld141, st141, an141, ld142, st142, an142, an143, ld144, st144, an144, ld145, st145, an145, an146, ld147, st147, an147, ld148, st148, an148, an149, ld150, st150, an150, ld151, st151, an151, an152, ld153, st153, an153, ld154, st154, an154, an155, ld156, st156, an156, ld157, st157, an157, an158, ld159, st159, an159, ld160, st160, an160, ld161, st161, an161, ld162, st162, an162, ld163, st163, an163, an164, ld165, st165, an165, ld166, st166, an166, ld167, st167, an167, ld168, st168, an168, ld169, st169, an169, ld170, st170, an170, ld171, st171, an171, ld172, st172, an172, ld173, st173, an173, ld174, st174, an174, ld175, st175, an175, ld176, st176, an176, ld177, st177, an177, ld178, st178, an178, ld179, st179, an179, ld180, st180, an180, ld181, st181, an181, ld182, st182, an182, ld183, st183, an183, ld184, st184, an184, ld185, st185, an185, ld186, st186, an186, ld187, st187, an187, ld188, st188, an188, ld189, st189, an189, ld190, st190, an190, ld191, st191, an191, ld192, st192, an192, ld193, st193, an193, ld194, st194, an194, ld195, st195, an195, ld196, st196, an196, ld197, st197, an197, Option.bind_some, if_true, if_false, n_0, n_1, n_2, n_3, n_4, n_5, n_6, n_7, n_8, n_9, n_10, n_12, n_15, n_20, n_24, n_32, n_48, n_57, n_59, n_80, n_97, n_99, n_100, n_122, n_680, n_700, n_999, n_1023, n_1024, iI_neg, iI_add, iI_sub, mo_isRoom eB vB hm, bI_0, decide_eq_false_iff_not, iff_false_intro z1, not_false_eq_true]
end
