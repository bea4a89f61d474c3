/-! ===== layer 2: few, model's parting ===== -/
section
variable {T : Tb} {I I' I'' : Nat → Nat → Int32} {J : Nat → Nat → Int64} {b : Bool} {f k n B d u most : Nat} {P : Nat → Nat → Option Nat} {m w : Int} {x y z i h : Nat} {A E : Nat → Nat → Bool} {H W cm : Nat → Bool} {hp r : Nat → Nat → Bool} {Q : (Nat → Bool) → Bool} {s1 : Int32}
abbrev sP (o : Nat) : Prop := o ≠ 183 ∧ o ≠ 184
/-- the model's heaps, u of them -/
def hpM (hp : Nat → Nat → Bool) (u : Nat) (I : Nat → Nat → Int32) : Prop := (∀ i, i < u → I 184 i = iI (bt 10 (hp i) : Int)) ∧ ∀ i y, i < u → y < 10 → hp i y = true → I 183 y = iI (i : Int)
theorem mbM.fr {z s : Nat → Prop} (h : mbM T I) (ha : frM z s I I') (h1 : ¬ z 43) (h2 : s 185) : mbM T I' := ⟨(ha.2 43 h1).trans h.1, fun y hy hc => (ha.1 185 ⟨by omega, h2⟩ _).trans (h.2 y hy hc)⟩
theorem qtM.fr {z s : Nat → Prop} (h : qtM T m I) (ha : frM z s I I') (h2 : s 186) : qtM T m I' := fun H hH => (ha.1 186 ⟨by omega, h2⟩ _).trans (h H hH)
theorem mo_part (ht : tvC T) (hv : tvD T) (hmost : most ≤ 10) : ∀ (d n : Nat) (hp : Nat → Nat → Bool) (u : Nat) (I : Nat → Nat → Int32), d ≤ 10 → d < n → u + d ≤ 10 → mbM T I → qtM T m I → hpM hp u I → hok (QT T m) (cmb T) (10 - d) hp → (∀ i, u ≤ i → hp i = fun _ => false) → ∃ I', Mo_parts S0 n (some 132) (iI (cnt (10 - d) (cmb T) : Int)) (iI (u : Int)) (iI (most : Int)) (I, J, Pst b f) = some (bI (prt (QT T m) (cmb T) most d hp u).isSome, (I', J, Pst b f)) ∧ (frM zN sP I I' ∧ ∀ y, y < 10 - d → I' 183 y = I 183 y) ∧ (prt (QT T m) (cmb T) most d hp u).elim (∀ i, i < u → I' 184 i = iI (bt 10 (hp i) : Int)) (fun r => hpM r.1 r.2 I')
  | 0, n, hp, u, I, hd, hn, hu, hb, hq, hh, ho, hz => by
    obtain ⟨n, rfl⟩ : ∃ z, n = z + 1 := ⟨n - 1, by omega⟩
    have hcl := cnt_le (cmb T) 10
    refine ⟨I, ?_, ⟨frM.refl _ _ _, fun _ _ => rfl⟩, hh⟩
    show Mo_parts_B S0 (Mo_parts S0 n) _ _ _ _ _ = _
    simp (maxSteps := 4000000) (disch := omega) only [Mo_parts_B, rc132, gi132, gl132, pi132, pl132, pz132, pr132, gr132_0, gr132_6, gr132_7, gr132_8, gr132_9, gr132_10, gr132_11, gr132_12, gr132_13, gr132_14, gr132_15, gr132_16, gr132_17, gr132_18, gr132_19, gr132_20, gr132_21, gr132_22, gr132_23, gr132_24, gr132_25, gr132_27, gr132_28, gr132_29, gr132_30, gr132_32, gr132_33, gr132_34, gr132_35, gr132_36, gr132_37, gr132_38, gr132_39, gr132_40, gr132_41, gr132_42, gr132_44, gr132_45, gr132_46, gr132_47, gr132_48, gr132_49, gr132_50, gr132_51, gr132_61, gr132_62, gr132_63, ar134_0, ar134_1, ar137_0, ar137_1, ar140_0, ar140_1, ar143_0, ar143_1, ar146_0, ar146_1, ar149_0, ar149_1, ar152_0, ar152_1, ar155_0, ar155_1, ar158_0, ar158_1, ar164_0, ar164_1, ar164_2, ar164_3, ar164_4, ar164_5, ar164_6, ar164_7, ar164_8, ld133, st133, an133, an134, ld135, st135, an135, ld136, st136, an136, an137, ld138, st138, an138, ld139, st139, an139, an140, ld141, st141, an141, ld142, st142, an142, an143, ld144, st144, an144, ld145, st145, an145, an146, ld147, st147, an147, ld148, st148, an148, an149, ld150, st150, an150, ld151, st151, an151, an152, ld153, st153, an153, ld154, st154, an154, an155, ld156, st156, an156, ld157, st157, an157, an158, ld159, st159, an159, ld160, st160, an160, ld161, st161, an161, ld162, st162, an162, ld163, st163, an163, an164, ld165, st165, an165, ld166, st166, an166, ld167, st167, an167, ld168, st168, an168, ld169, st169, an169, ld170, st170, an170, ld171, st171, an171, ld172, st172, an172, ld173, st173, an173, ld174, st174, an174, ld175, st175, an175, ld176, st176, an176, ld177, st177, an177, ld178, st178, an178, ld179, st179, an179, ld180, st180, an180, ld181, st181, an181, ld182, st182, an182, ld183, st183, an183, ld184, st184, an184, ld185, st185, an185, ld186, st186, an186, ld187, st187, an187, ld188, st188, an188, ld189, st189, an189, ld190, st190, an190, ld191, st191, an191, ld192, st192, an192, ld193, st193, an193, ld194, st194, an194, ld195, st195, an195, ld196, st196, an196, ld197, st197, an197, Option.bind_some, if_true, if_false, n_0, n_1, n_2, n_3, n_4, n_5, n_6, n_7, n_8, n_9, n_10, n_12, n_15, n_20, n_24, n_32, n_48, n_57, n_59, n_80, n_97, n_99, n_100, n_122, n_680, n_700, n_999, n_1023, n_1024, iI_neg, iI_add, iI_sub, iI_lt, iI_le, iI_eq, hb.1, Nat.sub_zero]
    rfl
  | d + 1, n, hp, u, I, hd, hn, hu, hb, hq, hh, ho, hz => by
    have eg : 10 - (d + 1) = 9 - d := by omega
    have eg2 : 9 - d + 1 = 10 - d := by omega
    have hg10 : 9 - d < 10 := by omega
    rw [eg] at ho ⊢
    have hpr : prt (QT T m) (cmb T) most (d + 1) hp u = if cmb T (9 - d) = true then fsO (fun h => if QT T m (adg (hp h) (9 - d)) = true then prt (QT T m) (cmb T) most d (hpu hp h (9 - d)) (max u (h + 1)) else none) (min (u + 1) most) else prt (QT T m) (cmb T) most d hp u := rfl
    rw [hpr]
    have hct : cnt (10 - d) (cmb T) = cnt (9 - d) (cmb T) + if cmb T (9 - d) = true then 1 else 0 := by rw [← eg2]; rfl
    cases ec : cmb T (9 - d)
    · rw [ec] at hct
      simp only [Bool.false_eq_true, if_false, Nat.add_zero] at hct ⊢
      obtain ⟨I1, a1, a2, a3⟩ := mo_part ht hv hmost d n hp u I (by omega) (by omega) (by omega) hb hq hh (by rw [← eg2]; exact hok_s ho) hz
      rw [hct] at a1
      exact ⟨I1, a1, ⟨a2.1, fun y hy => a2.2 y (by omega)⟩, a3⟩
    · obtain ⟨n, rfl⟩ : ∃ z, n = z + 1 := ⟨n - 1, by omega⟩
      rw [ec] at hct
      simp only [if_true] at hct ⊢
      have hlt := cnt_lt_of (n := 10) hg10 ec
      have hcl := cnt_le (cmb T) 10
      have hng := cmb_lt ec
      have key := jfs (J := J) (P := Pst b f) (I := I) (body := Mo_parts_L13 S0 (Mo_parts S0 n) (some 132) (iI (cnt (9 - d) (cmb T) : Int)) (iI (u : Int)) (iI (most : Int))) (fun I' => (frM zN sP I I' ∧ ∀ y, y < 9 - d → I' 183 y = I 183 y) ∧ ∀ i, i < u → I' 184 i = iI (bt 10 (hp i) : Int)) (fun r I' => (frM zN sP I I' ∧ ∀ y, y < 9 - d → I' 183 y = I 183 y) ∧ hpM r.1 r.2 I') (fun h => if QT T m (adg (hp h) (9 - d)) = true then prt (QT T m) (cmb T) most d (hpu hp h (9 - d)) (max u (h + 1)) else none) (min (u + 1) most) ⟨⟨frM.refl _ _ _, fun _ _ => rfl⟩, hh.1⟩ (by omega) (fun k I1 hk q1 => ?_) (fun I1 q1 => ?_)
      · obtain ⟨I1, a1, a2⟩ := key
        refine ⟨I1, ?_, ?_⟩
        · show Mo_parts_B S0 (Mo_parts S0 n) _ _ _ _ _ = _
          simp (maxSteps := 4000000) (disch := omega) only [Mo_parts_B, rc132, gi132, gl132, pi132, pl132, pz132, pr132, gr132_0, gr132_6, gr132_7, gr132_8, gr132_9, gr132_10, gr132_11, gr132_12, gr132_13, gr132_14, gr132_15, gr132_16, gr132_17, gr132_18, gr132_19, gr132_20, gr132_21, gr132_22, gr132_23, gr132_24, gr132_25, gr132_27, gr132_28, gr132_29, gr132_30, gr132_32, gr132_33, gr132_34, gr132_35, gr132_36, gr132_37, gr132_38, gr132_39, gr132_40, gr132_41, gr132_42, gr132_44, gr132_45, gr132_46, gr132_47, gr132_48, gr132_49, gr132_50, gr132_51, gr132_61, gr132_62, gr132_63, ar134_0, ar134_1, ar137_0, ar137_1, ar140_0, ar140_1, ar143_0, ar143_1, ar146_0, ar146_1, ar149_0, ar149_1, ar152_0, ar152_1, ar155_0, ar155_1, ar158_0, ar158_1, ar164_0, ar164_1, ar164_2, ar164_3, ar164_4, ar164_5, ar164_6, ar164_7, ar164_8, ld133, st133, an133, an134, ld135, st135, an135, ld136, st136, an136, an137, ld138, st138, an138, ld139, st139, an139, an140, ld141, st141, an141, ld142, st142, an142, an143, ld144, st144, an144, ld145, st145, an145, an146, ld147, st147, an147, ld148, st148, an148, an149, ld150, st150, an150, ld151, st151, an151, an152, ld153, st153, an153, ld154, st154, an154, an155, ld156, st156, an156, ld157, st157, an157, an158, ld159, st159, an159, ld160, st160, an160, ld161, st161, an161, ld162, st162, an162, ld163, st163, an163, an164, ld165, st165, an165, ld166, st166, an166, ld167, st167, an167, ld168, st168, an168, ld169, st169, an169, ld170, st170, an170, ld171, st171, an171, ld172, st172, an172, ld173, st173, an173, ld174, st174, an174, ld175, st175, an175, ld176, st176, an176, ld177, st177, an177, ld178, st178, an178, ld179, st179, an179, ld180, st180, an180, ld181, st181, an181, ld182, st182, an182, ld183, st183, an183, ld184, st184, an184, ld185, st185, an185, ld186, st186, an186, ld187, st187, an187, ld188, st188, an188, ld189, st189, an189, ld190, st190, an190, ld191, st191, an191, ld192, st192, an192, ld193, st193, an193, ld194, st194, an194, ld195, st195, an195, ld196, st196, an196, ld197, st197, an197, Option.bind_some, if_true, if_false, n_0, n_1, n_2, n_3, n_4, n_5, n_6, n_7, n_8, n_9, n_10, n_12, n_15, n_20, n_24, n_32, n_48, n_57, n_59, n_80, n_97, n_99, n_100, n_122, n_680, n_700, n_999, n_1023, n_1024, iI_neg, iI_add, iI_sub, iI_lt, iI_le, iI_eq, hb.1, show ¬ (cnt (9 - d) (cmb T) : Int) = (cnt 10 (cmb T) : Int) by omega, a1]
          cases fsO (fun h => if QT T m (adg (hp h) (9 - d)) = true then prt (QT T m) (cmb T) most d (hpu hp h (9 - d)) (max u (h + 1)) else none) (min (u + 1) most) <;> rfl
        · cases e : fsO (fun h => if QT T m (adg (hp h) (9 - d)) = true then prt (QT T m) (cmb T) most d (hpu hp h (9 - d)) (max u (h + 1)) else none) (min (u + 1) most) with
          | none => rw [e] at a2; exact a2
          | some r => rw [e] at a2; exact a2
      · have hb1 := hb.fr q1.1.1 id (by omega)
        have hq1 := hq.fr q1.1.1 (by omega)
        have hmem := hb1.2 (9 - d) hg10 ec
        have c1 : ¬ (u : Int) < (k : Int) := by omega
        have c2 : ¬ (most : Int) ≤ (k : Int) := by omega
        have hwas : ((if (k : Int) = (u : Int) then some (iI 0) else some (I1 184 k)) : Option Int32) = some (iI (bt 10 (hp k) : Int)) := by
          by_cases e : k = u
          · rw [if_pos (by omega), hz k (by omega), sI_z]
          · rw [if_neg (by omega), q1.2 k (by omega)]
        have hor : iI (bt 10 (hp k) : Int) ||| iI (bt 10 (fun y => decide (y = 9 - d)) : Int) = iI (bt 10 (adg (hp k) (9 - d)) : Int) := sI_or _ _ _
        have hI3 : ∀ o, o ≠ 183 → o ≠ 184 → ∀ j, hup (hup I1 184 k (iI (bt 10 (adg (hp k) (9 - d)) : Int))) 183 (9 - d) (iI (k : Int)) o j = I1 o j := fun o h1 h2 j => by rw [hup_obj _ _ _ h1, hup_obj _ _ _ h2]
        have hfr3 : frM zN sP I (hup (hup I1 184 k (iI (bt 10 (adg (hp k) (9 - d)) : Int))) 183 (9 - d) (iI (k : Int))) := (q1.1.1.wr (by omega) (by omega)).wr (by omega) (by omega)
        have hb3 := hb.fr hfr3 id (by omega)
        have hq3 := hq.fr hfr3 (by omega)
        have hbl := bt10 (adg (hp k) (9 - d))
        have hqv := hq3 (adg (hp k) (9 - d)) (fun y hy => by
          rcases (show hp k y = true ∨ y = 9 - d by simpa [adg] using hy) with q | q
          · exact cmb_lt (ho.2 k y q).2
          · rw [q]; exact hng)
        have hmem2 : hup I1 184 k (iI (bt 10 (adg (hp k) (9 - d)) : Int)) 185 (cnt (9 - d) (cmb T)) = iI ((9 - d : Nat) : Int) := by rw [hup_obj _ _ _ (by omega)]; exact hmem
        have h184 : hup (hup I1 184 k (iI (bt 10 (adg (hp k) (9 - d)) : Int))) 183 (9 - d) (iI (k : Int)) 184 k = iI (bt 10 (adg (hp k) (9 - d)) : Int) := by rw [hup_obj _ _ _ (by omega), hup_same]
        cases eq : QT T m (adg (hp k) (9 - d))
        · rw [eq] at hqv
          simp only [Bool.false_eq_true, if_false, Option.elim]
          refine ⟨hup (hup (hup I1 184 k (iI (bt 10 (adg (hp k) (9 - d)) : Int))) 183 (9 - d) (iI (k : Int))) 184 k (iI (bt 10 (hp k) : Int)), ?_, ⟨hfr3.wr (by omega) (by omega), fun y hy => ?_⟩, fun i hi => ?_⟩
          · simp (maxSteps := 4000000) (disch := omega) only [Mo_parts_L13, rc132, gi132, gl132, pi132, pl132, pz132, pr132, gr132_0, gr132_6, gr132_7, gr132_8, gr132_9, gr132_10, gr132_11, gr132_12, gr132_13, gr132_14, gr132_15, gr132_16, gr132_17, gr132_18, gr132_19, gr132_20, gr132_21, gr132_22, gr132_23, gr132_24, gr132_25, gr132_27, gr132_28, gr132_29, gr132_30, gr132_32, gr132_33, gr132_34, gr132_35, gr132_36, gr132_37, gr132_38, gr132_39, gr132_40, gr132_41, gr132_42, gr132_44, gr132_45, gr132_46, gr132_47, gr132_48, gr132_49, gr132_50, gr132_51, gr132_61, gr132_62, gr132_63, ar134_0, ar134_1, ar137_0, ar137_1, ar140_0, ar140_1, ar143_0, ar143_1, ar146_0, ar146_1, ar149_0, ar149_1, ar152_0, ar152_1, ar155_0, ar155_1, ar158_0, ar158_1, ar164_0, ar164_1, ar164_2, ar164_3, ar164_4, ar164_5, ar164_6, ar164_7, ar164_8, ld133, st133, an133, an134, ld135, st135, an135, ld136, st136, an136, an137, ld138, st138, an138, ld139, st139, an139, an140, ld141, st141, an141, ld142, st142, an142, an143, ld144, st144, an144, ld145, st145, an145, an146, ld147, st147, an147, ld148, st148, an148, an149, ld150, st150, an150, ld151, st151, an151, an152, ld153, st153, an153, ld154, st154, an154, an155, ld156, st156, an156, ld157, st157, an157, an158, ld159, st159, an159, ld160, st160, an160, ld161, st161, an161, ld162, st162, an162, ld163, st163, an163, an164, ld165, st165, an165, ld166, st166, an166, ld167, st167, an167, ld168, st168, an168, ld169, st169, an169, ld170, st170, an170, ld171, st171, an171, ld172, st172, an172, ld173, st173, an173, ld174, st174, an174, ld175, st175, an175, ld176, st176, an176, ld177, st177, an177, ld178, st178, an178, ld179, st179, an179, ld180, st180, an180, ld181, st181, an181, ld182, st182, an182, ld183, st183, an183, ld184, st184, an184, ld185, st185, an185, ld186, st186, an186, ld187, st187, an187, ld188, st188, an188, ld189, st189, an189, ld190, st190, an190, ld191, st191, an191, ld192, st192, an192, ld193, st193, an193, ld194, st194, an194, ld195, st195, an195, ld196, st196, an196, ld197, st197, an197, Option.bind_some, if_true, if_false, n_0, n_1, n_2, n_3, n_4, n_5, n_6, n_7, n_8, n_9, n_10, n_12, n_15, n_20, n_24, n_32, n_48, n_57, n_59, n_80, n_97, n_99, n_100, n_122, n_680, n_700, n_999, n_1023, n_1024, iI_neg, iI_add, iI_sub, iI_lt, iI_le, iI_eq, c1, c2, Int.toNat_natCast, hwas, hmem, sI_one hg10, hor, hmem2, h184, hqv, bI_0, Sum.elim_inl]
          · rw [hup_obj _ _ _ (by omega), hup_ix _ _ _ (by omega), hup_obj _ _ _ (by omega)]
            exact q1.1.2 y hy
          · by_cases e : i = k
            · subst e; rw [hup_same]
            · rw [hup_ix _ _ _ e, hup_obj _ _ _ (by omega), hup_ix _ _ _ e]; exact q1.2 i hi
        · rw [eq] at hqv
          simp only [if_true]
          have hh3 : hpM (hpu hp k (9 - d)) (max u (k + 1)) (hup (hup I1 184 k (iI (bt 10 (adg (hp k) (9 - d)) : Int))) 183 (9 - d) (iI (k : Int))) := by
            refine ⟨fun i hi => ?_, fun i y hi hy hpy => ?_⟩
            · by_cases e : i = k
              · subst e; rw [h184, hpu_same]
              · rw [hup_obj _ _ _ (by omega), hup_ix _ _ _ e, hpu_ne e]; exact q1.2 i (by omega)
            · by_cases e : i = k
              · subst e
                rw [hpu_same] at hpy
                by_cases e2 : y = 9 - d
                · subst e2; rw [hup_same]
                · have hpy' : hp i y = true := by simpa [adg, e2] using hpy
                  have hiu : i < u := by
                    rcases Nat.lt_or_ge i u with q | q
                    · exact q
                    · rw [hz i q] at hpy'; cases hpy'
                  have hlt := (ho.2 i y hpy').1
                  rw [hup_ix _ _ _ e2, hup_obj _ _ _ (by omega), q1.1.2 y hlt]
                  exact hh.2 i y hiu hy hpy'
              · rw [hpu_ne e] at hpy
                have hlt := (ho.2 i y hpy).1
                rw [hup_ix _ _ _ (by omega), hup_obj _ _ _ (by omega), q1.1.2 y hlt]
                exact hh.2 i y (by omega) hy hpy
          obtain ⟨I2, a1, a2, a3⟩ := mo_part ht hv hmost d n (hpu hp k (9 - d)) (max u (k + 1)) _ (by omega) (by omega) (by omega) hb3 hq3 hh3 (by rw [← eg2]; exact hok_up ho ec eq) (fun i hi => by rw [hpu_ne (by omega)]; exact hz i (by omega))
          rw [hct, Int.natCast_add] at a1
          have hold : ∀ y, y < 9 - d → I2 183 y = I 183 y := fun y hy => by
            rw [a2.2 y (by omega), hup_ix _ _ _ (by omega), hup_obj _ _ _ (by omega)]
            exact q1.1.2 y hy
          cases er : prt (QT T m) (cmb T) most d (hpu hp k (9 - d)) (max u (k + 1)) with
          | none =>
            rw [er] at a1 a3
            refine ⟨hup I2 184 k (iI (bt 10 (hp k) : Int)), ?_, ⟨(hfr3.trans a2.1).wr (by omega) (by omega), fun y hy => ?_⟩, fun i hi => ?_⟩
            · simp (maxSteps := 4000000) (disch := omega) only [Mo_parts_L13, rc132, gi132, gl132, pi132, pl132, pz132, pr132, gr132_0, gr132_6, gr132_7, gr132_8, gr132_9, gr132_10, gr132_11, gr132_12, gr132_13, gr132_14, gr132_15, gr132_16, gr132_17, gr132_18, gr132_19, gr132_20, gr132_21, gr132_22, gr132_23, gr132_24, gr132_25, gr132_27, gr132_28, gr132_29, gr132_30, gr132_32, gr132_33, gr132_34, gr132_35, gr132_36, gr132_37, gr132_38, gr132_39, gr132_40, gr132_41, gr132_42, gr132_44, gr132_45, gr132_46, gr132_47, gr132_48, gr132_49, gr132_50, gr132_51, gr132_61, gr132_62, gr132_63, ar134_0, ar134_1, ar137_0, ar137_1, ar140_0, ar140_1, ar143_0, ar143_1, ar146_0, ar146_1, ar149_0, ar149_1, ar152_0, ar152_1, ar155_0, ar155_1, ar158_0, ar158_1, ar164_0, ar164_1, ar164_2, ar164_3, ar164_4, ar164_5, ar164_6, ar164_7, ar164_8, ld133, st133, an133, an134, ld135, st135, an135, ld136, st136, an136, an137, ld138, st138, an138, ld139, st139, an139, an140, ld141, st141, an141, ld142, st142, an142, an143, ld144, st144, an144, ld145, st145, an145, an146, ld147, st147, an147, ld148, st148, an148, an149, ld150, st150, an150, ld151, st151, an151, an152, ld153, st153, an153, ld154, st154, an154, an155, ld156, st156, an156, ld157, st157, an157, an158, ld159, st159, an159, ld160, st160, an160, ld161, st161, an161, ld162, st162, an162, ld163, st163, an163, an164, ld165, st165, an165, ld166, st166, an166, ld167, st167, an167, ld168, st168, an168, ld169, st169, an169, ld170, st170, an170, ld171, st171, an171, ld172, st172, an172, ld173, st173, an173, ld174, st174, an174, ld175, st175, an175, ld176, st176, an176, ld177, st177, an177, ld178, st178, an178, ld179, st179, an179, ld180, st180, an180, ld181, st181, an181, ld182, st182, an182, ld183, st183, an183, ld184, st184, an184, ld185, st185, an185, ld186, st186, an186, ld187, st187, an187, ld188, st188, an188, ld189, st189, an189, ld190, st190, an190, ld191, st191, an191, ld192, st192, an192, ld193, st193, an193, ld194, st194, an194, ld195, st195, an195, ld196, st196, an196, ld197, st197, an197, Option.bind_some, if_true, if_false, n_0, n_1, n_2, n_3, n_4, n_5, n_6, n_7, n_8, n_9, n_10, n_12, n_15, n_20, n_24, n_32, n_48, n_57, n_59, n_80, n_97, n_99, n_100, n_122, n_680, n_700, n_999, n_1023, n_1024, iI_neg, iI_add, iI_sub, iI_lt, iI_le, iI_eq, c1, c2, Int.toNat_natCast, hwas, hmem, sI_one hg10, hor, hmem2, h184, hqv, bI_0, Bool.true_eq_false, mxI (show u < 1000 by omega) (show k < 1000 by omega)]
              rw [show (iI ((cnt (9 - d) (cmb T) : Int) + 1)) = iI ((cnt (9 - d) (cmb T) : Int) + ((1 : Nat) : Int)) from rfl, a1]
              simp (maxSteps := 4000000) (disch := omega) only [Option.isSome_none, bI_0, Option.bind_some, if_true, if_false, Sum.elim_inl, rc132, gi132, gl132, pi132, pl132, pz132, pr132, gr132_0, gr132_6, gr132_7, gr132_8, gr132_9, gr132_10, gr132_11, gr132_12, gr132_13, gr132_14, gr132_15, gr132_16, gr132_17, gr132_18, gr132_19, gr132_20, gr132_21, gr132_22, gr132_23, gr132_24, gr132_25, gr132_27, gr132_28, gr132_29, gr132_30, gr132_32, gr132_33, gr132_34, gr132_35, gr132_36, gr132_37, gr132_38, gr132_39, gr132_40, gr132_41, gr132_42, gr132_44, gr132_45, gr132_46, gr132_47, gr132_48, gr132_49, gr132_50, gr132_51, gr132_61, gr132_62, gr132_63, ar134_0, ar134_1, ar137_0, ar137_1, ar140_0, ar140_1, ar143_0, ar143_1, ar146_0, ar146_1, ar149_0, ar149_1, ar152_0, ar152_1, ar155_0, ar155_1, ar158_0, ar158_1, ar164_0, ar164_1, ar164_2, ar164_3, ar164_4, ar164_5, ar164_6, ar164_7, ar164_8, ld133, st133, an133, an134, ld135, st135, an135, ld136, st136, an136, an137, ld138, st138, an138, ld139, st139, an139, an140, ld141, st141, an141, ld142, st142, an142, an143, ld144, st144, an144, ld145, st145, an145, an146, ld147, st147, an147, ld148, st148, an148, an149, ld150, st150, an150, ld151, st151, an151, an152, ld153, st153, an153, ld154, st154, an154, an155, ld156, st156, an156, ld157, st157, an157, an158, ld159, st159, an159, ld160, st160, an160, ld161, st161, an161, ld162, st162, an162, ld163, st163, an163, an164, ld165, st165, an165, ld166, st166, an166, ld167, st167, an167, ld168, st168, an168, ld169, st169, an169, ld170, st170, an170, ld171, st171, an171, ld172, st172, an172, ld173, st173, an173, ld174, st174, an174, ld175, st175, an175, ld176, st176, an176, ld177, st177, an177, ld178, st178, an178, ld179, st179, an179, ld180, st180, an180, ld181, st181, an181, ld182, st182, an182, ld183, st183, an183, ld184, st184, an184, ld185, st185, an185, ld186, st186, an186, ld187, st187, an187, ld188, st188, an188, ld189, st189, an189, ld190, st190, an190, ld191, st191, an191, ld192, st192, an192, ld193, st193, an193, ld194, st194, an194, ld195, st195, an195, ld196, st196, an196, ld197, st197, an197, Int.toNat_natCast, Option.elim]
            · rw [hup_obj _ _ _ (by omega)]; exact hold y hy
            · by_cases e : i = k
              · subst e; rw [hup_same]
              · rw [hup_ix _ _ _ e]
                have := a3 i (by omega)
                rwa [hpu_ne e] at this
          | some r =>
            rw [er] at a1 a3
            refine ⟨I2, ?_, ⟨hfr3.trans a2.1, hold⟩, a3⟩
            simp (maxSteps := 4000000) (disch := omega) only [Mo_parts_L13, rc132, gi132, gl132, pi132, pl132, pz132, pr132, gr132_0, gr132_6, gr132_7, gr132_8, gr132_9, gr132_10, gr132_11, gr132_12, gr132_13, gr132_14, gr132_15, gr132_16, gr132_17, gr132_18, gr132_19, gr132_20, gr132_21, gr132_22, gr132_23, gr132_24, gr132_25, gr132_27, gr132_28, gr132_29, gr132_30, gr132_32, gr132_33, gr132_34, gr132_35, gr132_36, gr132_37, gr132_38, gr132_39, gr132_40, gr132_41, gr132_42, gr132_44, gr132_45, gr132_46, gr132_47, gr132_48, gr132_49, gr132_50, gr132_51, gr132_61, gr132_62, gr132_63, ar134_0, ar134_1, ar137_0, ar137_1, ar140_0, ar140_1, ar143_0, ar143_1, ar146_0, ar146_1, ar149_0, ar149_1, ar152_0, ar152_1, ar155_0, ar155_1, ar158_0, ar158_1, ar164_0, ar164_1, ar164_2, ar164_3, ar164_4, ar164_5, ar164_6, ar164_7, ar164_8, ld133, st133, an133, an134, ld135, st135, an135, ld136, st136, an136, an137, ld138, st138, an138, ld139, st139, an139, an140, ld141, st141, an141, ld142, st142, an142, an143, ld144, st144, an144, ld145, st145, an145, an146, ld147, st147, an147, ld148, st148, an148, an149, ld150, st150, an150, ld151, st151, an151, an152, ld153, st153, an153, ld154, st154, an154, an155, ld156, st156, an156, ld157, st157, an157, an158, ld159, st159, an159, ld160, st160, an160, ld161, st161, an161, ld162, st162, an162, ld163, st163, an163, an164, ld165, st165, an165, ld166, st166, an166, ld167, st167, an167, ld168, st168, an168, ld169, st169, an169, ld170, st170, an170, ld171, st171, an171, ld172, st172, an172, ld173, st173, an173, ld174, st174, an174, ld175, st175, an175, ld176, st176, an176, ld177, st177, an177, ld178, st178, an178, ld179, st179, an179, ld180, st180, an180, ld181, st181, an181, ld182, st182, an182, ld183, st183, an183, ld184, st184, an184, ld185, st185, an185, ld186, st186, an186, ld187, st187, an187, ld188, st188, an188, ld189, st189, an189, ld190, st190, an190, ld191, st191, an191, ld192, st192, an192, ld193, st193, an193, ld194, st194, an194, ld195, st195, an195, ld196, st196, an196, ld197, st197, an197, Option.bind_some, if_true, if_false, n_0, n_1, n_2, n_3, n_4, n_5, n_6, n_7, n_8, n_9, n_10, n_12, n_15, n_20, n_24, n_32, n_48, n_57, n_59, n_80, n_97, n_99, n_100, n_122, n_680, n_700, n_999, n_1023, n_1024, iI_neg, iI_add, iI_sub, iI_lt, iI_le, iI_eq, c1, c2, Int.toNat_natCast, hwas, hmem, sI_one hg10, hor, hmem2, h184, hqv, bI_0, Bool.true_eq_false, mxI (show u < 1000 by omega) (show k < 1000 by omega)]
            rw [show (iI ((cnt (9 - d) (cmb T) : Int) + 1)) = iI ((cnt (9 - d) (cmb T) : Int) + ((1 : Nat) : Int)) from rfl, a1]
            simp (maxSteps := 4000000) (disch := omega) only [Option.isSome_some, bI_0, Bool.true_eq_false, Option.bind_some, if_true, if_false, Sum.elim_inr, Option.elim]
      · by_cases q : (u : Int) < ((min (u + 1) most : Nat) : Int)
        · simp (maxSteps := 4000000) (disch := omega) only [Mo_parts_L13, Option.bind_some, if_true, if_false, n_0, n_1, n_2, n_3, n_4, n_5, n_6, n_7, n_8, n_9, n_10, n_12, n_15, n_20, n_24, n_32, n_48, n_57, n_59, n_80, n_97, n_99, n_100, n_122, n_680, n_700, n_999, n_1023, n_1024, iI_neg, iI_add, iI_sub, iI_lt, iI_le, iI_eq, q]
        · simp (maxSteps := 4000000) (disch := omega) only [Mo_parts_L13, Option.bind_some, if_true, if_false, n_0, n_1, n_2, n_3, n_4, n_5, n_6, n_7, n_8, n_9, n_10, n_12, n_15, n_20, n_24, n_32, n_48, n_57, n_59, n_80, n_97, n_99, n_100, n_122, n_680, n_700, n_999, n_1023, n_1024, iI_neg, iI_add, iI_sub, iI_lt, iI_le, iI_eq, q, show (most : Int) ≤ ((min (u + 1) most : Nat) : Int) by omega]
end
