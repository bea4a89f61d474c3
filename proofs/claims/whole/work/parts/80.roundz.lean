/-! ===== layer 2: rounds, model's answer ===== -/
section
variable {T : Tb} {I I' I'' : Nat → Nat → Int32} {J : Nat → Nat → Int64} {b : Bool} {f k n N x y z g t s h doors a l : Nat} {P : Nat → Nat → Option Nat} {m w : Int} {V0 V1 : hV}
noncomputable abbrev edT (T : Tb) (m : Int) (doors : Nat) : Nat → Nat → Bool := edG (abv T m 0) (cmb T) (ldT T m) (kaT T m) doors
theorem pow_nG : 0 < 2 ^ nG T m ∧ 2 ^ nG T m ≤ 1024 := ⟨Nat.two_pow_pos _, Nat.pow_le_pow_right (n := 2) (j := 10) (by decide) nG_le⟩
theorem fuM_lt : fuM T m < 2 ^ nG T m := bt_lt _ _
theorem rsM_lt : rsM T m h < 2 ^ nG T m := by
  have : sbs (rsM T m h) (fuM T m) := fun k hk => by
    rw [rsM_bit] at hk
    simp only [Bool.and_eq_true, decide_eq_true_eq] at hk
    unfold fuM
    rw [bt_bit]
    simp [hk.1]
  exact Nat.lt_of_le_of_lt (sbs_le this) fuM_lt
theorem fullI : shl (iI 1) (iI (nG T m : Int)) - iI 1 = iI (fuM T m : Int) := by
  have h1 := nG_le (T := T) (m := m)
  have h2 := pow_nG (T := T) (m := m)
  rw [oneI' _ (by omega), Int.toNat_natCast, iI_sub, fuM_is]
  congr 1
  omega
abbrev sR8 (o : Nat) : Prop := o ≠ 182
theorem EM.fr8 (E : EM T I) (h : frM zN sR8 I I') : EM T I' := E.frX h id id (fun o h1 h2 => by omega)
theorem gbM.fr {z s : Nat → Prop} (h : gbM T m I) (ha : frM z s I I') (h2 : s 181) : gbM T m I' := fun k hk => (ha.1 181 ⟨by omega, h2⟩ _).trans (h k hk)
theorem mo_goOn (E : EM T I) (V : TV T) (hr : rkM T m 0 I) (hg : gbM T m I) (hN : N < 2 ^ nG T m) (hNN : Dt (edT T m doors) N N ≠ -1) (hF : sbs N (fuM T m)) (hd : doors < 100) (hD : ∀ t, t < 2 ^ nG T m → I 182 t = iI (Dt (edT T m doors) N t)) : ∃ I', jloop (Mo_rounds_L108 S0 (some 132) (iI (doors : Int)) (iI (nG T m : Int), V0) (iI (N : Int), V1)) jN (iI (rsM T m N : Int), (I, J, Pst b f)) = some (I', J, Pst b f) ∧ frM zN sR8 I I' ∧ ∀ t, t < 2 ^ nG T m → I' 182 t = iI (Dt (edT T m doors) (N + 1) t) := by
  obtain ⟨⟨vA, vB⟩, ⟨vC, vD⟩, vE, vF⟩ := id V
  have hp := pow_nG (T := T) (m := m)
  have hnG := nG_le (T := T) (m := m)
  have hRl := rsM_lt (T := T) (m := m) (h := N)
  have hor : ∀ s, sbs s (rsM T m N) → N ||| s < 2 ^ nG T m := fun s hs => Nat.or_lt_two_pow hN (Nat.lt_of_le_of_lt (sbs_le hs) hRl)
  have hDr : ∀ M t, -1 ≤ Dt (edT T m doors) M t ∧ Dt (edT T m doors) M t ≤ M := fun M t => Dt_rg M t
  have key := jvar (body := Mo_rounds_L108 S0 (some 132) (iI (doors : Int)) (iI (nG T m : Int), V0) (iI (N : Int), V1)) (s0 := (iI (rsM T m N : Int), (I, J, Pst b f))) (fun n s => ∃ I', s = (iI (n : Int), (I', J, Pst b f)) ∧ sbs n (rsM T m N) ∧ frM zN sR8 I I' ∧ (∀ s', sbs s' (rsM T m N) → n < s' → I' 182 (N ||| s') = iI (Dt (edT T m doors) (N + 1) (N ||| s'))) ∧ ∀ t, t < 2 ^ nG T m → (∀ s', sbs s' (rsM T m N) → n < s' → t ≠ N ||| s') → I' 182 t = iI (Dt (edT T m doors) N t)) (fun r => ∃ I', r = (I', J, Pst b f) ∧ frM zN sR8 I I' ∧ ∀ t, t < 2 ^ nG T m → I' 182 t = iI (Dt (edT T m doors) (N + 1) t)) (rsM T m N) ⟨I, rfl, fun _ h => h, frM.refl _ _ _, fun s' h1 h2 => by have := sbs_le h1; omega, fun t ht _ => hD t ht⟩ (fun n s hn0 hs => ?_) (fun s hs => ?_) (by omega)
  · obtain ⟨r, h1, I1, h2, h3, h4⟩ := key
    exact ⟨I1, by rw [h1, h2], h3, h4⟩
  · obtain ⟨I1, rfl, hs1, ha, hc1, hc2⟩ := hs
    have E1 := E.fr8 ha
    have hr1 := hr.fr ha (by omega) (by omega)
    have hg1 := hg.fr ha (by omega)
    have hnl := sbs_le hs1
    have ht0 := hor n hs1
    have hne0 : n ≠ 0 := by omega
    have hold : I1 182 (N ||| n) = iI (Dt (edT T m doors) N (N ||| n)) := hc2 _ ht0 fun s' h1 h2 e => by
      have := orm_inj hs1 h1 e
      omega
    have hed := edm_t (doors := doors) vC vD hF hs1 hne0
    have hNe : ∀ s', sbs s' (rsM T m N) → 0 < s' → N ≠ N ||| s' := fun s' h1 h2 e => by
      have e' : N ||| 0 = N ||| s' := by rw [Nat.or_zero]; exact e
      have := orm_inj (fun k hk => by rw [Nat.zero_testBit] at hk; cases hk) h1 e'
      omega
    have holdN : I1 182 N = iI (Dt (edT T m doors) N N) := hc2 N hN fun s' h1 h2 => hNe s' h1 (by omega)
    have hlt : N < N ||| n := by
      have h1 : sbs N (N ||| n) := fun k hk => by rw [Nat.testBit_or, hk]; rfl
      have h2 := sbs_le h1
      have := hNe n hs1 hn0
      omega
    have hbn := mo_bitsOf (J := J) (b := b) (f := f) (h := n) vC vD hg1 (by omega)
    have hbN := mo_bitsOf (J := J) (b := b) (f := f) (h := N) vC vD hg1 (by omega)
    have hmg := mo_mayGo (J := J) (b := b) (f := f) (W := uT T m n) (D := uT T m N) E1 V hr1
    have hcl2 := cnt_le (uT T m n) 10
    have hr1' := hDr N N
    have hr2 := hDr N (N ||| n)
    have hst := Dt_s (edT T m doors) N (N ||| n)
    have hnx : (n : Int) - 1 = ((n - 1 : Nat) : Int) := by omega
    have hlt' : ((n - 1) &&& rsM T m N) < n := Nat.lt_of_le_of_lt Nat.and_le_left (by omega)
    have hrest : iI (fuM T m : Int) &&& (iI (N : Int) ^^^ iI (-1)) = iI (rsM T m N : Int) := nI_andn _ _
    have fin : ∀ I2, frM zN sR8 I1 I2 → I2 182 (N ||| n) = iI (Dt (edT T m doors) (N + 1) (N ||| n)) → (∀ t, t ≠ N ||| n → I2 182 t = I1 182 t) → Mo_rounds_L108 S0 (some 132) (iI (doors : Int)) (iI (nG T m : Int), V0) (iI (N : Int), V1) (iI (n : Int), (I1, J, Pst b f)) = some (.inl (iI (((n - 1) &&& rsM T m N : Nat) : Int), (I2, J, Pst b f))) → wp (Mo_rounds_L108 S0 (some 132) (iI (doors : Int)) (iI (nG T m : Int), V0) (iI (N : Int), V1) (iI (n : Int), (I1, J, Pst b f))) (fun x => Sum.elim (fun s' => ∃ n', n' < n ∧ ∃ I', s' = (iI (n' : Int), (I', J, Pst b f)) ∧ sbs n' (rsM T m N) ∧ frM zN sR8 I I' ∧ (∀ s', sbs s' (rsM T m N) → n' < s' → I' 182 (N ||| s') = iI (Dt (edT T m doors) (N + 1) (N ||| s'))) ∧ ∀ t, t < 2 ^ nG T m → (∀ s', sbs s' (rsM T m N) → n' < s' → t ≠ N ||| s') → I' 182 t = iI (Dt (edT T m doors) N t)) (fun r => ∃ I', r = (I', J, Pst b f) ∧ frM zN sR8 I I' ∧ ∀ t, t < 2 ^ nG T m → I' 182 t = iI (Dt (edT T m doors) (N + 1) t)) x) := by
      intro I2 f1 f2 f3 f4
      refine ⟨_, f4, _, hlt', I2, rfl, sbs_and _ _, ha.trans f1, fun s' h1 h2 => ?_, fun t ht hq => ?_⟩
      · by_cases e : s' = n
        · rw [e]; exact f2
        · rcases Nat.lt_or_ge s' n with q | q
          · have := sub_next (n + 1) n _ s' (by omega) hn0 hs1 h1 q
            omega
          · rw [f3 _ fun e2 => e (orm_inj h1 hs1 e2)]
            exact hc1 s' h1 (by omega)
      · rw [f3 t (hq n hs1 hlt')]
        exact hc2 t ht fun s' h1 h2 => hq s' h1 (by omega)
    by_cases c4 : cnt 10 (uT T m n) ≤ doors
    · cases c5 : mgo T m (uT T m n) (uT T m N)
      · rw [if_neg fun q => by have := (hed.mp q.2.2.1).2; rw [c5] at this; cases this] at hst
        refine fin I1 (frM.refl _ _ _) (by rw [hst]; exact hold) (fun t _ => rfl) ?_
        simp (maxSteps := 4000000) (disch := omega) only [Mo_rounds_L108, Option.bind_some, if_true, if_false, n_0, n_1, iI_neg, iI_lt, iI_le, iI_eq, show ¬ (n : Int) ≤ 0 by omega, hbn, sI_cnt, show ¬ (doors : Int) < (cnt 10 (uT T m n) : Int) by omega, hbN, hmg, c5, bI_0, fullI, hrest, iI_sub, hnx, nI_and]
      · by_cases c0 : Dt (edT T m doors) N (N ||| n) = -1 ∨ Dt (edT T m doors) N N + 1 < Dt (edT T m doors) N (N ||| n)
        · rw [if_pos ⟨hNN, hlt, hed.mpr ⟨c4, c5⟩, c0⟩] at hst
          refine fin (hup I1 182 (N ||| n) (iI (Dt (edT T m doors) N N + 1))) ((frM.refl zN sR8 I1).wr (by omega) (by omega)) (by rw [hup_same, hst]) (fun t ht => hup_ix _ _ _ ht) ?_
          by_cases c1 : Dt (edT T m doors) N (N ||| n) = -1
          · simp (maxSteps := 4000000) (disch := omega) only [Mo_rounds_L108, rc132, gi132, gl132, pi132, pl132, pz132, pr132, gr132_0, gr132_6, gr132_7, gr132_8, gr132_9, gr132_10, gr132_11, gr132_12, gr132_13, gr132_14, gr132_15, gr132_16, gr132_17, gr132_18, gr132_19, gr132_20, gr132_21, gr132_22, gr132_23, gr132_24, gr132_25, gr132_27, gr132_28, gr132_29, gr132_30, gr132_32, gr132_33, gr132_34, gr132_35, gr132_36, gr132_37, gr132_38, gr132_39, gr132_40, gr132_41, gr132_42, gr132_44, gr132_45, gr132_46, gr132_47, gr132_48, gr132_49, gr132_50, gr132_51, gr132_61, gr132_62, gr132_63, ar134_0, ar134_1, ar137_0, ar137_1, ar140_0, ar140_1, ar143_0, ar143_1, ar146_0, ar146_1, ar149_0, ar149_1, ar152_0, ar152_1, ar155_0, ar155_1, ar158_0, ar158_1, ar164_0, ar164_1, ar164_2, ar164_3, ar164_4, ar164_5, ar164_6, ar164_7, ar164_8, ld133, st133, an133, an134, ld135, st135, an135, ld136, st136, an136, an137, ld138, st138, an138, ld139, st139, an139, an140, ld141, st141, an141, ld142, st142, an142, an143, ld144, st144, an144, ld145, st145, an145, an146, ld147, st147, an147, ld148, st148, an148, an149, ld150, st150, an150, ld151, st151, an151, an152, ld153, st153, an153, ld154, st154, an154, an155, ld156, st156, an156, ld157, st157, an157, an158, ld159, st159, an159, ld160, st160, an160, ld161, st161, an161, ld162, st162, an162, ld163, st163, an163, an164, ld165, st165, an165, ld166, st166, an166, ld167, st167, an167, ld168, st168, an168, ld169, st169, an169, ld170, st170, an170, ld171, st171, an171, ld172, st172, an172, ld173, st173, an173, ld174, st174, an174, ld175, st175, an175, ld176, st176, an176, ld177, st177, an177, ld178, st178, an178, ld179, st179, an179, ld180, st180, an180, ld181, st181, an181, ld182, st182, an182, ld183, st183, an183, ld184, st184, an184, ld185, st185, an185, ld186, st186, an186, ld187, st187, an187, ld188, st188, an188, ld189, st189, an189, ld190, st190, an190, ld191, st191, an191, ld192, st192, an192, ld193, st193, an193, ld194, st194, an194, ld195, st195, an195, ld196, st196, an196, ld197, st197, an197, Option.bind_some, if_true, if_false, n_0, n_1, iI_neg, iI_add, iI_lt, iI_le, iI_eq, show ¬ (n : Int) ≤ 0 by omega, hbn, sI_cnt, show ¬ (doors : Int) < (cnt 10 (uT T m n) : Int) by omega, hbN, hmg, c5, bI_0, Bool.true_eq_false, nI_or, Int.toNat_natCast, hold, c1, Sum.elim_inl, holdN, fullI, hrest, iI_sub, hnx, nI_and]
          · simp (maxSteps := 4000000) (disch := omega) only [Mo_rounds_L108, rc132, gi132, gl132, pi132, pl132, pz132, pr132, gr132_0, gr132_6, gr132_7, gr132_8, gr132_9, gr132_10, gr132_11, gr132_12, gr132_13, gr132_14, gr132_15, gr132_16, gr132_17, gr132_18, gr132_19, gr132_20, gr132_21, gr132_22, gr132_23, gr132_24, gr132_25, gr132_27, gr132_28, gr132_29, gr132_30, gr132_32, gr132_33, gr132_34, gr132_35, gr132_36, gr132_37, gr132_38, gr132_39, gr132_40, gr132_41, gr132_42, gr132_44, gr132_45, gr132_46, gr132_47, gr132_48, gr132_49, gr132_50, gr132_51, gr132_61, gr132_62, gr132_63, ar134_0, ar134_1, ar137_0, ar137_1, ar140_0, ar140_1, ar143_0, ar143_1, ar146_0, ar146_1, ar149_0, ar149_1, ar152_0, ar152_1, ar155_0, ar155_1, ar158_0, ar158_1, ar164_0, ar164_1, ar164_2, ar164_3, ar164_4, ar164_5, ar164_6, ar164_7, ar164_8, ld133, st133, an133, an134, ld135, st135, an135, ld136, st136, an136, an137, ld138, st138, an138, ld139, st139, an139, an140, ld141, st141, an141, ld142, st142, an142, an143, ld144, st144, an144, ld145, st145, an145, an146, ld147, st147, an147, ld148, st148, an148, an149, ld150, st150, an150, ld151, st151, an151, an152, ld153, st153, an153, ld154, st154, an154, an155, ld156, st156, an156, ld157, st157, an157, an158, ld159, st159, an159, ld160, st160, an160, ld161, st161, an161, ld162, st162, an162, ld163, st163, an163, an164, ld165, st165, an165, ld166, st166, an166, ld167, st167, an167, ld168, st168, an168, ld169, st169, an169, ld170, st170, an170, ld171, st171, an171, ld172, st172, an172, ld173, st173, an173, ld174, st174, an174, ld175, st175, an175, ld176, st176, an176, ld177, st177, an177, ld178, st178, an178, ld179, st179, an179, ld180, st180, an180, ld181, st181, an181, ld182, st182, an182, ld183, st183, an183, ld184, st184, an184, ld185, st185, an185, ld186, st186, an186, ld187, st187, an187, ld188, st188, an188, ld189, st189, an189, ld190, st190, an190, ld191, st191, an191, ld192, st192, an192, ld193, st193, an193, ld194, st194, an194, ld195, st195, an195, ld196, st196, an196, ld197, st197, an197, Option.bind_some, if_true, if_false, n_0, n_1, iI_neg, iI_add, iI_lt, iI_le, iI_eq, show ¬ (n : Int) ≤ 0 by omega, hbn, sI_cnt, show ¬ (doors : Int) < (cnt 10 (uT T m n) : Int) by omega, hbN, hmg, c5, bI_0, Bool.true_eq_false, nI_or, Int.toNat_natCast, hold, c1, holdN, show ¬ Dt (edT T m doors) N (N ||| n) ≤ Dt (edT T m doors) N N + 1 by omega, Sum.elim_inl, fullI, hrest, iI_sub, hnx, nI_and]
        · rw [if_neg fun q => c0 q.2.2.2] at hst
          refine fin I1 (frM.refl _ _ _) (by rw [hst]; exact hold) (fun t _ => rfl) ?_
          simp (maxSteps := 4000000) (disch := omega) only [Mo_rounds_L108, rc132, gi132, gl132, pi132, pl132, pz132, pr132, gr132_0, gr132_6, gr132_7, gr132_8, gr132_9, gr132_10, gr132_11, gr132_12, gr132_13, gr132_14, gr132_15, gr132_16, gr132_17, gr132_18, gr132_19, gr132_20, gr132_21, gr132_22, gr132_23, gr132_24, gr132_25, gr132_27, gr132_28, gr132_29, gr132_30, gr132_32, gr132_33, gr132_34, gr132_35, gr132_36, gr132_37, gr132_38, gr132_39, gr132_40, gr132_41, gr132_42, gr132_44, gr132_45, gr132_46, gr132_47, gr132_48, gr132_49, gr132_50, gr132_51, gr132_61, gr132_62, gr132_63, ar134_0, ar134_1, ar137_0, ar137_1, ar140_0, ar140_1, ar143_0, ar143_1, ar146_0, ar146_1, ar149_0, ar149_1, ar152_0, ar152_1, ar155_0, ar155_1, ar158_0, ar158_1, ar164_0, ar164_1, ar164_2, ar164_3, ar164_4, ar164_5, ar164_6, ar164_7, ar164_8, ld133, st133, an133, an134, ld135, st135, an135, ld136, st136, an136, an137, ld138, st138, an138, ld139, st139, an139, an140, ld141, st141, an141, ld142, st142, an142, an143, ld144, st144, an144, ld145, st145, an145, an146, ld147, st147, an147, ld148, st148, an148, an149, ld150, st150, an150, ld151, st151, an151, an152, ld153, st153, an153, ld154, st154, an154, an155, ld156, st156, an156, ld157, st157, an157, an158, ld159, st159, an159, ld160, st160, an160, ld161, st161, an161, ld162, st162, an162, ld163, st163, an163, an164, ld165, st165, an165, ld166, st166, an166, ld167, st167, an167, ld168, st168, an168, ld169, st169, an169, ld170, st170, an170, ld171, st171, an171, ld172, st172, an172, ld173, st173, an173, ld174, st174, an174, ld175, st175, an175, ld176, st176, an176, ld177, st177, an177, ld178, st178, an178, ld179, st179, an179, ld180, st180, an180, ld181, st181, an181, ld182, st182, an182, ld183, st183, an183, ld184, st184, an184, ld185, st185, an185, ld186, st186, an186, ld187, st187, an187, ld188, st188, an188, ld189, st189, an189, ld190, st190, an190, ld191, st191, an191, ld192, st192, an192, ld193, st193, an193, ld194, st194, an194, ld195, st195, an195, ld196, st196, an196, ld197, st197, an197, Option.bind_some, if_true, if_false, n_0, n_1, iI_neg, iI_add, iI_lt, iI_le, iI_eq, show ¬ (n : Int) ≤ 0 by omega, hbn, sI_cnt, show ¬ (doors : Int) < (cnt 10 (uT T m n) : Int) by omega, hbN, hmg, c5, bI_0, Bool.true_eq_false, nI_or, Int.toNat_natCast, hold, show ¬ Dt (edT T m doors) N (N ||| n) = -1 by omega, holdN, show Dt (edT T m doors) N (N ||| n) ≤ Dt (edT T m doors) N N + 1 by omega, Sum.elim_inr, fullI, hrest, iI_sub, hnx, nI_and]
    · rw [if_neg fun q => c4 (hed.mp q.2.2.1).1] at hst
      refine fin I1 (frM.refl _ _ _) (by rw [hst]; exact hold) (fun t _ => rfl) ?_
      simp (maxSteps := 4000000) (disch := omega) only [Mo_rounds_L108, Option.bind_some, if_true, if_false, n_0, n_1, iI_neg, iI_lt, iI_le, iI_eq, show ¬ (n : Int) ≤ 0 by omega, hbn, sI_cnt, show (doors : Int) < (cnt 10 (uT T m n) : Int) by omega, fullI, hrest, iI_sub, hnx, nI_and]
  · obtain ⟨I1, rfl, hs1, ha, hc1, hc2⟩ := hs
    refine ⟨.inr (I1, J, Pst b f), ?_, I1, rfl, ha, fun t ht => ?_⟩
    · simp (maxSteps := 4000000) (disch := omega) only [Mo_rounds_L108, Option.bind_some, if_true, if_false, n_0, iI_lt, iI_le, iI_eq, show ((0 : Nat) : Int) ≤ 0 by omega]
    · by_cases q : ∃ s', sbs s' (rsM T m N) ∧ 0 < s' ∧ t = N ||| s'
      · obtain ⟨s', q1, q2, q3⟩ := q
        rw [q3]; exact hc1 s' q1 q2
      · rw [hc2 t ht fun s' h1 h2 e => q ⟨s', h1, h2, e⟩, Dt_s, if_neg]
        rintro ⟨_, _, h3, _⟩
        obtain ⟨n, e1, e2, e3⟩ := edm_c vC vD h3
        exact q ⟨n, e2, by omega, e3⟩
theorem uT_full (ht : tvC T) (hv : tvD T) (hy : y < 10) : uT T m (fuM T m) y = cmb T y := by
  unfold uT uS
  cases e : cmb T y
  · simp only [Bool.false_and]
  · have := (ldO_ka (m := m) ht hv).2.2 y hy e
    unfold fuM
    rw [bt_bit]
    simp only [Bool.true_and, Bool.and_true, decide_eq_true_eq]
    exact this
abbrev sRd (o : Nat) : Prop := o < 176 ∨ (177 < o ∧ o < 180) ∨ 182 < o
theorem mo_rounds (E : EM T I) (V : TV T) (hm : rg m) (hw : rg w) : ∃ I', Mo_rounds S0 (some 132) (iI m) (iI w) (I, J, Pst b f) = some (iI (rdR T m w), (I', J, Pst b f)) ∧ frM zN sRd I I' := by
  obtain ⟨⟨eA, eB⟩, ⟨eC, eD⟩, eE⟩ := id E
  obtain ⟨⟨vA, vB⟩, ⟨vC, vD⟩, vE, vF⟩ := id V
  have hB := vB.1
  have hp := pow_nG (T := T) (m := m)
  have hnG := nG_le (T := T) (m := m)
  have hw' := hw
  unfold rg at hw'
  by_cases z1 : isM T m
  · by_cases z2 : 1 ≤ w ∧ w ≤ 4
    · have hR : rdR T m w = rdV (abv T m 0) (cmb T) (ldT T m) w.toNat := if_pos ⟨z1, z2⟩
      rw [hR]
      obtain ⟨I1, a1, a2, a3⟩ := mo_ranks (J := J) (b := b) (f := f) (m := m) (B := 0) E V (by omega) (by omega)
      rw [show ((0 : Nat) : Int) = 0 from rfl] at a1
      have E1 := E.frR a2
      obtain ⟨I2, b1, b2, b3⟩ := mo_groups (J := J) (b := b) (f := f) E1 V a3
      have E2 : EM T I2 := E1.frX b2 id id (fun o h1 h2 => by omega)
      have r2 := a3.fr b2 (by omega) (by omega)
      have first : ∃ I3, jloop (Mo_rounds_L36 S0 (some 132) (iI (nG T m : Int), (I2, J, Pst b f))) jN (iI 0, (I2, J, Pst b f)) = some (I3, J, Pst b f) ∧ frM zN sR8 I2 I3 ∧ ∀ t, t < 2 ^ nG T m → I3 182 t = iI (Dt (edT T m w.toNat) 0 t) := by
        refine jheap (J := J) (P := Pst b f) (I := I2) (fun k I' => frM zN sR8 I2 I' ∧ ∀ t, t < k → I' 182 t = iI (Dt (edT T m w.toNat) 0 t)) 0 (2 ^ nG T m) ⟨frM.refl _ _ _, fun x hx => by omega⟩ (by omega) (by omega) (fun k I3 _ hk q1 => ?_) (fun I3 q1 => ?_)
        · have hj : ((if (k : Int) = 0 then some (iI 0) else some (iI (-1))) : Option Int32) = some (iI (Dt (edT T m w.toNat) 0 k)) := by
            unfold Dt
            by_cases e : k = 0
            · rw [if_pos (by omega), if_pos e]
            · rw [if_neg (by omega), if_neg e]
          refine ⟨hup I3 182 k (iI (Dt (edT T m w.toNat) 0 k)), ?_, q1.1.wr (by omega) (by omega), fun t ht => ?_⟩
          · simp (maxSteps := 4000000) (disch := omega) only [Mo_rounds_L36, rc132, gi132, gl132, pi132, pl132, pz132, pr132, gr132_0, gr132_6, gr132_7, gr132_8, gr132_9, gr132_10, gr132_11, gr132_12, gr132_13, gr132_14, gr132_15, gr132_16, gr132_17, gr132_18, gr132_19, gr132_20, gr132_21, gr132_22, gr132_23, gr132_24, gr132_25, gr132_27, gr132_28, gr132_29, gr132_30, gr132_32, gr132_33, gr132_34, gr132_35, gr132_36, gr132_37, gr132_38, gr132_39, gr132_40, gr132_41, gr132_42, gr132_44, gr132_45, gr132_46, gr132_47, gr132_48, gr132_49, gr132_50, gr132_51, gr132_61, gr132_62, gr132_63, ar134_0, ar134_1, ar137_0, ar137_1, ar140_0, ar140_1, ar143_0, ar143_1, ar146_0, ar146_1, ar149_0, ar149_1, ar152_0, ar152_1, ar155_0, ar155_1, ar158_0, ar158_1, ar164_0, ar164_1, ar164_2, ar164_3, ar164_4, ar164_5, ar164_6, ar164_7, ar164_8, ld133, st133, an133, an134, ld135, st135, an135, ld136, st136, an136, an137, ld138, st138, an138, ld139, st139, an139, an140, ld141, st141, an141, ld142, st142, an142, an143, ld144, st144, an144, ld145, st145, an145, an146, ld147, st147, an147, ld148, st148, an148, an149, ld150, st150, an150, ld151, st151, an151, an152, ld153, st153, an153, ld154, st154, an154, an155, ld156, st156, an156, ld157, st157, an157, an158, ld159, st159, an159, ld160, st160, an160, ld161, st161, an161, ld162, st162, an162, ld163, st163, an163, an164, ld165, st165, an165, ld166, st166, an166, ld167, st167, an167, ld168, st168, an168, ld169, st169, an169, ld170, st170, an170, ld171, st171, an171, ld172, st172, an172, ld173, st173, an173, ld174, st174, an174, ld175, st175, an175, ld176, st176, an176, ld177, st177, an177, ld178, st178, an178, ld179, st179, an179, ld180, st180, an180, ld181, st181, an181, ld182, st182, an182, ld183, st183, an183, ld184, st184, an184, ld185, st185, an185, ld186, st186, an186, ld187, st187, an187, ld188, st188, an188, ld189, st189, an189, ld190, st190, an190, ld191, st191, an191, ld192, st192, an192, ld193, st193, an193, ld194, st194, an194, ld195, st195, an195, ld196, st196, an196, ld197, st197, an197, Option.bind_some, if_true, if_false, n_0, n_1, n_2, n_3, n_4, n_5, n_6, n_7, n_8, n_9, n_10, n_12, n_15, n_20, n_24, n_32, n_48, n_57, n_59, n_80, n_97, n_99, n_100, n_122, n_680, n_700, n_999, n_1023, n_1024, iI_neg, iI_add, iI_sub, iI_lt, iI_le, iI_eq, oneI', Int.toNat_natCast, show ¬ ((2 ^ nG T m : Nat) : Int) ≤ (k : Int) by omega, hj]
          · by_cases e : t = k
            · subst e; rw [hup_same]
            · rw [hup_ix _ _ _ e]; exact q1.2 t (by omega)
        · simp (maxSteps := 4000000) (disch := omega) only [Mo_rounds_L36, Option.bind_some, if_true, if_false, n_0, n_1, n_2, n_3, n_4, n_5, n_6, n_7, n_8, n_9, n_10, n_12, n_15, n_20, n_24, n_32, n_48, n_57, n_59, n_80, n_97, n_99, n_100, n_122, n_680, n_700, n_999, n_1023, n_1024, iI_neg, iI_add, iI_sub, iI_lt, iI_le, iI_eq, oneI', Int.toNat_natCast, show ((2 ^ nG T m : Nat) : Int) ≤ ((2 ^ nG T m : Nat) : Int) by omega]
      obtain ⟨I3, c1, c2, c3⟩ := first
      have key := jheap (J := J) (P := Pst b f) (I := I3) (body := Mo_rounds_L70 S0 (some 132) (iI w) (iI (nG T m : Int), (I2, J, Pst b f))) (fun N I' => frM zN sR8 I2 I' ∧ ∀ t, t < 2 ^ nG T m → I' 182 t = iI (Dt (edT T m w.toNat) N t)) 0 (2 ^ nG T m) ⟨c2, c3⟩ (by omega) (by omega) (fun N I4 _ hN q1 => ?_) (fun I4 q1 => ?_)
      · obtain ⟨I4, e1, e2, e3⟩ := key
        have e1' : jloop (Mo_rounds_L70 S0 (some 132) (iI w) (iI (nG T m : Int), (I2, J, Pst b f))) jN (iI 0, (I3, J, Pst b f)) = some (I4, J, Pst b f) := e1
        refine ⟨I4, ?_, ((a2.sub (fun k h => h) fun o _ h => by omega).trans (b2.sub (fun k h => h) fun o _ h => by omega)).trans (e2.sub (fun k h => h) fun o _ h => by omega)⟩
        have hfl := fuM_lt (T := T) (m := m)
        have hv : Dt (edT T m w.toNat) (2 ^ nG T m) (fuM T m) = rdV (abv T m 0) (cmb T) (ldT T m) w.toNat := Dt_rdV (ldO_ka vC vD) (fun s t => edG_iff) (by omega) ((inF_fu vC vD).mpr fun _ h => h) (fun y hy => uT_full vC vD hy)
        simp (maxSteps := 4000000) (disch := omega) only [Mo_rounds, rc132, gi132, gl132, pi132, pl132, pz132, pr132, gr132_0, gr132_6, gr132_7, gr132_8, gr132_9, gr132_10, gr132_11, gr132_12, gr132_13, gr132_14, gr132_15, gr132_16, gr132_17, gr132_18, gr132_19, gr132_20, gr132_21, gr132_22, gr132_23, gr132_24, gr132_25, gr132_27, gr132_28, gr132_29, gr132_30, gr132_32, gr132_33, gr132_34, gr132_35, gr132_36, gr132_37, gr132_38, gr132_39, gr132_40, gr132_41, gr132_42, gr132_44, gr132_45, gr132_46, gr132_47, gr132_48, gr132_49, gr132_50, gr132_51, gr132_61, gr132_62, gr132_63, ar134_0, ar134_1, ar137_0, ar137_1, ar140_0, ar140_1, ar143_0, ar143_1, ar146_0, ar146_1, ar149_0, ar149_1, ar152_0, ar152_1, ar155_0, ar155_1, ar158_0, ar158_1, ar164_0, ar164_1, ar164_2, ar164_3, ar164_4, ar164_5, ar164_6, ar164_7, ar164_8, ld133, st133, an133, an134, ld135, st135, an135, ld136, st136, an136, an137, ld138, st138, an138, ld139, st139, an139, an140, ld141, st141, an141, ld142, st142, an142, an143, ld144, st144, an144, ld145, st145, an145, an146, ld147, st147, an147, ld148, st148, an148, an149, ld150, st150, an150, ld151, st151, an151, an152, ld153, st153, an153, ld154, st154, an154, an155, ld156, st156, an156, ld157, st157, an157, an158, ld159, st159, an159, ld160, st160, an160, ld161, st161, an161, ld162, st162, an162, ld163, st163, an163, an164, ld165, st165, an165, ld166, st166, an166, ld167, st167, an167, ld168, st168, an168, ld169, st169, an169, ld170, st170, an170, ld171, st171, an171, ld172, st172, an172, ld173, st173, an173, ld174, st174, an174, ld175, st175, an175, ld176, st176, an176, ld177, st177, an177, ld178, st178, an178, ld179, st179, an179, ld180, st180, an180, ld181, st181, an181, ld182, st182, an182, ld183, st183, an183, ld184, st184, an184, ld185, st185, an185, ld186, st186, an186, ld187, st187, an187, ld188, st188, an188, ld189, st189, an189, ld190, st190, an190, ld191, st191, an191, ld192, st192, an192, ld193, st193, an193, ld194, st194, an194, ld195, st195, an195, ld196, st196, an196, ld197, st197, an197, Option.bind_some, if_true, if_false, n_0, n_1, mo_isRoom eB vB hm, bI_0, decide_eq_false_iff_not, iff_true_intro z1, not_true, l_1, l_4, lI_of, Mo_inI, iff_true_intro z2, a1, b1, c1, e1', fullI, Int.toNat_natCast, e3 _ hfl, hv]
      · have hv := q1.2 N hN
        have hr := Dt_rg (ed := edT T m w.toNat) N N
        by_cases e : Dt (edT T m w.toNat) N N = -1
        · refine ⟨I4, ?_, q1.1, fun t ht => ?_⟩
          · simp (maxSteps := 4000000) (disch := omega) only [Mo_rounds_L70, rc132, gi132, gl132, pi132, pl132, pz132, pr132, gr132_0, gr132_6, gr132_7, gr132_8, gr132_9, gr132_10, gr132_11, gr132_12, gr132_13, gr132_14, gr132_15, gr132_16, gr132_17, gr132_18, gr132_19, gr132_20, gr132_21, gr132_22, gr132_23, gr132_24, gr132_25, gr132_27, gr132_28, gr132_29, gr132_30, gr132_32, gr132_33, gr132_34, gr132_35, gr132_36, gr132_37, gr132_38, gr132_39, gr132_40, gr132_41, gr132_42, gr132_44, gr132_45, gr132_46, gr132_47, gr132_48, gr132_49, gr132_50, gr132_51, gr132_61, gr132_62, gr132_63, ar134_0, ar134_1, ar137_0, ar137_1, ar140_0, ar140_1, ar143_0, ar143_1, ar146_0, ar146_1, ar149_0, ar149_1, ar152_0, ar152_1, ar155_0, ar155_1, ar158_0, ar158_1, ar164_0, ar164_1, ar164_2, ar164_3, ar164_4, ar164_5, ar164_6, ar164_7, ar164_8, ld133, st133, an133, an134, ld135, st135, an135, ld136, st136, an136, an137, ld138, st138, an138, ld139, st139, an139, an140, ld141, st141, an141, ld142, st142, an142, an143, ld144, st144, an144, ld145, st145, an145, an146, ld147, st147, an147, ld148, st148, an148, an149, ld150, st150, an150, ld151, st151, an151, an152, ld153, st153, an153, ld154, st154, an154, an155, ld156, st156, an156, ld157, st157, an157, an158, ld159, st159, an159, ld160, st160, an160, ld161, st161, an161, ld162, st162, an162, ld163, st163, an163, an164, ld165, st165, an165, ld166, st166, an166, ld167, st167, an167, ld168, st168, an168, ld169, st169, an169, ld170, st170, an170, ld171, st171, an171, ld172, st172, an172, ld173, st173, an173, ld174, st174, an174, ld175, st175, an175, ld176, st176, an176, ld177, st177, an177, ld178, st178, an178, ld179, st179, an179, ld180, st180, an180, ld181, st181, an181, ld182, st182, an182, ld183, st183, an183, ld184, st184, an184, ld185, st185, an185, ld186, st186, an186, ld187, st187, an187, ld188, st188, an188, ld189, st189, an189, ld190, st190, an190, ld191, st191, an191, ld192, st192, an192, ld193, st193, an193, ld194, st194, an194, ld195, st195, an195, ld196, st196, an196, ld197, st197, an197, Option.bind_some, if_true, if_false, n_0, n_1, n_2, n_3, n_4, n_5, n_6, n_7, n_8, n_9, n_10, n_12, n_15, n_20, n_24, n_32, n_48, n_57, n_59, n_80, n_97, n_99, n_100, n_122, n_680, n_700, n_999, n_1023, n_1024, iI_neg, iI_add, iI_sub, iI_lt, iI_le, iI_eq, oneI', Int.toNat_natCast, show ¬ ((2 ^ nG T m : Nat) : Int) ≤ (N : Int) by omega, hv, e]
          · rw [q1.2 t ht, Dt_s, if_neg fun q => q.1 e]
        · have hF : sbs N (fuM T m) := by
            rcases Dt_end (ed := edT T m w.toNat) (t := N) (Nat.le_refl N) with ⟨h1, _⟩ | ⟨k, h1, h2, h3⟩
            · exact absurd h1 e
            · exact (inF_fu vC vD).mp (pth_up h2 fun s t q => (edG_iff.mp q).2.1)
          obtain ⟨I5, d1, d2, d3⟩ := mo_goOn (J := J) (b := b) (f := f) (V0 := (I2, J, Pst b f)) (V1 := (I4, J, Pst b f)) (E2.fr8 q1.1) V (r2.fr q1.1 (by omega) (by omega)) (b3.fr q1.1 (by omega)) hN e hF (show w.toNat < 100 by omega) q1.2
          rw [show ((w.toNat : Nat) : Int) = w by omega] at d1
          have hrest : iI (fuM T m : Int) &&& (iI (N : Int) ^^^ iI (-1)) = iI (rsM T m N : Int) := nI_andn _ _
          refine ⟨I5, ?_, q1.1.trans d2, d3⟩
          have h1024 : ¬ iI ((2 ^ nG T m : Nat) : Int) ≤ iI (N : Int) := by rw [iI_le (by omega)]; omega
          have hone : shl (iI 1) (iI (nG T m : Int)) = iI ((2 ^ nG T m : Nat) : Int) := by rw [oneI' _ (by omega), Int.toNat_natCast]
          have hfu : iI ((2 ^ nG T m : Nat) : Int) - iI 1 = iI (fuM T m : Int) := by rw [← hone]; exact fullI
          simp (maxSteps := 4000000) (disch := omega) only [Mo_rounds_L70, rc132, gi132, gl132, pi132, pl132, pz132, pr132, gr132_0, gr132_6, gr132_7, gr132_8, gr132_9, gr132_10, gr132_11, gr132_12, gr132_13, gr132_14, gr132_15, gr132_16, gr132_17, gr132_18, gr132_19, gr132_20, gr132_21, gr132_22, gr132_23, gr132_24, gr132_25, gr132_27, gr132_28, gr132_29, gr132_30, gr132_32, gr132_33, gr132_34, gr132_35, gr132_36, gr132_37, gr132_38, gr132_39, gr132_40, gr132_41, gr132_42, gr132_44, gr132_45, gr132_46, gr132_47, gr132_48, gr132_49, gr132_50, gr132_51, gr132_61, gr132_62, gr132_63, ar134_0, ar134_1, ar137_0, ar137_1, ar140_0, ar140_1, ar143_0, ar143_1, ar146_0, ar146_1, ar149_0, ar149_1, ar152_0, ar152_1, ar155_0, ar155_1, ar158_0, ar158_1, ar164_0, ar164_1, ar164_2, ar164_3, ar164_4, ar164_5, ar164_6, ar164_7, ar164_8, ld133, st133, an133, an134, ld135, st135, an135, ld136, st136, an136, an137, ld138, st138, an138, ld139, st139, an139, an140, ld141, st141, an141, ld142, st142, an142, an143, ld144, st144, an144, ld145, st145, an145, an146, ld147, st147, an147, ld148, st148, an148, an149, ld150, st150, an150, ld151, st151, an151, an152, ld153, st153, an153, ld154, st154, an154, an155, ld156, st156, an156, ld157, st157, an157, an158, ld159, st159, an159, ld160, st160, an160, ld161, st161, an161, ld162, st162, an162, ld163, st163, an163, an164, ld165, st165, an165, ld166, st166, an166, ld167, st167, an167, ld168, st168, an168, ld169, st169, an169, ld170, st170, an170, ld171, st171, an171, ld172, st172, an172, ld173, st173, an173, ld174, st174, an174, ld175, st175, an175, ld176, st176, an176, ld177, st177, an177, ld178, st178, an178, ld179, st179, an179, ld180, st180, an180, ld181, st181, an181, ld182, st182, an182, ld183, st183, an183, ld184, st184, an184, ld185, st185, an185, ld186, st186, an186, ld187, st187, an187, ld188, st188, an188, ld189, st189, an189, ld190, st190, an190, ld191, st191, an191, ld192, st192, an192, ld193, st193, an193, ld194, st194, an194, ld195, st195, an195, ld196, st196, an196, ld197, st197, an197, Option.bind_some, if_true, if_false, n_0, n_1, hone, h1024, iI_add, hfu, iI_neg, iI_eq, hrest, Int.toNat_natCast, hv, e, d1]
      · simp (maxSteps := 4000000) (disch := omega) only [Mo_rounds_L70, Option.bind_some, if_true, if_false, n_0, n_1, n_2, n_3, n_4, n_5, n_6, n_7, n_8, n_9, n_10, n_12, n_15, n_20, n_24, n_32, n_48, n_57, n_59, n_80, n_97, n_99, n_100, n_122, n_680, n_700, n_999, n_1023, n_1024, iI_neg, iI_add, iI_sub, iI_lt, iI_le, iI_eq, oneI', Int.toNat_natCast, show ((2 ^ nG T m : Nat) : Int) ≤ ((2 ^ nG T m : Nat) : Int) by omega]
    · have hR : rdR T m w = -1 := if_neg fun q => z2 q.2
      rw [hR]
      refine ⟨I, ?_, frM.refl _ _ _⟩
      simp (maxSteps := 4000000) (disch := omega) only [Mo_rounds, rc132, gi132, gl132, pi132, pl132, pz132, pr132, gr132_0, gr132_6, gr132_7, gr132_8, gr132_9, gr132_10, gr132_11, gr132_12, gr132_13, gr132_14, gr132_15, gr132_16, gr132_17, gr132_18, gr132_19, gr132_20, gr132_21, gr132_22, gr132_23, gr132_24, gr132_25, gr132_27, gr132_28, gr132_29, gr132_30, gr132_32, gr132_33, gr132_34, gr132_35, gr132_36, gr132_37, gr132_38, gr132_39, gr132_40, gr132_41, gr132_42, gr132_44, gr132_45, gr132_46, gr132_47, gr132_48, gr132_49, gr132_50, gr132_51, gr132_61, gr132_62, gr132_63, ar134_0, ar134_1, ar137_0, ar137_1, ar140_0, ar140_1, ar143_0, ar143_1, ar146_0, ar146_1, ar149_0, ar149_1, ar152_0, ar152_1, ar155_0, ar155_1, ar158_0, ar158_1, ar164_0, ar164_1, ar164_2, ar164_3, ar164_4, ar164_5, ar164_6, ar164_7, ar164_8, ld133, st133, an133, an134, ld135, st135, an135, ld136, st136, an136, an137, ld138, st138, an138, ld139, st139, an139, an140, ld141, st141, an141, ld142, st142, an142, an143, ld144, st144, an144, ld145, st145, an145, an146, ld147, st147, an147, ld148, st148, an148, an149, ld150, st150, an150, ld151, st151, an151, an152, ld153, st153, an153, ld154, st154, an154, an155, ld156, st156, an156, ld157, st157, an157, an158, ld159, st159, an159, ld160, st160, an160, ld161, st161, an161, ld162, st162, an162, ld163, st163, an163, an164, ld165, st165, an165, ld166, st166, an166, ld167, st167, an167, ld168, st168, an168, ld169, st169, an169, ld170, st170, an170, ld171, st171, an171, ld172, st172, an172, ld173, st173, an173, ld174, st174, an174, ld175, st175, an175, ld176, st176, an176, ld177, st177, an177, ld178, st178, an178, ld179, st179, an179, ld180, st180, an180, ld181, st181, an181, ld182, st182, an182, ld183, st183, an183, ld184, st184, an184, ld185, st185, an185, ld186, st186, an186, ld187, st187, an187, ld188, st188, an188, ld189, st189, an189, ld190, st190, an190, ld191, st191, an191, ld192, st192, an192, ld193, st193, an193, ld194, st194, an194, ld195, st195, an195, ld196, st196, an196, ld197, st197, an197, Option.bind_some, if_true, if_false, n_0, n_1, n_2, n_3, n_4, n_5, n_6, n_7, n_8, n_9, n_10, n_12, n_15, n_20, n_24, n_32, n_48, n_57, n_59, n_80, n_97, n_99, n_100, n_122, n_680, n_700, n_999, n_1023, n_1024, iI_neg, iI_add, iI_sub, mo_isRoom eB vB hm, bI_0, decide_eq_false_iff_not, iff_true_intro z1, not_true, l_1, l_4, lI_of, Mo_inI, iff_false_intro z2, not_false_eq_true]
  · have hR : rdR T m w = -1 := if_neg fun q => z1 q.1
    rw [hR]
    refine ⟨I, ?_, frM.refl _ _ _⟩
    simp (maxSteps := 4000000) (disch := omega) only [Mo_rounds, rc132, gi132, gl132, pi132, pl132, pz132, pr132, gr132_0, gr132_6, gr132_7, gr132_8, gr132_9, gr132_10, gr132_11, gr132_12, gr132_13, gr132_14, gr132_15, gr132_16, gr132_17, gr132_18, gr132_19, gr132_20, gr132_21, gr132_22, gr132_23, gr132_24, gr132_25, gr132_27, gr132_28, gr132_29, gr132_30, gr132_32, gr132_33, gr132_34, gr132_35, gr132_36, gr132_37, gr132_38, gr132_39, gr132_40, gr132_41, gr132_42, gr132_44, gr132_45, gr132_46, gr132_47, gr132_48, gr132_49, gr132_50, gr132_51, gr132_61, gr132_62, gr132_63, ar134_0, ar134_1, ar137_0, ar137_1, ar140_0, ar140_1, ar143_0, ar143_1, ar146_0, ar146_1, ar149_0, ar149_1, ar152_0, ar152_1, ar155_0, ar155_1, ar158_0, ar158_1, ar164_0, ar164_1, ar164_2, ar164_3, ar164_4, ar164_5, ar164_6, ar164_7, ar164_8, ld133, st133, an133, an134, ld135, st135, an135, ld136, st136, an136, an137, ld138, st138, an138, ld139, st139, an139, an140, ld141, st141, an141, ld142, st142, an142, an143, ld144, st144, an144, ld145, st145, an145, an146, ld147, st147, an147, ld148, st148, an148, an149, ld150, st150, an150, ld151, st151, an151, an152, ld153, st153, an153, ld154, st154, an154, an155, ld156, st156, an156, ld157, st157, an157, an158, ld159, st159, an159, ld160, st160, an160, ld161, st161, an161, ld162, st162, an162, ld163, st163, an163, an164, ld165, st165, an165, ld166, st166, an166, ld167, st167, an167, ld168, st168, an168, ld169, st169, an169, ld170, st170, an170, ld171, st171, an171, ld172, st172, an172, ld173, st173, an173, ld174, st174, an174, ld175, st175, an175, ld176, st176, an176, ld177, st177, an177, ld178, st178, an178, ld179, st179, an179, ld180, st180, an180, ld181, st181, an181, ld182, st182, an182, ld183, st183, an183, ld184, st184, an184, ld185, st185, an185, ld186, st186, an186, ld187, st187, an187, ld188, st188, an188, ld189, st189, an189, ld190, st190, an190, ld191, st191, an191, ld192, st192, an192, ld193, st193, an193, ld194, st194, an194, ld195, st195, an195, ld196, st196, an196, ld197, st197, an197, Option.bind_some, if_true, if_false, n_0, n_1, n_2, n_3, n_4, n_5, n_6, n_7, n_8, n_9, n_10, n_12, n_15, n_20, n_24, n_32, n_48, n_57, n_59, n_80, n_97, n_99, n_100, n_122, n_680, n_700, n_999, n_1023, n_1024, iI_neg, iI_add, iI_sub, mo_isRoom eB vB hm, bI_0, decide_eq_false_iff_not, iff_false_intro z1, not_false_eq_true]
end
