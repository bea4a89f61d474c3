/-! ===== layer 2: ways and rings, model's side ===== -/
section
variable {T : Tb} {I I' I'' : Nat → Nat → Int32} {J : Nat → Nat → Int64} {b : Bool} {f k n B : Nat} {P : Nat → Nat → Option Nat} {a w c s m : Int} {r x y g : Nat} {A R : Nat → Nat → Bool} {W H : Nat → Bool} {V0 V1 : hV} {p q : Nat → Bool}
/-- within H -/
def rsA (A : Nat → Nat → Bool) (H : Nat → Bool) (x y : Nat) : Bool := A x y && (H x && H y)
theorem rsA_A (h : rsA A H x y = true) : A x y = true ∧ H x = true ∧ H y = true := by
  simpa [rsA] using h
/-- the ways found, of at most n steps -/
def fvd (R : Nat → Nat → Bool) (g n x : Nat) : Int := if ds R g x ≤ n then (ds R g x : Int) else -1
theorem fvd_is {j : Nat} (hj : n ≤ j) : fvd R g j x = (n : Int) ↔ ds R g x = n := by
  unfold fvd
  split <;> omega
theorem fvd_rg : -1 ≤ fvd R g n x ∧ fvd R g n x ≤ n := by
  unfold fvd
  split <;> omega
def phI (R : Nat → Nat → Bool) (g n x : Nat) (I : Nat → Nat → Int32) : Prop := ∀ k, k < 10 → I 178 k = iI (if k < x then fvd R g (n + 1) k else fvd R g n k)
abbrev sLd (o : Nat) : Prop := o ≠ 178
theorem EM.frL (E : EM T I) (h : frM zN sLd I I') : EM T I' := E.frX h id id (fun o h1 h2 => by omega)
theorem mo_lead1 (E : EM T I) (V : TV T) (hr : rkM T m B I) (hn : n < 10) (hx : x < ng T) (hH : H x = true) (hR : R = rsA (abv T m B) H) (hp : phI R g n x I) (hd : ¬ ds R g x ≤ n) : jloop (Mo_leads_L78 S0 (some 132) (iI (bt 10 H : Int)) (iI (n : Int), V0) (iI (x : Int), V1)) jN (iI 0, (I, J, Pst b f)) = some (hup I 178 x (iI (fvd R g (n + 1) x)), J, Pst b f) := by
  obtain ⟨⟨vA, vB⟩, ⟨vC, vD⟩, vE, vF⟩ := id V
  have h0 := vC.1
  have h2 := ngI vC
  have hfin : (if anyb (ng T) (fun y => decide (ds R g y = n) && R x y) = true then ((n : Int) + 1) else -1) = fvd R g (n + 1) x := by
    have hs := ds_s (A := R) (g := g) hn hd
    cases e : anyb (ng T) (fun y => decide (ds R g y = n) && R x y)
    · simp only [Bool.false_eq_true, if_false]
      unfold fvd
      rw [if_neg]
      intro hq
      obtain ⟨z, a1, a2, a3⟩ := hs.mp (by omega)
      have hz : z < ng T := by
        rw [hR] at a2
        exact (abv_lt vC vD _ _ (rsA_A a2).1).2
      have := anyb_not.mp e z hz
      simp [a2, a3] at this
    · obtain ⟨z, a1, a2⟩ := anyb_iff.mp e
      simp only [Bool.and_eq_true, decide_eq_true_eq] at a2
      have := hs.mpr ⟨z, by omega, a2.2, a2.1⟩
      simp only [if_true]
      unfold fvd
      rw [if_pos (by omega)]
      omega
  have hin : I 178 x = iI (-1) := by
    rw [hp x (by omega), if_neg (by omega)]
    unfold fvd
    rw [if_neg hd]
  have hI : I = hup I 178 x (iI (-1)) := by
    funext o k
    by_cases e : o = 178 ∧ k = x
    · obtain ⟨e1, e2⟩ := e; subst e1; subst e2; simp [hup, hin]
    · simp [hup, e]
  rw [← hfin]
  refine jfun (fun k => (iI (k : Int), (hup I 178 x (iI (if anyb k (fun y => decide (ds R g y = n) && R x y) = true then ((n : Int) + 1) else -1)), J, Pst b f))) (ng T) ?_ (fun k hk => ?_) ?_ (by omega)
  · show _ = (iI 0, (hup I 178 x (iI (-1)), J, Pst b f))
    rw [← hI]
  · have E1 := E.frL ((frM.refl zN sLd I).wr (o := 178) (k := x) (v := iI (if anyb k (fun y => decide (ds R g y = n) && R x y) = true then ((n : Int) + 1) else -1)) (by omega) (by omega))
    have q1 := (hr x k hx hk).1
    by_cases e : k = x
    · subst e
      have hv : -1 ≤ (if anyb k (fun y => decide (ds R g y = n) && R k y) = true then ((n : Int) + 1) else -1) ∧ (if anyb k (fun y => decide (ds R g y = n) && R k y) = true then ((n : Int) + 1) else -1) ≤ 10 := by split <;> omega
      have hne : ¬ (if anyb k (fun y => decide (ds R g y = n) && R k y) = true then ((n : Int) + 1) else -1) = (n : Int) := by split <;> omega
      have hpk : (decide (ds R g k = n) && R k k) = false := by simp [show ¬ ds R g k = n by omega]
      rw [anyb_s, hpk, Bool.or_false]
      generalize (if anyb k (fun y => decide (ds R g y = n) && R k y) = true then ((n : Int) + 1) else -1) = v at *
      simp (maxSteps := 4000000) (disch := omega) only [Mo_leads_L78, rc132, gi132, gl132, pi132, pl132, pz132, pr132, gr132_0, gr132_6, gr132_7, gr132_8, gr132_9, gr132_10, gr132_11, gr132_12, gr132_13, gr132_14, gr132_15, gr132_16, gr132_17, gr132_18, gr132_19, gr132_20, gr132_21, gr132_22, gr132_23, gr132_24, gr132_25, gr132_27, gr132_28, gr132_29, gr132_30, gr132_32, gr132_33, gr132_34, gr132_35, gr132_36, gr132_37, gr132_38, gr132_39, gr132_40, gr132_41, gr132_42, gr132_44, gr132_45, gr132_46, gr132_47, gr132_48, gr132_49, gr132_50, gr132_51, gr132_61, gr132_62, gr132_63, ar134_0, ar134_1, ar137_0, ar137_1, ar140_0, ar140_1, ar143_0, ar143_1, ar146_0, ar146_1, ar149_0, ar149_1, ar152_0, ar152_1, ar155_0, ar155_1, ar158_0, ar158_1, ar164_0, ar164_1, ar164_2, ar164_3, ar164_4, ar164_5, ar164_6, ar164_7, ar164_8, ld133, st133, an133, an134, ld135, st135, an135, ld136, st136, an136, an137, ld138, st138, an138, ld139, st139, an139, an140, ld141, st141, an141, ld142, st142, an142, an143, ld144, st144, an144, ld145, st145, an145, an146, ld147, st147, an147, ld148, st148, an148, an149, ld150, st150, an150, ld151, st151, an151, an152, ld153, st153, an153, ld154, st154, an154, an155, ld156, st156, an156, ld157, st157, an157, an158, ld159, st159, an159, ld160, st160, an160, ld161, st161, an161, ld162, st162, an162, ld163, st163, an163, an164, ld165, st165, an165, ld166, st166, an166, ld167, st167, an167, ld168, st168, an168, ld169, st169, an169, ld170, st170, an170, ld171, st171, an171, ld172, st172, an172, ld173, st173, an173, ld174, st174, an174, ld175, st175, an175, ld176, st176, an176, ld177, st177, an177, ld178, st178, an178, ld179, st179, an179, ld180, st180, an180, ld181, st181, an181, ld182, st182, an182, ld183, st183, an183, ld184, st184, an184, ld185, st185, an185, ld186, st186, an186, ld187, st187, an187, ld188, st188, an188, ld189, st189, an189, ld190, st190, an190, ld191, st191, an191, ld192, st192, an192, ld193, st193, an193, ld194, st194, an194, ld195, st195, an195, ld196, st196, an196, ld197, st197, an197, Option.bind_some, if_true, if_false, n_0, n_1, n_2, n_3, n_4, n_5, n_6, n_7, n_8, n_9, n_10, n_12, n_15, n_20, n_24, n_32, n_48, n_57, n_59, n_80, n_97, n_99, n_100, n_122, n_680, n_700, n_999, n_1023, n_1024, iI_neg, iI_add, iI_sub, iI_lt, iI_le, iI_eq, Int.toNat_zero, Int.toNat_natCast, E1.2.1.1.1.1, show ¬ T 0 2 ≤ (k : Int) by omega, hup_same, hne]
      rfl
    · have hk' := hp k (by omega)
      have hv2 : (if k < x then fvd R g (n + 1) k else fvd R g n k) = (n : Int) ↔ ds R g k = n := by
        split
        · exact fvd_is (by omega)
        · exact fvd_is (by omega)
      have hv3 : -1 ≤ (if k < x then fvd R g (n + 1) k else fvd R g n k) ∧ (if k < x then fvd R g (n + 1) k else fvd R g n k) ≤ 10 := by
        have g1 := fvd_rg (R := R) (g := g) (n := n + 1) (x := k)
        have g2 := fvd_rg (R := R) (g := g) (n := n) (x := k)
        split <;> omega
      generalize (if k < x then fvd R g (n + 1) k else fvd R g n k) = u at *
      rw [anyb_s]
      simp (maxSteps := 4000000) (disch := omega) only [Mo_leads_L78, rc132, gi132, gl132, pi132, pl132, pz132, pr132, gr132_0, gr132_6, gr132_7, gr132_8, gr132_9, gr132_10, gr132_11, gr132_12, gr132_13, gr132_14, gr132_15, gr132_16, gr132_17, gr132_18, gr132_19, gr132_20, gr132_21, gr132_22, gr132_23, gr132_24, gr132_25, gr132_27, gr132_28, gr132_29, gr132_30, gr132_32, gr132_33, gr132_34, gr132_35, gr132_36, gr132_37, gr132_38, gr132_39, gr132_40, gr132_41, gr132_42, gr132_44, gr132_45, gr132_46, gr132_47, gr132_48, gr132_49, gr132_50, gr132_51, gr132_61, gr132_62, gr132_63, ar134_0, ar134_1, ar137_0, ar137_1, ar140_0, ar140_1, ar143_0, ar143_1, ar146_0, ar146_1, ar149_0, ar149_1, ar152_0, ar152_1, ar155_0, ar155_1, ar158_0, ar158_1, ar164_0, ar164_1, ar164_2, ar164_3, ar164_4, ar164_5, ar164_6, ar164_7, ar164_8, ld133, st133, an133, an134, ld135, st135, an135, ld136, st136, an136, an137, ld138, st138, an138, ld139, st139, an139, an140, ld141, st141, an141, ld142, st142, an142, an143, ld144, st144, an144, ld145, st145, an145, an146, ld147, st147, an147, ld148, st148, an148, an149, ld150, st150, an150, ld151, st151, an151, an152, ld153, st153, an153, ld154, st154, an154, an155, ld156, st156, an156, ld157, st157, an157, an158, ld159, st159, an159, ld160, st160, an160, ld161, st161, an161, ld162, st162, an162, ld163, st163, an163, an164, ld165, st165, an165, ld166, st166, an166, ld167, st167, an167, ld168, st168, an168, ld169, st169, an169, ld170, st170, an170, ld171, st171, an171, ld172, st172, an172, ld173, st173, an173, ld174, st174, an174, ld175, st175, an175, ld176, st176, an176, ld177, st177, an177, ld178, st178, an178, ld179, st179, an179, ld180, st180, an180, ld181, st181, an181, ld182, st182, an182, ld183, st183, an183, ld184, st184, an184, ld185, st185, an185, ld186, st186, an186, ld187, st187, an187, ld188, st188, an188, ld189, st189, an189, ld190, st190, an190, ld191, st191, an191, ld192, st192, an192, ld193, st193, an193, ld194, st194, an194, ld195, st195, an195, ld196, st196, an196, ld197, st197, an197, Option.bind_some, if_true, if_false, n_0, n_1, n_2, n_3, n_4, n_5, n_6, n_7, n_8, n_9, n_10, n_12, n_15, n_20, n_24, n_32, n_48, n_57, n_59, n_80, n_97, n_99, n_100, n_122, n_680, n_700, n_999, n_1023, n_1024, iI_neg, iI_add, iI_sub, iI_mul, iI_lt, iI_le, iI_eq, Int.toNat_zero, Int.toNat_natCast, E1.2.1.1.1.1, show ¬ T 0 2 ≤ (k : Int) by omega, hup_ix _ _ _ e, hup_obj, hk', hv2, shrS (show k < 10 by omega), ixN, q1, bI_1, bI_0]
      by_cases e1 : ds R g k = n
      · have hRk : R x k = (abv T m B x k && H k) := by rw [hR]; simp [rsA, hH]
        cases e2 : H k
        · simp only [e1, Option.bind_some, if_true, if_false, Bool.false_eq_true, hRk, e2, Bool.and_false, Bool.or_false]
          rfl
        · cases e3 : abv T m B x k
          · simp only [e1, Option.bind_some, if_true, if_false, hRk, e2, e3, Bool.and_true, Bool.and_false, Bool.or_false]
            rfl
          · simp (maxSteps := 4000000) (disch := omega) only [e1, Option.bind_some, if_true, if_false, Bool.true_eq_false, hRk, e2, e3, Bool.and_true, decide_true, Bool.or_true, rc132, gi132, gl132, pi132, pl132, pz132, pr132, gr132_0, gr132_6, gr132_7, gr132_8, gr132_9, gr132_10, gr132_11, gr132_12, gr132_13, gr132_14, gr132_15, gr132_16, gr132_17, gr132_18, gr132_19, gr132_20, gr132_21, gr132_22, gr132_23, gr132_24, gr132_25, gr132_27, gr132_28, gr132_29, gr132_30, gr132_32, gr132_33, gr132_34, gr132_35, gr132_36, gr132_37, gr132_38, gr132_39, gr132_40, gr132_41, gr132_42, gr132_44, gr132_45, gr132_46, gr132_47, gr132_48, gr132_49, gr132_50, gr132_51, gr132_61, gr132_62, gr132_63, ar134_0, ar134_1, ar137_0, ar137_1, ar140_0, ar140_1, ar143_0, ar143_1, ar146_0, ar146_1, ar149_0, ar149_1, ar152_0, ar152_1, ar155_0, ar155_1, ar158_0, ar158_1, ar164_0, ar164_1, ar164_2, ar164_3, ar164_4, ar164_5, ar164_6, ar164_7, ar164_8, ld133, st133, an133, an134, ld135, st135, an135, ld136, st136, an136, an137, ld138, st138, an138, ld139, st139, an139, an140, ld141, st141, an141, ld142, st142, an142, an143, ld144, st144, an144, ld145, st145, an145, an146, ld147, st147, an147, ld148, st148, an148, an149, ld150, st150, an150, ld151, st151, an151, an152, ld153, st153, an153, ld154, st154, an154, an155, ld156, st156, an156, ld157, st157, an157, an158, ld159, st159, an159, ld160, st160, an160, ld161, st161, an161, ld162, st162, an162, ld163, st163, an163, an164, ld165, st165, an165, ld166, st166, an166, ld167, st167, an167, ld168, st168, an168, ld169, st169, an169, ld170, st170, an170, ld171, st171, an171, ld172, st172, an172, ld173, st173, an173, ld174, st174, an174, ld175, st175, an175, ld176, st176, an176, ld177, st177, an177, ld178, st178, an178, ld179, st179, an179, ld180, st180, an180, ld181, st181, an181, ld182, st182, an182, ld183, st183, an183, ld184, st184, an184, ld185, st185, an185, ld186, st186, an186, ld187, st187, an187, ld188, st188, an188, ld189, st189, an189, ld190, st190, an190, ld191, st191, an191, ld192, st192, an192, ld193, st193, an193, ld194, st194, an194, ld195, st195, an195, ld196, st196, an196, ld197, st197, an197, Int.toNat_natCast, hup_hup]
            rfl
      · simp only [e1, Option.bind_some, if_true, if_false, decide_false, Bool.false_and, Bool.or_false]
        rfl
  · have E1 := E.frL ((frM.refl zN sLd I).wr (o := 178) (k := x) (v := iI (if anyb (ng T) (fun y => decide (ds R g y = n) && R x y) = true then ((n : Int) + 1) else -1)) (by omega) (by omega))
    simp (maxSteps := 4000000) (disch := omega) only [Mo_leads_L78, rc132, gi132, gl132, pi132, pl132, pz132, pr132, gr132_0, gr132_6, gr132_7, gr132_8, gr132_9, gr132_10, gr132_11, gr132_12, gr132_13, gr132_14, gr132_15, gr132_16, gr132_17, gr132_18, gr132_19, gr132_20, gr132_21, gr132_22, gr132_23, gr132_24, gr132_25, gr132_27, gr132_28, gr132_29, gr132_30, gr132_32, gr132_33, gr132_34, gr132_35, gr132_36, gr132_37, gr132_38, gr132_39, gr132_40, gr132_41, gr132_42, gr132_44, gr132_45, gr132_46, gr132_47, gr132_48, gr132_49, gr132_50, gr132_51, gr132_61, gr132_62, gr132_63, ar134_0, ar134_1, ar137_0, ar137_1, ar140_0, ar140_1, ar143_0, ar143_1, ar146_0, ar146_1, ar149_0, ar149_1, ar152_0, ar152_1, ar155_0, ar155_1, ar158_0, ar158_1, ar164_0, ar164_1, ar164_2, ar164_3, ar164_4, ar164_5, ar164_6, ar164_7, ar164_8, ld133, st133, an133, an134, ld135, st135, an135, ld136, st136, an136, an137, ld138, st138, an138, ld139, st139, an139, an140, ld141, st141, an141, ld142, st142, an142, an143, ld144, st144, an144, ld145, st145, an145, an146, ld147, st147, an147, ld148, st148, an148, an149, ld150, st150, an150, ld151, st151, an151, an152, ld153, st153, an153, ld154, st154, an154, an155, ld156, st156, an156, ld157, st157, an157, an158, ld159, st159, an159, ld160, st160, an160, ld161, st161, an161, ld162, st162, an162, ld163, st163, an163, an164, ld165, st165, an165, ld166, st166, an166, ld167, st167, an167, ld168, st168, an168, ld169, st169, an169, ld170, st170, an170, ld171, st171, an171, ld172, st172, an172, ld173, st173, an173, ld174, st174, an174, ld175, st175, an175, ld176, st176, an176, ld177, st177, an177, ld178, st178, an178, ld179, st179, an179, ld180, st180, an180, ld181, st181, an181, ld182, st182, an182, ld183, st183, an183, ld184, st184, an184, ld185, st185, an185, ld186, st186, an186, ld187, st187, an187, ld188, st188, an188, ld189, st189, an189, ld190, st190, an190, ld191, st191, an191, ld192, st192, an192, ld193, st193, an193, ld194, st194, an194, ld195, st195, an195, ld196, st196, an196, ld197, st197, an197, Option.bind_some, if_true, if_false, n_0, n_1, n_2, n_3, n_4, n_5, n_6, n_7, n_8, n_9, n_10, n_12, n_15, n_20, n_24, n_32, n_48, n_57, n_59, n_80, n_97, n_99, n_100, n_122, n_680, n_700, n_999, n_1023, n_1024, iI_neg, iI_add, iI_sub, iI_lt, iI_le, iI_eq, Int.toNat_zero, E1.2.1.1.1.1, show T 0 2 ≤ (ng T : Int) by omega]
theorem mo_lead2 (E : EM T I) (V : TV T) (hr : rkM T m B I) (hn : n < 10) (hx : x < ng T) (hR : R = rsA (abv T m B) H) (hp : phI R g n x I) : ∃ I', Mo_leads_L41 S0 (some 132) (iI (bt 10 H : Int)) (iI (n : Int), V0) (iI (x : Int), (I, J, Pst b f)) = some (.inl (iI ((x : Int) + 1), (I', J, Pst b f))) ∧ frM zN sLd I I' ∧ phI R g n (x + 1) I' := by
  obtain ⟨⟨vA, vB⟩, ⟨vC, vD⟩, vE, vF⟩ := id V
  have h0 := vC.1
  have h2 := ngI vC
  have hc := E.2.1.1.1.1
  have hx' := hp x (by omega)
  rw [if_neg (by omega)] at hx'
  have hrg := fvd_rg (R := R) (g := g) (n := n) (x := x)
  have hst : ∀ k, k < 10 → k ≠ x → I 178 k = iI (if k < x + 1 then fvd R g (n + 1) k else fvd R g n k) := fun k hk e => by
    rw [hp k hk]
    simp only [lt_sk k x e]
  simp (maxSteps := 4000000) (disch := omega) only [Mo_leads_L41, rc132, gi132, gl132, pi132, pl132, pz132, pr132, gr132_0, gr132_6, gr132_7, gr132_8, gr132_9, gr132_10, gr132_11, gr132_12, gr132_13, gr132_14, gr132_15, gr132_16, gr132_17, gr132_18, gr132_19, gr132_20, gr132_21, gr132_22, gr132_23, gr132_24, gr132_25, gr132_27, gr132_28, gr132_29, gr132_30, gr132_32, gr132_33, gr132_34, gr132_35, gr132_36, gr132_37, gr132_38, gr132_39, gr132_40, gr132_41, gr132_42, gr132_44, gr132_45, gr132_46, gr132_47, gr132_48, gr132_49, gr132_50, gr132_51, gr132_61, gr132_62, gr132_63, ar134_0, ar134_1, ar137_0, ar137_1, ar140_0, ar140_1, ar143_0, ar143_1, ar146_0, ar146_1, ar149_0, ar149_1, ar152_0, ar152_1, ar155_0, ar155_1, ar158_0, ar158_1, ar164_0, ar164_1, ar164_2, ar164_3, ar164_4, ar164_5, ar164_6, ar164_7, ar164_8, ld133, st133, an133, an134, ld135, st135, an135, ld136, st136, an136, an137, ld138, st138, an138, ld139, st139, an139, an140, ld141, st141, an141, ld142, st142, an142, an143, ld144, st144, an144, ld145, st145, an145, an146, ld147, st147, an147, ld148, st148, an148, an149, ld150, st150, an150, ld151, st151, an151, an152, ld153, st153, an153, ld154, st154, an154, an155, ld156, st156, an156, ld157, st157, an157, an158, ld159, st159, an159, ld160, st160, an160, ld161, st161, an161, ld162, st162, an162, ld163, st163, an163, an164, ld165, st165, an165, ld166, st166, an166, ld167, st167, an167, ld168, st168, an168, ld169, st169, an169, ld170, st170, an170, ld171, st171, an171, ld172, st172, an172, ld173, st173, an173, ld174, st174, an174, ld175, st175, an175, ld176, st176, an176, ld177, st177, an177, ld178, st178, an178, ld179, st179, an179, ld180, st180, an180, ld181, st181, an181, ld182, st182, an182, ld183, st183, an183, ld184, st184, an184, ld185, st185, an185, ld186, st186, an186, ld187, st187, an187, ld188, st188, an188, ld189, st189, an189, ld190, st190, an190, ld191, st191, an191, ld192, st192, an192, ld193, st193, an193, ld194, st194, an194, ld195, st195, an195, ld196, st196, an196, ld197, st197, an197, Option.bind_some, if_true, if_false, n_0, n_1, n_2, n_3, n_4, n_5, n_6, n_7, n_8, n_9, n_10, n_12, n_15, n_20, n_24, n_32, n_48, n_57, n_59, n_80, n_97, n_99, n_100, n_122, n_680, n_700, n_999, n_1023, n_1024, iI_neg, iI_add, iI_sub, iI_lt, iI_le, iI_eq, Int.toNat_zero, Int.toNat_natCast, hc, show ¬ T 0 2 ≤ (x : Int) by omega, hx', shrS (show x < 10 by omega), bI_0]
  by_cases e1 : fvd R g n x = -1
  · have hd : ¬ ds R g x ≤ n := fun q => by unfold fvd at e1; rw [if_pos q] at e1; omega
    cases e2 : H x
    · refine ⟨I, by simp only [e1, Option.bind_some, if_true, if_false], frM.refl _ _ _, fun k hk => ?_⟩
      by_cases q : k = x
      · subst q
        rw [hx', if_pos (by omega), e1]
        have : ¬ ds R g k ≤ n + 1 := fun q => by
          obtain ⟨z, a1, a2, a3⟩ := (ds_s hn hd).mp (by omega)
          rw [hR] at a2
          have := (rsA_A a2).2.1
          rw [e2] at this; cases this
        unfold fvd
        rw [if_neg this]
      · exact hst k hk q
    · have hl := mo_lead1 (V0 := V0) (V1 := (I, J, Pst b f)) (J := J) (b := b) (f := f) E V hr hn hx e2 hR hp hd
      refine ⟨hup I 178 x (iI (fvd R g (n + 1) x)), ?_, (frM.refl zN sLd I).wr (by omega) (by omega), fun k hk => ?_⟩
      · simp only [e1, Option.bind_some, if_true, if_false, Bool.true_eq_false, hl]
      · by_cases q : k = x
        · subst q
          rw [hup_same, if_pos (by omega)]
        · rw [hup_ix _ _ _ q]
          exact hst k hk q
  · refine ⟨I, by simp only [e1, Option.bind_some, if_true, if_false], frM.refl _ _ _, fun k hk => ?_⟩
    by_cases q : k = x
    · subst q
      rw [hx', if_pos (by omega)]
      have hd : ds R g k ≤ n := by
        rcases Nat.lt_or_ge n (ds R g k) with z | z
        · unfold fvd at e1; rw [if_neg (by omega)] at e1; exact absurd rfl e1
        · exact z
      unfold fvd
      rw [if_pos hd, if_pos (by omega)]
    · exact hst k hk q
theorem mo_lead3 (E : EM T I) (V : TV T) (hr : rkM T m B I) (hn : n < 10) (hR : R = rsA (abv T m B) H) (hp : phI R g n 0 I) : ∃ I', jloop (Mo_leads_L41 S0 (some 132) (iI (bt 10 H : Int)) (iI (n : Int), V0)) jN (iI 0, (I, J, Pst b f)) = some (I', J, Pst b f) ∧ frM zN sLd I I' ∧ phI R g (n + 1) 0 I' := by
  obtain ⟨⟨vA, vB⟩, ⟨vC, vD⟩, vE, vF⟩ := id V
  have h0 := vC.1
  have h2 := ngI vC
  have key := jheap (J := J) (P := Pst b f) (I := I) (body := Mo_leads_L41 S0 (some 132) (iI (bt 10 H : Int)) (iI (n : Int), V0)) (fun k I' => frM zN sLd I I' ∧ phI R g n k I') 0 (ng T) ⟨frM.refl _ _ _, hp⟩ (by omega) (by omega) (fun k I1 _ hk q1 => ?_) (fun I1 q1 => ?_)
  · obtain ⟨I2, e1, e2, e3⟩ := key
    refine ⟨I2, e1, e2, fun k hk => ?_⟩
    rw [e3 k hk, if_neg (show ¬ k < 0 by omega)]
    by_cases q : k < ng T
    · rw [if_pos q]
    · rw [if_neg q]
      unfold fvd
      by_cases d : ds R g k ≤ n
      · rw [if_pos d, if_pos (by omega)]
      · rw [if_neg d, if_neg]
        intro q2
        obtain ⟨z, a1, a2, a3⟩ := (ds_s hn d).mp (by omega)
        rw [hR] at a2
        have := (abv_lt vC vD _ _ (rsA_A a2).1).1
        omega
  · obtain ⟨I2, e1, e2, e3⟩ := mo_lead2 (V0 := V0) (J := J) (b := b) (f := f) (E.frL q1.1) V (hr.fr q1.1 (by omega) (by omega)) hn hk hR q1.2
    exact ⟨I2, e1, q1.1.trans e2, e3⟩
  · have E1 := E.frL q1.1
    simp (maxSteps := 4000000) (disch := omega) only [Mo_leads_L41, rc132, gi132, gl132, pi132, pl132, pz132, pr132, gr132_0, gr132_6, gr132_7, gr132_8, gr132_9, gr132_10, gr132_11, gr132_12, gr132_13, gr132_14, gr132_15, gr132_16, gr132_17, gr132_18, gr132_19, gr132_20, gr132_21, gr132_22, gr132_23, gr132_24, gr132_25, gr132_27, gr132_28, gr132_29, gr132_30, gr132_32, gr132_33, gr132_34, gr132_35, gr132_36, gr132_37, gr132_38, gr132_39, gr132_40, gr132_41, gr132_42, gr132_44, gr132_45, gr132_46, gr132_47, gr132_48, gr132_49, gr132_50, gr132_51, gr132_61, gr132_62, gr132_63, ar134_0, ar134_1, ar137_0, ar137_1, ar140_0, ar140_1, ar143_0, ar143_1, ar146_0, ar146_1, ar149_0, ar149_1, ar152_0, ar152_1, ar155_0, ar155_1, ar158_0, ar158_1, ar164_0, ar164_1, ar164_2, ar164_3, ar164_4, ar164_5, ar164_6, ar164_7, ar164_8, ld133, st133, an133, an134, ld135, st135, an135, ld136, st136, an136, an137, ld138, st138, an138, ld139, st139, an139, an140, ld141, st141, an141, ld142, st142, an142, an143, ld144, st144, an144, ld145, st145, an145, an146, ld147, st147, an147, ld148, st148, an148, an149, ld150, st150, an150, ld151, st151, an151, an152, ld153, st153, an153, ld154, st154, an154, an155, ld156, st156, an156, ld157, st157, an157, an158, ld159, st159, an159, ld160, st160, an160, ld161, st161, an161, ld162, st162, an162, ld163, st163, an163, an164, ld165, st165, an165, ld166, st166, an166, ld167, st167, an167, ld168, st168, an168, ld169, st169, an169, ld170, st170, an170, ld171, st171, an171, ld172, st172, an172, ld173, st173, an173, ld174, st174, an174, ld175, st175, an175, ld176, st176, an176, ld177, st177, an177, ld178, st178, an178, ld179, st179, an179, ld180, st180, an180, ld181, st181, an181, ld182, st182, an182, ld183, st183, an183, ld184, st184, an184, ld185, st185, an185, ld186, st186, an186, ld187, st187, an187, ld188, st188, an188, ld189, st189, an189, ld190, st190, an190, ld191, st191, an191, ld192, st192, an192, ld193, st193, an193, ld194, st194, an194, ld195, st195, an195, ld196, st196, an196, ld197, st197, an197, Option.bind_some, if_true, if_false, n_0, n_1, n_2, n_3, n_4, n_5, n_6, n_7, n_8, n_9, n_10, n_12, n_15, n_20, n_24, n_32, n_48, n_57, n_59, n_80, n_97, n_99, n_100, n_122, n_680, n_700, n_999, n_1023, n_1024, iI_neg, iI_add, iI_sub, iI_lt, iI_le, iI_eq, Int.toNat_zero, E1.2.1.1.1.1, show T 0 2 ≤ (ng T : Int) by omega]
theorem mo_lead0 (hg : g < 10) : ∃ I', jloop (Mo_leads_L2 S0 (some 132) (iI (g : Int))) jN (iI 0, (I, J, Pst b f)) = some (I', J, Pst b f) ∧ frM zN sLd I I' ∧ phI R g 0 0 I' := by
  have key := jheap (J := J) (P := Pst b f) (I := I) (body := Mo_leads_L2 S0 (some 132) (iI (g : Int))) (fun k I' => frM zN sLd I I' ∧ ∀ j, j < k → I' 178 j = iI (if j = g then 0 else -1)) 0 10 ⟨frM.refl _ _ _, fun j hj => by omega⟩ (by omega) (by omega) (fun k I1 _ hk q1 => ?_) (fun I1 q1 => ?_)
  · obtain ⟨I2, e1, e2, e3⟩ := key
    refine ⟨I2, e1, e2, fun k hk => ?_⟩
    rw [e3 k hk, if_neg (show ¬ k < 0 by omega)]
    have h0 := ds_0 (A := R) (g := g) (x := k)
    unfold fvd
    by_cases q : k = g
    · have hz := h0.mpr q
      rw [if_pos q, if_pos (by omega), hz]
      rfl
    · rw [if_neg q, if_neg]
      intro q2
      exact q (h0.mp (by omega))
  · refine ⟨hup I1 178 k (iI (if k = g then 0 else -1)), ?_, q1.1.wr (by omega) (by omega), fun j hj => ?_⟩
    · have ej : ((if (k : Int) = (g : Int) then some (iI 0) else some (iI (-1))) : Option Int32) = some (iI (if k = g then 0 else -1)) := by
        by_cases q : k = g
        · rw [if_pos (by omega), if_pos q]
        · rw [if_neg (by omega), if_neg q]
      simp (maxSteps := 4000000) (disch := omega) only [Mo_leads_L2, rc132, gi132, gl132, pi132, pl132, pz132, pr132, gr132_0, gr132_6, gr132_7, gr132_8, gr132_9, gr132_10, gr132_11, gr132_12, gr132_13, gr132_14, gr132_15, gr132_16, gr132_17, gr132_18, gr132_19, gr132_20, gr132_21, gr132_22, gr132_23, gr132_24, gr132_25, gr132_27, gr132_28, gr132_29, gr132_30, gr132_32, gr132_33, gr132_34, gr132_35, gr132_36, gr132_37, gr132_38, gr132_39, gr132_40, gr132_41, gr132_42, gr132_44, gr132_45, gr132_46, gr132_47, gr132_48, gr132_49, gr132_50, gr132_51, gr132_61, gr132_62, gr132_63, ar134_0, ar134_1, ar137_0, ar137_1, ar140_0, ar140_1, ar143_0, ar143_1, ar146_0, ar146_1, ar149_0, ar149_1, ar152_0, ar152_1, ar155_0, ar155_1, ar158_0, ar158_1, ar164_0, ar164_1, ar164_2, ar164_3, ar164_4, ar164_5, ar164_6, ar164_7, ar164_8, ld133, st133, an133, an134, ld135, st135, an135, ld136, st136, an136, an137, ld138, st138, an138, ld139, st139, an139, an140, ld141, st141, an141, ld142, st142, an142, an143, ld144, st144, an144, ld145, st145, an145, an146, ld147, st147, an147, ld148, st148, an148, an149, ld150, st150, an150, ld151, st151, an151, an152, ld153, st153, an153, ld154, st154, an154, an155, ld156, st156, an156, ld157, st157, an157, an158, ld159, st159, an159, ld160, st160, an160, ld161, st161, an161, ld162, st162, an162, ld163, st163, an163, an164, ld165, st165, an165, ld166, st166, an166, ld167, st167, an167, ld168, st168, an168, ld169, st169, an169, ld170, st170, an170, ld171, st171, an171, ld172, st172, an172, ld173, st173, an173, ld174, st174, an174, ld175, st175, an175, ld176, st176, an176, ld177, st177, an177, ld178, st178, an178, ld179, st179, an179, ld180, st180, an180, ld181, st181, an181, ld182, st182, an182, ld183, st183, an183, ld184, st184, an184, ld185, st185, an185, ld186, st186, an186, ld187, st187, an187, ld188, st188, an188, ld189, st189, an189, ld190, st190, an190, ld191, st191, an191, ld192, st192, an192, ld193, st193, an193, ld194, st194, an194, ld195, st195, an195, ld196, st196, an196, ld197, st197, an197, Option.bind_some, if_true, if_false, n_0, n_1, n_2, n_3, n_4, n_5, n_6, n_7, n_8, n_9, n_10, n_12, n_15, n_20, n_24, n_32, n_48, n_57, n_59, n_80, n_97, n_99, n_100, n_122, n_680, n_700, n_999, n_1023, n_1024, iI_neg, iI_add, iI_sub, iI_lt, iI_le, iI_eq, show ¬ (10 : Int) ≤ (k : Int) by omega, ej, Int.toNat_natCast]
    · by_cases q : j = k
      · subst q; simp [hup]
      · rw [hup_ix _ _ _ q]; exact q1.2 j (by omega)
  · simp (maxSteps := 4000000) (disch := omega) only [Mo_leads_L2, Option.bind_some, if_true, if_false, n_0, n_1, n_2, n_3, n_4, n_5, n_6, n_7, n_8, n_9, n_10, n_12, n_15, n_20, n_24, n_32, n_48, n_57, n_59, n_80, n_97, n_99, n_100, n_122, n_680, n_700, n_999, n_1023, n_1024, iI_neg, iI_add, iI_sub, iI_lt, iI_le, iI_eq, show (10 : Int) ≤ ((10 : Nat) : Int) by omega]
/-- the ways to g are known -/
def fwM (R : Nat → Nat → Bool) (g : Nat) (I : Nat → Nat → Int32) : Prop := ∀ x, x < 10 → I 178 x = iI (if ds R g x < 11 then (ds R g x : Int) else -1)
theorem mo_leads (E : EM T I) (V : TV T) (hr : rkM T m B I) (hg : g < 10) (hR : R = rsA (abv T m B) H) : ∃ I', Mo_leads S0 (some 132) (iI (g : Int)) (iI (bt 10 H : Int)) (I, J, Pst b f) = some (I', J, Pst b f) ∧ frM zN sLd I I' ∧ fwM R g I' := by
  obtain ⟨I0', z1, z2, z3⟩ := mo_lead0 (I := I) (J := J) (b := b) (f := f) (R := R) hg
  have key := jheap (J := J) (P := Pst b f) (I := I0') (body := Mo_leads_L32 S0 (some 132) (iI (bt 10 H : Int))) (fun k I' => frM zN sLd I I' ∧ phI R g k 0 I') 0 10 ⟨z2, z3⟩ (by omega) (by omega) (fun k I1 _ hk q1 => ?_) (fun I1 q1 => ?_)
  · obtain ⟨I2, e1, e2, e3⟩ := key
    have e1' : jloop (Mo_leads_L32 S0 (some 132) (iI (bt 10 H : Int))) jN (iI 0, (I0', J, Pst b f)) = some (I2, J, Pst b f) := e1
    refine ⟨I2, by simp only [Mo_leads, rc132, gi132, gl132, pi132, pl132, pz132, pr132, gr132_0, gr132_6, gr132_7, gr132_8, gr132_9, gr132_10, gr132_11, gr132_12, gr132_13, gr132_14, gr132_15, gr132_16, gr132_17, gr132_18, gr132_19, gr132_20, gr132_21, gr132_22, gr132_23, gr132_24, gr132_25, gr132_27, gr132_28, gr132_29, gr132_30, gr132_32, gr132_33, gr132_34, gr132_35, gr132_36, gr132_37, gr132_38, gr132_39, gr132_40, gr132_41, gr132_42, gr132_44, gr132_45, gr132_46, gr132_47, gr132_48, gr132_49, gr132_50, gr132_51, gr132_61, gr132_62, gr132_63, ar134_0, ar134_1, ar137_0, ar137_1, ar140_0, ar140_1, ar143_0, ar143_1, ar146_0, ar146_1, ar149_0, ar149_1, ar152_0, ar152_1, ar155_0, ar155_1, ar158_0, ar158_1, ar164_0, ar164_1, ar164_2, ar164_3, ar164_4, ar164_5, ar164_6, ar164_7, ar164_8, ld133, st133, an133, an134, ld135, st135, an135, ld136, st136, an136, an137, ld138, st138, an138, ld139, st139, an139, an140, ld141, st141, an141, ld142, st142, an142, an143, ld144, st144, an144, ld145, st145, an145, an146, ld147, st147, an147, ld148, st148, an148, an149, ld150, st150, an150, ld151, st151, an151, an152, ld153, st153, an153, ld154, st154, an154, an155, ld156, st156, an156, ld157, st157, an157, an158, ld159, st159, an159, ld160, st160, an160, ld161, st161, an161, ld162, st162, an162, ld163, st163, an163, an164, ld165, st165, an165, ld166, st166, an166, ld167, st167, an167, ld168, st168, an168, ld169, st169, an169, ld170, st170, an170, ld171, st171, an171, ld172, st172, an172, ld173, st173, an173, ld174, st174, an174, ld175, st175, an175, ld176, st176, an176, ld177, st177, an177, ld178, st178, an178, ld179, st179, an179, ld180, st180, an180, ld181, st181, an181, ld182, st182, an182, ld183, st183, an183, ld184, st184, an184, ld185, st185, an185, ld186, st186, an186, ld187, st187, an187, ld188, st188, an188, ld189, st189, an189, ld190, st190, an190, ld191, st191, an191, ld192, st192, an192, ld193, st193, an193, ld194, st194, an194, ld195, st195, an195, ld196, st196, an196, ld197, st197, an197, Option.bind_some, if_true, if_false, n_0, z1, e1'], e2, fun x hx => ?_⟩
    rw [e3 x hx, if_neg (show ¬ x < 0 by omega)]
    unfold fvd
    by_cases q : ds R g x ≤ 10
    · rw [if_pos q, if_pos (by omega)]
    · rw [if_neg q, if_neg (by omega)]
  · obtain ⟨I2, e1, e2, e3⟩ := mo_lead3 (V0 := (I1, J, Pst b f)) (J := J) (b := b) (f := f) (E.frL q1.1) V (hr.fr q1.1 (by omega) (by omega)) hk hR q1.2
    refine ⟨I2, ?_, q1.1.trans e2, e3⟩
    simp (maxSteps := 4000000) (disch := omega) only [Mo_leads_L32, Option.bind_some, if_true, if_false, n_0, n_1, n_2, n_3, n_4, n_5, n_6, n_7, n_8, n_9, n_10, n_12, n_15, n_20, n_24, n_32, n_48, n_57, n_59, n_80, n_97, n_99, n_100, n_122, n_680, n_700, n_999, n_1023, n_1024, iI_neg, iI_add, iI_sub, iI_lt, iI_le, iI_eq, show ¬ (10 : Int) ≤ (k : Int) by omega, e1]
  · simp (maxSteps := 4000000) (disch := omega) only [Mo_leads_L32, Option.bind_some, if_true, if_false, n_0, n_1, n_2, n_3, n_4, n_5, n_6, n_7, n_8, n_9, n_10, n_12, n_15, n_20, n_24, n_32, n_48, n_57, n_59, n_80, n_97, n_99, n_100, n_122, n_680, n_700, n_999, n_1023, n_1024, iI_neg, iI_add, iI_sub, iI_lt, iI_le, iI_eq, show (10 : Int) ≤ ((10 : Nat) : Int) by omega]
/-- the least so far -/
def rmn (c : Nat → Bool) (v : Nat → Nat) : Nat → Int
  | 0 => -1
  | k + 1 => if c k = true ∧ (rmn c v k = -1 ∨ (v k : Int) + 1 < rmn c v k) then (v k : Int) + 1 else rmn c v k
theorem rmn_s (c : Nat → Bool) (v : Nat → Nat) (k : Nat) : rmn c v (k + 1) = if c k = true ∧ (rmn c v k = -1 ∨ (v k : Int) + 1 < rmn c v k) then (v k : Int) + 1 else rmn c v k := rfl
theorem rmn_is (c : Nat → Bool) (v : Nat → Nat) : ∀ k, (rmn c v k = -1 ∧ ∀ j, j < k → c j = false) ∨ ∃ j, j < k ∧ c j = true ∧ rmn c v k = (v j : Int) + 1 ∧ ∀ i, i < k → c i = true → v j ≤ v i
  | 0 => Or.inl ⟨rfl, fun j hj => by omega⟩
  | k + 1 => by
    rw [rmn_s]
    by_cases e : c k = true
    · rcases rmn_is c v k with ⟨h1, h2⟩ | ⟨j, h1, h2, h3, h4⟩
      · rw [if_pos ⟨e, Or.inl h1⟩]
        refine Or.inr ⟨k, by omega, e, rfl, fun i hi hc => ?_⟩
        by_cases q : i = k
        · rw [q]; exact Nat.le_refl _
        · rw [h2 i (by omega)] at hc; cases hc
      · by_cases q : (v k : Int) + 1 < rmn c v k
        · rw [if_pos ⟨e, Or.inr q⟩]
          refine Or.inr ⟨k, by omega, e, rfl, fun i hi hc => ?_⟩
          by_cases q2 : i = k
          · rw [q2]; exact Nat.le_refl _
          · have := h4 i (by omega) hc; omega
        · rw [if_neg (by omega)]
          refine Or.inr ⟨j, by omega, h2, h3, fun i hi hc => ?_⟩
          by_cases q2 : i = k
          · rw [q2]; omega
          · exact h4 i (by omega) hc
    · rw [if_neg fun q => e q.1]
      have e' : c k = false := by simpa using e
      rcases rmn_is c v k with ⟨h1, h2⟩ | ⟨j, h1, h2, h3, h4⟩
      · refine Or.inl ⟨h1, fun j hj => ?_⟩
        by_cases q : j = k
        · rw [q]; exact e'
        · exact h2 j (by omega)
      · refine Or.inr ⟨j, by omega, h2, h3, fun i hi hc => ?_⟩
        by_cases q : i = k
        · rw [q, e'] at hc; cases hc
        · exact h4 i (by omega) hc
/-- how many steps the shortest ring through g has -/
def rgL (R : Nat → Nat → Bool) (g : Nat) : Int := if cy R g < 10 then (cy R g : Int) + 1 else -1
theorem mo_through (E : EM T I) (V : TV T) (hr : rkM T m B I) (hg : g < ng T) (hR : R = rsA (abv T m B) H) (hH : H g = true) : ∃ I', Mo_through S0 (some 132) (iI (g : Int)) (iI (bt 10 H : Int)) (I, J, Pst b f) = some (iI (rgL R g), (I', J, Pst b f)) ∧ frM zN sLd I I' ∧ fwM R g I' := by
  obtain ⟨⟨vA, vB⟩, ⟨vC, vD⟩, vE, vF⟩ := id V
  have h0 := vC.1
  have h2 := ngI vC
  obtain ⟨I1, a1, a2, a3⟩ := mo_leads (J := J) (b := b) (f := f) E V hr (show g < 10 by omega) hR
  have E1 := E.frL a2
  have hr1 := hr.fr a2 (by omega) (by omega)
  have e := jgather (body := Mo_through_L11 S0 (some 132) (iI (g : Int)) (I1, J, Pst b f)) (fun k => iI (rmn (fun y => decide (y ≠ g) && (decide (ds R g y < 11) && abv T m B g y)) (ds R g) k)) (ng T) (fun k hk => ?_) ?_ (by omega)
  · refine ⟨I1, ?_, a2, a3⟩
    have e' : jloop (Mo_through_L11 S0 (some 132) (iI (g : Int)) (I1, J, Pst b f)) jN (iI (-1), iI 0) = some (iI (rmn (fun y => decide (y ≠ g) && (decide (ds R g y < 11) && abv T m B g y)) (ds R g) (ng T))) := e
    have hfin : rmn (fun y => decide (y ≠ g) && (decide (ds R g y < 11) && abv T m B g y)) (ds R g) (ng T) = rgL R g := by
      have hcy := cy_ds (A := R) (g := g) (by omega)
      have hin : ∀ y, y < ng T → (decide (y ≠ g) && (decide (ds R g y < 11) && abv T m B g y)) = true → R g y = true ∧ ds R g y < 11 := by
        intro y hy hc
        simp only [Bool.and_eq_true, decide_eq_true_eq] at hc
        refine ⟨?_, hc.2.1⟩
        have hw := ds_wk hc.2.1
        have hHy : H y = true := by
          cases hd : ds R g y with
          | zero => exact absurd (ds_0.mp hd) hc.1
          | succ d =>
            rw [hd] at hw
            obtain ⟨z, b1, b2, b3⟩ := wk_s.mp hw
            rw [hR] at b2
            exact (rsA_A b2).2.1
        rw [hR]
        simp [rsA, hc.2.2, hH, hHy]
      unfold rgL
      rcases rmn_is (fun y => decide (y ≠ g) && (decide (ds R g y < 11) && abv T m B g y)) (ds R g) (ng T) with ⟨h1, h3⟩ | ⟨j, h1, h3, h4, h5⟩
      · rw [h1, if_neg]
        intro q
        obtain ⟨y, b1, b2, b3⟩ := hcy.2 q
        have hA : abv T m B g y = true := by rw [hR] at b2; exact (rsA_A b2).1
        have hl := abv_ng vC vD hA
        have hy := (abv_lt vC vD _ _ hA).2
        have := h3 y hy
        have hne : y ≠ g := fun q => hl.2 q.symm
        simp [hA, hne, show ds R g y < 11 by omega] at this
      · have hj := hin j h1 h3
        have c1 := hcy.1 j (by omega) hj.1 hj.2
        have c3 := ds_9 (A := R) (g := g) (x := j) (by omega) (by omega) hj.2
        have hlt : cy R g < 10 := by omega
        obtain ⟨y, b1, b2, b3⟩ := hcy.2 hlt
        have hA : abv T m B g y = true := by rw [hR] at b2; exact (rsA_A b2).1
        have hl := abv_ng vC vD hA
        have hy := (abv_lt vC vD _ _ hA).2
        have hne : y ≠ g := fun q => hl.2 q.symm
        have := h5 y hy (by simp [hA, hne, show ds R g y < 11 by omega])
        rw [h4, if_pos hlt]
        omega
    rw [hfin] at e'
    simp only [Mo_through, rc132, gi132, gl132, pi132, pl132, pz132, pr132, gr132_0, gr132_6, gr132_7, gr132_8, gr132_9, gr132_10, gr132_11, gr132_12, gr132_13, gr132_14, gr132_15, gr132_16, gr132_17, gr132_18, gr132_19, gr132_20, gr132_21, gr132_22, gr132_23, gr132_24, gr132_25, gr132_27, gr132_28, gr132_29, gr132_30, gr132_32, gr132_33, gr132_34, gr132_35, gr132_36, gr132_37, gr132_38, gr132_39, gr132_40, gr132_41, gr132_42, gr132_44, gr132_45, gr132_46, gr132_47, gr132_48, gr132_49, gr132_50, gr132_51, gr132_61, gr132_62, gr132_63, ar134_0, ar134_1, ar137_0, ar137_1, ar140_0, ar140_1, ar143_0, ar143_1, ar146_0, ar146_1, ar149_0, ar149_1, ar152_0, ar152_1, ar155_0, ar155_1, ar158_0, ar158_1, ar164_0, ar164_1, ar164_2, ar164_3, ar164_4, ar164_5, ar164_6, ar164_7, ar164_8, ld133, st133, an133, an134, ld135, st135, an135, ld136, st136, an136, an137, ld138, st138, an138, ld139, st139, an139, an140, ld141, st141, an141, ld142, st142, an142, an143, ld144, st144, an144, ld145, st145, an145, an146, ld147, st147, an147, ld148, st148, an148, an149, ld150, st150, an150, ld151, st151, an151, an152, ld153, st153, an153, ld154, st154, an154, an155, ld156, st156, an156, ld157, st157, an157, an158, ld159, st159, an159, ld160, st160, an160, ld161, st161, an161, ld162, st162, an162, ld163, st163, an163, an164, ld165, st165, an165, ld166, st166, an166, ld167, st167, an167, ld168, st168, an168, ld169, st169, an169, ld170, st170, an170, ld171, st171, an171, ld172, st172, an172, ld173, st173, an173, ld174, st174, an174, ld175, st175, an175, ld176, st176, an176, ld177, st177, an177, ld178, st178, an178, ld179, st179, an179, ld180, st180, an180, ld181, st181, an181, ld182, st182, an182, ld183, st183, an183, ld184, st184, an184, ld185, st185, an185, ld186, st186, an186, ld187, st187, an187, ld188, st188, an188, ld189, st189, an189, ld190, st190, an190, ld191, st191, an191, ld192, st192, an192, ld193, st193, an193, ld194, st194, an194, ld195, st195, an195, ld196, st196, an196, ld197, st197, an197, Option.bind_some, if_true, if_false, a1, n_0, n_1, iI_neg, e']
  · have q1 := (hr1 g k hg hk).1
    have q2 := a3 k (by omega)
    rw [rmn_s]
    have hb := rmn_is (fun y => decide (y ≠ g) && (decide (ds R g y < 11) && abv T m B g y)) (ds R g) k
    have hb2 : -1 ≤ rmn (fun y => decide (y ≠ g) && (decide (ds R g y < 11) && abv T m B g y)) (ds R g) k ∧ rmn (fun y => decide (y ≠ g) && (decide (ds R g y < 11) && abv T m B g y)) (ds R g) k ≤ 11 := by
      rcases hb with ⟨h1, h3⟩ | ⟨j, h1, h3, h4, h5⟩
      · omega
      · simp only [Bool.and_eq_true, decide_eq_true_eq] at h3
        have := h3.2.1
        omega
    generalize rmn (fun y => decide (y ≠ g) && (decide (ds R g y < 11) && abv T m B g y)) (ds R g) k = u at *
    by_cases e1 : k = g
    · subst e1
      simp (maxSteps := 4000000) (disch := omega) only [Mo_through_L11, rc132, gi132, gl132, pi132, pl132, pz132, pr132, gr132_0, gr132_6, gr132_7, gr132_8, gr132_9, gr132_10, gr132_11, gr132_12, gr132_13, gr132_14, gr132_15, gr132_16, gr132_17, gr132_18, gr132_19, gr132_20, gr132_21, gr132_22, gr132_23, gr132_24, gr132_25, gr132_27, gr132_28, gr132_29, gr132_30, gr132_32, gr132_33, gr132_34, gr132_35, gr132_36, gr132_37, gr132_38, gr132_39, gr132_40, gr132_41, gr132_42, gr132_44, gr132_45, gr132_46, gr132_47, gr132_48, gr132_49, gr132_50, gr132_51, gr132_61, gr132_62, gr132_63, ar134_0, ar134_1, ar137_0, ar137_1, ar140_0, ar140_1, ar143_0, ar143_1, ar146_0, ar146_1, ar149_0, ar149_1, ar152_0, ar152_1, ar155_0, ar155_1, ar158_0, ar158_1, ar164_0, ar164_1, ar164_2, ar164_3, ar164_4, ar164_5, ar164_6, ar164_7, ar164_8, ld133, st133, an133, an134, ld135, st135, an135, ld136, st136, an136, an137, ld138, st138, an138, ld139, st139, an139, an140, ld141, st141, an141, ld142, st142, an142, an143, ld144, st144, an144, ld145, st145, an145, an146, ld147, st147, an147, ld148, st148, an148, an149, ld150, st150, an150, ld151, st151, an151, an152, ld153, st153, an153, ld154, st154, an154, an155, ld156, st156, an156, ld157, st157, an157, an158, ld159, st159, an159, ld160, st160, an160, ld161, st161, an161, ld162, st162, an162, ld163, st163, an163, an164, ld165, st165, an165, ld166, st166, an166, ld167, st167, an167, ld168, st168, an168, ld169, st169, an169, ld170, st170, an170, ld171, st171, an171, ld172, st172, an172, ld173, st173, an173, ld174, st174, an174, ld175, st175, an175, ld176, st176, an176, ld177, st177, an177, ld178, st178, an178, ld179, st179, an179, ld180, st180, an180, ld181, st181, an181, ld182, st182, an182, ld183, st183, an183, ld184, st184, an184, ld185, st185, an185, ld186, st186, an186, ld187, st187, an187, ld188, st188, an188, ld189, st189, an189, ld190, st190, an190, ld191, st191, an191, ld192, st192, an192, ld193, st193, an193, ld194, st194, an194, ld195, st195, an195, ld196, st196, an196, ld197, st197, an197, Option.bind_some, if_true, if_false, n_0, n_1, n_2, n_3, n_4, n_5, n_6, n_7, n_8, n_9, n_10, n_12, n_15, n_20, n_24, n_32, n_48, n_57, n_59, n_80, n_97, n_99, n_100, n_122, n_680, n_700, n_999, n_1023, n_1024, iI_neg, iI_add, iI_sub, iI_lt, iI_le, iI_eq, Int.toNat_zero, E1.2.1.1.1.1, show ¬ T 0 2 ≤ (k : Int) by omega, ne_eq, not_true, decide_false, Bool.false_and, Bool.false_eq_true, false_and]
    · by_cases e2 : ds R g k < 11
      · rw [if_pos e2] at q2
        have hk1 : ¬ (ds R g k : Int) = -1 := by omega
        cases e3 : abv T m B g k
        · simp (maxSteps := 4000000) (disch := omega) only [Mo_through_L11, rc132, gi132, gl132, pi132, pl132, pz132, pr132, gr132_0, gr132_6, gr132_7, gr132_8, gr132_9, gr132_10, gr132_11, gr132_12, gr132_13, gr132_14, gr132_15, gr132_16, gr132_17, gr132_18, gr132_19, gr132_20, gr132_21, gr132_22, gr132_23, gr132_24, gr132_25, gr132_27, gr132_28, gr132_29, gr132_30, gr132_32, gr132_33, gr132_34, gr132_35, gr132_36, gr132_37, gr132_38, gr132_39, gr132_40, gr132_41, gr132_42, gr132_44, gr132_45, gr132_46, gr132_47, gr132_48, gr132_49, gr132_50, gr132_51, gr132_61, gr132_62, gr132_63, ar134_0, ar134_1, ar137_0, ar137_1, ar140_0, ar140_1, ar143_0, ar143_1, ar146_0, ar146_1, ar149_0, ar149_1, ar152_0, ar152_1, ar155_0, ar155_1, ar158_0, ar158_1, ar164_0, ar164_1, ar164_2, ar164_3, ar164_4, ar164_5, ar164_6, ar164_7, ar164_8, ld133, st133, an133, an134, ld135, st135, an135, ld136, st136, an136, an137, ld138, st138, an138, ld139, st139, an139, an140, ld141, st141, an141, ld142, st142, an142, an143, ld144, st144, an144, ld145, st145, an145, an146, ld147, st147, an147, ld148, st148, an148, an149, ld150, st150, an150, ld151, st151, an151, an152, ld153, st153, an153, ld154, st154, an154, an155, ld156, st156, an156, ld157, st157, an157, an158, ld159, st159, an159, ld160, st160, an160, ld161, st161, an161, ld162, st162, an162, ld163, st163, an163, an164, ld165, st165, an165, ld166, st166, an166, ld167, st167, an167, ld168, st168, an168, ld169, st169, an169, ld170, st170, an170, ld171, st171, an171, ld172, st172, an172, ld173, st173, an173, ld174, st174, an174, ld175, st175, an175, ld176, st176, an176, ld177, st177, an177, ld178, st178, an178, ld179, st179, an179, ld180, st180, an180, ld181, st181, an181, ld182, st182, an182, ld183, st183, an183, ld184, st184, an184, ld185, st185, an185, ld186, st186, an186, ld187, st187, an187, ld188, st188, an188, ld189, st189, an189, ld190, st190, an190, ld191, st191, an191, ld192, st192, an192, ld193, st193, an193, ld194, st194, an194, ld195, st195, an195, ld196, st196, an196, ld197, st197, an197, Option.bind_some, if_true, if_false, n_0, n_1, n_2, n_3, n_4, n_5, n_6, n_7, n_8, n_9, n_10, n_12, n_15, n_20, n_24, n_32, n_48, n_57, n_59, n_80, n_97, n_99, n_100, n_122, n_680, n_700, n_999, n_1023, n_1024, iI_neg, iI_add, iI_sub, iI_mul, iI_lt, iI_le, iI_eq, Int.toNat_zero, Int.toNat_natCast, E1.2.1.1.1.1, show ¬ T 0 2 ≤ (k : Int) by omega, show ¬ (k : Int) = (g : Int) by omega, q2, hk1, ixN, q1, e3, bI_0, Bool.and_false, Bool.false_eq_true, false_and]
        · by_cases e4 : u = -1
          · simp (maxSteps := 4000000) (disch := omega) only [Mo_through_L11, rc132, gi132, gl132, pi132, pl132, pz132, pr132, gr132_0, gr132_6, gr132_7, gr132_8, gr132_9, gr132_10, gr132_11, gr132_12, gr132_13, gr132_14, gr132_15, gr132_16, gr132_17, gr132_18, gr132_19, gr132_20, gr132_21, gr132_22, gr132_23, gr132_24, gr132_25, gr132_27, gr132_28, gr132_29, gr132_30, gr132_32, gr132_33, gr132_34, gr132_35, gr132_36, gr132_37, gr132_38, gr132_39, gr132_40, gr132_41, gr132_42, gr132_44, gr132_45, gr132_46, gr132_47, gr132_48, gr132_49, gr132_50, gr132_51, gr132_61, gr132_62, gr132_63, ar134_0, ar134_1, ar137_0, ar137_1, ar140_0, ar140_1, ar143_0, ar143_1, ar146_0, ar146_1, ar149_0, ar149_1, ar152_0, ar152_1, ar155_0, ar155_1, ar158_0, ar158_1, ar164_0, ar164_1, ar164_2, ar164_3, ar164_4, ar164_5, ar164_6, ar164_7, ar164_8, ld133, st133, an133, an134, ld135, st135, an135, ld136, st136, an136, an137, ld138, st138, an138, ld139, st139, an139, an140, ld141, st141, an141, ld142, st142, an142, an143, ld144, st144, an144, ld145, st145, an145, an146, ld147, st147, an147, ld148, st148, an148, an149, ld150, st150, an150, ld151, st151, an151, an152, ld153, st153, an153, ld154, st154, an154, an155, ld156, st156, an156, ld157, st157, an157, an158, ld159, st159, an159, ld160, st160, an160, ld161, st161, an161, ld162, st162, an162, ld163, st163, an163, an164, ld165, st165, an165, ld166, st166, an166, ld167, st167, an167, ld168, st168, an168, ld169, st169, an169, ld170, st170, an170, ld171, st171, an171, ld172, st172, an172, ld173, st173, an173, ld174, st174, an174, ld175, st175, an175, ld176, st176, an176, ld177, st177, an177, ld178, st178, an178, ld179, st179, an179, ld180, st180, an180, ld181, st181, an181, ld182, st182, an182, ld183, st183, an183, ld184, st184, an184, ld185, st185, an185, ld186, st186, an186, ld187, st187, an187, ld188, st188, an188, ld189, st189, an189, ld190, st190, an190, ld191, st191, an191, ld192, st192, an192, ld193, st193, an193, ld194, st194, an194, ld195, st195, an195, ld196, st196, an196, ld197, st197, an197, Option.bind_some, if_true, if_false, n_0, n_1, n_2, n_3, n_4, n_5, n_6, n_7, n_8, n_9, n_10, n_12, n_15, n_20, n_24, n_32, n_48, n_57, n_59, n_80, n_97, n_99, n_100, n_122, n_680, n_700, n_999, n_1023, n_1024, iI_neg, iI_add, iI_sub, iI_mul, iI_lt, iI_le, iI_eq, Int.toNat_zero, Int.toNat_natCast, E1.2.1.1.1.1, show ¬ T 0 2 ≤ (k : Int) by omega, show ¬ (k : Int) = (g : Int) by omega, q2, hk1, ixN, q1, e3, bI_0, Bool.true_eq_false, e4, Sum.elim_inl]
            simp [e1, e2]
          · by_cases e5 : u ≤ (ds R g k : Int) + 1
            · simp (maxSteps := 4000000) (disch := omega) only [Mo_through_L11, rc132, gi132, gl132, pi132, pl132, pz132, pr132, gr132_0, gr132_6, gr132_7, gr132_8, gr132_9, gr132_10, gr132_11, gr132_12, gr132_13, gr132_14, gr132_15, gr132_16, gr132_17, gr132_18, gr132_19, gr132_20, gr132_21, gr132_22, gr132_23, gr132_24, gr132_25, gr132_27, gr132_28, gr132_29, gr132_30, gr132_32, gr132_33, gr132_34, gr132_35, gr132_36, gr132_37, gr132_38, gr132_39, gr132_40, gr132_41, gr132_42, gr132_44, gr132_45, gr132_46, gr132_47, gr132_48, gr132_49, gr132_50, gr132_51, gr132_61, gr132_62, gr132_63, ar134_0, ar134_1, ar137_0, ar137_1, ar140_0, ar140_1, ar143_0, ar143_1, ar146_0, ar146_1, ar149_0, ar149_1, ar152_0, ar152_1, ar155_0, ar155_1, ar158_0, ar158_1, ar164_0, ar164_1, ar164_2, ar164_3, ar164_4, ar164_5, ar164_6, ar164_7, ar164_8, ld133, st133, an133, an134, ld135, st135, an135, ld136, st136, an136, an137, ld138, st138, an138, ld139, st139, an139, an140, ld141, st141, an141, ld142, st142, an142, an143, ld144, st144, an144, ld145, st145, an145, an146, ld147, st147, an147, ld148, st148, an148, an149, ld150, st150, an150, ld151, st151, an151, an152, ld153, st153, an153, ld154, st154, an154, an155, ld156, st156, an156, ld157, st157, an157, an158, ld159, st159, an159, ld160, st160, an160, ld161, st161, an161, ld162, st162, an162, ld163, st163, an163, an164, ld165, st165, an165, ld166, st166, an166, ld167, st167, an167, ld168, st168, an168, ld169, st169, an169, ld170, st170, an170, ld171, st171, an171, ld172, st172, an172, ld173, st173, an173, ld174, st174, an174, ld175, st175, an175, ld176, st176, an176, ld177, st177, an177, ld178, st178, an178, ld179, st179, an179, ld180, st180, an180, ld181, st181, an181, ld182, st182, an182, ld183, st183, an183, ld184, st184, an184, ld185, st185, an185, ld186, st186, an186, ld187, st187, an187, ld188, st188, an188, ld189, st189, an189, ld190, st190, an190, ld191, st191, an191, ld192, st192, an192, ld193, st193, an193, ld194, st194, an194, ld195, st195, an195, ld196, st196, an196, ld197, st197, an197, Option.bind_some, if_true, if_false, n_0, n_1, n_2, n_3, n_4, n_5, n_6, n_7, n_8, n_9, n_10, n_12, n_15, n_20, n_24, n_32, n_48, n_57, n_59, n_80, n_97, n_99, n_100, n_122, n_680, n_700, n_999, n_1023, n_1024, iI_neg, iI_add, iI_sub, iI_mul, iI_lt, iI_le, iI_eq, Int.toNat_zero, Int.toNat_natCast, E1.2.1.1.1.1, show ¬ T 0 2 ≤ (k : Int) by omega, show ¬ (k : Int) = (g : Int) by omega, q2, hk1, ixN, q1, e3, bI_0, Bool.true_eq_false, e4, e5, Sum.elim_inr]
              simp [e4, show ¬ (ds R g k : Int) + 1 < u by omega]
            · simp (maxSteps := 4000000) (disch := omega) only [Mo_through_L11, rc132, gi132, gl132, pi132, pl132, pz132, pr132, gr132_0, gr132_6, gr132_7, gr132_8, gr132_9, gr132_10, gr132_11, gr132_12, gr132_13, gr132_14, gr132_15, gr132_16, gr132_17, gr132_18, gr132_19, gr132_20, gr132_21, gr132_22, gr132_23, gr132_24, gr132_25, gr132_27, gr132_28, gr132_29, gr132_30, gr132_32, gr132_33, gr132_34, gr132_35, gr132_36, gr132_37, gr132_38, gr132_39, gr132_40, gr132_41, gr132_42, gr132_44, gr132_45, gr132_46, gr132_47, gr132_48, gr132_49, gr132_50, gr132_51, gr132_61, gr132_62, gr132_63, ar134_0, ar134_1, ar137_0, ar137_1, ar140_0, ar140_1, ar143_0, ar143_1, ar146_0, ar146_1, ar149_0, ar149_1, ar152_0, ar152_1, ar155_0, ar155_1, ar158_0, ar158_1, ar164_0, ar164_1, ar164_2, ar164_3, ar164_4, ar164_5, ar164_6, ar164_7, ar164_8, ld133, st133, an133, an134, ld135, st135, an135, ld136, st136, an136, an137, ld138, st138, an138, ld139, st139, an139, an140, ld141, st141, an141, ld142, st142, an142, an143, ld144, st144, an144, ld145, st145, an145, an146, ld147, st147, an147, ld148, st148, an148, an149, ld150, st150, an150, ld151, st151, an151, an152, ld153, st153, an153, ld154, st154, an154, an155, ld156, st156, an156, ld157, st157, an157, an158, ld159, st159, an159, ld160, st160, an160, ld161, st161, an161, ld162, st162, an162, ld163, st163, an163, an164, ld165, st165, an165, ld166, st166, an166, ld167, st167, an167, ld168, st168, an168, ld169, st169, an169, ld170, st170, an170, ld171, st171, an171, ld172, st172, an172, ld173, st173, an173, ld174, st174, an174, ld175, st175, an175, ld176, st176, an176, ld177, st177, an177, ld178, st178, an178, ld179, st179, an179, ld180, st180, an180, ld181, st181, an181, ld182, st182, an182, ld183, st183, an183, ld184, st184, an184, ld185, st185, an185, ld186, st186, an186, ld187, st187, an187, ld188, st188, an188, ld189, st189, an189, ld190, st190, an190, ld191, st191, an191, ld192, st192, an192, ld193, st193, an193, ld194, st194, an194, ld195, st195, an195, ld196, st196, an196, ld197, st197, an197, Option.bind_some, if_true, if_false, n_0, n_1, n_2, n_3, n_4, n_5, n_6, n_7, n_8, n_9, n_10, n_12, n_15, n_20, n_24, n_32, n_48, n_57, n_59, n_80, n_97, n_99, n_100, n_122, n_680, n_700, n_999, n_1023, n_1024, iI_neg, iI_add, iI_sub, iI_mul, iI_lt, iI_le, iI_eq, Int.toNat_zero, Int.toNat_natCast, E1.2.1.1.1.1, show ¬ T 0 2 ≤ (k : Int) by omega, show ¬ (k : Int) = (g : Int) by omega, q2, hk1, ixN, q1, e3, bI_0, Bool.true_eq_false, e4, e5, Sum.elim_inl]
              simp [e1, e2, show (ds R g k : Int) + 1 < u by omega]
      · rw [if_neg e2] at q2
        simp (maxSteps := 4000000) (disch := omega) only [Mo_through_L11, rc132, gi132, gl132, pi132, pl132, pz132, pr132, gr132_0, gr132_6, gr132_7, gr132_8, gr132_9, gr132_10, gr132_11, gr132_12, gr132_13, gr132_14, gr132_15, gr132_16, gr132_17, gr132_18, gr132_19, gr132_20, gr132_21, gr132_22, gr132_23, gr132_24, gr132_25, gr132_27, gr132_28, gr132_29, gr132_30, gr132_32, gr132_33, gr132_34, gr132_35, gr132_36, gr132_37, gr132_38, gr132_39, gr132_40, gr132_41, gr132_42, gr132_44, gr132_45, gr132_46, gr132_47, gr132_48, gr132_49, gr132_50, gr132_51, gr132_61, gr132_62, gr132_63, ar134_0, ar134_1, ar137_0, ar137_1, ar140_0, ar140_1, ar143_0, ar143_1, ar146_0, ar146_1, ar149_0, ar149_1, ar152_0, ar152_1, ar155_0, ar155_1, ar158_0, ar158_1, ar164_0, ar164_1, ar164_2, ar164_3, ar164_4, ar164_5, ar164_6, ar164_7, ar164_8, ld133, st133, an133, an134, ld135, st135, an135, ld136, st136, an136, an137, ld138, st138, an138, ld139, st139, an139, an140, ld141, st141, an141, ld142, st142, an142, an143, ld144, st144, an144, ld145, st145, an145, an146, ld147, st147, an147, ld148, st148, an148, an149, ld150, st150, an150, ld151, st151, an151, an152, ld153, st153, an153, ld154, st154, an154, an155, ld156, st156, an156, ld157, st157, an157, an158, ld159, st159, an159, ld160, st160, an160, ld161, st161, an161, ld162, st162, an162, ld163, st163, an163, an164, ld165, st165, an165, ld166, st166, an166, ld167, st167, an167, ld168, st168, an168, ld169, st169, an169, ld170, st170, an170, ld171, st171, an171, ld172, st172, an172, ld173, st173, an173, ld174, st174, an174, ld175, st175, an175, ld176, st176, an176, ld177, st177, an177, ld178, st178, an178, ld179, st179, an179, ld180, st180, an180, ld181, st181, an181, ld182, st182, an182, ld183, st183, an183, ld184, st184, an184, ld185, st185, an185, ld186, st186, an186, ld187, st187, an187, ld188, st188, an188, ld189, st189, an189, ld190, st190, an190, ld191, st191, an191, ld192, st192, an192, ld193, st193, an193, ld194, st194, an194, ld195, st195, an195, ld196, st196, an196, ld197, st197, an197, Option.bind_some, if_true, if_false, n_0, n_1, n_2, n_3, n_4, n_5, n_6, n_7, n_8, n_9, n_10, n_12, n_15, n_20, n_24, n_32, n_48, n_57, n_59, n_80, n_97, n_99, n_100, n_122, n_680, n_700, n_999, n_1023, n_1024, iI_neg, iI_add, iI_sub, iI_lt, iI_le, iI_eq, Int.toNat_zero, Int.toNat_natCast, E1.2.1.1.1.1, show ¬ T 0 2 ≤ (k : Int) by omega, show ¬ (k : Int) = (g : Int) by omega, q2, e2, decide_false, Bool.false_and, Bool.and_false, Bool.false_eq_true, false_and]
  · simp (maxSteps := 4000000) (disch := omega) only [Mo_through_L11, rc132, gi132, gl132, pi132, pl132, pz132, pr132, gr132_0, gr132_6, gr132_7, gr132_8, gr132_9, gr132_10, gr132_11, gr132_12, gr132_13, gr132_14, gr132_15, gr132_16, gr132_17, gr132_18, gr132_19, gr132_20, gr132_21, gr132_22, gr132_23, gr132_24, gr132_25, gr132_27, gr132_28, gr132_29, gr132_30, gr132_32, gr132_33, gr132_34, gr132_35, gr132_36, gr132_37, gr132_38, gr132_39, gr132_40, gr132_41, gr132_42, gr132_44, gr132_45, gr132_46, gr132_47, gr132_48, gr132_49, gr132_50, gr132_51, gr132_61, gr132_62, gr132_63, ar134_0, ar134_1, ar137_0, ar137_1, ar140_0, ar140_1, ar143_0, ar143_1, ar146_0, ar146_1, ar149_0, ar149_1, ar152_0, ar152_1, ar155_0, ar155_1, ar158_0, ar158_1, ar164_0, ar164_1, ar164_2, ar164_3, ar164_4, ar164_5, ar164_6, ar164_7, ar164_8, ld133, st133, an133, an134, ld135, st135, an135, ld136, st136, an136, an137, ld138, st138, an138, ld139, st139, an139, an140, ld141, st141, an141, ld142, st142, an142, an143, ld144, st144, an144, ld145, st145, an145, an146, ld147, st147, an147, ld148, st148, an148, an149, ld150, st150, an150, ld151, st151, an151, an152, ld153, st153, an153, ld154, st154, an154, an155, ld156, st156, an156, ld157, st157, an157, an158, ld159, st159, an159, ld160, st160, an160, ld161, st161, an161, ld162, st162, an162, ld163, st163, an163, an164, ld165, st165, an165, ld166, st166, an166, ld167, st167, an167, ld168, st168, an168, ld169, st169, an169, ld170, st170, an170, ld171, st171, an171, ld172, st172, an172, ld173, st173, an173, ld174, st174, an174, ld175, st175, an175, ld176, st176, an176, ld177, st177, an177, ld178, st178, an178, ld179, st179, an179, ld180, st180, an180, ld181, st181, an181, ld182, st182, an182, ld183, st183, an183, ld184, st184, an184, ld185, st185, an185, ld186, st186, an186, ld187, st187, an187, ld188, st188, an188, ld189, st189, an189, ld190, st190, an190, ld191, st191, an191, ld192, st192, an192, ld193, st193, an193, ld194, st194, an194, ld195, st195, an195, ld196, st196, an196, ld197, st197, an197, Option.bind_some, if_true, if_false, n_0, n_1, n_2, n_3, n_4, n_5, n_6, n_7, n_8, n_9, n_10, n_12, n_15, n_20, n_24, n_32, n_48, n_57, n_59, n_80, n_97, n_99, n_100, n_122, n_680, n_700, n_999, n_1023, n_1024, iI_neg, iI_add, iI_sub, iI_lt, iI_le, iI_eq, Int.toNat_zero, E1.2.1.1.1.1, show T 0 2 ≤ (ng T : Int) by omega]
/-- a search that writes -/
theorem jhs_aux {body : Int32 × hV → Option ((Int32 × hV) ⊕ (hV ⊕ (Int32 × hV)))} (Q : (Nat → Nat → Int32) → Prop) (N : Nat) (p : Nat → Bool) (hs : ∀ k I, k < N → Q I → ∃ I', Q I' ∧ body (iI (k : Int), (I, J, P)) = some (if p k = true then .inr (.inr (iI 1, (I', J, P))) else .inl (iI ((k : Int) + 1), (I', J, P)))) (he : ∀ I, Q I → body (iI (N : Int), (I, J, P)) = some (.inr (.inl (I, J, P)))) : ∀ (d at_ fu : Nat) (I0 : Nat → Nat → Int32), at_ + d = N → d < fu → Q I0 → (∀ k, k < at_ → p k = false) → ∃ I', Q I' ∧ jloop body fu (iI (at_ : Int), (I0, J, P)) = some (if anyb N p = true then .inr (iI 1, (I', J, P)) else .inl (I', J, P))
  | 0, at_, fu, I0, h1, h2, hq, hn => by
    obtain ⟨fu, rfl⟩ : ∃ z, fu = z + 1 := ⟨fu - 1, by omega⟩
    have e : at_ = N := by omega
    subst e
    refine ⟨I0, hq, ?_⟩
    rw [anyb_not.mpr hn]
    exact jl_e (he I0 hq)
  | d + 1, at_, fu, I0, h1, h2, hq, hn => by
    obtain ⟨fu, rfl⟩ : ∃ z, fu = z + 1 := ⟨fu - 1, by omega⟩
    obtain ⟨I1, q1, e1⟩ := hs at_ I0 (by omega) hq
    cases e : p at_
    · rw [e] at e1
      simp only [Bool.false_eq_true, if_false] at e1
      obtain ⟨I2, q2, e2⟩ := jhs_aux Q N p hs he d (at_ + 1) fu I1 (by omega) (by omega) q1 (fun k hk => by
        by_cases z : k = at_
        · rw [z]; exact e
        · exact hn k (by omega))
      exact ⟨I2, q2, (jl_s e1).trans e2⟩
    · rw [e] at e1
      simp only [if_true] at e1
      refine ⟨I1, q1, ?_⟩
      rw [anyb_iff.mpr ⟨at_, by omega, e⟩]
      exact jl_e e1
theorem jhs {body : Int32 × hV → Option ((Int32 × hV) ⊕ (hV ⊕ (Int32 × hV)))} (Q : (Nat → Nat → Int32) → Prop) (N : Nat) (p : Nat → Bool) (h0 : Q I) (hN : N < 5000) (hs : ∀ k I, k < N → Q I → ∃ I', Q I' ∧ body (iI (k : Int), (I, J, P)) = some (if p k = true then .inr (.inr (iI 1, (I', J, P))) else .inl (iI ((k : Int) + 1), (I', J, P)))) (he : ∀ I, Q I → body (iI (N : Int), (I, J, P)) = some (.inr (.inl (I, J, P)))) : ∃ I', Q I' ∧ jloop body jN (iI 0, (I, J, P)) = some (if anyb N p = true then .inr (iI 1, (I', J, P)) else .inl (I', J, P)) :=
  jhs_aux Q N p hs he N 0 jN I (by omega) (by unfold jN; omega) h0 (fun k hk => by omega)
/-- there is a ring within H -/
def hrg (A : Nat → Nat → Bool) (H : Nat → Bool) (n : Nat) : Bool := anyb n (fun g => H g && decide (cy (rsA A H) g < 10))
theorem rgL_1 : rgL R g = -1 ↔ ¬ cy R g < 10 := by
  unfold rgL
  split <;> omega
theorem rgL_rg : -1 ≤ rgL R g ∧ rgL R g ≤ 10 := by
  unfold rgL
  split <;> omega
theorem mo_hasRing (E : EM T I) (V : TV T) (hr : rkM T m B I) : ∃ I', Mo_hasRing S0 (some 132) (iI (bt 10 H : Int)) (I, J, Pst b f) = some (bI (hrg (abv T m B) H (ng T)), (I', J, Pst b f)) ∧ frM zN sLd I I' := by
  obtain ⟨⟨vA, vB⟩, ⟨vC, vD⟩, vE, vF⟩ := id V
  have h0 := vC.1
  have h2 := ngI vC
  have key := jhs (J := J) (P := Pst b f) (I := I) (body := Mo_hasRing_L2 S0 (some 132) (iI (bt 10 H : Int))) (fun I' => frM zN sLd I I') (ng T) (fun g => H g && decide (cy (rsA (abv T m B) H) g < 10)) (frM.refl _ _ _) (by omega) (fun k I1 hk q1 => ?_) (fun I1 q1 => ?_)
  · obtain ⟨I2, e2, e1⟩ := key
    refine ⟨I2, ?_, e2⟩
    simp only [Mo_hasRing, rc132, gi132, gl132, pi132, pl132, pz132, pr132, gr132_0, gr132_6, gr132_7, gr132_8, gr132_9, gr132_10, gr132_11, gr132_12, gr132_13, gr132_14, gr132_15, gr132_16, gr132_17, gr132_18, gr132_19, gr132_20, gr132_21, gr132_22, gr132_23, gr132_24, gr132_25, gr132_27, gr132_28, gr132_29, gr132_30, gr132_32, gr132_33, gr132_34, gr132_35, gr132_36, gr132_37, gr132_38, gr132_39, gr132_40, gr132_41, gr132_42, gr132_44, gr132_45, gr132_46, gr132_47, gr132_48, gr132_49, gr132_50, gr132_51, gr132_61, gr132_62, gr132_63, ar134_0, ar134_1, ar137_0, ar137_1, ar140_0, ar140_1, ar143_0, ar143_1, ar146_0, ar146_1, ar149_0, ar149_1, ar152_0, ar152_1, ar155_0, ar155_1, ar158_0, ar158_1, ar164_0, ar164_1, ar164_2, ar164_3, ar164_4, ar164_5, ar164_6, ar164_7, ar164_8, ld133, st133, an133, an134, ld135, st135, an135, ld136, st136, an136, an137, ld138, st138, an138, ld139, st139, an139, an140, ld141, st141, an141, ld142, st142, an142, an143, ld144, st144, an144, ld145, st145, an145, an146, ld147, st147, an147, ld148, st148, an148, an149, ld150, st150, an150, ld151, st151, an151, an152, ld153, st153, an153, ld154, st154, an154, an155, ld156, st156, an156, ld157, st157, an157, an158, ld159, st159, an159, ld160, st160, an160, ld161, st161, an161, ld162, st162, an162, ld163, st163, an163, an164, ld165, st165, an165, ld166, st166, an166, ld167, st167, an167, ld168, st168, an168, ld169, st169, an169, ld170, st170, an170, ld171, st171, an171, ld172, st172, an172, ld173, st173, an173, ld174, st174, an174, ld175, st175, an175, ld176, st176, an176, ld177, st177, an177, ld178, st178, an178, ld179, st179, an179, ld180, st180, an180, ld181, st181, an181, ld182, st182, an182, ld183, st183, an183, ld184, st184, an184, ld185, st185, an185, ld186, st186, an186, ld187, st187, an187, ld188, st188, an188, ld189, st189, an189, ld190, st190, an190, ld191, st191, an191, ld192, st192, an192, ld193, st193, an193, ld194, st194, an194, ld195, st195, an195, ld196, st196, an196, ld197, st197, an197, Option.bind_some, if_true, if_false, n_0, e1, hrg]
    cases anyb (ng T) (fun g => H g && decide (cy (rsA (abv T m B) H) g < 10)) <;> rfl
  · have E1 := E.frL q1
    cases e : H k
    · refine ⟨I1, q1, ?_⟩
      simp (maxSteps := 4000000) (disch := omega) only [Mo_hasRing_L2, rc132, gi132, gl132, pi132, pl132, pz132, pr132, gr132_0, gr132_6, gr132_7, gr132_8, gr132_9, gr132_10, gr132_11, gr132_12, gr132_13, gr132_14, gr132_15, gr132_16, gr132_17, gr132_18, gr132_19, gr132_20, gr132_21, gr132_22, gr132_23, gr132_24, gr132_25, gr132_27, gr132_28, gr132_29, gr132_30, gr132_32, gr132_33, gr132_34, gr132_35, gr132_36, gr132_37, gr132_38, gr132_39, gr132_40, gr132_41, gr132_42, gr132_44, gr132_45, gr132_46, gr132_47, gr132_48, gr132_49, gr132_50, gr132_51, gr132_61, gr132_62, gr132_63, ar134_0, ar134_1, ar137_0, ar137_1, ar140_0, ar140_1, ar143_0, ar143_1, ar146_0, ar146_1, ar149_0, ar149_1, ar152_0, ar152_1, ar155_0, ar155_1, ar158_0, ar158_1, ar164_0, ar164_1, ar164_2, ar164_3, ar164_4, ar164_5, ar164_6, ar164_7, ar164_8, ld133, st133, an133, an134, ld135, st135, an135, ld136, st136, an136, an137, ld138, st138, an138, ld139, st139, an139, an140, ld141, st141, an141, ld142, st142, an142, an143, ld144, st144, an144, ld145, st145, an145, an146, ld147, st147, an147, ld148, st148, an148, an149, ld150, st150, an150, ld151, st151, an151, an152, ld153, st153, an153, ld154, st154, an154, an155, ld156, st156, an156, ld157, st157, an157, an158, ld159, st159, an159, ld160, st160, an160, ld161, st161, an161, ld162, st162, an162, ld163, st163, an163, an164, ld165, st165, an165, ld166, st166, an166, ld167, st167, an167, ld168, st168, an168, ld169, st169, an169, ld170, st170, an170, ld171, st171, an171, ld172, st172, an172, ld173, st173, an173, ld174, st174, an174, ld175, st175, an175, ld176, st176, an176, ld177, st177, an177, ld178, st178, an178, ld179, st179, an179, ld180, st180, an180, ld181, st181, an181, ld182, st182, an182, ld183, st183, an183, ld184, st184, an184, ld185, st185, an185, ld186, st186, an186, ld187, st187, an187, ld188, st188, an188, ld189, st189, an189, ld190, st190, an190, ld191, st191, an191, ld192, st192, an192, ld193, st193, an193, ld194, st194, an194, ld195, st195, an195, ld196, st196, an196, ld197, st197, an197, Option.bind_some, if_true, if_false, n_0, n_1, n_2, n_3, n_4, n_5, n_6, n_7, n_8, n_9, n_10, n_12, n_15, n_20, n_24, n_32, n_48, n_57, n_59, n_80, n_97, n_99, n_100, n_122, n_680, n_700, n_999, n_1023, n_1024, iI_neg, iI_add, iI_sub, iI_lt, iI_le, iI_eq, Int.toNat_zero, E1.2.1.1.1.1, show ¬ T 0 2 ≤ (k : Int) by omega, shrS (show k < 10 by omega), bI_1, e, Bool.false_eq_true, Bool.false_and]
    · obtain ⟨I3, z1, z2, z3⟩ := mo_through (J := J) (b := b) (f := f) (R := rsA (abv T m B) H) E1 V (hr.fr q1 (by omega) (by omega)) hk rfl e
      refine ⟨I3, q1.trans z2, ?_⟩
      have hrl := rgL_rg (R := rsA (abv T m B) H) (g := k)
      simp (maxSteps := 4000000) (disch := omega) only [Mo_hasRing_L2, rc132, gi132, gl132, pi132, pl132, pz132, pr132, gr132_0, gr132_6, gr132_7, gr132_8, gr132_9, gr132_10, gr132_11, gr132_12, gr132_13, gr132_14, gr132_15, gr132_16, gr132_17, gr132_18, gr132_19, gr132_20, gr132_21, gr132_22, gr132_23, gr132_24, gr132_25, gr132_27, gr132_28, gr132_29, gr132_30, gr132_32, gr132_33, gr132_34, gr132_35, gr132_36, gr132_37, gr132_38, gr132_39, gr132_40, gr132_41, gr132_42, gr132_44, gr132_45, gr132_46, gr132_47, gr132_48, gr132_49, gr132_50, gr132_51, gr132_61, gr132_62, gr132_63, ar134_0, ar134_1, ar137_0, ar137_1, ar140_0, ar140_1, ar143_0, ar143_1, ar146_0, ar146_1, ar149_0, ar149_1, ar152_0, ar152_1, ar155_0, ar155_1, ar158_0, ar158_1, ar164_0, ar164_1, ar164_2, ar164_3, ar164_4, ar164_5, ar164_6, ar164_7, ar164_8, ld133, st133, an133, an134, ld135, st135, an135, ld136, st136, an136, an137, ld138, st138, an138, ld139, st139, an139, an140, ld141, st141, an141, ld142, st142, an142, an143, ld144, st144, an144, ld145, st145, an145, an146, ld147, st147, an147, ld148, st148, an148, an149, ld150, st150, an150, ld151, st151, an151, an152, ld153, st153, an153, ld154, st154, an154, an155, ld156, st156, an156, ld157, st157, an157, an158, ld159, st159, an159, ld160, st160, an160, ld161, st161, an161, ld162, st162, an162, ld163, st163, an163, an164, ld165, st165, an165, ld166, st166, an166, ld167, st167, an167, ld168, st168, an168, ld169, st169, an169, ld170, st170, an170, ld171, st171, an171, ld172, st172, an172, ld173, st173, an173, ld174, st174, an174, ld175, st175, an175, ld176, st176, an176, ld177, st177, an177, ld178, st178, an178, ld179, st179, an179, ld180, st180, an180, ld181, st181, an181, ld182, st182, an182, ld183, st183, an183, ld184, st184, an184, ld185, st185, an185, ld186, st186, an186, ld187, st187, an187, ld188, st188, an188, ld189, st189, an189, ld190, st190, an190, ld191, st191, an191, ld192, st192, an192, ld193, st193, an193, ld194, st194, an194, ld195, st195, an195, ld196, st196, an196, ld197, st197, an197, Option.bind_some, if_true, if_false, n_0, n_1, n_2, n_3, n_4, n_5, n_6, n_7, n_8, n_9, n_10, n_12, n_15, n_20, n_24, n_32, n_48, n_57, n_59, n_80, n_97, n_99, n_100, n_122, n_680, n_700, n_999, n_1023, n_1024, iI_neg, iI_add, iI_sub, iI_lt, iI_le, iI_eq, Int.toNat_zero, E1.2.1.1.1.1, show ¬ T 0 2 ≤ (k : Int) by omega, shrS (show k < 10 by omega), bI_1, e, z1, rgL_1, Bool.true_and, decide_eq_true_eq]
      by_cases q : cy (rsA (abv T m B) H) k < 10
      · simp only [q, not_true, Option.bind_some, if_true, if_false]
      · simp only [q, not_false_eq_true, Option.bind_some, if_true, if_false]
  · have E1 := E.frL q1
    simp (maxSteps := 4000000) (disch := omega) only [Mo_hasRing_L2, rc132, gi132, gl132, pi132, pl132, pz132, pr132, gr132_0, gr132_6, gr132_7, gr132_8, gr132_9, gr132_10, gr132_11, gr132_12, gr132_13, gr132_14, gr132_15, gr132_16, gr132_17, gr132_18, gr132_19, gr132_20, gr132_21, gr132_22, gr132_23, gr132_24, gr132_25, gr132_27, gr132_28, gr132_29, gr132_30, gr132_32, gr132_33, gr132_34, gr132_35, gr132_36, gr132_37, gr132_38, gr132_39, gr132_40, gr132_41, gr132_42, gr132_44, gr132_45, gr132_46, gr132_47, gr132_48, gr132_49, gr132_50, gr132_51, gr132_61, gr132_62, gr132_63, ar134_0, ar134_1, ar137_0, ar137_1, ar140_0, ar140_1, ar143_0, ar143_1, ar146_0, ar146_1, ar149_0, ar149_1, ar152_0, ar152_1, ar155_0, ar155_1, ar158_0, ar158_1, ar164_0, ar164_1, ar164_2, ar164_3, ar164_4, ar164_5, ar164_6, ar164_7, ar164_8, ld133, st133, an133, an134, ld135, st135, an135, ld136, st136, an136, an137, ld138, st138, an138, ld139, st139, an139, an140, ld141, st141, an141, ld142, st142, an142, an143, ld144, st144, an144, ld145, st145, an145, an146, ld147, st147, an147, ld148, st148, an148, an149, ld150, st150, an150, ld151, st151, an151, an152, ld153, st153, an153, ld154, st154, an154, an155, ld156, st156, an156, ld157, st157, an157, an158, ld159, st159, an159, ld160, st160, an160, ld161, st161, an161, ld162, st162, an162, ld163, st163, an163, an164, ld165, st165, an165, ld166, st166, an166, ld167, st167, an167, ld168, st168, an168, ld169, st169, an169, ld170, st170, an170, ld171, st171, an171, ld172, st172, an172, ld173, st173, an173, ld174, st174, an174, ld175, st175, an175, ld176, st176, an176, ld177, st177, an177, ld178, st178, an178, ld179, st179, an179, ld180, st180, an180, ld181, st181, an181, ld182, st182, an182, ld183, st183, an183, ld184, st184, an184, ld185, st185, an185, ld186, st186, an186, ld187, st187, an187, ld188, st188, an188, ld189, st189, an189, ld190, st190, an190, ld191, st191, an191, ld192, st192, an192, ld193, st193, an193, ld194, st194, an194, ld195, st195, an195, ld196, st196, an196, ld197, st197, an197, Option.bind_some, if_true, if_false, n_0, n_1, n_2, n_3, n_4, n_5, n_6, n_7, n_8, n_9, n_10, n_12, n_15, n_20, n_24, n_32, n_48, n_57, n_59, n_80, n_97, n_99, n_100, n_122, n_680, n_700, n_999, n_1023, n_1024, iI_neg, iI_add, iI_sub, iI_lt, iI_le, iI_eq, Int.toNat_zero, E1.2.1.1.1.1, show T 0 2 ≤ (ng T : Int) by omega]
end
