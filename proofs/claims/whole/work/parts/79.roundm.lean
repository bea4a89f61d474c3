/-! ===== layer 2: rounds, model's side ===== -/
section
variable {T : Tb} {I I' I'' : Nat → Nat → Int32} {J : Nat → Nat → Int64} {b : Bool} {f k n N x y z g t s h doors a l : Nat} {P : Nat → Nat → Option Nat} {m w : Int} {A E : Nat → Nat → Bool} {W C cm D p : Nat → Bool} {V0 V1 : hV} {s1 : Int32}
/-- the leaders, their numbers, how many -/
def leT (T : Tb) (m : Int) : Nat → Bool := lea (cmb T) (evn T m 0)
def kaT (T : Tb) (m : Int) (l : Nat) : Nat := cnt l (leT T m)
def nG (T : Tb) (m : Int) : Nat := cnt 10 (leT T m)
abbrev ldT (T : Tb) (m : Int) : Nat → Nat := ldr (evn T m 0)
theorem cnt_surj : ∀ {n k : Nat}, k < cnt n p → ∃ l, l < n ∧ p l = true ∧ cnt l p = k
  | 0, k, h => by simp [cnt] at h
  | n + 1, k, h => by
    have h' : k < cnt n p + (if p n = true then 1 else 0) := h
    by_cases q : k < cnt n p
    · obtain ⟨l, h1, h2, h3⟩ := cnt_surj q
      exact ⟨l, by omega, h2, h3⟩
    · by_cases e : p n = true
      · rw [if_pos e] at h'
        exact ⟨n, by omega, e, by omega⟩
      · rw [if_neg e] at h'; omega
theorem leT_of (ht : tvC T) (hv : tvD T) (hy : y < 10) (hc : cmb T y = true) : ldT T m y < 10 ∧ leT T m (ldT T m y) = true := by
  have hG := gvR_T (m := m) ht hv
  have hl := ldr_is (E := evn T m 0) hy
  exact ⟨hl.1, by simp [leT, lea, cpn_cm hG.2.1 hy hl.1 hl.2.1 hc, ldr_ldr hG.1 hy]⟩
theorem ka_inj (h1 : leT T m x = true) (h2 : leT T m y = true) (e : kaT T m x = kaT T m y) : x = y := by
  unfold kaT at e
  rcases Nat.lt_trichotomy x y with q | q | q
  · have := cnt_lt_of q h1; omega
  · exact q
  · have := cnt_lt_of q h2; omega
theorem ldO_ka (ht : tvC T) (hv : tvD T) : ldO (cmb T) (ldT T m) (kaT T m) (nG T m) := by
  have hG := gvR_T (m := m) ht hv
  refine ⟨(ldO_id hG.1 hG.2.1).1, fun y z hy hz hcy hcz e => ?_, fun y hy hc => ?_⟩
  · exact ka_inj (leT_of ht hv hy hcy).2 (leT_of ht hv hz hcz).2 e
  · exact cnt_lt_of (leT_of ht hv hy hc).1 (leT_of ht hv hy hc).2
theorem nG_le : nG T m ≤ 10 := cnt_le _ _
def fuM (T : Tb) (m : Int) : Nat := bt (nG T m) (fun _ => true)
theorem fuM_is : fuM T m = 2 ^ nG T m - 1 := bt_tt _
theorem inF_fu (ht : tvC T) (hv : tvD T) : inF (cmb T) (ldT T m) (kaT T m) t ↔ sbs t (fuM T m) := by
  constructor
  · intro h i hi
    obtain ⟨y, h1, h2, h3⟩ := h i hi
    unfold fuM
    rw [bt_bit]
    have := (ldO_ka (m := m) ht hv).2.2 y h1 h2
    simp
    omega
  · intro h i hi
    have := h i hi
    unfold fuM at this
    rw [bt_bit] at this
    simp only [Bool.and_true, decide_eq_true_eq] at this
    have hlt : i < cnt 10 (leT T m) := this
    obtain ⟨l, h1, h2, h3⟩ := cnt_surj hlt
    have hl : cmb T l = true ∧ ldT T m l = l := lea_is h2
    exact ⟨l, h1, hl.1, by rw [hl.2]; exact h3⟩
abbrev uT (T : Tb) (m : Int) (h : Nat) : Nat → Bool := uS (cmb T) (ldT T m) (kaT T m) h
/-- what is left beside h -/
def rsM (T : Tb) (m : Int) (h : Nat) : Nat := fuM T m ^^^ (fuM T m &&& h)
theorem rsM_bit : (rsM T m h).testBit k = (decide (k < nG T m) && !h.testBit k) := by
  unfold rsM fuM
  rw [Nat.testBit_xor, Nat.testBit_and, bt_bit]
  cases decide (k < nG T m) <;> cases h.testBit k <;> rfl
def mgo (T : Tb) (m : Int) (W D : Nat → Bool) : Bool := !anyb (ng T) (fun g => W g && anyb (ng T) (fun y => abv T m 0 y g && !D y))
theorem edm_t (ht : tvC T) (hv : tvD T) (hh : sbs h (fuM T m)) (hs : sbs s (rsM T m h)) (h0 : s ≠ 0) : edG (abv T m 0) (cmb T) (ldT T m) (kaT T m) doors h (h ||| s) = true ↔ (cnt 10 (uT T m s) ≤ doors ∧ mgo T m (uT T m s) (uT T m h) = true) := by
  have hG := gvR_T (m := m) ht hv
  have hng := ng_le ht
  have hsb : ∀ k, s.testBit k = true → k < nG T m ∧ h.testBit k = false := fun k hk => by
    have := hs k hk
    rw [rsM_bit] at this
    simpa using this
  have hlt : ∃ g, s.testBit g = true := by
    apply Classical.byContradiction
    intro hq
    apply h0
    apply Nat.eq_of_testBit_eq
    intro i
    rw [Nat.zero_testBit]
    cases e : s.testBit i
    · rfl
    · exact absurd ⟨i, e⟩ hq
  obtain ⟨g0, hg0⟩ := hlt
  obtain ⟨l, l1, l2, l3⟩ := cnt_surj (hsb g0 hg0).1
  have hl : cmb T l = true ∧ ldT T m l = l := lea_is l2
  have l3' : kaT T m l = g0 := l3
  have huo : ∀ y, uT T m (h ||| s) y = (uT T m h y || uT T m s y) := fun y => by
    simp only [uT, uS, Nat.testBit_or]
    cases cmb T y <;> simp
  have hdis : ∀ y, uT T m s y = true → uT T m h y = false := fun y hy => by
    simp only [uT, uS, Bool.and_eq_true] at hy ⊢
    rw [(hsb _ hy.2).2, Bool.and_false]
  have hcnt : cnt 10 (fun y => uT T m (h ||| s) y && !uT T m h y) = cnt 10 (uT T m s) := cnt_ext fun y _ => by
    rw [huo]
    cases e : uT T m s y
    · cases uT T m h y <;> rfl
    · rw [hdis y e]; rfl
  rw [edG_iff]
  constructor
  · rintro ⟨_, _, _, _, h3, h4⟩
    refine ⟨by rw [← hcnt]; exact h3, ?_⟩
    unfold mgo
    rw [Bool.not_eq_true']
    refine anyb_not.mpr fun g hg => ?_
    cases e : uT T m s g
    · rfl
    · rw [Bool.true_and]
      refine anyb_not.mpr fun y hy => ?_
      cases e2 : abv T m 0 y g
      · rfl
      · have := h4 g (by omega) (by show uT T m (h ||| s) g = true; rw [huo, e, Bool.or_true]) (hdis g e) y (by omega) e2
        rw [show uT T m h y = true from this]; rfl
  · rintro ⟨hc, hm⟩
    unfold mgo at hm
    rw [Bool.not_eq_true'] at hm
    refine ⟨⟨fun k hk => by rw [Nat.testBit_or, hk]; rfl, fun e => ?_⟩, (inF_fu ht hv).mpr fun g hg => ?_, fun y _ hy => ?_, ⟨l, l1, ?_, ?_⟩, ?_, fun y hy h1 h2 x hx hA => ?_⟩
    · have := congrArg (fun z => Nat.testBit z g0) e
      simp only [Nat.testBit_or, hg0, (hsb g0 hg0).2] at this
      cases this
    · rw [Nat.testBit_or] at hg
      simp only [Bool.or_eq_true] at hg
      rcases hg with q | q
      · exact hh g q
      · unfold fuM; rw [bt_bit]; simp [(hsb g q).1]
    · show uT T m (h ||| s) y = true
      rw [huo, show uT T m h y = true from hy]; rfl
    · show uT T m (h ||| s) l = true
      rw [huo]; simp [uT, uS, hl.1, hl.2, l3', hg0]
    · show uT T m h l = false
      simp [uT, uS, hl.2, l3', (hsb g0 hg0).2]
    · show cnt 10 (fun y => uT T m (h ||| s) y && !uT T m h y) ≤ doors
      rw [hcnt]; exact hc
    · have h1' : uT T m (h ||| s) y = true := h1
      have h2' : uT T m h y = false := h2
      rw [huo, h2', Bool.false_or] at h1'
      have hab := abv_lt ht hv _ _ hA
      have k1 := anyb_not.mp hm y hab.2
      rw [h1', Bool.true_and] at k1
      have k2 := anyb_not.mp k1 x hab.1
      rw [hA, Bool.true_and] at k2
      show uT T m h x = true
      simpa using k2
theorem edm_c (ht : tvC T) (hv : tvD T) (hq : edG (abv T m 0) (cmb T) (ldT T m) (kaT T m) doors h t = true) : ∃ s, s ≠ 0 ∧ sbs s (rsM T m h) ∧ t = h ||| s := by
  obtain ⟨⟨h1, h2⟩, h3, _⟩ := edG_iff.mp hq
  have hF := (inF_fu ht hv).mp h3
  have hbit : ∀ g, (bt (nG T m) (fun g => t.testBit g && !h.testBit g)).testBit g = (t.testBit g && !h.testBit g) := fun g => by
    rw [bt_bit]
    cases e : t.testBit g
    · simp
    · have := hF g e
      unfold fuM at this
      rw [bt_bit] at this
      simp at this
      simp [this]
  have ht' : t = h ||| bt (nG T m) (fun g => t.testBit g && !h.testBit g) := Nat.eq_of_testBit_eq fun g => by
    rw [Nat.testBit_or, hbit]
    cases e : h.testBit g
    · simp
    · rw [h1 g e]; rfl
  refine ⟨_, fun e => ?_, fun g hg => ?_, ht'⟩
  · rw [e, Nat.or_zero] at ht'
    exact h2 ht'.symm
  · rw [rsM_bit]
    rw [bt_bit] at hg
    simp only [Bool.and_eq_true, decide_eq_true_eq] at hg
    simp [hg.1, hg.2.2]
theorem orm_inj (h1 : sbs n (rsM T m h)) (h2 : sbs s (rsM T m h)) (e : h ||| n = h ||| s) : n = s := by
  have hb : ∀ a, sbs a (rsM T m h) → ∀ g, a.testBit g = true → h.testBit g = false := fun a ha g hg => by
    have := ha g hg
    rw [rsM_bit] at this
    simpa using (by simpa using this : _ ∧ _).2
  apply Nat.eq_of_testBit_eq
  intro g
  have := congrArg (fun z => Nat.testBit z g) e
  simp only [Nat.testBit_or] at this
  cases e1 : n.testBit g
  · cases e2 : s.testBit g
    · rfl
    · rw [e1, e2, hb s h2 g e2] at this; cases this
  · cases e2 : s.testBit g
    · rw [e1, e2, hb n h1 g e1] at this; cases this
    · rfl
/-! machine -/
def gbM (T : Tb) (m : Int) (I : Nat → Nat → Int32) : Prop := ∀ k, k < nG T m → I 181 k = iI (bt 10 (fun x => cmb T x && decide (kaT T m (ldT T m x) = k)) : Int)
abbrev sBg (o : Nat) : Prop := o ≠ 181
theorem EM.frB (E : EM T I) (h : frM zN sBg I I') : EM T I' := E.frX h id id (fun o h1 h2 => by omega)
theorem cnt_le_ng (ht : tvC T) : cnt (ng T) (leT T m) = nG T m := by
  have h1 := ng_le ht
  have := cnt_out (p := leT T m) (n := ng T) (fun k hk => by
    cases e : leT T m k
    · rfl
    · have := cmb_lt (lea_is e).1; omega) (10 - ng T)
  rw [show ng T + (10 - ng T) = 10 by omega] at this
  exact this.symm
theorem mo_group (E : EM T I) (V : TV T) (hl : rowN 180 (ldT T m) I) (hg : g < ng T) (hn : n < 10) : jloop (Mo_groups_L151 S0 (some 132) (iI (n : Int), iI (g : Int), V0)) jN (iI 0, (hup I 181 n (iI 0), J, Pst b f)) = some (hup I 181 n (iI (bt 10 (fun x => cmb T x && decide (ldT T m x = g)) : Int)), J, Pst b f) := by
  obtain ⟨⟨vA, vB⟩, ⟨vC, vD⟩, vE, vF⟩ := id V
  have h0 := vC.1
  have h2 := ngI vC
  have hfin : iI (bt 10 (fun x => cmb T x && decide (ldT T m x = g)) : Int) = iI (bt 10 (fun x => decide (x < ng T) && (cmb T x && decide (ldT T m x = g))) : Int) := sI_ext fun x _ => by
    cases e : cmb T x
    · simp
    · simp [cmb_lt e]
  rw [hfin]
  refine jfun (fun k => (iI (k : Int), (hup I 181 n (iI (bt 10 (fun x => decide (x < k) && (cmb T x && decide (ldT T m x = g))) : Int)), J, Pst b f))) (ng T) ?_ (fun k hk => ?_) ?_ (by omega)
  · rw [sI_z, sI_ext (p := fun _ => false) (q := fun x => decide (x < 0) && (cmb T x && decide (ldT T m x = g))) fun x _ => by simp]
    rfl
  · have E1 := E.frB ((frM.refl zN sBg I).wr (o := 181) (k := n) (v := iI (bt 10 (fun x => decide (x < k) && (cmb T x && decide (ldT T m x = g))) : Int)) (by omega) (by omega))
    have q1 := (E1.2.2 k (by omega)).1
    have q2 := (vE k (by omega)).1
    have q3 : hup I 181 n (iI (bt 10 (fun x => decide (x < k) && (cmb T x && decide (ldT T m x = g))) : Int)) 180 k = iI (ldT T m k : Int) := by rw [hup_obj _ _ _ (by omega)]; exact hl k (by omega)
    have hlk := (ldr_is (E := evn T m 0) (show k < 10 by omega)).1
    have hlk' : ldT T m k < 10 := hlk
    rcases q2 with z | z
    · have hc : cmb T k = false := by simp [cmb, com, z]
      rw [z] at q1
      simp (maxSteps := 4000000) (disch := omega) only [Mo_groups_L151, rc132, gi132, gl132, pi132, pl132, pz132, pr132, gr132_0, gr132_6, gr132_7, gr132_8, gr132_9, gr132_10, gr132_11, gr132_12, gr132_13, gr132_14, gr132_15, gr132_16, gr132_17, gr132_18, gr132_19, gr132_20, gr132_21, gr132_22, gr132_23, gr132_24, gr132_25, gr132_27, gr132_28, gr132_29, gr132_30, gr132_32, gr132_33, gr132_34, gr132_35, gr132_36, gr132_37, gr132_38, gr132_39, gr132_40, gr132_41, gr132_42, gr132_44, gr132_45, gr132_46, gr132_47, gr132_48, gr132_49, gr132_50, gr132_51, gr132_61, gr132_62, gr132_63, ar134_0, ar134_1, ar137_0, ar137_1, ar140_0, ar140_1, ar143_0, ar143_1, ar146_0, ar146_1, ar149_0, ar149_1, ar152_0, ar152_1, ar155_0, ar155_1, ar158_0, ar158_1, ar164_0, ar164_1, ar164_2, ar164_3, ar164_4, ar164_5, ar164_6, ar164_7, ar164_8, ld133, st133, an133, an134, ld135, st135, an135, ld136, st136, an136, an137, ld138, st138, an138, ld139, st139, an139, an140, ld141, st141, an141, ld142, st142, an142, an143, ld144, st144, an144, ld145, st145, an145, an146, ld147, st147, an147, ld148, st148, an148, an149, ld150, st150, an150, ld151, st151, an151, an152, ld153, st153, an153, ld154, st154, an154, an155, ld156, st156, an156, ld157, st157, an157, an158, ld159, st159, an159, ld160, st160, an160, ld161, st161, an161, ld162, st162, an162, ld163, st163, an163, an164, ld165, st165, an165, ld166, st166, an166, ld167, st167, an167, ld168, st168, an168, ld169, st169, an169, ld170, st170, an170, ld171, st171, an171, ld172, st172, an172, ld173, st173, an173, ld174, st174, an174, ld175, st175, an175, ld176, st176, an176, ld177, st177, an177, ld178, st178, an178, ld179, st179, an179, ld180, st180, an180, ld181, st181, an181, ld182, st182, an182, ld183, st183, an183, ld184, st184, an184, ld185, st185, an185, ld186, st186, an186, ld187, st187, an187, ld188, st188, an188, ld189, st189, an189, ld190, st190, an190, ld191, st191, an191, ld192, st192, an192, ld193, st193, an193, ld194, st194, an194, ld195, st195, an195, ld196, st196, an196, ld197, st197, an197, Option.bind_some, if_true, if_false, n_0, n_1, n_2, n_3, n_4, n_5, n_6, n_7, n_8, n_9, n_10, n_12, n_15, n_20, n_24, n_32, n_48, n_57, n_59, n_80, n_97, n_99, n_100, n_122, n_680, n_700, n_999, n_1023, n_1024, iI_neg, iI_add, iI_sub, iI_lt, iI_le, iI_eq, Int.toNat_zero, Int.toNat_natCast, E1.2.1.1.1.1, show ¬ T 0 2 ≤ (k : Int) by omega, hup_same, q1, nI_or0, hup_hup]
      rw [sI_ext (p := fun x => decide (x < k) && (cmb T x && decide (ldT T m x = g))) (q := fun x => decide (x < k + 1) && (cmb T x && decide (ldT T m x = g))) fun x _ => by
        by_cases q : x = k
        · subst q; simp [hc]
        · simp only [lt_sk x k q]]
      rfl
    · have hc : cmb T k = true := by simp [cmb, com, z, hk]
      rw [z] at q1
      by_cases e : ldT T m k = g
      · simp (maxSteps := 4000000) (disch := omega) only [Mo_groups_L151, rc132, gi132, gl132, pi132, pl132, pz132, pr132, gr132_0, gr132_6, gr132_7, gr132_8, gr132_9, gr132_10, gr132_11, gr132_12, gr132_13, gr132_14, gr132_15, gr132_16, gr132_17, gr132_18, gr132_19, gr132_20, gr132_21, gr132_22, gr132_23, gr132_24, gr132_25, gr132_27, gr132_28, gr132_29, gr132_30, gr132_32, gr132_33, gr132_34, gr132_35, gr132_36, gr132_37, gr132_38, gr132_39, gr132_40, gr132_41, gr132_42, gr132_44, gr132_45, gr132_46, gr132_47, gr132_48, gr132_49, gr132_50, gr132_51, gr132_61, gr132_62, gr132_63, ar134_0, ar134_1, ar137_0, ar137_1, ar140_0, ar140_1, ar143_0, ar143_1, ar146_0, ar146_1, ar149_0, ar149_1, ar152_0, ar152_1, ar155_0, ar155_1, ar158_0, ar158_1, ar164_0, ar164_1, ar164_2, ar164_3, ar164_4, ar164_5, ar164_6, ar164_7, ar164_8, ld133, st133, an133, an134, ld135, st135, an135, ld136, st136, an136, an137, ld138, st138, an138, ld139, st139, an139, an140, ld141, st141, an141, ld142, st142, an142, an143, ld144, st144, an144, ld145, st145, an145, an146, ld147, st147, an147, ld148, st148, an148, an149, ld150, st150, an150, ld151, st151, an151, an152, ld153, st153, an153, ld154, st154, an154, an155, ld156, st156, an156, ld157, st157, an157, an158, ld159, st159, an159, ld160, st160, an160, ld161, st161, an161, ld162, st162, an162, ld163, st163, an163, an164, ld165, st165, an165, ld166, st166, an166, ld167, st167, an167, ld168, st168, an168, ld169, st169, an169, ld170, st170, an170, ld171, st171, an171, ld172, st172, an172, ld173, st173, an173, ld174, st174, an174, ld175, st175, an175, ld176, st176, an176, ld177, st177, an177, ld178, st178, an178, ld179, st179, an179, ld180, st180, an180, ld181, st181, an181, ld182, st182, an182, ld183, st183, an183, ld184, st184, an184, ld185, st185, an185, ld186, st186, an186, ld187, st187, an187, ld188, st188, an188, ld189, st189, an189, ld190, st190, an190, ld191, st191, an191, ld192, st192, an192, ld193, st193, an193, ld194, st194, an194, ld195, st195, an195, ld196, st196, an196, ld197, st197, an197, Option.bind_some, if_true, if_false, n_0, n_1, n_2, n_3, n_4, n_5, n_6, n_7, n_8, n_9, n_10, n_12, n_15, n_20, n_24, n_32, n_48, n_57, n_59, n_80, n_97, n_99, n_100, n_122, n_680, n_700, n_999, n_1023, n_1024, iI_neg, iI_add, iI_sub, iI_lt, iI_le, iI_eq, Int.toNat_zero, Int.toNat_natCast, E1.2.1.1.1.1, show ¬ T 0 2 ≤ (k : Int) by omega, hup_same, q1, show ¬ (1 : Int) = 0 by omega, q3, show (ldT T m k : Int) = (g : Int) by omega, sI_one (show k < 10 by omega), sI_or, hup_hup]
        rw [sI_ext (q := fun x => decide (x < k + 1) && (cmb T x && decide (ldT T m x = g))) fun x _ => by
          by_cases q : x = k
          · subst q; simp [hc, e]
          · simp [lt_sk x k q, q]]
        rfl
      · simp (maxSteps := 4000000) (disch := omega) only [Mo_groups_L151, rc132, gi132, gl132, pi132, pl132, pz132, pr132, gr132_0, gr132_6, gr132_7, gr132_8, gr132_9, gr132_10, gr132_11, gr132_12, gr132_13, gr132_14, gr132_15, gr132_16, gr132_17, gr132_18, gr132_19, gr132_20, gr132_21, gr132_22, gr132_23, gr132_24, gr132_25, gr132_27, gr132_28, gr132_29, gr132_30, gr132_32, gr132_33, gr132_34, gr132_35, gr132_36, gr132_37, gr132_38, gr132_39, gr132_40, gr132_41, gr132_42, gr132_44, gr132_45, gr132_46, gr132_47, gr132_48, gr132_49, gr132_50, gr132_51, gr132_61, gr132_62, gr132_63, ar134_0, ar134_1, ar137_0, ar137_1, ar140_0, ar140_1, ar143_0, ar143_1, ar146_0, ar146_1, ar149_0, ar149_1, ar152_0, ar152_1, ar155_0, ar155_1, ar158_0, ar158_1, ar164_0, ar164_1, ar164_2, ar164_3, ar164_4, ar164_5, ar164_6, ar164_7, ar164_8, ld133, st133, an133, an134, ld135, st135, an135, ld136, st136, an136, an137, ld138, st138, an138, ld139, st139, an139, an140, ld141, st141, an141, ld142, st142, an142, an143, ld144, st144, an144, ld145, st145, an145, an146, ld147, st147, an147, ld148, st148, an148, an149, ld150, st150, an150, ld151, st151, an151, an152, ld153, st153, an153, ld154, st154, an154, an155, ld156, st156, an156, ld157, st157, an157, an158, ld159, st159, an159, ld160, st160, an160, ld161, st161, an161, ld162, st162, an162, ld163, st163, an163, an164, ld165, st165, an165, ld166, st166, an166, ld167, st167, an167, ld168, st168, an168, ld169, st169, an169, ld170, st170, an170, ld171, st171, an171, ld172, st172, an172, ld173, st173, an173, ld174, st174, an174, ld175, st175, an175, ld176, st176, an176, ld177, st177, an177, ld178, st178, an178, ld179, st179, an179, ld180, st180, an180, ld181, st181, an181, ld182, st182, an182, ld183, st183, an183, ld184, st184, an184, ld185, st185, an185, ld186, st186, an186, ld187, st187, an187, ld188, st188, an188, ld189, st189, an189, ld190, st190, an190, ld191, st191, an191, ld192, st192, an192, ld193, st193, an193, ld194, st194, an194, ld195, st195, an195, ld196, st196, an196, ld197, st197, an197, Option.bind_some, if_true, if_false, n_0, n_1, n_2, n_3, n_4, n_5, n_6, n_7, n_8, n_9, n_10, n_12, n_15, n_20, n_24, n_32, n_48, n_57, n_59, n_80, n_97, n_99, n_100, n_122, n_680, n_700, n_999, n_1023, n_1024, iI_neg, iI_add, iI_sub, iI_lt, iI_le, iI_eq, Int.toNat_zero, Int.toNat_natCast, E1.2.1.1.1.1, show ¬ T 0 2 ≤ (k : Int) by omega, hup_same, q1, show ¬ (1 : Int) = 0 by omega, q3, show ¬ (ldT T m k : Int) = (g : Int) by omega, nI_or0, hup_hup]
        rw [sI_ext (p := fun x => decide (x < k) && (cmb T x && decide (ldT T m x = g))) (q := fun x => decide (x < k + 1) && (cmb T x && decide (ldT T m x = g))) fun x _ => by
          by_cases q : x = k
          · subst q; simp [e]
          · simp only [lt_sk x k q]]
        rfl
  · have E1 := E.frB ((frM.refl zN sBg I).wr (o := 181) (k := n) (v := iI (bt 10 (fun x => decide (x < ng T) && (cmb T x && decide (ldT T m x = g))) : Int)) (by omega) (by omega))
    simp (maxSteps := 4000000) (disch := omega) only [Mo_groups_L151, rc132, gi132, gl132, pi132, pl132, pz132, pr132, gr132_0, gr132_6, gr132_7, gr132_8, gr132_9, gr132_10, gr132_11, gr132_12, gr132_13, gr132_14, gr132_15, gr132_16, gr132_17, gr132_18, gr132_19, gr132_20, gr132_21, gr132_22, gr132_23, gr132_24, gr132_25, gr132_27, gr132_28, gr132_29, gr132_30, gr132_32, gr132_33, gr132_34, gr132_35, gr132_36, gr132_37, gr132_38, gr132_39, gr132_40, gr132_41, gr132_42, gr132_44, gr132_45, gr132_46, gr132_47, gr132_48, gr132_49, gr132_50, gr132_51, gr132_61, gr132_62, gr132_63, ar134_0, ar134_1, ar137_0, ar137_1, ar140_0, ar140_1, ar143_0, ar143_1, ar146_0, ar146_1, ar149_0, ar149_1, ar152_0, ar152_1, ar155_0, ar155_1, ar158_0, ar158_1, ar164_0, ar164_1, ar164_2, ar164_3, ar164_4, ar164_5, ar164_6, ar164_7, ar164_8, ld133, st133, an133, an134, ld135, st135, an135, ld136, st136, an136, an137, ld138, st138, an138, ld139, st139, an139, an140, ld141, st141, an141, ld142, st142, an142, an143, ld144, st144, an144, ld145, st145, an145, an146, ld147, st147, an147, ld148, st148, an148, an149, ld150, st150, an150, ld151, st151, an151, an152, ld153, st153, an153, ld154, st154, an154, an155, ld156, st156, an156, ld157, st157, an157, an158, ld159, st159, an159, ld160, st160, an160, ld161, st161, an161, ld162, st162, an162, ld163, st163, an163, an164, ld165, st165, an165, ld166, st166, an166, ld167, st167, an167, ld168, st168, an168, ld169, st169, an169, ld170, st170, an170, ld171, st171, an171, ld172, st172, an172, ld173, st173, an173, ld174, st174, an174, ld175, st175, an175, ld176, st176, an176, ld177, st177, an177, ld178, st178, an178, ld179, st179, an179, ld180, st180, an180, ld181, st181, an181, ld182, st182, an182, ld183, st183, an183, ld184, st184, an184, ld185, st185, an185, ld186, st186, an186, ld187, st187, an187, ld188, st188, an188, ld189, st189, an189, ld190, st190, an190, ld191, st191, an191, ld192, st192, an192, ld193, st193, an193, ld194, st194, an194, ld195, st195, an195, ld196, st196, an196, ld197, st197, an197, Option.bind_some, if_true, if_false, n_0, n_1, n_2, n_3, n_4, n_5, n_6, n_7, n_8, n_9, n_10, n_12, n_15, n_20, n_24, n_32, n_48, n_57, n_59, n_80, n_97, n_99, n_100, n_122, n_680, n_700, n_999, n_1023, n_1024, iI_neg, iI_add, iI_sub, iI_lt, iI_le, iI_eq, Int.toNat_zero, E1.2.1.1.1.1, show T 0 2 ≤ (ng T : Int) by omega]
theorem mo_groups (E : EM T I) (V : TV T) (hr : rkM T m 0 I) : ∃ I', Mo_groups S0 (some 132) (I, J, Pst b f) = some (iI (nG T m : Int), (I', J, Pst b f)) ∧ frM zN (fun o => o ≠ 180 ∧ o ≠ 181) I I' ∧ gbM T m I' := by
  obtain ⟨⟨vA, vB⟩, ⟨vC, vD⟩, vE, vF⟩ := id V
  have h0 := vC.1
  have h2 := ngI vC
  obtain ⟨I1, I2, a1, a2, a3, a4⟩ := mo_labels (J := J) (b := b) (f := f) E V hr
  have E2 := E.frG a3
  have key := jinv (body := Mo_groups_L110 S0 (some 132)) (s0 := (iI 0, iI 0, (I2, J, Pst b f))) (fun k s => ∃ I', s = (iI (cnt k (leT T m) : Int), iI (k : Int), (I', J, Pst b f)) ∧ frM zN sBg I2 I' ∧ ∀ l, l < k → leT T m l = true → I' 181 (cnt l (leT T m)) = iI (bt 10 (fun x => cmb T x && decide (ldT T m x = l)) : Int)) (fun r => ∃ I', r = (iI (nG T m : Int), (I', J, Pst b f)) ∧ frM zN sBg I2 I' ∧ ∀ l, l < ng T → leT T m l = true → I' 181 (cnt l (leT T m)) = iI (bt 10 (fun x => cmb T x && decide (ldT T m x = l)) : Int)) (ng T) ⟨I2, rfl, frM.refl _ _ _, fun l hl => by omega⟩ (fun k s hk hs => ?_) (fun s hs => ?_) (by omega)
  · obtain ⟨r, h1, I3, h3, h4, h5⟩ := key
    refine ⟨I3, ?_, (a3.sub (fun k h => h) fun o _ h => h.1).trans (h4.sub (fun k h => h) fun o _ h => h.2), fun k hk => ?_⟩
    · simp only [Mo_groups, rc132, gi132, gl132, pi132, pl132, pz132, pr132, gr132_0, gr132_6, gr132_7, gr132_8, gr132_9, gr132_10, gr132_11, gr132_12, gr132_13, gr132_14, gr132_15, gr132_16, gr132_17, gr132_18, gr132_19, gr132_20, gr132_21, gr132_22, gr132_23, gr132_24, gr132_25, gr132_27, gr132_28, gr132_29, gr132_30, gr132_32, gr132_33, gr132_34, gr132_35, gr132_36, gr132_37, gr132_38, gr132_39, gr132_40, gr132_41, gr132_42, gr132_44, gr132_45, gr132_46, gr132_47, gr132_48, gr132_49, gr132_50, gr132_51, gr132_61, gr132_62, gr132_63, ar134_0, ar134_1, ar137_0, ar137_1, ar140_0, ar140_1, ar143_0, ar143_1, ar146_0, ar146_1, ar149_0, ar149_1, ar152_0, ar152_1, ar155_0, ar155_1, ar158_0, ar158_1, ar164_0, ar164_1, ar164_2, ar164_3, ar164_4, ar164_5, ar164_6, ar164_7, ar164_8, ld133, st133, an133, an134, ld135, st135, an135, ld136, st136, an136, an137, ld138, st138, an138, ld139, st139, an139, an140, ld141, st141, an141, ld142, st142, an142, an143, ld144, st144, an144, ld145, st145, an145, an146, ld147, st147, an147, ld148, st148, an148, an149, ld150, st150, an150, ld151, st151, an151, an152, ld153, st153, an153, ld154, st154, an154, an155, ld156, st156, an156, ld157, st157, an157, an158, ld159, st159, an159, ld160, st160, an160, ld161, st161, an161, ld162, st162, an162, ld163, st163, an163, an164, ld165, st165, an165, ld166, st166, an166, ld167, st167, an167, ld168, st168, an168, ld169, st169, an169, ld170, st170, an170, ld171, st171, an171, ld172, st172, an172, ld173, st173, an173, ld174, st174, an174, ld175, st175, an175, ld176, st176, an176, ld177, st177, an177, ld178, st178, an178, ld179, st179, an179, ld180, st180, an180, ld181, st181, an181, ld182, st182, an182, ld183, st183, an183, ld184, st184, an184, ld185, st185, an185, ld186, st186, an186, ld187, st187, an187, ld188, st188, an188, ld189, st189, an189, ld190, st190, an190, ld191, st191, an191, ld192, st192, an192, ld193, st193, an193, ld194, st194, an194, ld195, st195, an195, ld196, st196, an196, ld197, st197, an197, Option.bind_some, if_true, if_false, n_0, a1, a2, h1, h3]
    · obtain ⟨l, l1, l2, l3⟩ := cnt_surj hk
      have hl := lea_is l2
      rw [← l3, h5 l (cmb_lt hl.1) l2]
      refine sI_ext fun x hx => ?_
      cases e : cmb T x
      · simp only [Bool.false_and]
      · have hlx := leT_of (m := m) vC vD hx e
        simp only [Bool.true_and]
        refine decide_eq_decide.mpr ⟨fun q => by rw [q, kaT], fun q => ?_⟩
        exact ka_inj hlx.2 l2 q
  · obtain ⟨I3, rfl, f1, f2⟩ := hs
    have E3 := E2.frB f1
    have q1 := (E3.2.2 k (by omega)).1
    have q2 := (vE k (by omega)).1
    have hl3 : rowN 180 (ldT T m) I3 := fun x hx => (f1.1 180 (by omega) x).trans (a4 x hx)
    have q3 := hl3 k (by omega)
    have hlk := (ldr_is (E := evn T m 0) (show k < 10 by omega)).1
    have hlk' : ldT T m k < 10 := hlk
    have hcl := cnt_le (leT T m) k
    have hs : cnt (k + 1) (leT T m) = cnt k (leT T m) + if leT T m k = true then 1 else 0 := rfl
    have skip : leT T m k = false → Mo_groups_L110 S0 (some 132) (iI (cnt k (leT T m) : Int), iI (k : Int), (I3, J, Pst b f)) = some (.inl (iI (cnt k (leT T m) : Int), iI ((k : Int) + 1), (I3, J, Pst b f))) → wp (Mo_groups_L110 S0 (some 132) (iI (cnt k (leT T m) : Int), iI (k : Int), (I3, J, Pst b f))) (fun x => Sum.elim (fun s => ∃ I', s = (iI (cnt (k + 1) (leT T m) : Int), iI ((k + 1 : Nat) : Int), (I', J, Pst b f)) ∧ frM zN sBg I2 I' ∧ ∀ l, l < k + 1 → leT T m l = true → I' 181 (cnt l (leT T m)) = iI (bt 10 (fun x => cmb T x && decide (ldT T m x = l)) : Int)) (fun r => ∃ I', r = (iI (nG T m : Int), (I', J, Pst b f)) ∧ frM zN sBg I2 I' ∧ ∀ l, l < ng T → leT T m l = true → I' 181 (cnt l (leT T m)) = iI (bt 10 (fun x => cmb T x && decide (ldT T m x = l)) : Int)) x) := fun hf hb => by
      refine ⟨_, hb, I3, ?_, f1, fun l hl hll => ?_⟩
      · rw [hs, hf]; simp
      · by_cases e : l = k
        · rw [e, hf] at hll; cases hll
        · exact f2 l (by omega) hll
    rcases q2 with z | z
    · have hc : leT T m k = false := by simp [leT, lea, cmb, com, z]
      rw [z] at q1
      refine skip hc ?_
      simp (maxSteps := 4000000) (disch := omega) only [Mo_groups_L110, rc132, gi132, gl132, pi132, pl132, pz132, pr132, gr132_0, gr132_6, gr132_7, gr132_8, gr132_9, gr132_10, gr132_11, gr132_12, gr132_13, gr132_14, gr132_15, gr132_16, gr132_17, gr132_18, gr132_19, gr132_20, gr132_21, gr132_22, gr132_23, gr132_24, gr132_25, gr132_27, gr132_28, gr132_29, gr132_30, gr132_32, gr132_33, gr132_34, gr132_35, gr132_36, gr132_37, gr132_38, gr132_39, gr132_40, gr132_41, gr132_42, gr132_44, gr132_45, gr132_46, gr132_47, gr132_48, gr132_49, gr132_50, gr132_51, gr132_61, gr132_62, gr132_63, ar134_0, ar134_1, ar137_0, ar137_1, ar140_0, ar140_1, ar143_0, ar143_1, ar146_0, ar146_1, ar149_0, ar149_1, ar152_0, ar152_1, ar155_0, ar155_1, ar158_0, ar158_1, ar164_0, ar164_1, ar164_2, ar164_3, ar164_4, ar164_5, ar164_6, ar164_7, ar164_8, ld133, st133, an133, an134, ld135, st135, an135, ld136, st136, an136, an137, ld138, st138, an138, ld139, st139, an139, an140, ld141, st141, an141, ld142, st142, an142, an143, ld144, st144, an144, ld145, st145, an145, an146, ld147, st147, an147, ld148, st148, an148, an149, ld150, st150, an150, ld151, st151, an151, an152, ld153, st153, an153, ld154, st154, an154, an155, ld156, st156, an156, ld157, st157, an157, an158, ld159, st159, an159, ld160, st160, an160, ld161, st161, an161, ld162, st162, an162, ld163, st163, an163, an164, ld165, st165, an165, ld166, st166, an166, ld167, st167, an167, ld168, st168, an168, ld169, st169, an169, ld170, st170, an170, ld171, st171, an171, ld172, st172, an172, ld173, st173, an173, ld174, st174, an174, ld175, st175, an175, ld176, st176, an176, ld177, st177, an177, ld178, st178, an178, ld179, st179, an179, ld180, st180, an180, ld181, st181, an181, ld182, st182, an182, ld183, st183, an183, ld184, st184, an184, ld185, st185, an185, ld186, st186, an186, ld187, st187, an187, ld188, st188, an188, ld189, st189, an189, ld190, st190, an190, ld191, st191, an191, ld192, st192, an192, ld193, st193, an193, ld194, st194, an194, ld195, st195, an195, ld196, st196, an196, ld197, st197, an197, Option.bind_some, if_true, if_false, n_0, n_1, n_2, n_3, n_4, n_5, n_6, n_7, n_8, n_9, n_10, n_12, n_15, n_20, n_24, n_32, n_48, n_57, n_59, n_80, n_97, n_99, n_100, n_122, n_680, n_700, n_999, n_1023, n_1024, iI_neg, iI_add, iI_sub, iI_lt, iI_le, iI_eq, Int.toNat_zero, Int.toNat_natCast, E3.2.1.1.1.1, show ¬ T 0 2 ≤ (k : Int) by omega, q1]
    · have hck : cmb T k = true := by simp [cmb, com, z, hk]
      rw [z] at q1
      by_cases e : ldT T m k = k
      · have hc : leT T m k = true := by simp only [leT, lea, hck, Bool.true_and, decide_eq_true_eq]; exact e
        have hb := mo_group (J := J) (b := b) (f := f) (V0 := (I3, J, Pst b f)) (g := k) (n := cnt k (leT T m)) E3 V hl3 hk (by omega)
        refine ⟨.inl (iI ((cnt k (leT T m) : Int) + 1), iI ((k : Int) + 1), (hup I3 181 (cnt k (leT T m)) (iI (bt 10 (fun x => cmb T x && decide (ldT T m x = k)) : Int)), J, Pst b f)), ?_, hup I3 181 (cnt k (leT T m)) (iI (bt 10 (fun x => cmb T x && decide (ldT T m x = k)) : Int)), ?_, f1.wr (by omega) (by omega), fun l hl hll => ?_⟩
        · simp (maxSteps := 4000000) (disch := omega) only [Mo_groups_L110, rc132, gi132, gl132, pi132, pl132, pz132, pr132, gr132_0, gr132_6, gr132_7, gr132_8, gr132_9, gr132_10, gr132_11, gr132_12, gr132_13, gr132_14, gr132_15, gr132_16, gr132_17, gr132_18, gr132_19, gr132_20, gr132_21, gr132_22, gr132_23, gr132_24, gr132_25, gr132_27, gr132_28, gr132_29, gr132_30, gr132_32, gr132_33, gr132_34, gr132_35, gr132_36, gr132_37, gr132_38, gr132_39, gr132_40, gr132_41, gr132_42, gr132_44, gr132_45, gr132_46, gr132_47, gr132_48, gr132_49, gr132_50, gr132_51, gr132_61, gr132_62, gr132_63, ar134_0, ar134_1, ar137_0, ar137_1, ar140_0, ar140_1, ar143_0, ar143_1, ar146_0, ar146_1, ar149_0, ar149_1, ar152_0, ar152_1, ar155_0, ar155_1, ar158_0, ar158_1, ar164_0, ar164_1, ar164_2, ar164_3, ar164_4, ar164_5, ar164_6, ar164_7, ar164_8, ld133, st133, an133, an134, ld135, st135, an135, ld136, st136, an136, an137, ld138, st138, an138, ld139, st139, an139, an140, ld141, st141, an141, ld142, st142, an142, an143, ld144, st144, an144, ld145, st145, an145, an146, ld147, st147, an147, ld148, st148, an148, an149, ld150, st150, an150, ld151, st151, an151, an152, ld153, st153, an153, ld154, st154, an154, an155, ld156, st156, an156, ld157, st157, an157, an158, ld159, st159, an159, ld160, st160, an160, ld161, st161, an161, ld162, st162, an162, ld163, st163, an163, an164, ld165, st165, an165, ld166, st166, an166, ld167, st167, an167, ld168, st168, an168, ld169, st169, an169, ld170, st170, an170, ld171, st171, an171, ld172, st172, an172, ld173, st173, an173, ld174, st174, an174, ld175, st175, an175, ld176, st176, an176, ld177, st177, an177, ld178, st178, an178, ld179, st179, an179, ld180, st180, an180, ld181, st181, an181, ld182, st182, an182, ld183, st183, an183, ld184, st184, an184, ld185, st185, an185, ld186, st186, an186, ld187, st187, an187, ld188, st188, an188, ld189, st189, an189, ld190, st190, an190, ld191, st191, an191, ld192, st192, an192, ld193, st193, an193, ld194, st194, an194, ld195, st195, an195, ld196, st196, an196, ld197, st197, an197, Option.bind_some, if_true, if_false, n_0, n_1, n_2, n_3, n_4, n_5, n_6, n_7, n_8, n_9, n_10, n_12, n_15, n_20, n_24, n_32, n_48, n_57, n_59, n_80, n_97, n_99, n_100, n_122, n_680, n_700, n_999, n_1023, n_1024, iI_neg, iI_add, iI_sub, iI_lt, iI_le, iI_eq, Int.toNat_zero, Int.toNat_natCast, E3.2.1.1.1.1, show ¬ T 0 2 ≤ (k : Int) by omega, q1, show ¬ (1 : Int) = 0 by omega, q3, show (ldT T m k : Int) = (k : Int) by omega, hb]
        · rw [hs, hc]; rfl
        · by_cases e2 : l = k
          · subst e2; rw [hup_same]
          · have := cnt_lt_of (n := k) (show l < k by omega) hll
            rw [hup_ix _ _ _ (by omega)]; exact f2 l (by omega) hll
      · have hc : leT T m k = false := by
          have e' : ¬ ldr (evn T m 0) k = k := e
          simp only [leT, lea, e', decide_false, Bool.and_false]
        refine skip hc ?_
        simp (maxSteps := 4000000) (disch := omega) only [Mo_groups_L110, rc132, gi132, gl132, pi132, pl132, pz132, pr132, gr132_0, gr132_6, gr132_7, gr132_8, gr132_9, gr132_10, gr132_11, gr132_12, gr132_13, gr132_14, gr132_15, gr132_16, gr132_17, gr132_18, gr132_19, gr132_20, gr132_21, gr132_22, gr132_23, gr132_24, gr132_25, gr132_27, gr132_28, gr132_29, gr132_30, gr132_32, gr132_33, gr132_34, gr132_35, gr132_36, gr132_37, gr132_38, gr132_39, gr132_40, gr132_41, gr132_42, gr132_44, gr132_45, gr132_46, gr132_47, gr132_48, gr132_49, gr132_50, gr132_51, gr132_61, gr132_62, gr132_63, ar134_0, ar134_1, ar137_0, ar137_1, ar140_0, ar140_1, ar143_0, ar143_1, ar146_0, ar146_1, ar149_0, ar149_1, ar152_0, ar152_1, ar155_0, ar155_1, ar158_0, ar158_1, ar164_0, ar164_1, ar164_2, ar164_3, ar164_4, ar164_5, ar164_6, ar164_7, ar164_8, ld133, st133, an133, an134, ld135, st135, an135, ld136, st136, an136, an137, ld138, st138, an138, ld139, st139, an139, an140, ld141, st141, an141, ld142, st142, an142, an143, ld144, st144, an144, ld145, st145, an145, an146, ld147, st147, an147, ld148, st148, an148, an149, ld150, st150, an150, ld151, st151, an151, an152, ld153, st153, an153, ld154, st154, an154, an155, ld156, st156, an156, ld157, st157, an157, an158, ld159, st159, an159, ld160, st160, an160, ld161, st161, an161, ld162, st162, an162, ld163, st163, an163, an164, ld165, st165, an165, ld166, st166, an166, ld167, st167, an167, ld168, st168, an168, ld169, st169, an169, ld170, st170, an170, ld171, st171, an171, ld172, st172, an172, ld173, st173, an173, ld174, st174, an174, ld175, st175, an175, ld176, st176, an176, ld177, st177, an177, ld178, st178, an178, ld179, st179, an179, ld180, st180, an180, ld181, st181, an181, ld182, st182, an182, ld183, st183, an183, ld184, st184, an184, ld185, st185, an185, ld186, st186, an186, ld187, st187, an187, ld188, st188, an188, ld189, st189, an189, ld190, st190, an190, ld191, st191, an191, ld192, st192, an192, ld193, st193, an193, ld194, st194, an194, ld195, st195, an195, ld196, st196, an196, ld197, st197, an197, Option.bind_some, if_true, if_false, n_0, n_1, n_2, n_3, n_4, n_5, n_6, n_7, n_8, n_9, n_10, n_12, n_15, n_20, n_24, n_32, n_48, n_57, n_59, n_80, n_97, n_99, n_100, n_122, n_680, n_700, n_999, n_1023, n_1024, iI_neg, iI_add, iI_sub, iI_lt, iI_le, iI_eq, Int.toNat_zero, Int.toNat_natCast, E3.2.1.1.1.1, show ¬ T 0 2 ≤ (k : Int) by omega, q1, show ¬ (1 : Int) = 0 by omega, q3, show ¬ (ldT T m k : Int) = (k : Int) by omega]
  · obtain ⟨I3, rfl, f1, f2⟩ := hs
    have E3 := E2.frB f1
    refine ⟨.inr (iI (nG T m : Int), (I3, J, Pst b f)), ?_, I3, rfl, f1, f2⟩
    rw [cnt_le_ng vC]
    simp (maxSteps := 4000000) (disch := omega) only [Mo_groups_L110, rc132, gi132, gl132, pi132, pl132, pz132, pr132, gr132_0, gr132_6, gr132_7, gr132_8, gr132_9, gr132_10, gr132_11, gr132_12, gr132_13, gr132_14, gr132_15, gr132_16, gr132_17, gr132_18, gr132_19, gr132_20, gr132_21, gr132_22, gr132_23, gr132_24, gr132_25, gr132_27, gr132_28, gr132_29, gr132_30, gr132_32, gr132_33, gr132_34, gr132_35, gr132_36, gr132_37, gr132_38, gr132_39, gr132_40, gr132_41, gr132_42, gr132_44, gr132_45, gr132_46, gr132_47, gr132_48, gr132_49, gr132_50, gr132_51, gr132_61, gr132_62, gr132_63, ar134_0, ar134_1, ar137_0, ar137_1, ar140_0, ar140_1, ar143_0, ar143_1, ar146_0, ar146_1, ar149_0, ar149_1, ar152_0, ar152_1, ar155_0, ar155_1, ar158_0, ar158_1, ar164_0, ar164_1, ar164_2, ar164_3, ar164_4, ar164_5, ar164_6, ar164_7, ar164_8, ld133, st133, an133, an134, ld135, st135, an135, ld136, st136, an136, an137, ld138, st138, an138, ld139, st139, an139, an140, ld141, st141, an141, ld142, st142, an142, an143, ld144, st144, an144, ld145, st145, an145, an146, ld147, st147, an147, ld148, st148, an148, an149, ld150, st150, an150, ld151, st151, an151, an152, ld153, st153, an153, ld154, st154, an154, an155, ld156, st156, an156, ld157, st157, an157, an158, ld159, st159, an159, ld160, st160, an160, ld161, st161, an161, ld162, st162, an162, ld163, st163, an163, an164, ld165, st165, an165, ld166, st166, an166, ld167, st167, an167, ld168, st168, an168, ld169, st169, an169, ld170, st170, an170, ld171, st171, an171, ld172, st172, an172, ld173, st173, an173, ld174, st174, an174, ld175, st175, an175, ld176, st176, an176, ld177, st177, an177, ld178, st178, an178, ld179, st179, an179, ld180, st180, an180, ld181, st181, an181, ld182, st182, an182, ld183, st183, an183, ld184, st184, an184, ld185, st185, an185, ld186, st186, an186, ld187, st187, an187, ld188, st188, an188, ld189, st189, an189, ld190, st190, an190, ld191, st191, an191, ld192, st192, an192, ld193, st193, an193, ld194, st194, an194, ld195, st195, an195, ld196, st196, an196, ld197, st197, an197, Option.bind_some, if_true, if_false, n_0, n_1, n_2, n_3, n_4, n_5, n_6, n_7, n_8, n_9, n_10, n_12, n_15, n_20, n_24, n_32, n_48, n_57, n_59, n_80, n_97, n_99, n_100, n_122, n_680, n_700, n_999, n_1023, n_1024, iI_neg, iI_add, iI_sub, iI_lt, iI_le, iI_eq, Int.toNat_zero, E3.2.1.1.1.1, show T 0 2 ≤ (ng T : Int) by omega]
theorem mo_bitsOf (ht : tvC T) (hv : tvD T) (hg : gbM T m I) (hh : h < 1024) : Mo_bitsOf S0 (some 132) (iI (h : Int)) (iI (nG T m : Int)) (I, J, Pst b f) = some (iI (bt 10 (uT T m h) : Int)) := by
  have hn := nG_le (T := T) (m := m)
  have e := jgather (body := Mo_bitsOf_L5 S0 (some 132) (iI (h : Int)) (iI (nG T m : Int)) (I, J, Pst b f)) (fun k => iI (bt 10 (fun y => uT T m h y && decide (kaT T m (ldT T m y) < k)) : Int)) (nG T m) (fun k hk => ?_) ?_ (by omega)
  · have e0 : iI 0 = iI (bt 10 (fun y => uT T m h y && decide (kaT T m (ldT T m y) < 0)) : Int) := sI_z.trans (sI_ext fun x _ => by simp)
    have e1 : iI (bt 10 (fun y => uT T m h y && decide (kaT T m (ldT T m y) < nG T m)) : Int) = iI (bt 10 (uT T m h) : Int) := sI_ext fun y hy => by
      cases q : cmb T y
      · simp [uT, uS, q]
      · simp [(ldO_ka (m := m) ht hv).2.2 y hy q]
    have e' : jloop (Mo_bitsOf_L5 S0 (some 132) (iI (h : Int)) (iI (nG T m : Int)) (I, J, Pst b f)) jN (iI 0, iI 0) = some (iI (bt 10 (uT T m h) : Int)) := ((congrArg (fun z => jloop (Mo_bitsOf_L5 S0 (some 132) (iI (h : Int)) (iI (nG T m : Int)) (I, J, Pst b f)) jN (z, iI 0)) e0).trans e).trans (congrArg some e1)
    simp only [Mo_bitsOf, rc132, gi132, gl132, pi132, pl132, pz132, pr132, gr132_0, gr132_6, gr132_7, gr132_8, gr132_9, gr132_10, gr132_11, gr132_12, gr132_13, gr132_14, gr132_15, gr132_16, gr132_17, gr132_18, gr132_19, gr132_20, gr132_21, gr132_22, gr132_23, gr132_24, gr132_25, gr132_27, gr132_28, gr132_29, gr132_30, gr132_32, gr132_33, gr132_34, gr132_35, gr132_36, gr132_37, gr132_38, gr132_39, gr132_40, gr132_41, gr132_42, gr132_44, gr132_45, gr132_46, gr132_47, gr132_48, gr132_49, gr132_50, gr132_51, gr132_61, gr132_62, gr132_63, ar134_0, ar134_1, ar137_0, ar137_1, ar140_0, ar140_1, ar143_0, ar143_1, ar146_0, ar146_1, ar149_0, ar149_1, ar152_0, ar152_1, ar155_0, ar155_1, ar158_0, ar158_1, ar164_0, ar164_1, ar164_2, ar164_3, ar164_4, ar164_5, ar164_6, ar164_7, ar164_8, ld133, st133, an133, an134, ld135, st135, an135, ld136, st136, an136, an137, ld138, st138, an138, ld139, st139, an139, an140, ld141, st141, an141, ld142, st142, an142, an143, ld144, st144, an144, ld145, st145, an145, an146, ld147, st147, an147, ld148, st148, an148, an149, ld150, st150, an150, ld151, st151, an151, an152, ld153, st153, an153, ld154, st154, an154, an155, ld156, st156, an156, ld157, st157, an157, an158, ld159, st159, an159, ld160, st160, an160, ld161, st161, an161, ld162, st162, an162, ld163, st163, an163, an164, ld165, st165, an165, ld166, st166, an166, ld167, st167, an167, ld168, st168, an168, ld169, st169, an169, ld170, st170, an170, ld171, st171, an171, ld172, st172, an172, ld173, st173, an173, ld174, st174, an174, ld175, st175, an175, ld176, st176, an176, ld177, st177, an177, ld178, st178, an178, ld179, st179, an179, ld180, st180, an180, ld181, st181, an181, ld182, st182, an182, ld183, st183, an183, ld184, st184, an184, ld185, st185, an185, ld186, st186, an186, ld187, st187, an187, ld188, st188, an188, ld189, st189, an189, ld190, st190, an190, ld191, st191, an191, ld192, st192, an192, ld193, st193, an193, ld194, st194, an194, ld195, st195, an195, ld196, st196, an196, ld197, st197, an197, Option.bind_some, if_true, if_false, n_0, e']
  · simp (maxSteps := 4000000) (disch := omega) only [Mo_bitsOf_L5, rc132, gi132, gl132, pi132, pl132, pz132, pr132, gr132_0, gr132_6, gr132_7, gr132_8, gr132_9, gr132_10, gr132_11, gr132_12, gr132_13, gr132_14, gr132_15, gr132_16, gr132_17, gr132_18, gr132_19, gr132_20, gr132_21, gr132_22, gr132_23, gr132_24, gr132_25, gr132_27, gr132_28, gr132_29, gr132_30, gr132_32, gr132_33, gr132_34, gr132_35, gr132_36, gr132_37, gr132_38, gr132_39, gr132_40, gr132_41, gr132_42, gr132_44, gr132_45, gr132_46, gr132_47, gr132_48, gr132_49, gr132_50, gr132_51, gr132_61, gr132_62, gr132_63, ar134_0, ar134_1, ar137_0, ar137_1, ar140_0, ar140_1, ar143_0, ar143_1, ar146_0, ar146_1, ar149_0, ar149_1, ar152_0, ar152_1, ar155_0, ar155_1, ar158_0, ar158_1, ar164_0, ar164_1, ar164_2, ar164_3, ar164_4, ar164_5, ar164_6, ar164_7, ar164_8, ld133, st133, an133, an134, ld135, st135, an135, ld136, st136, an136, an137, ld138, st138, an138, ld139, st139, an139, an140, ld141, st141, an141, ld142, st142, an142, an143, ld144, st144, an144, ld145, st145, an145, an146, ld147, st147, an147, ld148, st148, an148, an149, ld150, st150, an150, ld151, st151, an151, an152, ld153, st153, an153, ld154, st154, an154, an155, ld156, st156, an156, ld157, st157, an157, an158, ld159, st159, an159, ld160, st160, an160, ld161, st161, an161, ld162, st162, an162, ld163, st163, an163, an164, ld165, st165, an165, ld166, st166, an166, ld167, st167, an167, ld168, st168, an168, ld169, st169, an169, ld170, st170, an170, ld171, st171, an171, ld172, st172, an172, ld173, st173, an173, ld174, st174, an174, ld175, st175, an175, ld176, st176, an176, ld177, st177, an177, ld178, st178, an178, ld179, st179, an179, ld180, st180, an180, ld181, st181, an181, ld182, st182, an182, ld183, st183, an183, ld184, st184, an184, ld185, st185, an185, ld186, st186, an186, ld187, st187, an187, ld188, st188, an188, ld189, st189, an189, ld190, st190, an190, ld191, st191, an191, ld192, st192, an192, ld193, st193, an193, ld194, st194, an194, ld195, st195, an195, ld196, st196, an196, ld197, st197, an197, Option.bind_some, if_true, if_false, n_0, n_1, n_2, n_3, n_4, n_5, n_6, n_7, n_8, n_9, n_10, n_12, n_15, n_20, n_24, n_32, n_48, n_57, n_59, n_80, n_97, n_99, n_100, n_122, n_680, n_700, n_999, n_1023, n_1024, iI_neg, iI_add, iI_sub, iI_lt, iI_le, iI_eq, show ¬ (nG T m : Int) ≤ (k : Int) by omega, shrA h k (by omega) (by omega), bI_1, Int.toNat_natCast, hg k hk, sI_or, nI_or0]
    cases e : h.testBit k
    · simp only [Bool.false_eq_true, Option.bind_some, if_true, if_false]
      rw [sI_ext (p := fun y => uT T m h y && decide (kaT T m (ldT T m y) < k)) (q := fun y => uT T m h y && decide (kaT T m (ldT T m y) < k + 1)) fun y _ => by
        by_cases q : kaT T m (ldT T m y) = k
        · simp [uT, uS, q, e]
        · simp only [lt_sk _ k q]]
    · simp only [Option.bind_some, if_true, if_false]
      rw [sI_ext (q := fun y => uT T m h y && decide (kaT T m (ldT T m y) < k + 1)) fun y _ => by
        by_cases q : kaT T m (ldT T m y) = k
        · simp [uT, uS, q, e]
        · simp [lt_sk _ k q, q]]
  · simp (maxSteps := 4000000) (disch := omega) only [Mo_bitsOf_L5, Option.bind_some, if_true, if_false, n_0, n_1, n_2, n_3, n_4, n_5, n_6, n_7, n_8, n_9, n_10, n_12, n_15, n_20, n_24, n_32, n_48, n_57, n_59, n_80, n_97, n_99, n_100, n_122, n_680, n_700, n_999, n_1023, n_1024, iI_neg, iI_add, iI_sub, iI_lt, iI_le, iI_eq, show (nG T m : Int) ≤ (nG T m : Int) by omega]
theorem mo_mayGo (E : EM T I) (V : TV T) (hr : rkM T m 0 I) : Mo_mayGo S0 (some 132) (iI (bt 10 W : Int)) (iI (bt 10 D : Int)) (I, J, Pst b f) = some (bI (mgo T m W D)) := by
  obtain ⟨⟨vA, vB⟩, ⟨vC, vD⟩, vE, vF⟩ := id V
  have h0 := vC.1
  have h2 := ngI vC
  have hs := jsearch (body := Mo_mayGo_L2 S0 (some 132) (iI (bt 10 W : Int)) (iI (bt 10 D : Int)) (I, J, Pst b f)) (ng T) (fun g => W g && anyb (ng T) (fun y => abv T m 0 y g && !D y)) (fun _ => iI 0) (fun k hk => ?_) ?_ (by omega)
  · simp only [Mo_mayGo, rc132, gi132, gl132, pi132, pl132, pz132, pr132, gr132_0, gr132_6, gr132_7, gr132_8, gr132_9, gr132_10, gr132_11, gr132_12, gr132_13, gr132_14, gr132_15, gr132_16, gr132_17, gr132_18, gr132_19, gr132_20, gr132_21, gr132_22, gr132_23, gr132_24, gr132_25, gr132_27, gr132_28, gr132_29, gr132_30, gr132_32, gr132_33, gr132_34, gr132_35, gr132_36, gr132_37, gr132_38, gr132_39, gr132_40, gr132_41, gr132_42, gr132_44, gr132_45, gr132_46, gr132_47, gr132_48, gr132_49, gr132_50, gr132_51, gr132_61, gr132_62, gr132_63, ar134_0, ar134_1, ar137_0, ar137_1, ar140_0, ar140_1, ar143_0, ar143_1, ar146_0, ar146_1, ar149_0, ar149_1, ar152_0, ar152_1, ar155_0, ar155_1, ar158_0, ar158_1, ar164_0, ar164_1, ar164_2, ar164_3, ar164_4, ar164_5, ar164_6, ar164_7, ar164_8, ld133, st133, an133, an134, ld135, st135, an135, ld136, st136, an136, an137, ld138, st138, an138, ld139, st139, an139, an140, ld141, st141, an141, ld142, st142, an142, an143, ld144, st144, an144, ld145, st145, an145, an146, ld147, st147, an147, ld148, st148, an148, an149, ld150, st150, an150, ld151, st151, an151, an152, ld153, st153, an153, ld154, st154, an154, an155, ld156, st156, an156, ld157, st157, an157, an158, ld159, st159, an159, ld160, st160, an160, ld161, st161, an161, ld162, st162, an162, ld163, st163, an163, an164, ld165, st165, an165, ld166, st166, an166, ld167, st167, an167, ld168, st168, an168, ld169, st169, an169, ld170, st170, an170, ld171, st171, an171, ld172, st172, an172, ld173, st173, an173, ld174, st174, an174, ld175, st175, an175, ld176, st176, an176, ld177, st177, an177, ld178, st178, an178, ld179, st179, an179, ld180, st180, an180, ld181, st181, an181, ld182, st182, an182, ld183, st183, an183, ld184, st184, an184, ld185, st185, an185, ld186, st186, an186, ld187, st187, an187, ld188, st188, an188, ld189, st189, an189, ld190, st190, an190, ld191, st191, an191, ld192, st192, an192, ld193, st193, an193, ld194, st194, an194, ld195, st195, an195, ld196, st196, an196, ld197, st197, an197, Option.bind_some, if_true, if_false, n_0, n_1, hs, mgo]
    cases z : anyb (ng T) (fun g => W g && anyb (ng T) (fun y => abv T m 0 y g && !D y))
    · have : ¬ fst_ (ng T) (fun g => W g && anyb (ng T) (fun y => abv T m 0 y g && !D y)) < ng T := fun q => by rw [fst_any.mp q] at z; cases z
      rw [if_neg this]; rfl
    · rw [if_pos (fst_any.mpr z)]; rfl
  · simp (maxSteps := 4000000) (disch := omega) only [Mo_mayGo_L2, rc132, gi132, gl132, pi132, pl132, pz132, pr132, gr132_0, gr132_6, gr132_7, gr132_8, gr132_9, gr132_10, gr132_11, gr132_12, gr132_13, gr132_14, gr132_15, gr132_16, gr132_17, gr132_18, gr132_19, gr132_20, gr132_21, gr132_22, gr132_23, gr132_24, gr132_25, gr132_27, gr132_28, gr132_29, gr132_30, gr132_32, gr132_33, gr132_34, gr132_35, gr132_36, gr132_37, gr132_38, gr132_39, gr132_40, gr132_41, gr132_42, gr132_44, gr132_45, gr132_46, gr132_47, gr132_48, gr132_49, gr132_50, gr132_51, gr132_61, gr132_62, gr132_63, ar134_0, ar134_1, ar137_0, ar137_1, ar140_0, ar140_1, ar143_0, ar143_1, ar146_0, ar146_1, ar149_0, ar149_1, ar152_0, ar152_1, ar155_0, ar155_1, ar158_0, ar158_1, ar164_0, ar164_1, ar164_2, ar164_3, ar164_4, ar164_5, ar164_6, ar164_7, ar164_8, ld133, st133, an133, an134, ld135, st135, an135, ld136, st136, an136, an137, ld138, st138, an138, ld139, st139, an139, an140, ld141, st141, an141, ld142, st142, an142, an143, ld144, st144, an144, ld145, st145, an145, an146, ld147, st147, an147, ld148, st148, an148, an149, ld150, st150, an150, ld151, st151, an151, an152, ld153, st153, an153, ld154, st154, an154, an155, ld156, st156, an156, ld157, st157, an157, an158, ld159, st159, an159, ld160, st160, an160, ld161, st161, an161, ld162, st162, an162, ld163, st163, an163, an164, ld165, st165, an165, ld166, st166, an166, ld167, st167, an167, ld168, st168, an168, ld169, st169, an169, ld170, st170, an170, ld171, st171, an171, ld172, st172, an172, ld173, st173, an173, ld174, st174, an174, ld175, st175, an175, ld176, st176, an176, ld177, st177, an177, ld178, st178, an178, ld179, st179, an179, ld180, st180, an180, ld181, st181, an181, ld182, st182, an182, ld183, st183, an183, ld184, st184, an184, ld185, st185, an185, ld186, st186, an186, ld187, st187, an187, ld188, st188, an188, ld189, st189, an189, ld190, st190, an190, ld191, st191, an191, ld192, st192, an192, ld193, st193, an193, ld194, st194, an194, ld195, st195, an195, ld196, st196, an196, ld197, st197, an197, Option.bind_some, if_true, if_false, n_0, n_1, n_2, n_3, n_4, n_5, n_6, n_7, n_8, n_9, n_10, n_12, n_15, n_20, n_24, n_32, n_48, n_57, n_59, n_80, n_97, n_99, n_100, n_122, n_680, n_700, n_999, n_1023, n_1024, iI_neg, iI_add, iI_sub, iI_lt, iI_le, iI_eq, Int.toNat_zero, E.2.1.1.1.1, show ¬ T 0 2 ≤ (k : Int) by omega, shrS (show k < 10 by omega), bI_1, mo_isFree E V hr hk, bI_0]
    cases W k
    · rfl
    · cases anyb (ng T) (fun y => abv T m 0 y k && !D y) <;> rfl
  · simp (maxSteps := 4000000) (disch := omega) only [Mo_mayGo_L2, rc132, gi132, gl132, pi132, pl132, pz132, pr132, gr132_0, gr132_6, gr132_7, gr132_8, gr132_9, gr132_10, gr132_11, gr132_12, gr132_13, gr132_14, gr132_15, gr132_16, gr132_17, gr132_18, gr132_19, gr132_20, gr132_21, gr132_22, gr132_23, gr132_24, gr132_25, gr132_27, gr132_28, gr132_29, gr132_30, gr132_32, gr132_33, gr132_34, gr132_35, gr132_36, gr132_37, gr132_38, gr132_39, gr132_40, gr132_41, gr132_42, gr132_44, gr132_45, gr132_46, gr132_47, gr132_48, gr132_49, gr132_50, gr132_51, gr132_61, gr132_62, gr132_63, ar134_0, ar134_1, ar137_0, ar137_1, ar140_0, ar140_1, ar143_0, ar143_1, ar146_0, ar146_1, ar149_0, ar149_1, ar152_0, ar152_1, ar155_0, ar155_1, ar158_0, ar158_1, ar164_0, ar164_1, ar164_2, ar164_3, ar164_4, ar164_5, ar164_6, ar164_7, ar164_8, ld133, st133, an133, an134, ld135, st135, an135, ld136, st136, an136, an137, ld138, st138, an138, ld139, st139, an139, an140, ld141, st141, an141, ld142, st142, an142, an143, ld144, st144, an144, ld145, st145, an145, an146, ld147, st147, an147, ld148, st148, an148, an149, ld150, st150, an150, ld151, st151, an151, an152, ld153, st153, an153, ld154, st154, an154, an155, ld156, st156, an156, ld157, st157, an157, an158, ld159, st159, an159, ld160, st160, an160, ld161, st161, an161, ld162, st162, an162, ld163, st163, an163, an164, ld165, st165, an165, ld166, st166, an166, ld167, st167, an167, ld168, st168, an168, ld169, st169, an169, ld170, st170, an170, ld171, st171, an171, ld172, st172, an172, ld173, st173, an173, ld174, st174, an174, ld175, st175, an175, ld176, st176, an176, ld177, st177, an177, ld178, st178, an178, ld179, st179, an179, ld180, st180, an180, ld181, st181, an181, ld182, st182, an182, ld183, st183, an183, ld184, st184, an184, ld185, st185, an185, ld186, st186, an186, ld187, st187, an187, ld188, st188, an188, ld189, st189, an189, ld190, st190, an190, ld191, st191, an191, ld192, st192, an192, ld193, st193, an193, ld194, st194, an194, ld195, st195, an195, ld196, st196, an196, ld197, st197, an197, Option.bind_some, if_true, if_false, n_0, n_1, n_2, n_3, n_4, n_5, n_6, n_7, n_8, n_9, n_10, n_12, n_15, n_20, n_24, n_32, n_48, n_57, n_59, n_80, n_97, n_99, n_100, n_122, n_680, n_700, n_999, n_1023, n_1024, iI_neg, iI_add, iI_sub, iI_lt, iI_le, iI_eq, Int.toNat_zero, E.2.1.1.1.1, show T 0 2 ≤ (ng T : Int) by omega]
end
