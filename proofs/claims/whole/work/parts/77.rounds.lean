/-! ===== layer 2: rounds, class's side ===== -/
section
variable {T : Tb} {I I' I'' : Nat → Nat → Int32} {J : Nat → Nat → Int64} {b : Bool} {f k n N x y z g t s doors a l : Nat} {P : Nat → Nat → Option Nat} {m w : Int} {A E : Nat → Nat → Bool} {W C cm : Nat → Bool} {κ ld : Nat → Nat}
noncomputable def edG (A : Nat → Nat → Bool) (cm : Nat → Bool) (ld κ : Nat → Nat) (doors s t : Nat) : Bool := @decide ((sbs s t ∧ s ≠ t) ∧ inF cm ld κ t ∧ stg A doors (uS cm ld κ s) (uS cm ld κ t)) (Classical.propDecidable _)
theorem edG_iff : edG A cm ld κ doors s t = true ↔ ((sbs s t ∧ s ≠ t) ∧ inF cm ld κ t ∧ stg A doors (uS cm ld κ s) (uS cm ld κ t)) := by
  unfold edG
  exact @decide_eq_true_iff _ (Classical.propDecidable _)
/-- who may go in next -/
def opn (cm : Nat → Bool) (A E : Nat → Nat → Bool) (N g : Nat) : Bool := (lea cm E g && !N.testBit g) && !anyb 10 (fun l => ahd cm A E g l && !N.testBit l)
/-- what is given of ranks and groups -/
def gvR (cm : Nat → Bool) (A E : Nat → Nat → Bool) : Prop := (∀ x y, E x y = E y x) ∧ (∀ x y, E x y = true → cm x = true ∧ cm y = true) ∧ (∀ x y, A x y = true → cm x = true ∧ cm y = true) ∧ ∀ x, cm x = true → x < 10
theorem opn_is (h : sbs n (bt 10 (opn cm A E N))) (hg : n.testBit g = true) : g < 10 ∧ lea cm E g = true ∧ N.testBit g = false ∧ ∀ l, l < 10 → ahd cm A E g l = true → N.testBit l = true := by
  have h1 := h g hg
  rw [bt_bit] at h1
  simp only [opn, Bool.and_eq_true, decide_eq_true_eq, Bool.not_eq_true'] at h1
  refine ⟨h1.1, h1.2.1.1, h1.2.1.2, fun l hl ha => ?_⟩
  have := anyb_not.mp h1.2.2 l hl
  rw [ha] at this
  simpa using this
theorem lea_is (h : lea cm E g = true) : cm g = true ∧ ldr E g = g := by
  simpa [lea] using h
theorem inF_lea (hG : gvR cm A E) : inF cm (ldr E) id t ↔ ∀ g, t.testBit g = true → g < 10 ∧ lea cm E g = true := by
  constructor
  · intro h g hg
    obtain ⟨y, h1, h2, h3⟩ := h g hg
    simp only [id_eq] at h3
    have hl := ldr_is (E := E) h1
    rw [← h3]
    refine ⟨hl.1, ?_⟩
    simp [lea, cpn_cm hG.2.1 h1 hl.1 hl.2.1 h2, ldr_ldr hG.1 h1]
  · intro h g hg
    obtain ⟨h1, h2⟩ := h g hg
    have := lea_is h2
    exact ⟨g, h1, this.1, by simp only [id_eq]; exact this.2⟩
theorem ahd_of (hG : gvR cm A E) (hy : y < 10) (hc : cm y = true) (hx : x < 10) (hA : A x y = true) : ahd cm A E (ldr E y) (ldr E x) = true := by
  have hl := ldr_is (E := E) hy
  refine anyb_iff.mpr ⟨x, hx, ?_⟩
  have h1 : ovr A (tg cm E (ldr E y)) x = true := anyb_iff.mpr ⟨y, hy, by
    simp [hA, tg, cpn_cm hG.2.1 hy hl.1 hl.2.1 hc, cpn_sym hG.1 hy hl.1 hl.2.1]⟩
  simp [h1, (hG.2.2.1 _ _ hA).1]
theorem edge_t (hG : gvR cm A E) (hN : inF cm (ldr E) id N) (hn : sbs n (bt 10 (opn cm A E N))) (h0 : n ≠ 0) : edG A cm (ldr E) id doors N (N ||| n) = true ↔ cnt 10 (uS cm (ldr E) id n) ≤ doors := by
  have hlt : ∃ g, n.testBit g = true := by
    apply Classical.byContradiction
    intro hq
    apply h0
    apply Nat.eq_of_testBit_eq
    intro i
    rw [Nat.zero_testBit]
    cases e : n.testBit i
    · rfl
    · exact absurd ⟨i, e⟩ hq
  obtain ⟨g0, hg0⟩ := hlt
  have hop := opn_is hn hg0
  have hl0 := lea_is hop.2.1
  have huo : ∀ y, uS cm (ldr E) id (N ||| n) y = (uS cm (ldr E) id N y || uS cm (ldr E) id n y) := fun y => by
    simp only [uS, id_eq, Nat.testBit_or]
    cases cm y <;> simp
  have hdis : ∀ y, uS cm (ldr E) id n y = true → uS cm (ldr E) id N y = false := fun y hy => by
    simp only [uS, id_eq, Bool.and_eq_true] at hy ⊢
    rw [(opn_is hn hy.2).2.2.1, Bool.and_false]
  have hcnt : cnt 10 (fun y => uS cm (ldr E) id (N ||| n) y && !uS cm (ldr E) id N y) = cnt 10 (uS cm (ldr E) id n) := cnt_ext fun y _ => by
    rw [huo]
    cases e : uS cm (ldr E) id n y
    · cases uS cm (ldr E) id N y <;> rfl
    · rw [hdis y e]; rfl
  rw [edG_iff]
  constructor
  · rintro ⟨_, _, _, _, h3, _⟩
    rw [hcnt] at h3; exact h3
  · intro hc
    refine ⟨⟨fun k hk => by rw [Nat.testBit_or, hk]; rfl, fun e => ?_⟩, (inF_lea hG).mpr fun g hg => ?_, fun y _ hy => by rw [huo, hy]; rfl, ⟨g0, hop.1, ?_, ?_⟩, by rw [hcnt]; exact hc, fun y hy h1 h2 x hx hA => ?_⟩
    · have := congrArg (fun z => Nat.testBit z g0) e
      simp only [Nat.testBit_or, hg0, hop.2.2.1] at this
      cases this
    · rw [Nat.testBit_or] at hg
      simp only [Bool.or_eq_true] at hg
      rcases hg with q | q
      · exact (inF_lea hG).mp hN g q
      · have := opn_is hn q; exact ⟨this.1, this.2.1⟩
    · rw [huo]; simp [uS, hl0.1, hl0.2, hg0]
    · simp [uS, hl0.2, hop.2.2.1]
    · rw [huo, h2, Bool.false_or] at h1
      simp only [uS, id_eq, Bool.and_eq_true] at h1
      have ho := opn_is hn h1.2
      have := ho.2.2.2 (ldr E x) (ldr_is (E := E) hx).1 (ahd_of hG hy h1.1 hx hA)
      simp [uS, (hG.2.2.1 _ _ hA).1, this]
theorem edge_c (hG : gvR cm A E) (h : edG A cm (ldr E) id doors N t = true) : ∃ n, n ≠ 0 ∧ sbs n (bt 10 (opn cm A E N)) ∧ t = N ||| n := by
  obtain ⟨⟨h1, h2⟩, h3, h4, h5, h6, h7⟩ := edG_iff.mp h
  have hF := (inF_lea hG).mp h3
  have hbit : ∀ g, (bt 10 (fun g => t.testBit g && !N.testBit g)).testBit g = (t.testBit g && !N.testBit g) := fun g => by
    rw [bt_bit]
    cases e : t.testBit g
    · simp
    · simp [(hF g e).1]
  have ht : t = N ||| bt 10 (fun g => t.testBit g && !N.testBit g) := Nat.eq_of_testBit_eq fun g => by
    rw [Nat.testBit_or, hbit]
    cases e : N.testBit g
    · simp
    · rw [h1 g e]; rfl
  refine ⟨_, fun e => ?_, fun g hg => ?_, ht⟩
  · rw [e, Nat.or_zero] at ht
    exact h2 ht.symm
  · rw [hbit] at hg
    simp only [Bool.and_eq_true, Bool.not_eq_true'] at hg
    obtain ⟨k1, k2⟩ := hF g hg.1
    have hl := lea_is k2
    rw [bt_bit]
    have hah : anyb 10 (fun l => ahd cm A E g l && !N.testBit l) = false := anyb_not.mpr fun l hl' => by
      cases e : ahd cm A E g l
      · rfl
      · obtain ⟨x, x1, x2⟩ := anyb_iff.mp e
        simp only [Bool.and_eq_true, decide_eq_true_eq] at x2
        obtain ⟨y', y1, y2⟩ := anyb_iff.mp x2.1
        simp only [tg, Bool.and_eq_true] at y2
        have hle := ldr_eq hG.1 k1 y1 y2.2.2
        rw [hl.2] at hle
        have hcy := cpn_cm hG.2.1 k1 y1 y2.2.2 hl.1
        have := h7 y' y1 (by simp [uS, hcy, ← hle, hg.1]) (by simp [uS, ← hle, hg.2]) x x1 y2.1
        simp only [uS, id_eq, Bool.and_eq_true] at this
        rw [x2.2.2, this.2]; rfl
    simp [opn, k1, k2, hg.2, hah]
theorem or_inj {O : Nat} (h1 : sbs n (bt 10 (opn cm A E N))) (h2 : sbs s (bt 10 (opn cm A E N))) (h : N ||| n = N ||| s) : n = s := by
  apply Nat.eq_of_testBit_eq
  intro g
  have := congrArg (fun z => Nat.testBit z g) h
  simp only [Nat.testBit_or] at this
  cases e : n.testBit g
  · cases e2 : s.testBit g
    · rfl
    · rw [e, e2, (opn_is h2 e2).2.2.1] at this; cases this
  · cases e2 : s.testBit g
    · rw [e, e2, (opn_is h1 e).2.2.1] at this; cases this
    · rfl
theorem and1023 (h : a < 1024) : iI (a : Int) &&& iI 1023 = iI (a : Int) := by
  rw [show iI 1023 = iI ((1023 : Nat) : Int) from rfl, nI_and, Nat.and_two_pow_sub_one_of_lt_two_pow (n := 10) h]
theorem pc10 (h : n < 1024) : Jd_bitCount (iI (n : Int)) = iI (cnt 10 n.testBit : Int) := by rw [pcI0 n h, pc_cnt]
theorem cl_open (h53 : row 53 (ahd cm A E) I) (hN : N < 1024) : jloop (Rank_goOnFrom_L6 S0 (some 47) (iI (N : Int)) (iI (bt 10 (lea cm E) : Int)) (I, J, Pst b f)) jN (iI 0, iI 0) = some (iI (bt 10 (opn cm A E N) : Int)) := by
  have hb : N = bt 10 N.testBit := bt_of hN
  have e := jgather (body := Rank_goOnFrom_L6 S0 (some 47) (iI (bt 10 N.testBit : Int)) (iI (bt 10 (lea cm E) : Int)) (I, J, Pst b f)) (fun k => iI (bt 10 (fun g => decide (g < k) && opn cm A E N g) : Int)) 10 (fun k hk => ?_) ?_ (by omega)
  · rw [← hb] at e
    have e0 : iI 0 = iI (bt 10 (fun g => decide (g < 0) && opn cm A E N g) : Int) := sI_z.trans (sI_ext fun x _ => by simp)
    have e1 : iI (bt 10 (fun g => decide (g < 10) && opn cm A E N g) : Int) = iI (bt 10 (opn cm A E N) : Int) := sI_ext fun x hx => by simp [hx]
    exact ((congrArg (fun z => jloop (Rank_goOnFrom_L6 S0 (some 47) (iI (N : Int)) (iI (bt 10 (lea cm E) : Int)) (I, J, Pst b f)) jN (z, iI 0)) e0).trans e).trans (congrArg some e1)
  · simp (maxSteps := 4000000) (disch := omega) only [Rank_goOnFrom_L6, rc0, gi0, gl0, pi0, pl0, pz0, pr0, gr0_0, gr0_1, gr0_2, gr0_3, gr0_4, gr0_5, gr0_6, gr0_7, gr0_8, rc1, gi1, gl1, pi1, pl1, pz1, pr1, gr1_0, rc3, gi3, gl3, pi3, pl3, pz3, pr3, gr3_0, gr3_10, gr3_11, rc47, gi47, gl47, pi47, pl47, pz47, pr47, gr47_0, gr47_1, gr47_2, gr47_3, gr47_4, gr47_5, gr47_6, rc55, gi55, gl55, pi55, pl55, pz55, pr55, gr55_0, gr55_1, rc58, gi58, gl58, pi58, pl58, pz58, pr58, gr58_0, gr58_1, rc61, gi61, gl61, pi61, pl61, pz61, pr61, gr61_0, gr61_1, gr61_2, gr61_7, rc62, gi62, gl62, pi62, pl62, pz62, pr62, gr62_0, gr62_1, gr62_2, gr62_3, gr62_4, gr62_5, ld2, st2, an2, ld4, st4, an4, ld5, st5, an5, an6, ld48, st48, an48, ld49, st49, an49, ld50, st50, an50, ld51, st51, an51, ld52, st52, an52, ld53, st53, an53, ld54, st54, an54, ld56, st56, an56, ld57, st57, an57, ld59, st59, an59, ld60, st60, an60, ld63, st63, an63, ld64, st64, an64, ld65, st65, an65, ld66, st66, an66, ld67, st67, an67, ld68, st68, an68, ld69, st69, an69, ld70, st70, an70, rcct, gict, glct, pict, plct, pzct, prct, grct_0, grct_1, grct_2, grct_3, ldctm, stctm, anctm, ldctr, stctr, anctr, ldctp, stctp, anctp, anctR, rcru, giru, glru, piru, plru, pzru, prru, grru_7, ldcu, stcu, ancu, arct, ar6, rcro, giro, piro, pzro, grro_1, grro_2, grro_3, rcfo, gifo, pifo, pzfo, grfo_0, grfo_1, ldfop, stfop, anfop, ldfoe, stfoe, anfoe, Option.bind_some, if_true, if_false, n_0, n_1, n_2, n_3, n_4, n_5, n_6, n_7, n_8, n_9, n_10, n_12, n_15, n_20, n_24, n_32, n_48, n_57, n_59, n_80, n_97, n_99, n_100, n_122, n_680, n_700, n_999, n_1023, n_1024, iI_neg, iI_add, iI_sub, iI_lt, iI_le, iI_eq, show ¬ (10 : Int) ≤ (k : Int) by omega, sI_andn, bt10_has hk, bI_0, Int.toNat_natCast, h53 k hk, sI_0, sI_one hk, sI_or]
    cases e1 : (lea cm E k && !N.testBit k)
    · simp only [Option.bind_some, if_true, if_false]
      rw [sI_ext (q := fun g => decide (g < k + 1) && opn cm A E N g) fun x _ => by
        by_cases q : x = k
        · subst q; simp [opn, e1]
        · simp only [lt_sk x k q]]
    · cases e2 : anyb 10 (fun l => ahd cm A E k l && !N.testBit l)
      · simp only [Bool.true_eq_false, Option.bind_some, if_true, if_false]
        rw [sI_ext (q := fun g => decide (g < k + 1) && opn cm A E N g) fun x _ => by
          by_cases q : x = k
          · subst q; simp [opn, e1, e2]
          · simp [lt_sk x k q, q]]
      · simp only [Bool.true_eq_false, Option.bind_some, if_true, if_false]
        rw [sI_ext (q := fun g => decide (g < k + 1) && opn cm A E N g) fun x _ => by
          by_cases q : x = k
          · subst q; simp [opn, e1, e2]
          · simp only [lt_sk x k q]]
  · simp (maxSteps := 4000000) (disch := omega) only [Rank_goOnFrom_L6, Option.bind_some, if_true, if_false, n_0, n_1, n_2, n_3, n_4, n_5, n_6, n_7, n_8, n_9, n_10, n_12, n_15, n_20, n_24, n_32, n_48, n_57, n_59, n_80, n_97, n_99, n_100, n_122, n_680, n_700, n_999, n_1023, n_1024, iI_neg, iI_add, iI_sub, iI_lt, iI_le, iI_eq, show (10 : Int) ≤ ((10 : Nat) : Int) by omega]
theorem cl_goOn (hG : gvR cm A E) (h52 : row 52 (tg cm E) I) (h53 : row 53 (ahd cm A E) I) (hN : N < 1024) (hF : inF cm (ldr E) id N) (hNN : Dt (edG A cm (ldr E) id doors) N N ≠ -1) (hd : doors < 100) (hD : ∀ t, t < 1024 → I 54 t = iI (Dt (edG A cm (ldr E) id doors) N t)) : ∃ I', Rank_goOnFrom S0 (some 47) (iI (N : Int)) (iI (bt 10 (lea cm E) : Int)) (iI (doors : Int)) (I, J, Pst b f) = some (I', J, Pst b f) ∧ Agr (fun o => o ≠ 54) I I' ∧ ∀ t, t < 1024 → I' 54 t = iI (Dt (edG A cm (ldr E) id doors) (N + 1) t) := by
  have hOl := bt10 (opn cm A E N)
  have hO2 : bt 10 (opn cm A E N) < 2 ^ 10 := hOl
  have hN2 : N < 2 ^ 10 := hN
  have hor : ∀ s, sbs s (bt 10 (opn cm A E N)) → N ||| s < 1024 := fun s hs => Nat.or_lt_two_pow hN2 (Nat.lt_of_le_of_lt (sbs_le hs) hO2)
  have hDr : ∀ M t, -1 ≤ Dt (edG A cm (ldr E) id doors) M t ∧ Dt (edG A cm (ldr E) id doors) M t ≤ M := fun M t => Dt_rg M t
  have hin := hD N hN
  have key := jvar (body := Rank_goOnFrom_L69 S0 (some 47) (iI (N : Int)) (iI (doors : Int)) (iI (bt 10 (opn cm A E N) : Int)) (iI (Dt (edG A cm (ldr E) id doors) N N))) (s0 := (iI (bt 10 (opn cm A E N) : Int), (I, J, Pst b f))) (fun n s => ∃ I', s = (iI (n : Int), (I', J, Pst b f)) ∧ sbs n (bt 10 (opn cm A E N)) ∧ Agr (fun o => o ≠ 54) I I' ∧ (∀ s', sbs s' (bt 10 (opn cm A E N)) → n < s' → I' 54 (N ||| s') = iI (Dt (edG A cm (ldr E) id doors) (N + 1) (N ||| s'))) ∧ ∀ t, t < 1024 → (∀ s', sbs s' (bt 10 (opn cm A E N)) → n < s' → t ≠ N ||| s') → I' 54 t = iI (Dt (edG A cm (ldr E) id doors) N t)) (fun r => ∃ I', r = (I', J, Pst b f) ∧ Agr (fun o => o ≠ 54) I I' ∧ ∀ t, t < 1024 → I' 54 t = iI (Dt (edG A cm (ldr E) id doors) (N + 1) t)) (bt 10 (opn cm A E N)) ⟨I, rfl, fun _ h => h, Agr.refl _ _, fun s' h1 h2 => by have := sbs_le h1; omega, fun t ht _ => hD t ht⟩ (fun n s hn0 hs => ?_) (fun s hs => ?_) (by omega)
  · obtain ⟨r, h1, I1, h2, h3, h4⟩ := key
    refine ⟨I1, ?_, h3, h4⟩
    have ho := cl_open (J := J) (b := b) (f := f) h53 hN
    simp (maxSteps := 4000000) (disch := omega) only [Rank_goOnFrom, rc0, gi0, gl0, pi0, pl0, pz0, pr0, gr0_0, gr0_1, gr0_2, gr0_3, gr0_4, gr0_5, gr0_6, gr0_7, gr0_8, rc1, gi1, gl1, pi1, pl1, pz1, pr1, gr1_0, rc3, gi3, gl3, pi3, pl3, pz3, pr3, gr3_0, gr3_10, gr3_11, rc47, gi47, gl47, pi47, pl47, pz47, pr47, gr47_0, gr47_1, gr47_2, gr47_3, gr47_4, gr47_5, gr47_6, rc55, gi55, gl55, pi55, pl55, pz55, pr55, gr55_0, gr55_1, rc58, gi58, gl58, pi58, pl58, pz58, pr58, gr58_0, gr58_1, rc61, gi61, gl61, pi61, pl61, pz61, pr61, gr61_0, gr61_1, gr61_2, gr61_7, rc62, gi62, gl62, pi62, pl62, pz62, pr62, gr62_0, gr62_1, gr62_2, gr62_3, gr62_4, gr62_5, ld2, st2, an2, ld4, st4, an4, ld5, st5, an5, an6, ld48, st48, an48, ld49, st49, an49, ld50, st50, an50, ld51, st51, an51, ld52, st52, an52, ld53, st53, an53, ld54, st54, an54, ld56, st56, an56, ld57, st57, an57, ld59, st59, an59, ld60, st60, an60, ld63, st63, an63, ld64, st64, an64, ld65, st65, an65, ld66, st66, an66, ld67, st67, an67, ld68, st68, an68, ld69, st69, an69, ld70, st70, an70, rcct, gict, glct, pict, plct, pzct, prct, grct_0, grct_1, grct_2, grct_3, ldctm, stctm, anctm, ldctr, stctr, anctr, ldctp, stctp, anctp, anctR, rcru, giru, glru, piru, plru, pzru, prru, grru_7, ldcu, stcu, ancu, arct, ar6, rcro, giro, piro, pzro, grro_1, grro_2, grro_3, rcfo, gifo, pifo, pzfo, grfo_0, grfo_1, ldfop, stfop, anfop, ldfoe, stfoe, anfoe, Option.bind_some, if_true, if_false, n_0, ho, Int.toNat_natCast, hin, h1, h2]
  · obtain ⟨I1, rfl, hs1, ha, hc1, hc2⟩ := hs
    have hnl := sbs_le hs1
    have ht0 := hor n hs1
    have hne0 : n ≠ 0 := by omega
    have hold : I1 54 (N ||| n) = iI (Dt (edG A cm (ldr E) id doors) N (N ||| n)) := hc2 _ ht0 fun s' h1 h2 e => by
      have := or_inj (O := 0) hs1 h1 e
      omega
    have hed := edge_t (doors := doors) hG hF hs1 hne0
    have hlt : N < N ||| n := by
      have h1 : sbs N (N ||| n) := fun k hk => by rw [Nat.testBit_or, hk]; rfl
      have h2 := sbs_le h1
      rcases Nat.lt_or_ge N (N ||| n) with q | q
      · exact q
      · have e : N ||| 0 = N ||| n := by rw [Nat.or_zero]; omega
        have := or_inj (O := 0) (fun k hk => by rw [Nat.zero_testBit] at hk; cases hk) hs1 e
        omega
    have hleas : ∀ g, n.testBit g = true → g < 10 ∧ lea cm E g = true := fun g hg => ⟨(opn_is hs1 hg).1, (opn_is hs1 hg).2.1⟩
    have hled := cl_led (J := J) (b := b) (f := f) (I := I1) (h52.agr fun x => ha 52 (by omega) x) hG.1 hG.2.1 (show n < 1024 by omega) hleas
    have hpc : cnt 10 n.testBit ≤ cnt 10 (uS cm (ldr E) id n) := cnt_mono fun g _ hg => by
      have := lea_is (hleas g hg).2
      simp [uS, this.1, this.2, hg]
    have hcl1 := cnt_le n.testBit 10
    have hcl2 := cnt_le (uS cm (ldr E) id n) 10
    have hr1 := hDr N N
    have hr2 := hDr N (N ||| n)
    have hst := Dt_s (edG A cm (ldr E) id doors) N (N ||| n)
    have hnx : (n : Int) - 1 = ((n - 1 : Nat) : Int) := by omega
    have hlt' : ((n - 1) &&& bt 10 (opn cm A E N)) < n := Nat.lt_of_le_of_lt Nat.and_le_left (by omega)
    have fin : ∀ I2, Agr (fun o => o ≠ 54) I1 I2 → I2 54 (N ||| n) = iI (Dt (edG A cm (ldr E) id doors) (N + 1) (N ||| n)) → (∀ t, t ≠ N ||| n → I2 54 t = I1 54 t) → Rank_goOnFrom_L69 S0 (some 47) (iI (N : Int)) (iI (doors : Int)) (iI (bt 10 (opn cm A E N) : Int)) (iI (Dt (edG A cm (ldr E) id doors) N N)) (iI (n : Int), (I1, J, Pst b f)) = some (.inl (iI (((n - 1) &&& bt 10 (opn cm A E N) : Nat) : Int), (I2, J, Pst b f))) → wp (Rank_goOnFrom_L69 S0 (some 47) (iI (N : Int)) (iI (doors : Int)) (iI (bt 10 (opn cm A E N) : Int)) (iI (Dt (edG A cm (ldr E) id doors) N N)) (iI (n : Int), (I1, J, Pst b f))) (fun x => Sum.elim (fun s' => ∃ n', n' < n ∧ ∃ I', s' = (iI (n' : Int), (I', J, Pst b f)) ∧ sbs n' (bt 10 (opn cm A E N)) ∧ Agr (fun o => o ≠ 54) I I' ∧ (∀ s', sbs s' (bt 10 (opn cm A E N)) → n' < s' → I' 54 (N ||| s') = iI (Dt (edG A cm (ldr E) id doors) (N + 1) (N ||| s'))) ∧ ∀ t, t < 1024 → (∀ s', sbs s' (bt 10 (opn cm A E N)) → n' < s' → t ≠ N ||| s') → I' 54 t = iI (Dt (edG A cm (ldr E) id doors) N t)) (fun r => ∃ I', r = (I', J, Pst b f) ∧ Agr (fun o => o ≠ 54) I I' ∧ ∀ t, t < 1024 → I' 54 t = iI (Dt (edG A cm (ldr E) id doors) (N + 1) t)) x) := by
      intro I2 f1 f2 f3 f4
      refine ⟨_, f4, _, hlt', I2, rfl, sbs_and _ _, ha.trans f1, fun s' h1 h2 => ?_, fun t ht hq => ?_⟩
      · by_cases e : s' = n
        · rw [e]; exact f2
        · rcases Nat.lt_or_ge s' n with q | q
          · have := sub_next (n + 1) n _ s' (by omega) hn0 hs1 h1 q
            omega
          · rw [f3 _ fun e2 => e (or_inj (O := 0) h1 hs1 e2)]
            exact hc1 s' h1 (by omega)
      · rw [f3 t (hq n hs1 hlt')]
        exact hc2 t ht fun s' h1 h2 => hq s' h1 (by omega)
    by_cases c0 : Dt (edG A cm (ldr E) id doors) N (N ||| n) = -1 ∨ Dt (edG A cm (ldr E) id doors) N N + 1 < Dt (edG A cm (ldr E) id doors) N (N ||| n)
    · by_cases c4 : cnt 10 (uS cm (ldr E) id n) ≤ doors
      · rw [if_pos ⟨hNN, hlt, hed.mpr c4, c0⟩] at hst
        refine fin (hup I1 54 (N ||| n) (iI (Dt (edG A cm (ldr E) id doors) N N + 1))) ((Agr.refl _ _).hup (by omega)) (by rw [hup_same, hst]) (fun t ht => hup_ix _ _ _ ht) ?_
        by_cases c1 : Dt (edG A cm (ldr E) id doors) N (N ||| n) = -1
        · simp (maxSteps := 4000000) (disch := omega) only [Rank_goOnFrom_L69, rc0, gi0, gl0, pi0, pl0, pz0, pr0, gr0_0, gr0_1, gr0_2, gr0_3, gr0_4, gr0_5, gr0_6, gr0_7, gr0_8, rc1, gi1, gl1, pi1, pl1, pz1, pr1, gr1_0, rc3, gi3, gl3, pi3, pl3, pz3, pr3, gr3_0, gr3_10, gr3_11, rc47, gi47, gl47, pi47, pl47, pz47, pr47, gr47_0, gr47_1, gr47_2, gr47_3, gr47_4, gr47_5, gr47_6, rc55, gi55, gl55, pi55, pl55, pz55, pr55, gr55_0, gr55_1, rc58, gi58, gl58, pi58, pl58, pz58, pr58, gr58_0, gr58_1, rc61, gi61, gl61, pi61, pl61, pz61, pr61, gr61_0, gr61_1, gr61_2, gr61_7, rc62, gi62, gl62, pi62, pl62, pz62, pr62, gr62_0, gr62_1, gr62_2, gr62_3, gr62_4, gr62_5, ld2, st2, an2, ld4, st4, an4, ld5, st5, an5, an6, ld48, st48, an48, ld49, st49, an49, ld50, st50, an50, ld51, st51, an51, ld52, st52, an52, ld53, st53, an53, ld54, st54, an54, ld56, st56, an56, ld57, st57, an57, ld59, st59, an59, ld60, st60, an60, ld63, st63, an63, ld64, st64, an64, ld65, st65, an65, ld66, st66, an66, ld67, st67, an67, ld68, st68, an68, ld69, st69, an69, ld70, st70, an70, rcct, gict, glct, pict, plct, pzct, prct, grct_0, grct_1, grct_2, grct_3, ldctm, stctm, anctm, ldctr, stctr, anctr, ldctp, stctp, anctp, anctR, rcru, giru, glru, piru, plru, pzru, prru, grru_7, ldcu, stcu, ancu, arct, ar6, rcro, giro, piro, pzro, grro_1, grro_2, grro_3, rcfo, gifo, pifo, pzfo, grfo_0, grfo_1, ldfop, stfop, anfop, ldfoe, stfoe, anfoe, Option.bind_some, if_true, if_false, n_0, n_1, n_2, n_3, n_4, n_5, n_6, n_7, n_8, n_9, n_10, n_12, n_15, n_20, n_24, n_32, n_48, n_57, n_59, n_80, n_97, n_99, n_100, n_122, n_680, n_700, n_999, n_1023, n_1024, iI_neg, iI_add, iI_sub, iI_lt, iI_le, iI_eq, show ¬ (n : Int) ≤ 0 by omega, nI_or, and1023 ht0, Int.toNat_natCast, hold, c1, show ¬ (1 : Int) = 0 by omega, pc10 (show n < 1024 by omega), show ¬ (doors : Int) < (cnt 10 n.testBit : Int) by omega, hled, show ¬ (doors : Int) < (cnt 10 (uS cm (ldr E) id n) : Int) by omega, hnx, nI_and]
        · simp (maxSteps := 4000000) (disch := omega) only [Rank_goOnFrom_L69, rc0, gi0, gl0, pi0, pl0, pz0, pr0, gr0_0, gr0_1, gr0_2, gr0_3, gr0_4, gr0_5, gr0_6, gr0_7, gr0_8, rc1, gi1, gl1, pi1, pl1, pz1, pr1, gr1_0, rc3, gi3, gl3, pi3, pl3, pz3, pr3, gr3_0, gr3_10, gr3_11, rc47, gi47, gl47, pi47, pl47, pz47, pr47, gr47_0, gr47_1, gr47_2, gr47_3, gr47_4, gr47_5, gr47_6, rc55, gi55, gl55, pi55, pl55, pz55, pr55, gr55_0, gr55_1, rc58, gi58, gl58, pi58, pl58, pz58, pr58, gr58_0, gr58_1, rc61, gi61, gl61, pi61, pl61, pz61, pr61, gr61_0, gr61_1, gr61_2, gr61_7, rc62, gi62, gl62, pi62, pl62, pz62, pr62, gr62_0, gr62_1, gr62_2, gr62_3, gr62_4, gr62_5, ld2, st2, an2, ld4, st4, an4, ld5, st5, an5, an6, ld48, st48, an48, ld49, st49, an49, ld50, st50, an50, ld51, st51, an51, ld52, st52, an52, ld53, st53, an53, ld54, st54, an54, ld56, st56, an56, ld57, st57, an57, ld59, st59, an59, ld60, st60, an60, ld63, st63, an63, ld64, st64, an64, ld65, st65, an65, ld66, st66, an66, ld67, st67, an67, ld68, st68, an68, ld69, st69, an69, ld70, st70, an70, rcct, gict, glct, pict, plct, pzct, prct, grct_0, grct_1, grct_2, grct_3, ldctm, stctm, anctm, ldctr, stctr, anctr, ldctp, stctp, anctp, anctR, rcru, giru, glru, piru, plru, pzru, prru, grru_7, ldcu, stcu, ancu, arct, ar6, rcro, giro, piro, pzro, grro_1, grro_2, grro_3, rcfo, gifo, pifo, pzfo, grfo_0, grfo_1, ldfop, stfop, anfop, ldfoe, stfoe, anfoe, Option.bind_some, if_true, if_false, n_0, n_1, n_2, n_3, n_4, n_5, n_6, n_7, n_8, n_9, n_10, n_12, n_15, n_20, n_24, n_32, n_48, n_57, n_59, n_80, n_97, n_99, n_100, n_122, n_680, n_700, n_999, n_1023, n_1024, iI_neg, iI_add, iI_sub, iI_lt, iI_le, iI_eq, show ¬ (n : Int) ≤ 0 by omega, nI_or, and1023 ht0, Int.toNat_natCast, hold, c1, show ¬ Dt (edG A cm (ldr E) id doors) N (N ||| n) ≤ Dt (edG A cm (ldr E) id doors) N N + 1 by omega, show ¬ (1 : Int) = 0 by omega, pc10 (show n < 1024 by omega), show ¬ (doors : Int) < (cnt 10 n.testBit : Int) by omega, hled, show ¬ (doors : Int) < (cnt 10 (uS cm (ldr E) id n) : Int) by omega, hnx, nI_and]
      · rw [if_neg fun q => c4 (hed.mp q.2.2.1)] at hst
        refine fin I1 (Agr.refl _ _) (by rw [hst]; exact hold) (fun t _ => rfl) ?_
        have hj : ∀ v : hV, ((if (doors : Int) < (cnt 10 n.testBit : Int) then some v else if (doors : Int) < (cnt 10 (uS cm (ldr E) id n) : Int) then some v else none) : Option hV) = some v := fun v => by
          rw [if_pos (show (doors : Int) < (cnt 10 (uS cm (ldr E) id n) : Int) by omega)]
          split <;> rfl
        by_cases c1 : Dt (edG A cm (ldr E) id doors) N (N ||| n) = -1
        · by_cases c3 : (doors : Int) < (cnt 10 n.testBit : Int)
          · simp (maxSteps := 4000000) (disch := omega) only [Rank_goOnFrom_L69, rc0, gi0, gl0, pi0, pl0, pz0, pr0, gr0_0, gr0_1, gr0_2, gr0_3, gr0_4, gr0_5, gr0_6, gr0_7, gr0_8, rc1, gi1, gl1, pi1, pl1, pz1, pr1, gr1_0, rc3, gi3, gl3, pi3, pl3, pz3, pr3, gr3_0, gr3_10, gr3_11, rc47, gi47, gl47, pi47, pl47, pz47, pr47, gr47_0, gr47_1, gr47_2, gr47_3, gr47_4, gr47_5, gr47_6, rc55, gi55, gl55, pi55, pl55, pz55, pr55, gr55_0, gr55_1, rc58, gi58, gl58, pi58, pl58, pz58, pr58, gr58_0, gr58_1, rc61, gi61, gl61, pi61, pl61, pz61, pr61, gr61_0, gr61_1, gr61_2, gr61_7, rc62, gi62, gl62, pi62, pl62, pz62, pr62, gr62_0, gr62_1, gr62_2, gr62_3, gr62_4, gr62_5, ld2, st2, an2, ld4, st4, an4, ld5, st5, an5, an6, ld48, st48, an48, ld49, st49, an49, ld50, st50, an50, ld51, st51, an51, ld52, st52, an52, ld53, st53, an53, ld54, st54, an54, ld56, st56, an56, ld57, st57, an57, ld59, st59, an59, ld60, st60, an60, ld63, st63, an63, ld64, st64, an64, ld65, st65, an65, ld66, st66, an66, ld67, st67, an67, ld68, st68, an68, ld69, st69, an69, ld70, st70, an70, rcct, gict, glct, pict, plct, pzct, prct, grct_0, grct_1, grct_2, grct_3, ldctm, stctm, anctm, ldctr, stctr, anctr, ldctp, stctp, anctp, anctR, rcru, giru, glru, piru, plru, pzru, prru, grru_7, ldcu, stcu, ancu, arct, ar6, rcro, giro, piro, pzro, grro_1, grro_2, grro_3, rcfo, gifo, pifo, pzfo, grfo_0, grfo_1, ldfop, stfop, anfop, ldfoe, stfoe, anfoe, Option.bind_some, if_true, if_false, n_0, n_1, n_2, n_3, n_4, n_5, n_6, n_7, n_8, n_9, n_10, n_12, n_15, n_20, n_24, n_32, n_48, n_57, n_59, n_80, n_97, n_99, n_100, n_122, n_680, n_700, n_999, n_1023, n_1024, iI_neg, iI_add, iI_sub, iI_lt, iI_le, iI_eq, show ¬ (n : Int) ≤ 0 by omega, nI_or, and1023 ht0, Int.toNat_natCast, hold, c1, show ¬ (1 : Int) = 0 by omega, pc10 (show n < 1024 by omega), c3, hnx, nI_and]
          · simp (maxSteps := 4000000) (disch := omega) only [Rank_goOnFrom_L69, rc0, gi0, gl0, pi0, pl0, pz0, pr0, gr0_0, gr0_1, gr0_2, gr0_3, gr0_4, gr0_5, gr0_6, gr0_7, gr0_8, rc1, gi1, gl1, pi1, pl1, pz1, pr1, gr1_0, rc3, gi3, gl3, pi3, pl3, pz3, pr3, gr3_0, gr3_10, gr3_11, rc47, gi47, gl47, pi47, pl47, pz47, pr47, gr47_0, gr47_1, gr47_2, gr47_3, gr47_4, gr47_5, gr47_6, rc55, gi55, gl55, pi55, pl55, pz55, pr55, gr55_0, gr55_1, rc58, gi58, gl58, pi58, pl58, pz58, pr58, gr58_0, gr58_1, rc61, gi61, gl61, pi61, pl61, pz61, pr61, gr61_0, gr61_1, gr61_2, gr61_7, rc62, gi62, gl62, pi62, pl62, pz62, pr62, gr62_0, gr62_1, gr62_2, gr62_3, gr62_4, gr62_5, ld2, st2, an2, ld4, st4, an4, ld5, st5, an5, an6, ld48, st48, an48, ld49, st49, an49, ld50, st50, an50, ld51, st51, an51, ld52, st52, an52, ld53, st53, an53, ld54, st54, an54, ld56, st56, an56, ld57, st57, an57, ld59, st59, an59, ld60, st60, an60, ld63, st63, an63, ld64, st64, an64, ld65, st65, an65, ld66, st66, an66, ld67, st67, an67, ld68, st68, an68, ld69, st69, an69, ld70, st70, an70, rcct, gict, glct, pict, plct, pzct, prct, grct_0, grct_1, grct_2, grct_3, ldctm, stctm, anctm, ldctr, stctr, anctr, ldctp, stctp, anctp, anctR, rcru, giru, glru, piru, plru, pzru, prru, grru_7, ldcu, stcu, ancu, arct, ar6, rcro, giro, piro, pzro, grro_1, grro_2, grro_3, rcfo, gifo, pifo, pzfo, grfo_0, grfo_1, ldfop, stfop, anfop, ldfoe, stfoe, anfoe, Option.bind_some, if_true, if_false, n_0, n_1, n_2, n_3, n_4, n_5, n_6, n_7, n_8, n_9, n_10, n_12, n_15, n_20, n_24, n_32, n_48, n_57, n_59, n_80, n_97, n_99, n_100, n_122, n_680, n_700, n_999, n_1023, n_1024, iI_neg, iI_add, iI_sub, iI_lt, iI_le, iI_eq, show ¬ (n : Int) ≤ 0 by omega, nI_or, and1023 ht0, Int.toNat_natCast, hold, c1, show ¬ (1 : Int) = 0 by omega, pc10 (show n < 1024 by omega), c3, hled, show (doors : Int) < (cnt 10 (uS cm (ldr E) id n) : Int) by omega, hnx, nI_and]
        · by_cases c3 : (doors : Int) < (cnt 10 n.testBit : Int)
          · simp (maxSteps := 4000000) (disch := omega) only [Rank_goOnFrom_L69, rc0, gi0, gl0, pi0, pl0, pz0, pr0, gr0_0, gr0_1, gr0_2, gr0_3, gr0_4, gr0_5, gr0_6, gr0_7, gr0_8, rc1, gi1, gl1, pi1, pl1, pz1, pr1, gr1_0, rc3, gi3, gl3, pi3, pl3, pz3, pr3, gr3_0, gr3_10, gr3_11, rc47, gi47, gl47, pi47, pl47, pz47, pr47, gr47_0, gr47_1, gr47_2, gr47_3, gr47_4, gr47_5, gr47_6, rc55, gi55, gl55, pi55, pl55, pz55, pr55, gr55_0, gr55_1, rc58, gi58, gl58, pi58, pl58, pz58, pr58, gr58_0, gr58_1, rc61, gi61, gl61, pi61, pl61, pz61, pr61, gr61_0, gr61_1, gr61_2, gr61_7, rc62, gi62, gl62, pi62, pl62, pz62, pr62, gr62_0, gr62_1, gr62_2, gr62_3, gr62_4, gr62_5, ld2, st2, an2, ld4, st4, an4, ld5, st5, an5, an6, ld48, st48, an48, ld49, st49, an49, ld50, st50, an50, ld51, st51, an51, ld52, st52, an52, ld53, st53, an53, ld54, st54, an54, ld56, st56, an56, ld57, st57, an57, ld59, st59, an59, ld60, st60, an60, ld63, st63, an63, ld64, st64, an64, ld65, st65, an65, ld66, st66, an66, ld67, st67, an67, ld68, st68, an68, ld69, st69, an69, ld70, st70, an70, rcct, gict, glct, pict, plct, pzct, prct, grct_0, grct_1, grct_2, grct_3, ldctm, stctm, anctm, ldctr, stctr, anctr, ldctp, stctp, anctp, anctR, rcru, giru, glru, piru, plru, pzru, prru, grru_7, ldcu, stcu, ancu, arct, ar6, rcro, giro, piro, pzro, grro_1, grro_2, grro_3, rcfo, gifo, pifo, pzfo, grfo_0, grfo_1, ldfop, stfop, anfop, ldfoe, stfoe, anfoe, Option.bind_some, if_true, if_false, n_0, n_1, n_2, n_3, n_4, n_5, n_6, n_7, n_8, n_9, n_10, n_12, n_15, n_20, n_24, n_32, n_48, n_57, n_59, n_80, n_97, n_99, n_100, n_122, n_680, n_700, n_999, n_1023, n_1024, iI_neg, iI_add, iI_sub, iI_lt, iI_le, iI_eq, show ¬ (n : Int) ≤ 0 by omega, nI_or, and1023 ht0, Int.toNat_natCast, hold, c1, show ¬ Dt (edG A cm (ldr E) id doors) N (N ||| n) ≤ Dt (edG A cm (ldr E) id doors) N N + 1 by omega, show ¬ (1 : Int) = 0 by omega, pc10 (show n < 1024 by omega), c3, hnx, nI_and]
          · simp (maxSteps := 4000000) (disch := omega) only [Rank_goOnFrom_L69, rc0, gi0, gl0, pi0, pl0, pz0, pr0, gr0_0, gr0_1, gr0_2, gr0_3, gr0_4, gr0_5, gr0_6, gr0_7, gr0_8, rc1, gi1, gl1, pi1, pl1, pz1, pr1, gr1_0, rc3, gi3, gl3, pi3, pl3, pz3, pr3, gr3_0, gr3_10, gr3_11, rc47, gi47, gl47, pi47, pl47, pz47, pr47, gr47_0, gr47_1, gr47_2, gr47_3, gr47_4, gr47_5, gr47_6, rc55, gi55, gl55, pi55, pl55, pz55, pr55, gr55_0, gr55_1, rc58, gi58, gl58, pi58, pl58, pz58, pr58, gr58_0, gr58_1, rc61, gi61, gl61, pi61, pl61, pz61, pr61, gr61_0, gr61_1, gr61_2, gr61_7, rc62, gi62, gl62, pi62, pl62, pz62, pr62, gr62_0, gr62_1, gr62_2, gr62_3, gr62_4, gr62_5, ld2, st2, an2, ld4, st4, an4, ld5, st5, an5, an6, ld48, st48, an48, ld49, st49, an49, ld50, st50, an50, ld51, st51, an51, ld52, st52, an52, ld53, st53, an53, ld54, st54, an54, ld56, st56, an56, ld57, st57, an57, ld59, st59, an59, ld60, st60, an60, ld63, st63, an63, ld64, st64, an64, ld65, st65, an65, ld66, st66, an66, ld67, st67, an67, ld68, st68, an68, ld69, st69, an69, ld70, st70, an70, rcct, gict, glct, pict, plct, pzct, prct, grct_0, grct_1, grct_2, grct_3, ldctm, stctm, anctm, ldctr, stctr, anctr, ldctp, stctp, anctp, anctR, rcru, giru, glru, piru, plru, pzru, prru, grru_7, ldcu, stcu, ancu, arct, ar6, rcro, giro, piro, pzro, grro_1, grro_2, grro_3, rcfo, gifo, pifo, pzfo, grfo_0, grfo_1, ldfop, stfop, anfop, ldfoe, stfoe, anfoe, Option.bind_some, if_true, if_false, n_0, n_1, n_2, n_3, n_4, n_5, n_6, n_7, n_8, n_9, n_10, n_12, n_15, n_20, n_24, n_32, n_48, n_57, n_59, n_80, n_97, n_99, n_100, n_122, n_680, n_700, n_999, n_1023, n_1024, iI_neg, iI_add, iI_sub, iI_lt, iI_le, iI_eq, show ¬ (n : Int) ≤ 0 by omega, nI_or, and1023 ht0, Int.toNat_natCast, hold, c1, show ¬ Dt (edG A cm (ldr E) id doors) N (N ||| n) ≤ Dt (edG A cm (ldr E) id doors) N N + 1 by omega, show ¬ (1 : Int) = 0 by omega, pc10 (show n < 1024 by omega), c3, hled, show (doors : Int) < (cnt 10 (uS cm (ldr E) id n) : Int) by omega, hnx, nI_and]
    · rw [if_neg fun q => c0 q.2.2.2] at hst
      refine fin I1 (Agr.refl _ _) (by rw [hst]; exact hold) (fun t _ => rfl) ?_
      simp (maxSteps := 4000000) (disch := omega) only [Rank_goOnFrom_L69, rc0, gi0, gl0, pi0, pl0, pz0, pr0, gr0_0, gr0_1, gr0_2, gr0_3, gr0_4, gr0_5, gr0_6, gr0_7, gr0_8, rc1, gi1, gl1, pi1, pl1, pz1, pr1, gr1_0, rc3, gi3, gl3, pi3, pl3, pz3, pr3, gr3_0, gr3_10, gr3_11, rc47, gi47, gl47, pi47, pl47, pz47, pr47, gr47_0, gr47_1, gr47_2, gr47_3, gr47_4, gr47_5, gr47_6, rc55, gi55, gl55, pi55, pl55, pz55, pr55, gr55_0, gr55_1, rc58, gi58, gl58, pi58, pl58, pz58, pr58, gr58_0, gr58_1, rc61, gi61, gl61, pi61, pl61, pz61, pr61, gr61_0, gr61_1, gr61_2, gr61_7, rc62, gi62, gl62, pi62, pl62, pz62, pr62, gr62_0, gr62_1, gr62_2, gr62_3, gr62_4, gr62_5, ld2, st2, an2, ld4, st4, an4, ld5, st5, an5, an6, ld48, st48, an48, ld49, st49, an49, ld50, st50, an50, ld51, st51, an51, ld52, st52, an52, ld53, st53, an53, ld54, st54, an54, ld56, st56, an56, ld57, st57, an57, ld59, st59, an59, ld60, st60, an60, ld63, st63, an63, ld64, st64, an64, ld65, st65, an65, ld66, st66, an66, ld67, st67, an67, ld68, st68, an68, ld69, st69, an69, ld70, st70, an70, rcct, gict, glct, pict, plct, pzct, prct, grct_0, grct_1, grct_2, grct_3, ldctm, stctm, anctm, ldctr, stctr, anctr, ldctp, stctp, anctp, anctR, rcru, giru, glru, piru, plru, pzru, prru, grru_7, ldcu, stcu, ancu, arct, ar6, rcro, giro, piro, pzro, grro_1, grro_2, grro_3, rcfo, gifo, pifo, pzfo, grfo_0, grfo_1, ldfop, stfop, anfop, ldfoe, stfoe, anfoe, Option.bind_some, if_true, if_false, n_0, n_1, n_2, n_3, n_4, n_5, n_6, n_7, n_8, n_9, n_10, n_12, n_15, n_20, n_24, n_32, n_48, n_57, n_59, n_80, n_97, n_99, n_100, n_122, n_680, n_700, n_999, n_1023, n_1024, iI_neg, iI_add, iI_sub, iI_lt, iI_le, iI_eq, show ¬ (n : Int) ≤ 0 by omega, nI_or, and1023 ht0, Int.toNat_natCast, hold, show ¬ Dt (edG A cm (ldr E) id doors) N (N ||| n) = -1 by omega, show Dt (edG A cm (ldr E) id doors) N (N ||| n) ≤ Dt (edG A cm (ldr E) id doors) N N + 1 by omega, hnx, nI_and]
  · obtain ⟨I1, rfl, hs1, ha, hc1, hc2⟩ := hs
    refine ⟨.inr (I1, J, Pst b f), ?_, I1, rfl, ha, fun t ht => ?_⟩
    · simp (maxSteps := 4000000) (disch := omega) only [Rank_goOnFrom_L69, Option.bind_some, if_true, if_false, n_0, n_1, n_2, n_3, n_4, n_5, n_6, n_7, n_8, n_9, n_10, n_12, n_15, n_20, n_24, n_32, n_48, n_57, n_59, n_80, n_97, n_99, n_100, n_122, n_680, n_700, n_999, n_1023, n_1024, iI_neg, iI_add, iI_sub, iI_lt, iI_le, iI_eq, show ((0 : Nat) : Int) ≤ 0 by omega]
    · by_cases q : ∃ s', sbs s' (bt 10 (opn cm A E N)) ∧ 0 < s' ∧ t = N ||| s'
      · obtain ⟨s', q1, q2, q3⟩ := q
        rw [q3]; exact hc1 s' q1 q2
      · rw [hc2 t ht fun s' h1 h2 e => q ⟨s', h1, h2, e⟩, Dt_s, if_neg]
        rintro ⟨_, _, h3, _⟩
        obtain ⟨n, e1, e2, e3⟩ := edge_c hG h3
        exact q ⟨n, e2, by omega, e3⟩
end
