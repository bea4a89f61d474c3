/-! ===== layer 2: seatings: the guests, the places ===== -/
section
variable {T : Tb} {I I' I'' : Nat → Nat → Int32} {J : Nat → Nat → Int64} {b : Bool} {f k n i j x y p q r : Nat} {P : Nat → Nat → Option Nat} {m w : Int} {V0 V1 : hV}
/-- how many come; who of them has the turn i -/
def nK (T : Tb) : Nat := cnt 10 (cmb T)
def mg (T : Tb) (i : Nat) : Nat := fst_ 10 (fun g => cmb T g && decide (cnt g (cmb T) = i))
theorem mg_is (h : i < nK T) : mg T i < 10 ∧ cmb T (mg T i) = true ∧ cnt (mg T i) (cmb T) = i := by
  obtain ⟨l, h1, h2, h3⟩ := cnt_surj h
  have hl : mg T i < 10 := fst_any.mpr (anyb_iff.mpr ⟨l, h1, by simp [h2, h3]⟩)
  have := fst_is (p := fun g => cmb T g && decide (cnt g (cmb T) = i)) hl
  simp only [Bool.and_eq_true, decide_eq_true_eq] at this
  exact ⟨hl, this.1, this.2⟩
theorem cm_inj (h1 : cmb T x = true) (h2 : cmb T y = true) (e : cnt x (cmb T) = cnt y (cmb T)) : x = y := by
  rcases Nat.lt_trichotomy x y with q | q | q
  · have := cnt_lt_of q h1; omega
  · exact q
  · have := cnt_lt_of q h2; omega
theorem mg_cnt (hy : y < 10) (hc : cmb T y = true) : mg T (cnt y (cmb T)) = y := by
  have h := mg_is (cnt_lt_of hy hc)
  exact cm_inj h.2.1 hc h.2.2
theorem mg_mono (h : i < j) (hj : j < nK T) : mg T i < mg T j := by
  have h1 := mg_is (show i < nK T by omega)
  have h2 := mg_is hj
  rcases Nat.lt_trichotomy (mg T i) (mg T j) with q | q | q
  · exact q
  · rw [q, h2.2.2] at h1; omega
  · have := cnt_lt_of q h2.2.1; omega
theorem mg_lt (ht : tvC T) (h : i < nK T) : ((mg T i : Nat) : Int) < T 0 2 := by
  have := cmb_lt (mg_is h).2.1
  have := ngI ht
  omega
/-- the class's turns -/
def tuC (T : Tb) (I : Nat → Nat → Int32) : Prop := I 62 6 = iI (nK T : Int) ∧ ∀ i, i < nK T → I 63 i = iI (mg T i : Int)
theorem cl_turns (E : EC T b I) (V : TV T) (hK : nK T ≤ 7) : ∃ I', jloop (Pairs_lay_L7 S0 (some 62) (some (ct b))) jN (iI 0, (hup I 62 6 (iI 0), J, Pst b f)) = some (I', J, Pst b f) ∧ Agr (fun o => o ≠ 62 ∧ o ≠ 63) I I' ∧ tuC T I' := by
  obtain ⟨⟨vA, vB⟩, ⟨vC, vD⟩, vE, vF⟩ := id V
  have h0 := vC.1
  have h2 := ngI vC
  have key := jheap (J := J) (P := Pst b f) (I := hup I 62 6 (iI 0)) (body := Pairs_lay_L7 S0 (some 62) (some (ct b))) (fun k I' => Agr (fun o => o ≠ 62 ∧ o ≠ 63) I I' ∧ I' 62 6 = iI (cnt k (cmb T) : Int) ∧ ∀ y, y < k → cmb T y = true → I' 63 (cnt y (cmb T)) = iI (y : Int)) 0 10 ⟨(Agr.refl _ _).hup (by omega), hup_same _ _ _ _, fun y hy => by omega⟩ (by omega) (by omega) (fun k I1 _ hk q1 => ?_) (fun I1 q1 => ?_)
  · obtain ⟨I2, e1, e2, e3, e4⟩ := key
    refine ⟨I2, e1, e2, e3, fun i hi => ?_⟩
    have h := mg_is hi
    have := e4 (mg T i) h.1 h.2.1
    rwa [h.2.2] at this
  · have E1 := E.agr V (q1.1.sub fun o h => by omega)
    have hic := cl_isComing (J := J) (P := Pst b f) E1.2.1.1 E1.2.2 vC (g := (k : Int)) (by omega)
    simp only [Int.toNat_natCast] at hic
    have hcl := cnt_le (cmb T) k
    have hs : cnt (k + 1) (cmb T) = cnt k (cmb T) + if cmb T k = true then 1 else 0 := rfl
    have hcd : (isG T (k : Int) ∧ T 12 k = 1) ↔ cmb T k = true := by
      simp only [cmb, com, Bool.and_eq_true, decide_eq_true_eq]
      omega
    cases e : cmb T k
    · have hn : ¬ (isG T (k : Int) ∧ T 12 k = 1) := fun q => by have := hcd.mp q; rw [e] at this; cases this
      refine ⟨I1, ?_, q1.1, ?_, fun y hy hc => ?_⟩
      · simp (maxSteps := 4000000) (disch := omega) only [Pairs_lay_L7, Option.bind_some, if_true, if_false, n_0, n_1, n_2, n_3, n_4, n_5, n_6, n_7, n_8, n_9, n_10, n_12, n_15, n_20, n_24, n_32, n_48, n_57, n_59, n_80, n_97, n_99, n_100, n_122, n_680, n_700, n_999, n_1023, n_1024, iI_neg, iI_add, iI_sub, iI_lt, iI_le, iI_eq, show ¬ (10 : Int) ≤ (k : Int) by omega, hic, bI_0, decide_eq_false_iff_not, iff_false_intro hn, not_false_eq_true]
      · rw [hs, e, q1.2.1]; simp
      · by_cases q : y = k
        · rw [q, e] at hc; cases hc
        · exact q1.2.2 y (by omega) hc
    · have hy' := hcd.mpr e
      have hlt := cnt_lt_of hk e
      have hK' : cnt 10 (cmb T) ≤ 7 := hK
      refine ⟨hup (hup I1 63 (cnt k (cmb T)) (iI (k : Int))) 62 6 (iI ((cnt k (cmb T) : Int) + 1)), ?_, (q1.1.hup (by omega)).hup (by omega), ?_, fun y hy hc => ?_⟩
      · simp (maxSteps := 4000000) (disch := omega) only [Pairs_lay_L7, rc0, gi0, gl0, pi0, pl0, pz0, pr0, gr0_0, gr0_1, gr0_2, gr0_3, gr0_4, gr0_5, gr0_6, gr0_7, gr0_8, rc1, gi1, gl1, pi1, pl1, pz1, pr1, gr1_0, rc3, gi3, gl3, pi3, pl3, pz3, pr3, gr3_0, gr3_10, gr3_11, rc47, gi47, gl47, pi47, pl47, pz47, pr47, gr47_0, gr47_1, gr47_2, gr47_3, gr47_4, gr47_5, gr47_6, rc55, gi55, gl55, pi55, pl55, pz55, pr55, gr55_0, gr55_1, rc58, gi58, gl58, pi58, pl58, pz58, pr58, gr58_0, gr58_1, rc61, gi61, gl61, pi61, pl61, pz61, pr61, gr61_0, gr61_1, gr61_2, gr61_7, rc62, gi62, gl62, pi62, pl62, pz62, pr62, gr62_0, gr62_1, gr62_2, gr62_3, gr62_4, gr62_5, ld2, st2, an2, ld4, st4, an4, ld5, st5, an5, an6, ld48, st48, an48, ld49, st49, an49, ld50, st50, an50, ld51, st51, an51, ld52, st52, an52, ld53, st53, an53, ld54, st54, an54, ld56, st56, an56, ld57, st57, an57, ld59, st59, an59, ld60, st60, an60, ld63, st63, an63, ld64, st64, an64, ld65, st65, an65, ld66, st66, an66, ld67, st67, an67, ld68, st68, an68, ld69, st69, an69, ld70, st70, an70, rcct, gict, glct, pict, plct, pzct, prct, grct_0, grct_1, grct_2, grct_3, ldctm, stctm, anctm, ldctr, stctr, anctr, ldctp, stctp, anctp, anctR, rcru, giru, glru, piru, plru, pzru, prru, grru_7, ldcu, stcu, ancu, arct, ar6, rcro, giro, piro, pzro, grro_1, grro_2, grro_3, rcfo, gifo, pifo, pzfo, grfo_0, grfo_1, ldfop, stfop, anfop, ldfoe, stfoe, anfoe, Option.bind_some, if_true, if_false, n_0, n_1, n_2, n_3, n_4, n_5, n_6, n_7, n_8, n_9, n_10, n_12, n_15, n_20, n_24, n_32, n_48, n_57, n_59, n_80, n_97, n_99, n_100, n_122, n_680, n_700, n_999, n_1023, n_1024, iI_neg, iI_add, iI_sub, iI_lt, iI_le, iI_eq, show ¬ (10 : Int) ≤ (k : Int) by omega, hic, bI_0, decide_eq_false_iff_not, iff_true_intro hy', not_true, q1.2.1, show ¬ (7 : Int) ≤ (cnt k (cmb T) : Int) by omega, Int.toNat_natCast, hup_obj]
      · rw [hup_same, hs, e]; rfl
      · rw [hup_obj _ _ _ (by omega)]
        by_cases q : y = k
        · subst q; rw [hup_same]
        · have := cnt_lt_of (n := k) (show y < k by omega) hc
          rw [hup_ix _ _ _ (by omega)]; exact q1.2.2 y (by omega) hc
  · simp (maxSteps := 4000000) (disch := omega) only [Pairs_lay_L7, Option.bind_some, if_true, if_false, n_0, n_1, n_2, n_3, n_4, n_5, n_6, n_7, n_8, n_9, n_10, n_12, n_15, n_20, n_24, n_32, n_48, n_57, n_59, n_80, n_97, n_99, n_100, n_122, n_680, n_700, n_999, n_1023, n_1024, iI_neg, iI_add, iI_sub, iI_lt, iI_le, iI_eq, show (10 : Int) ≤ ((10 : Nat) : Int) by omega]
/-! how two places lie -/
def hgT (T : Tb) (m : Int) (p q : Nat) : Int := hgh (T 2 m.toNat) (T 3 m.toNat) 0 (p : Int) (q : Int)
def beT (T : Tb) (m : Int) (p q : Nat) : Bool := bes (T 2 m.toNat) (T 3 m.toNat) (p : Int) (q : Int)
def wyT (T : Tb) (m : Int) (p q : Nat) : Nat := ((hgT T m p q + 1) * 2 + (if beT T m p q then 1 else 0)).toNat
theorem hgT_rg : -1 ≤ hgT T m p q ∧ hgT T m p q ≤ 2 := hgh_rg _ _ _ _ _
theorem wyT_lt : wyT T m p q < 8 := by
  have := hgT_rg (T := T) (m := m) (p := p) (q := q)
  unfold wyT
  split <;> omega
/-- the ways that there are -/
def wth (T : Tb) (m : Int) (n : Nat) (w : Nat) : Bool := anyb n (fun p => anyb n (fun q => decide (p ≠ q) && decide (w = wyT T m p q)))
def plS (T : Tb) (m : Int) (n : Nat) (I : Nat → Nat → Int32) : Prop := I 62 7 = iI (n : Int) ∧ I 62 8 = iI (bt 8 (wth T m n) : Int) ∧ ∀ p q, p < n → q < n → I 64 (8 * p + q) = iI (wyT T m p q : Int)
theorem ixN8 (x y : Nat) : ((x : Int) * 8 + (y : Int)).toNat = 8 * x + y := by omega
theorem sI_one8 (h : k < 8) : shl (iI 1) (iI (k : Int)) = iI (bt 8 (fun y => decide (y = k)) : Int) := by
  rw [oneI' (k : Int) (by omega), Int.toNat_natCast, bt_one h]
abbrev oP (o : Nat) : Prop := o ≠ 62 ∧ o ≠ 64
theorem cl_ways1 (E : EC T b I) (V : TV T) (hm : isM T m) (hn : (n : Int) = T 3 m.toNat) (h8 : n ≤ 8) (hp : p < n) {S : Nat → Bool} (h7 : I 62 7 = iI (n : Int)) (hS : I 62 8 = iI (bt 8 S : Int)) : ∃ I', jloop (Pairs_layPlaces_L30 S0 (some 62) (some (ro m.toNat)) (iI (p : Int), V0)) jN (iI 0, (I, J, Pst b f)) = some (I', J, Pst b f) ∧ Agr oP I I' ∧ (∀ k, k ≠ 8 → I' 62 k = I 62 k) ∧ I' 62 8 = iI (bt 8 (fun w => S w || anyb n (fun q => decide (p ≠ q) && decide (w = wyT T m p q))) : Int) ∧ (∀ q, q < n → I' 64 (8 * p + q) = iI (wyT T m p q : Int)) ∧ ∀ k, k < 8 * p → I' 64 k = I 64 k := by
  obtain ⟨⟨vA, vB⟩, ⟨vC, vD⟩, vE, vF⟩ := id V
  have key := jheap (J := J) (P := Pst b f) (I := I) (body := Pairs_layPlaces_L30 S0 (some 62) (some (ro m.toNat)) (iI (p : Int), V0)) (fun k I' => Agr oP I I' ∧ (∀ k, k ≠ 8 → I' 62 k = I 62 k) ∧ I' 62 8 = iI (bt 8 (fun w => S w || anyb k (fun q => decide (p ≠ q) && decide (w = wyT T m p q))) : Int) ∧ (∀ q, q < k → I' 64 (8 * p + q) = iI (wyT T m p q : Int)) ∧ ∀ k, k < 8 * p → I' 64 k = I 64 k) 0 n ⟨Agr.refl _ _, fun _ _ => rfl, ?_, fun q hq => by omega, fun _ _ => rfl⟩ (by omega) (by omega) (fun k I1 _ hk q1 => ?_) (fun I1 q1 => ?_)
  · exact key
  · rw [hS]; exact sI_ext fun w _ => by simp [anyb]
  · have E1 := E.agr V (q1.1.sub fun o h => by omega)
    have b1 := cl_beside (J := J) (P := Pst b f) E1.1.2 vB (mN hm) (a := (p : Int)) (o := (k : Int)) (by omega) (by omega)
    have b2 := cl_higherOf (J := J) (P := Pst b f) E1.1.2 vB (mN hm) (c := 0) (a := (p : Int)) (o := (k : Int)) (by omega) (by omega) (by omega)
    have hr := hgT_rg (T := T) (m := m) (p := p) (q := k)
    have hw := wyT_lt (T := T) (m := m) (p := p) (q := k)
    have b2' : Room_higherOf S0 (some (ro m.toNat)) (iI 0) (iI (p : Int)) (iI (k : Int)) (I1, J, Pst b f) = some (iI (hgT T m p k)) := b2
    have b1' : Room_areBeside S0 (some (ro m.toNat)) (iI (p : Int)) (iI (k : Int)) (I1, J, Pst b f) = some (bI (beT T m p k)) := b1
    have hj : ((if beT T m p k = false then some (iI 0) else some (iI 1)) : Option Int32) = some (iI (if beT T m p k then 1 else 0)) := by cases beT T m p k <;> rfl
    have hwy : (hgT T m p k + 1) * 2 + (if beT T m p k = true then 1 else 0) = (wyT T m p k : Int) := by
      unfold wyT
      split <;> omega
    have h77 : I1 62 7 = iI (n : Int) := (q1.2.1 7 (by omega)).trans h7
    have hc88 : hup I1 64 (8 * p + k) (iI (wyT T m p k : Int)) 62 8 = iI (bt 8 (fun w => S w || anyb k (fun q => decide (p ≠ q) && decide (w = wyT T m p q))) : Int) := by rw [hup_obj _ _ _ (by omega)]; exact q1.2.2.1
    have hor : ((if (p : Int) = (k : Int) then some (iI 0) else some (iI (bt 8 (fun y => decide (y = wyT T m p k)) : Int))) : Option Int32) = some (iI (bt 8 (fun w => decide (p ≠ k) && decide (w = wyT T m p k)) : Int)) := by
      by_cases e : p = k
      · rw [if_pos (by omega)]
        congr 1
        rw [show iI 0 = iI (bt 8 (fun _ => false) : Int) by rw [bt_z]; rfl]
        exact sI_ext fun w _ => by simp [e]
      · rw [if_neg (by omega)]
        congr 1
        exact sI_ext fun w _ => by simp [e]
    refine ⟨hup (hup I1 64 (8 * p + k) (iI (wyT T m p k : Int))) 62 8 (iI (bt 8 (fun w => (S w || anyb k (fun q => decide (p ≠ q) && decide (w = wyT T m p q))) || (decide (p ≠ k) && decide (w = wyT T m p k))) : Int)), ?_, (q1.1.hup (by omega)).hup (by omega), fun j hj => ?_, ?_, fun q hq => ?_, fun j hj => ?_⟩
    · simp (maxSteps := 4000000) (disch := omega) only [Pairs_layPlaces_L30, rc0, gi0, gl0, pi0, pl0, pz0, pr0, gr0_0, gr0_1, gr0_2, gr0_3, gr0_4, gr0_5, gr0_6, gr0_7, gr0_8, rc1, gi1, gl1, pi1, pl1, pz1, pr1, gr1_0, rc3, gi3, gl3, pi3, pl3, pz3, pr3, gr3_0, gr3_10, gr3_11, rc47, gi47, gl47, pi47, pl47, pz47, pr47, gr47_0, gr47_1, gr47_2, gr47_3, gr47_4, gr47_5, gr47_6, rc55, gi55, gl55, pi55, pl55, pz55, pr55, gr55_0, gr55_1, rc58, gi58, gl58, pi58, pl58, pz58, pr58, gr58_0, gr58_1, rc61, gi61, gl61, pi61, pl61, pz61, pr61, gr61_0, gr61_1, gr61_2, gr61_7, rc62, gi62, gl62, pi62, pl62, pz62, pr62, gr62_0, gr62_1, gr62_2, gr62_3, gr62_4, gr62_5, ld2, st2, an2, ld4, st4, an4, ld5, st5, an5, an6, ld48, st48, an48, ld49, st49, an49, ld50, st50, an50, ld51, st51, an51, ld52, st52, an52, ld53, st53, an53, ld54, st54, an54, ld56, st56, an56, ld57, st57, an57, ld59, st59, an59, ld60, st60, an60, ld63, st63, an63, ld64, st64, an64, ld65, st65, an65, ld66, st66, an66, ld67, st67, an67, ld68, st68, an68, ld69, st69, an69, ld70, st70, an70, rcct, gict, glct, pict, plct, pzct, prct, grct_0, grct_1, grct_2, grct_3, ldctm, stctm, anctm, ldctr, stctr, anctr, ldctp, stctp, anctp, anctR, rcru, giru, glru, piru, plru, pzru, prru, grru_7, ldcu, stcu, ancu, arct, ar6, rcro, giro, piro, pzro, grro_1, grro_2, grro_3, rcfo, gifo, pifo, pzfo, grfo_0, grfo_1, ldfop, stfop, anfop, ldfoe, stfoe, anfoe, Option.bind_some, if_true, if_false, n_0, n_1, n_2, n_3, n_4, n_5, n_6, n_7, n_8, n_9, n_10, n_12, n_15, n_20, n_24, n_32, n_48, n_57, n_59, n_80, n_97, n_99, n_100, n_122, n_680, n_700, n_999, n_1023, n_1024, iI_neg, iI_add, iI_sub, iI_mul, iI_lt, iI_le, iI_eq, h77, show ¬ (n : Int) ≤ (k : Int) by omega, b1', bI_0, hj, b2', hwy, ixN8, hc88, sI_one8 hw, hor, sI_or]
    · rw [hup_ix _ _ _ hj, hup_obj _ _ _ (by omega)]; exact q1.2.1 j hj
    · rw [hup_same]
      exact sI_ext fun w _ => by rw [anyb_s, Bool.or_assoc]
    · rw [hup_obj _ _ _ (by omega)]
      by_cases e : q = k
      · subst e; rw [hup_same]
      · rw [hup_ix _ _ _ (by omega)]; exact q1.2.2.2.1 q (by omega)
    · rw [hup_obj _ _ _ (by omega), hup_ix _ _ _ (by omega)]; exact q1.2.2.2.2 j hj
  · have h77 : I1 62 7 = iI (n : Int) := (q1.2.1 7 (by omega)).trans h7
    simp (maxSteps := 4000000) (disch := omega) only [Pairs_layPlaces_L30, rc0, gi0, gl0, pi0, pl0, pz0, pr0, gr0_0, gr0_1, gr0_2, gr0_3, gr0_4, gr0_5, gr0_6, gr0_7, gr0_8, rc1, gi1, gl1, pi1, pl1, pz1, pr1, gr1_0, rc3, gi3, gl3, pi3, pl3, pz3, pr3, gr3_0, gr3_10, gr3_11, rc47, gi47, gl47, pi47, pl47, pz47, pr47, gr47_0, gr47_1, gr47_2, gr47_3, gr47_4, gr47_5, gr47_6, rc55, gi55, gl55, pi55, pl55, pz55, pr55, gr55_0, gr55_1, rc58, gi58, gl58, pi58, pl58, pz58, pr58, gr58_0, gr58_1, rc61, gi61, gl61, pi61, pl61, pz61, pr61, gr61_0, gr61_1, gr61_2, gr61_7, rc62, gi62, gl62, pi62, pl62, pz62, pr62, gr62_0, gr62_1, gr62_2, gr62_3, gr62_4, gr62_5, ld2, st2, an2, ld4, st4, an4, ld5, st5, an5, an6, ld48, st48, an48, ld49, st49, an49, ld50, st50, an50, ld51, st51, an51, ld52, st52, an52, ld53, st53, an53, ld54, st54, an54, ld56, st56, an56, ld57, st57, an57, ld59, st59, an59, ld60, st60, an60, ld63, st63, an63, ld64, st64, an64, ld65, st65, an65, ld66, st66, an66, ld67, st67, an67, ld68, st68, an68, ld69, st69, an69, ld70, st70, an70, rcct, gict, glct, pict, plct, pzct, prct, grct_0, grct_1, grct_2, grct_3, ldctm, stctm, anctm, ldctr, stctr, anctr, ldctp, stctp, anctp, anctR, rcru, giru, glru, piru, plru, pzru, prru, grru_7, ldcu, stcu, ancu, arct, ar6, rcro, giro, piro, pzro, grro_1, grro_2, grro_3, rcfo, gifo, pifo, pzfo, grfo_0, grfo_1, ldfop, stfop, anfop, ldfoe, stfoe, anfoe, Option.bind_some, if_true, if_false, n_0, n_1, n_2, n_3, n_4, n_5, n_6, n_7, n_8, n_9, n_10, n_12, n_15, n_20, n_24, n_32, n_48, n_57, n_59, n_80, n_97, n_99, n_100, n_122, n_680, n_700, n_999, n_1023, n_1024, iI_neg, iI_add, iI_sub, iI_lt, iI_le, iI_eq, h77, show (n : Int) ≤ (n : Int) by omega]
theorem cl_ways (E : EC T b I) (V : TV T) (hm : isM T m) (hn : (n : Int) = T 3 m.toNat) (h8 : n ≤ 8) (ht : tuC T I) : ∃ I', Pairs_layPlaces S0 (some 62) (some (ro m.toNat)) (I, J, Pst b f) = some (I', J, Pst b f) ∧ Agr oP I I' ∧ plS T m n I' ∧ tuC T I' := by
  obtain ⟨⟨eA, eB⟩, ⟨eC, eD⟩, eE⟩ := id E
  obtain ⟨⟨vA, vB⟩, ⟨vC, vD⟩, vE, vF⟩ := id V
  have hB := vB.1
  have h3 := vB.2 _ (mN hm)
  have hr5 := ((eB.2 m.toNat (by omega)).2 (mN hm)).2
  have key := jheap (J := J) (P := Pst b f) (I := hup (hup I 62 7 (iI (n : Int))) 62 8 (iI 0)) (body := Pairs_layPlaces_L20 S0 (some 62) (some (ro m.toNat))) (fun p I' => Agr oP I I' ∧ (I' 62 6 = I 62 6 ∧ I' 62 7 = iI (n : Int)) ∧ I' 62 8 = iI (bt 8 (fun w => anyb p (fun p => anyb n (fun q => decide (p ≠ q) && decide (w = wyT T m p q)))) : Int) ∧ ∀ p' q, p' < p → q < n → I' 64 (8 * p' + q) = iI (wyT T m p' q : Int)) 0 n ⟨((Agr.refl _ _).hup (by omega)).hup (by omega), ⟨by simp [hup], by simp [hup]⟩, ?_, fun p' q hp => by omega⟩ (by omega) (by omega) (fun p I1 _ hp q1 => ?_) (fun I1 q1 => ?_)
  · obtain ⟨I2, e1, e2, e3, e4, e5⟩ := key
    have e1' : jloop (Pairs_layPlaces_L20 S0 (some 62) (some (ro m.toNat))) jN (iI 0, (hup (hup I 62 7 (iI (n : Int))) 62 8 (iI 0), J, Pst b f)) = some (I2, J, Pst b f) := e1
    have hmin : Jd_min (iI (n : Int)) (iI 8) = iI (n : Int) := by rw [minI (by omega), if_neg (by omega)]
    refine ⟨I2, ?_, e2, ⟨e3.2, e4, e5⟩, e3.1.trans ht.1, fun i hi => (e2 63 (by omega) i).trans (ht.2 i hi)⟩
    rw [← hn] at hr5
    unfold Pairs_layPlaces
    rw [rc62, Option.bind_some, giro (show m.toNat < 4 by omega), Option.bind_some, hr5, n_8, n_0, hmin, pi62, Option.bind_some, pi62, Option.bind_some, e1', Option.bind_some]
  · rw [hup_same, show iI 0 = iI (bt 8 (fun _ => false) : Int) by rw [bt_z]; rfl]
    exact sI_ext fun w _ => rfl
  · obtain ⟨I2, a1, a2, a3, a4, a5, a6⟩ := cl_ways1 (J := J) (f := f) (V0 := (I1, J, Pst b f)) (E.agr V (q1.1.sub fun o h => by omega)) V hm hn h8 hp q1.2.1.2 q1.2.2.1
    refine ⟨I2, ?_, q1.1.trans a2, ⟨(a3 6 (by omega)).trans q1.2.1.1, (a3 7 (by omega)).trans q1.2.1.2⟩, ?_, fun p' q hp' hq => ?_⟩
    · simp (maxSteps := 4000000) (disch := omega) only [Pairs_layPlaces_L20, rc0, gi0, gl0, pi0, pl0, pz0, pr0, gr0_0, gr0_1, gr0_2, gr0_3, gr0_4, gr0_5, gr0_6, gr0_7, gr0_8, rc1, gi1, gl1, pi1, pl1, pz1, pr1, gr1_0, rc3, gi3, gl3, pi3, pl3, pz3, pr3, gr3_0, gr3_10, gr3_11, rc47, gi47, gl47, pi47, pl47, pz47, pr47, gr47_0, gr47_1, gr47_2, gr47_3, gr47_4, gr47_5, gr47_6, rc55, gi55, gl55, pi55, pl55, pz55, pr55, gr55_0, gr55_1, rc58, gi58, gl58, pi58, pl58, pz58, pr58, gr58_0, gr58_1, rc61, gi61, gl61, pi61, pl61, pz61, pr61, gr61_0, gr61_1, gr61_2, gr61_7, rc62, gi62, gl62, pi62, pl62, pz62, pr62, gr62_0, gr62_1, gr62_2, gr62_3, gr62_4, gr62_5, ld2, st2, an2, ld4, st4, an4, ld5, st5, an5, an6, ld48, st48, an48, ld49, st49, an49, ld50, st50, an50, ld51, st51, an51, ld52, st52, an52, ld53, st53, an53, ld54, st54, an54, ld56, st56, an56, ld57, st57, an57, ld59, st59, an59, ld60, st60, an60, ld63, st63, an63, ld64, st64, an64, ld65, st65, an65, ld66, st66, an66, ld67, st67, an67, ld68, st68, an68, ld69, st69, an69, ld70, st70, an70, rcct, gict, glct, pict, plct, pzct, prct, grct_0, grct_1, grct_2, grct_3, ldctm, stctm, anctm, ldctr, stctr, anctr, ldctp, stctp, anctp, anctR, rcru, giru, glru, piru, plru, pzru, prru, grru_7, ldcu, stcu, ancu, arct, ar6, rcro, giro, piro, pzro, grro_1, grro_2, grro_3, rcfo, gifo, pifo, pzfo, grfo_0, grfo_1, ldfop, stfop, anfop, ldfoe, stfoe, anfoe, Option.bind_some, if_true, if_false, n_0, n_1, n_2, n_3, n_4, n_5, n_6, n_7, n_8, n_9, n_10, n_12, n_15, n_20, n_24, n_32, n_48, n_57, n_59, n_80, n_97, n_99, n_100, n_122, n_680, n_700, n_999, n_1023, n_1024, iI_neg, iI_add, iI_sub, iI_lt, iI_le, iI_eq, q1.2.1.2, show ¬ (n : Int) ≤ (p : Int) by omega, a1]
    · rw [a4]; exact sI_ext fun w _ => by rw [anyb_s]
    · by_cases e : p' = p
      · subst e; exact a5 q hq
      · rw [a6 _ (by omega)]; exact q1.2.2.2 p' q (by omega) hq
  · simp (maxSteps := 4000000) (disch := omega) only [Pairs_layPlaces_L20, rc0, gi0, gl0, pi0, pl0, pz0, pr0, gr0_0, gr0_1, gr0_2, gr0_3, gr0_4, gr0_5, gr0_6, gr0_7, gr0_8, rc1, gi1, gl1, pi1, pl1, pz1, pr1, gr1_0, rc3, gi3, gl3, pi3, pl3, pz3, pr3, gr3_0, gr3_10, gr3_11, rc47, gi47, gl47, pi47, pl47, pz47, pr47, gr47_0, gr47_1, gr47_2, gr47_3, gr47_4, gr47_5, gr47_6, rc55, gi55, gl55, pi55, pl55, pz55, pr55, gr55_0, gr55_1, rc58, gi58, gl58, pi58, pl58, pz58, pr58, gr58_0, gr58_1, rc61, gi61, gl61, pi61, pl61, pz61, pr61, gr61_0, gr61_1, gr61_2, gr61_7, rc62, gi62, gl62, pi62, pl62, pz62, pr62, gr62_0, gr62_1, gr62_2, gr62_3, gr62_4, gr62_5, ld2, st2, an2, ld4, st4, an4, ld5, st5, an5, an6, ld48, st48, an48, ld49, st49, an49, ld50, st50, an50, ld51, st51, an51, ld52, st52, an52, ld53, st53, an53, ld54, st54, an54, ld56, st56, an56, ld57, st57, an57, ld59, st59, an59, ld60, st60, an60, ld63, st63, an63, ld64, st64, an64, ld65, st65, an65, ld66, st66, an66, ld67, st67, an67, ld68, st68, an68, ld69, st69, an69, ld70, st70, an70, rcct, gict, glct, pict, plct, pzct, prct, grct_0, grct_1, grct_2, grct_3, ldctm, stctm, anctm, ldctr, stctr, anctr, ldctp, stctp, anctp, anctR, rcru, giru, glru, piru, plru, pzru, prru, grru_7, ldcu, stcu, ancu, arct, ar6, rcro, giro, piro, pzro, grro_1, grro_2, grro_3, rcfo, gifo, pifo, pzfo, grfo_0, grfo_1, ldfop, stfop, anfop, ldfoe, stfoe, anfoe, Option.bind_some, if_true, if_false, n_0, n_1, n_2, n_3, n_4, n_5, n_6, n_7, n_8, n_9, n_10, n_12, n_15, n_20, n_24, n_32, n_48, n_57, n_59, n_80, n_97, n_99, n_100, n_122, n_680, n_700, n_999, n_1023, n_1024, iI_neg, iI_add, iI_sub, iI_lt, iI_le, iI_eq, q1.2.1.2, show (n : Int) ≤ (n : Int) by omega]
end
