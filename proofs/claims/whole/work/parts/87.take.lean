/-! ===== layer 2: seatings: the class takes one ===== -/
section
variable {T : Tb} {I I' I'' : Nat → Nat → Int32} {J : Nat → Nat → Int64} {b fs : Bool} {f k n i j x y p q d kk jj : Nat} {m g lim w h mv nu : Int} {tk kep sty : Nat → Bool} {pl : Nat → Nat} {hom : Nat → Int} {st : FdS} {p0 : Nat → Int} {e0 : Nat → Nat → Bool}
theorem fo_is (hk : kk < 4 ∧ jj < 3) : 8 ≤ fo kk jj ∧ fo kk jj ≤ 44 := by unfold fo; omega
/-- the places and the places ever -/
def peC (T : Tb) (f : Nat) (p0 : Nat → Int) (e0 : Nat → Nat → Bool) (I : Nat → Nat → Int32) : Prop := ∀ y, y < 10 → I (f + 1) y = iI (if cmb T y = true then p0 (cnt y (cmb T)) else -1) ∧ I (f + 2) y = iI (bt 8 (fun p => cmb T y && e0 (cnt y (cmb T)) p) : Int)
theorem cl_mark (hK : nK T ≤ 7) (hn : n ≤ 8) (hP : prS T m n I) (hk : kk < 4 ∧ jj < 3) (hf : f = fo kk jj) (hpl : ∀ j, j < nK T → I 69 j = iI (pl j : Int) ∧ pl j < n) (h : peC T f p0 e0 I) : ∃ I', jloop (Search_take_L84 S0 (some 61) (bI fs)) jN (iI 0, (I, J, Pst b f)) = some (I', J, Pst b f) ∧ Agr (fun o => o ≠ f + 1 ∧ o ≠ f + 2) I I' ∧ peC T f (fun i => if fs = true then (pl i : Int) else p0 i) (fun i p => e0 i p || decide (p = pl i)) I' := by
  have hfo := fo_is hk
  have key := jheap (J := J) (P := Pst b f) (I := I) (body := Search_take_L84 S0 (some 61) (bI fs)) (fun k I' => Agr (fun o => o ≠ f + 1 ∧ o ≠ f + 2) I I' ∧ peC T f (fun i => if fs = true ∧ i < k then (pl i : Int) else p0 i) (fun i p => e0 i p || (decide (i < k) && decide (p = pl i))) I') 0 (nK T) ⟨Agr.refl _ _, fun y hy => ?_⟩ (by omega) (by omega) (fun k I1 _ hk' q1 => ?_) (fun I1 q1 => ?_)
  · obtain ⟨I2, e1, e2, e3⟩ := key
    refine ⟨I2, e1, e2, fun y hy => ?_⟩
    have := e3 y hy
    by_cases e : cmb T y = true
    · have hl := cnt_lt_of hy e
      have hl' : cnt y (cmb T) < nK T := hl
      rw [if_pos e] at this ⊢
      simp only [hl', and_true, decide_true, Bool.true_and] at this
      exact this
    · rw [if_neg e] at this ⊢
      refine ⟨this.1, this.2.trans (sI_ext fun p _ => ?_)⟩
      have e' : cmb T y = false := by simpa using e
      rw [e', Bool.false_and, Bool.false_and]
  · have := h y hy
    simp only [Nat.not_lt_zero, and_false, if_false, decide_false, Bool.false_and, Bool.or_false]
    exact this
  · have hm := mg_is hk'
    have u6 : I1 62 6 = iI (nK T : Int) := (q1.1 62 (by omega) 6).trans hP.1.1.1
    have uk : I1 63 k = iI (mg T k : Int) := (q1.1 63 (by omega) k).trans (hP.1.1.2 k hk')
    have ua : I1 69 k = iI (pl k : Int) := (q1.1 69 (by omega) k).trans (hpl k hk').1
    have hp8 := (hpl k hk').2
    have hcur := q1.2 (mg T k) hm.1
    have hev : I1 (f + 2) (mg T k) ||| iI (bt 8 (fun y => decide (y = pl k)) : Int) = iI (bt 8 (fun p => e0 k p || decide (p = pl k)) : Int) := by
      rw [hcur.2, sI_or]
      refine sI_ext fun p _ => ?_
      rw [hm.2.1, hm.2.2]
      simp
    have hne : ∀ y, y ≠ mg T k → cmb T y = true → cnt y (cmb T) ≠ k := fun y h1 h2 e => h1 (cm_inj h2 hm.2.1 (by rw [e, hm.2.2]))
    have hold : ∀ y, y < 10 → y ≠ mg T k → I1 (f + 1) y = iI (if cmb T y = true then (if fs = true ∧ cnt y (cmb T) < k + 1 then (pl (cnt y (cmb T)) : Int) else p0 (cnt y (cmb T))) else -1) ∧ I1 (f + 2) y = iI (bt 8 (fun p => cmb T y && (e0 (cnt y (cmb T)) p || (decide (cnt y (cmb T) < k + 1) && decide (p = pl (cnt y (cmb T)))))) : Int) := fun y hy h1 => by
      have h2 := q1.2 y hy
      cases e : cmb T y
      · rw [e] at h2
        simp only [Bool.false_eq_true, if_false, Bool.false_and] at h2 ⊢
        exact h2
      · rw [e] at h2
        simp only [if_true] at h2 ⊢
        rw [lt_sk _ k (hne y h1 e)]
        exact h2
    subst hf
    cases fs
    · refine ⟨hup I1 (fo kk jj + 2) (mg T k) (iI (bt 8 (fun p => e0 k p || decide (p = pl k)) : Int)), ?_, q1.1.hup (by omega), fun y hy => ?_⟩
      · simp (maxSteps := 4000000) (disch := omega) only [Search_take_L84, rc0, gi0, gl0, pi0, pl0, pz0, pr0, gr0_0, gr0_1, gr0_2, gr0_3, gr0_4, gr0_5, gr0_6, gr0_7, gr0_8, rc1, gi1, gl1, pi1, pl1, pz1, pr1, gr1_0, rc3, gi3, gl3, pi3, pl3, pz3, pr3, gr3_0, gr3_10, gr3_11, rc47, gi47, gl47, pi47, pl47, pz47, pr47, gr47_0, gr47_1, gr47_2, gr47_3, gr47_4, gr47_5, gr47_6, rc55, gi55, gl55, pi55, pl55, pz55, pr55, gr55_0, gr55_1, rc58, gi58, gl58, pi58, pl58, pz58, pr58, gr58_0, gr58_1, rc61, gi61, gl61, pi61, pl61, pz61, pr61, gr61_0, gr61_1, gr61_2, gr61_7, rc62, gi62, gl62, pi62, pl62, pz62, pr62, gr62_0, gr62_1, gr62_2, gr62_3, gr62_4, gr62_5, ld2, st2, an2, ld4, st4, an4, ld5, st5, an5, an6, ld48, st48, an48, ld49, st49, an49, ld50, st50, an50, ld51, st51, an51, ld52, st52, an52, ld53, st53, an53, ld54, st54, an54, ld56, st56, an56, ld57, st57, an57, ld59, st59, an59, ld60, st60, an60, ld63, st63, an63, ld64, st64, an64, ld65, st65, an65, ld66, st66, an66, ld67, st67, an67, ld68, st68, an68, ld69, st69, an69, ld70, st70, an70, rcct, gict, glct, pict, plct, pzct, prct, grct_0, grct_1, grct_2, grct_3, ldctm, stctm, anctm, ldctr, stctr, anctr, ldctp, stctp, anctp, anctR, rcru, giru, glru, piru, plru, pzru, prru, grru_7, ldcu, stcu, ancu, arct, ar6, rcro, giro, piro, pzro, grro_1, grro_2, grro_3, rcfo, gifo, pifo, pzfo, grfo_0, grfo_1, ldfop, stfop, anfop, ldfoe, stfoe, anfoe, Option.bind_some, if_true, if_false, n_0, n_1, iI_add, iI_lt, iI_le, iI_eq, u6, show ¬ (nK T : Int) ≤ (k : Int) by omega, n_7, show ¬ (7 : Int) ≤ (k : Int) by omega, Int.toNat_natCast, uk, ua, sI_one8 (show pl k < 8 by omega), hev, bI_0]
      · by_cases e : y = mg T k
        · subst e
          rw [hup_obj _ _ _ (by omega), hup_same, hcur.1]
          rw [hm.2.1, hm.2.2]
          simp
        · rw [hup_obj _ _ _ (by omega), hup_ix _ _ _ e]
          exact hold y hy e
    · refine ⟨hup (hup I1 (fo kk jj + 2) (mg T k) (iI (bt 8 (fun p => e0 k p || decide (p = pl k)) : Int))) (fo kk jj + 1) (mg T k) (iI (pl k : Int)), ?_, (q1.1.hup (by omega)).hup (by omega), fun y hy => ?_⟩
      · have ua2 : ∀ v, hup I1 (fo kk jj + 2) (mg T k) v 69 k = iI (pl k : Int) := fun v => by rw [hup_obj _ _ _ (by omega)]; exact ua
        simp (maxSteps := 4000000) (disch := omega) only [Search_take_L84, rc0, gi0, gl0, pi0, pl0, pz0, pr0, gr0_0, gr0_1, gr0_2, gr0_3, gr0_4, gr0_5, gr0_6, gr0_7, gr0_8, rc1, gi1, gl1, pi1, pl1, pz1, pr1, gr1_0, rc3, gi3, gl3, pi3, pl3, pz3, pr3, gr3_0, gr3_10, gr3_11, rc47, gi47, gl47, pi47, pl47, pz47, pr47, gr47_0, gr47_1, gr47_2, gr47_3, gr47_4, gr47_5, gr47_6, rc55, gi55, gl55, pi55, pl55, pz55, pr55, gr55_0, gr55_1, rc58, gi58, gl58, pi58, pl58, pz58, pr58, gr58_0, gr58_1, rc61, gi61, gl61, pi61, pl61, pz61, pr61, gr61_0, gr61_1, gr61_2, gr61_7, rc62, gi62, gl62, pi62, pl62, pz62, pr62, gr62_0, gr62_1, gr62_2, gr62_3, gr62_4, gr62_5, ld2, st2, an2, ld4, st4, an4, ld5, st5, an5, an6, ld48, st48, an48, ld49, st49, an49, ld50, st50, an50, ld51, st51, an51, ld52, st52, an52, ld53, st53, an53, ld54, st54, an54, ld56, st56, an56, ld57, st57, an57, ld59, st59, an59, ld60, st60, an60, ld63, st63, an63, ld64, st64, an64, ld65, st65, an65, ld66, st66, an66, ld67, st67, an67, ld68, st68, an68, ld69, st69, an69, ld70, st70, an70, rcct, gict, glct, pict, plct, pzct, prct, grct_0, grct_1, grct_2, grct_3, ldctm, stctm, anctm, ldctr, stctr, anctr, ldctp, stctp, anctp, anctR, rcru, giru, glru, piru, plru, pzru, prru, grru_7, ldcu, stcu, ancu, arct, ar6, rcro, giro, piro, pzro, grro_1, grro_2, grro_3, rcfo, gifo, pifo, pzfo, grfo_0, grfo_1, ldfop, stfop, anfop, ldfoe, stfoe, anfoe, Option.bind_some, if_true, if_false, n_0, n_1, iI_add, iI_lt, iI_le, iI_eq, u6, show ¬ (nK T : Int) ≤ (k : Int) by omega, n_7, show ¬ (7 : Int) ≤ (k : Int) by omega, Int.toNat_natCast, uk, ua, sI_one8 (show pl k < 8 by omega), hev, bI_0, Bool.true_eq_false, ua2]
      · by_cases e : y = mg T k
        · subst e
          rw [hup_same, hup_obj _ _ _ (by omega), hup_same]
          rw [hm.2.1, hm.2.2]
          simp
        · rw [hup_ix _ _ _ e, hup_obj _ _ _ (by omega), hup_obj _ _ _ (by omega), hup_ix _ _ _ e]
          exact hold y hy e
  · have u6 : I1 62 6 = iI (nK T : Int) := (q1.1 62 (by omega) 6).trans hP.1.1.1
    simp (maxSteps := 4000000) (disch := omega) only [Search_take_L84, rc0, gi0, gl0, pi0, pl0, pz0, pr0, gr0_0, gr0_1, gr0_2, gr0_3, gr0_4, gr0_5, gr0_6, gr0_7, gr0_8, rc1, gi1, gl1, pi1, pl1, pz1, pr1, gr1_0, rc3, gi3, gl3, pi3, pl3, pz3, pr3, gr3_0, gr3_10, gr3_11, rc47, gi47, gl47, pi47, pl47, pz47, pr47, gr47_0, gr47_1, gr47_2, gr47_3, gr47_4, gr47_5, gr47_6, rc55, gi55, gl55, pi55, pl55, pz55, pr55, gr55_0, gr55_1, rc58, gi58, gl58, pi58, pl58, pz58, pr58, gr58_0, gr58_1, rc61, gi61, gl61, pi61, pl61, pz61, pr61, gr61_0, gr61_1, gr61_2, gr61_7, rc62, gi62, gl62, pi62, pl62, pz62, pr62, gr62_0, gr62_1, gr62_2, gr62_3, gr62_4, gr62_5, ld2, st2, an2, ld4, st4, an4, ld5, st5, an5, an6, ld48, st48, an48, ld49, st49, an49, ld50, st50, an50, ld51, st51, an51, ld52, st52, an52, ld53, st53, an53, ld54, st54, an54, ld56, st56, an56, ld57, st57, an57, ld59, st59, an59, ld60, st60, an60, ld63, st63, an63, ld64, st64, an64, ld65, st65, an65, ld66, st66, an66, ld67, st67, an67, ld68, st68, an68, ld69, st69, an69, ld70, st70, an70, rcct, gict, glct, pict, plct, pzct, prct, grct_0, grct_1, grct_2, grct_3, ldctm, stctm, anctm, ldctr, stctr, anctr, ldctp, stctp, anctp, anctR, rcru, giru, glru, piru, plru, pzru, prru, grru_7, ldcu, stcu, ancu, arct, ar6, rcro, giro, piro, pzro, grro_1, grro_2, grro_3, rcfo, gifo, pifo, pzfo, grfo_0, grfo_1, ldfop, stfop, anfop, ldfoe, stfoe, anfoe, Option.bind_some, if_true, if_false, n_0, n_1, iI_add, iI_lt, iI_le, iI_eq, u6, show (nK T : Int) ≤ (nK T : Int) by omega]
theorem cl_begin {h' : Int} (hk : kk < 4 ∧ jj < 3) (hf : f = fo kk jj) (h : peC T f p0 e0 I) : ∃ I', Found_begin S0 (some f) (iI w) (iI h') (iI mv) (I, J, Pst b f) = some (I', J, Pst b f) ∧ Agr (fun o => o ≠ f ∧ o ≠ f + 2) I I' ∧ (I' f 2 = I f 2 ∧ I' f 3 = I f 3 ∧ I' f 4 = bI true ∧ I' f 8 = iI 0) ∧ (I' f 5 = iI w ∧ I' f 6 = iI h' ∧ I' f 7 = iI mv) ∧ peC T f p0 (fun _ _ => false) I' := by
  have hfo := fo_is hk
  subst hf
  obtain ⟨I1, f1, f2, f3⟩ := fillI (J := J) (P := Pst b (fo kk jj)) (I := hup (hup (hup (hup (hup I (fo kk jj) 4 (bI true)) (fo kk jj) 5 (iI w)) (fo kk jj) 6 (iI h')) (fo kk jj) 7 (iI mv)) (fo kk jj) 8 (iI 0)) (N := 10) (ob := fo kk jj + 2) (vl := iI 0) (by omega) (anfoe hk) (fun a I ha => stfoe hk (by omega))
  have a5 := f2 (fo kk jj) (by omega)
  refine ⟨I1, ?_, ((((((Agr.refl _ I).hup (by omega)).hup (by omega)).hup (by omega)).hup (by omega)).hup (by omega)).trans (f2.sub fun o h => h.2), ?_, ?_, fun y hy => ?_⟩
  · unfold Found_begin
    rw [rcfo hk, Option.bind_some, n_0, show (1 : Int32) = bI true from rfl, pzfo hk, Option.bind_some, pifo hk, Option.bind_some, pifo hk, Option.bind_some, pifo hk, Option.bind_some, pifo hk, Option.bind_some, grfo_1 hk, Option.bind_some, f1, Option.bind_some]
  · rw [a5, a5, a5, a5]; simp [hup]
  · rw [a5, a5, a5]; simp [hup]
  · have := h y hy
    refine ⟨?_, ?_⟩
    · rw [f2 (fo kk jj + 1) (by omega) y]
      rw [hup_obj _ _ _ (by omega), hup_obj _ _ _ (by omega), hup_obj _ _ _ (by omega), hup_obj _ _ _ (by omega), hup_obj _ _ _ (by omega)]
      exact this.1
    · rw [f3 y hy, show iI 0 = iI (bt 8 (fun _ => false) : Int) by rw [bt_z]; rfl]
      exact sI_ext fun p _ => by simp
end
