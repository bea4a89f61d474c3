/-! ===== layer 2: seatings: the class takes one ===== -/
section
variable {T : Tb} {I I' I'' : Nat → Nat → Int32} {J : Nat → Nat → Int64} {b fs : Bool} {f k n i j x y p q d kk jj : Nat} {m g lim w h mv nu : Int} {tk kep sty : Nat → Bool} {pl : Nat → Nat} {hom : Nat → Int} {st : FdS} {p0 : Nat → Int} {e0 : Nat → Nat → Bool}
set_option maxHeartbeats 8000000 in
theorem fo_is (hk : kk < 4 ∧ jj < 3) : 8 ≤ fo kk jj ∧ fo kk jj ≤ 44 := by unfold fo; omega
/-- the places and the places ever -/
def peC (T : Tb) (f : Nat) (p0 : Nat → Int) (e0 : Nat → Nat → Bool) (I : Nat → Nat → Int32) : Prop := ∀ y, y < 10 → I (f + 1) y = iI (if cmb T y = true then p0 (cnt y (cmb T)) else -1) ∧ I (f + 2) y = iI (bt 8 (fun p => cmb T y && e0 (cnt y (cmb T)) p) : Int)
set_option maxHeartbeats 8000000 in
theorem cl_mark (hK : nK T ≤ 7) (hn : n ≤ 8) (hP : prS T m n I) (hk : kk < 4 ∧ jj < 3) (hf : f = fo kk jj) (hpl : ∀ j, j < nK T → I 69 j = iI (pl j : Int) ∧ pl j < n) (h : peC T f p0 e0 I) : ∃ I', jloop (Search_take_L84 S0 (some 61) (bI fs)) jN (iI 0, (I, J, Pst b f)) = some (I', J, Pst b f) ∧ Agr (fun o => o ≠ f + 1 ∧ o ≠ f + 2) I I' ∧ peC T f (fun i => if fs = true then (pl i : Int) else p0 i) (fun i p => e0 i p || decide (p = pl i)) I' := by
  have hfo := fo_is hk
  have key := jheap (J := J) (P := Pst b f) (I := I) (body := Search_take_L84 S0 (some 61) (bI fs)) (fun k I' => Agr (fun o => o ≠ f + 1 ∧ o ≠ f + 2) I I' ∧ peC T f (fun i => if fs = true ∧ i < k then (pl i : Int) else p0 i) (fun i p => e0 i p || (decide (i < k) && decide (p = pl i))) I') 0 (nK T) ⟨Agr.refl _ _, fun y hy => ?_⟩ (by omega) (by omega) (fun k I1 _ hk' q1 => ?_) (fun I1 q1 => ?_)
  · obtain ⟨I2, e1, e2, e3⟩ := key
    refine ⟨I2, e1, e2, fun y hy => ?_⟩
    have := e3 y hy
    by_cases e : cmb T y = true
    · have hl := cnt_lt_of hy e
      have hl' : cnt y (cmb T) < nK T := hl
      rw [if_pos e] at this ⊢
      simp only [hl', and_true, decide_true, Bool.true_and] at this
      exact this
    · rw [if_neg e] at this ⊢
      refine ⟨this.1, this.2.trans (sI_ext fun p _ => ?_)⟩
      have e' : cmb T y = false := by simpa using e
      rw [e', Bool.false_and, Bool.false_and]
  · have := h y hy
    simp only [Nat.not_lt_zero, and_false, if_false, decide_false, Bool.false_and, Bool.or_false]
    exact this
  · have hm := mg_is hk'
    have u6 : I1 62 6 = iI (nK T : Int) := (q1.1 62 (by omega) 6).trans hP.1.1.1
    have uk : I1 63 k = iI (mg T k : Int) := (q1.1 63 (by omega) k).trans (hP.1.1.2 k hk')
    have ua : I1 69 k = iI (pl k : Int) := (q1.1 69 (by omega) k).trans (hpl k hk').1
    have hp8 := (hpl k hk').2
    have hcur := q1.2 (mg T k) hm.1
    have hev : I1 (f + 2) (mg T k) ||| iI (bt 8 (fun y => decide (y = pl k)) : Int) = iI (bt 8 (fun p => e0 k p || decide (p = pl k)) : Int) := by
      rw [hcur.2, sI_or]
      refine sI_ext fun p _ => ?_
      rw [hm.2.1, hm.2.2]
      simp
    have hne : ∀ y, y ≠ mg T k → cmb T y = true → cnt y (cmb T) ≠ k := fun y h1 h2 e => h1 (cm_inj h2 hm.2.1 (by rw [e, hm.2.2]))
    have hold : ∀ y, y < 10 → y ≠ mg T k → I1 (f + 1) y = iI (if cmb T y = true then (if fs = true ∧ cnt y (cmb T) < k + 1 then (pl (cnt y (cmb T)) : Int) else p0 (cnt y (cmb T))) else -1) ∧ I1 (f + 2) y = iI (bt 8 (fun p => cmb T y && (e0 (cnt y (cmb T)) p || (decide (cnt y (cmb T) < k + 1) && decide (p = pl (cnt y (cmb T)))))) : Int) := fun y hy h1 => by
      have h2 := q1.2 y hy
      cases e : cmb T y
      · rw [e] at h2
        simp only [Bool.false_eq_true, if_false, Bool.false_and] at h2 ⊢
        exact h2
      · rw [e] at h2
        simp only [if_true] at h2 ⊢
        simp only [lt_sk _ k (hne y h1 e)]
        exact h2
    subst hf
    cases fs
    · refine ⟨hup I1 (fo kk jj + 2) (mg T k) (iI (bt 8 (fun p => e0 k p || decide (p = pl k)) : Int)), ?_, q1.1.hup (by omega), fun y hy => ?_⟩
      · simp (maxSteps := 4000000) (disch := omega) only [Search_take_L84, rc0, gi0, gl0, pi0, pl0, pz0, pr0, gr0_0, gr0_1, gr0_2, gr0_3, gr0_4, gr0_5, gr0_6, gr0_7, gr0_8, rc1, gi1, gl1, pi1, pl1, pz1, pr1, gr1_0, rc3, gi3, gl3, pi3, pl3, pz3, pr3, gr3_0, gr3_10, gr3_11, rc47, gi47, gl47, pi47, pl47, pz47, pr47, gr47_0, gr47_1, gr47_2, gr47_3, gr47_4, gr47_5, gr47_6, rc55, gi55, gl55, pi55, pl55, pz55, pr55, gr55_0, gr55_1, rc58, gi58, gl58, pi58, pl58, pz58, pr58, gr58_0, gr58_1, rc61, gi61, gl61, pi61, pl61, pz61, pr61, gr61_0, gr61_1, gr61_2, gr61_7, rc62, gi62, gl62, pi62, pl62, pz62, pr62, gr62_0, gr62_1, gr62_2, gr62_3, gr62_4, gr62_5, ld2, st2, an2, ld4, st4, an4, ld5, st5, an5, an6, ld48, st48, an48, ld49, st49, an49, ld50, st50, an50, ld51, st51, an51, ld52, st52, an52, ld53, st53, an53, ld54, st54, an54, ld56, st56, an56, ld57, st57, an57, ld59, st59, an59, ld60, st60, an60, ld63, st63, an63, ld64, st64, an64, ld65, st65, an65, ld66, st66, an66, ld67, st67, an67, ld68, st68, an68, ld69, st69, an69, ld70, st70, an70, rcct, gict, glct, pict, plct, pzct, prct, grct_0, grct_1, grct_2, grct_3, ldctm, stctm, anctm, ldctr, stctr, anctr, ldctp, stctp, anctp, anctR, rcru, giru, glru, piru, plru, pzru, prru, grru_7, ldcu, stcu, ancu, arct, ar6, rcro, giro, piro, pzro, grro_1, grro_2, grro_3, rcfo, gifo, pifo, pzfo, grfo_0, grfo_1, ldfop, stfop, anfop, ldfoe, stfoe, anfoe, Option.bind_some, if_true, if_false, n_0, n_1, iI_add, iI_lt, iI_le, iI_eq, u6, show ¬ (nK T : Int) ≤ (k : Int) by omega, n_7, show ¬ (7 : Int) ≤ (k : Int) by omega, Int.toNat_natCast, uk, ua, sI_one8 (show pl k < 8 by omega), hev, bI_0]
      · by_cases e : y = mg T k
        · rw [e, hup_obj _ _ _ (by omega), hup_same, hcur.1, hm.2.1, hm.2.2]
          simp
        · rw [hup_obj _ _ _ (by omega), hup_ix _ _ _ e]
          exact hold y hy e
    · refine ⟨hup (hup I1 (fo kk jj + 2) (mg T k) (iI (bt 8 (fun p => e0 k p || decide (p = pl k)) : Int))) (fo kk jj + 1) (mg T k) (iI (pl k : Int)), ?_, (q1.1.hup (by omega)).hup (by omega), fun y hy => ?_⟩
      · have ua2 : ∀ v, hup I1 (fo kk jj + 2) (mg T k) v 69 k = iI (pl k : Int) := fun v => by rw [hup_obj _ _ _ (by omega)]; exact ua
        simp (maxSteps := 4000000) (disch := omega) only [Search_take_L84, rc0, gi0, gl0, pi0, pl0, pz0, pr0, gr0_0, gr0_1, gr0_2, gr0_3, gr0_4, gr0_5, gr0_6, gr0_7, gr0_8, rc1, gi1, gl1, pi1, pl1, pz1, pr1, gr1_0, rc3, gi3, gl3, pi3, pl3, pz3, pr3, gr3_0, gr3_10, gr3_11, rc47, gi47, gl47, pi47, pl47, pz47, pr47, gr47_0, gr47_1, gr47_2, gr47_3, gr47_4, gr47_5, gr47_6, rc55, gi55, gl55, pi55, pl55, pz55, pr55, gr55_0, gr55_1, rc58, gi58, gl58, pi58, pl58, pz58, pr58, gr58_0, gr58_1, rc61, gi61, gl61, pi61, pl61, pz61, pr61, gr61_0, gr61_1, gr61_2, gr61_7, rc62, gi62, gl62, pi62, pl62, pz62, pr62, gr62_0, gr62_1, gr62_2, gr62_3, gr62_4, gr62_5, ld2, st2, an2, ld4, st4, an4, ld5, st5, an5, an6, ld48, st48, an48, ld49, st49, an49, ld50, st50, an50, ld51, st51, an51, ld52, st52, an52, ld53, st53, an53, ld54, st54, an54, ld56, st56, an56, ld57, st57, an57, ld59, st59, an59, ld60, st60, an60, ld63, st63, an63, ld64, st64, an64, ld65, st65, an65, ld66, st66, an66, ld67, st67, an67, ld68, st68, an68, ld69, st69, an69, ld70, st70, an70, rcct, gict, glct, pict, plct, pzct, prct, grct_0, grct_1, grct_2, grct_3, ldctm, stctm, anctm, ldctr, stctr, anctr, ldctp, stctp, anctp, anctR, rcru, giru, glru, piru, plru, pzru, prru, grru_7, ldcu, stcu, ancu, arct, ar6, rcro, giro, piro, pzro, grro_1, grro_2, grro_3, rcfo, gifo, pifo, pzfo, grfo_0, grfo_1, ldfop, stfop, anfop, ldfoe, stfoe, anfoe, Option.bind_some, if_true, if_false, n_0, n_1, iI_add, iI_lt, iI_le, iI_eq, u6, show ¬ (nK T : Int) ≤ (k : Int) by omega, n_7, show ¬ (7 : Int) ≤ (k : Int) by omega, Int.toNat_natCast, uk, ua, sI_one8 (show pl k < 8 by omega), hev, bI_0, Bool.true_eq_false, ua2]
      · by_cases e : y = mg T k
        · rw [e, hup_same, hup_obj _ _ _ (by omega), hup_same, hm.2.1, hm.2.2]
          simp
        · rw [hup_ix _ _ _ e, hup_obj _ _ _ (by omega), hup_obj _ _ _ (by omega), hup_ix _ _ _ e]
          exact hold y hy e
  · have u6 : I1 62 6 = iI (nK T : Int) := (q1.1 62 (by omega) 6).trans hP.1.1.1
    simp (maxSteps := 4000000) (disch := omega) only [Search_take_L84, rc0, gi0, gl0, pi0, pl0, pz0, pr0, gr0_0, gr0_1, gr0_2, gr0_3, gr0_4, gr0_5, gr0_6, gr0_7, gr0_8, rc1, gi1, gl1, pi1, pl1, pz1, pr1, gr1_0, rc3, gi3, gl3, pi3, pl3, pz3, pr3, gr3_0, gr3_10, gr3_11, rc47, gi47, gl47, pi47, pl47, pz47, pr47, gr47_0, gr47_1, gr47_2, gr47_3, gr47_4, gr47_5, gr47_6, rc55, gi55, gl55, pi55, pl55, pz55, pr55, gr55_0, gr55_1, rc58, gi58, gl58, pi58, pl58, pz58, pr58, gr58_0, gr58_1, rc61, gi61, gl61, pi61, pl61, pz61, pr61, gr61_0, gr61_1, gr61_2, gr61_7, rc62, gi62, gl62, pi62, pl62, pz62, pr62, gr62_0, gr62_1, gr62_2, gr62_3, gr62_4, gr62_5, ld2, st2, an2, ld4, st4, an4, ld5, st5, an5, an6, ld48, st48, an48, ld49, st49, an49, ld50, st50, an50, ld51, st51, an51, ld52, st52, an52, ld53, st53, an53, ld54, st54, an54, ld56, st56, an56, ld57, st57, an57, ld59, st59, an59, ld60, st60, an60, ld63, st63, an63, ld64, st64, an64, ld65, st65, an65, ld66, st66, an66, ld67, st67, an67, ld68, st68, an68, ld69, st69, an69, ld70, st70, an70, rcct, gict, glct, pict, plct, pzct, prct, grct_0, grct_1, grct_2, grct_3, ldctm, stctm, anctm, ldctr, stctr, anctr, ldctp, stctp, anctp, anctR, rcru, giru, glru, piru, plru, pzru, prru, grru_7, ldcu, stcu, ancu, arct, ar6, rcro, giro, piro, pzro, grro_1, grro_2, grro_3, rcfo, gifo, pifo, pzfo, grfo_0, grfo_1, ldfop, stfop, anfop, ldfoe, stfoe, anfoe, Option.bind_some, if_true, if_false, n_0, n_1, iI_add, iI_lt, iI_le, iI_eq, u6, show (nK T : Int) ≤ (nK T : Int) by omega]
set_option maxHeartbeats 8000000 in
theorem cl_begin {h' : Int} (hk : kk < 4 ∧ jj < 3) (hf : f = fo kk jj) (h : peC T f p0 e0 I) : ∃ I', Found_begin S0 (some f) (iI w) (iI h') (iI mv) (I, J, Pst b f) = some (I', J, Pst b f) ∧ Agr (fun o => o ≠ f ∧ o ≠ f + 2) I I' ∧ (I' f 2 = I f 2 ∧ I' f 3 = I f 3 ∧ I' f 4 = bI true ∧ I' f 8 = iI 0) ∧ (I' f 5 = iI w ∧ I' f 6 = iI h' ∧ I' f 7 = iI mv) ∧ peC T f p0 (fun _ _ => false) I' := by
  have hfo := fo_is hk
  subst hf
  obtain ⟨I1, f1, f2, f3⟩ := fillI (J := J) (P := Pst b (fo kk jj)) (I := hup (hup (hup (hup (hup I (fo kk jj) 4 (bI true)) (fo kk jj) 5 (iI w)) (fo kk jj) 6 (iI h')) (fo kk jj) 7 (iI mv)) (fo kk jj) 8 (iI 0)) (N := 10) (ob := fo kk jj + 2) (vl := iI 0) (by omega) (anfoe hk) (fun a I ha => stfoe hk (by omega))
  have a5 := f2 (fo kk jj) (by omega)
  refine ⟨I1, ?_, ((((((Agr.refl _ I).hup (by omega)).hup (by omega)).hup (by omega)).hup (by omega)).hup (by omega)).trans (f2.sub fun o h => h.2), ?_, ?_, fun y hy => ?_⟩
  · unfold Found_begin
    rw [rcfo hk, Option.bind_some, n_0, show (1 : Int32) = bI true from rfl, pzfo hk, Option.bind_some, pifo hk, Option.bind_some, pifo hk, Option.bind_some, pifo hk, Option.bind_some, pifo hk, Option.bind_some, grfo_1 hk, Option.bind_some, f1, Option.bind_some]
  · rw [a5, a5, a5, a5]; simp [hup]
  · rw [a5, a5, a5]; simp [hup]
  · have := h y hy
    refine ⟨?_, ?_⟩
    · rw [f2 (fo kk jj + 1) (by omega) y]
      rw [hup_obj _ _ _ (by omega), hup_obj _ _ _ (by omega), hup_obj _ _ _ (by omega), hup_obj _ _ _ (by omega), hup_obj _ _ _ (by omega)]
      exact this.1
    · rw [f3 y hy, show iI 0 = iI (bt 8 (fun _ => false) : Int) by rw [bt_z]; rfl]
      exact sI_ext fun p _ => by simp
set_option maxHeartbeats 8000000 in
theorem prS.agr (h : prS T m n I) (ha : Agr (fun o => 62 ≤ o ∧ o ≤ 68) I I') : prS T m n I' := ⟨⟨⟨(ha 62 (by omega) 6).trans h.1.1.1, fun i hi => (ha 63 (by omega) i).trans (h.1.1.2 i hi)⟩, ⟨(ha 62 (by omega) 7).trans h.1.2.1, (ha 62 (by omega) 8).trans h.1.2.2.1, fun p q hp hq => (ha 64 (by omega) _).trans (h.1.2.2.2 p q hp hq)⟩⟩, fun i j w h1 h2 h3 => ⟨(ha 65 (by omega) _).trans (h.2.1 i j w h1 h2 h3).1, (ha 66 (by omega) _).trans (h.2.1 i j w h1 h2 h3).2⟩, fun i hi => ⟨(ha 67 (by omega) i).trans (h.2.2 i hi).1, (ha 68 (by omega) i).trans (h.2.2 i hi).2⟩⟩
set_option maxHeartbeats 8000000 in
theorem seC.agr (h : seC T g hom sty kep I) (h1 : ∀ k, k ≠ 5 → I' 61 k = I 61 k) (h2 : ∀ k, I' 70 k = I 70 k) : seC T g hom sty kep I' := ⟨(h1 6 (by omega)).trans h.1, (h1 3 (by omega)).trans h.2.1, (h1 4 (by omega)).trans h.2.2.1, fun i hi => (h2 i).trans (h.2.2.2 i hi)⟩
set_option maxHeartbeats 8000000 in
theorem fdC.agr (h : fdC T f lim st I) (ha : Agr (fun o => o = f ∨ o = f + 1 ∨ o = f + 2) I I') : fdC T f lim st I' := ⟨⟨(ha _ (by omega) _).trans h.1.1, (ha _ (by omega) _).trans h.1.2.1, (ha _ (by omega) _).trans h.1.2.2⟩, fun e => ⟨(ha _ (by omega) _).trans (h.2.1 e).1, (ha _ (by omega) _).trans (h.2.1 e).2.1, (ha _ (by omega) _).trans (h.2.1 e).2.2⟩, fun y hy => ⟨(ha _ (by omega) _).trans (h.2.2 y hy).1, (ha _ (by omega) _).trans (h.2.2 y hy).2⟩⟩
set_option maxHeartbeats 8000000 in
theorem lfn_B (hB : fdB st) (hw : 0 ≤ w ∧ w ≤ 100000) (hh : 0 ≤ h ∧ h ≤ 1000) (hm : 0 ≤ mv ∧ mv ≤ 1000) : fdB (lfn g lim w h mv pl st) := by
  unfold lfn
  by_cases e : wrt g lim w h mv st = true
  · rw [if_pos e]
    by_cases e1 : st.1 = false ∨ g ≠ 0 ∨ w < st.2.1
    · rw [if_pos e1]; exact fun _ => ⟨hw, hh, hm⟩
    · rw [if_neg e1]; exact hB
  · rw [if_neg e]; exact hB
set_option maxHeartbeats 8000000 in
theorem cl_take (ht : tvC T) (hv : tvD T) (hK : nK T ≤ 7) (hn : n ≤ 8) (hP : prS T m n I) (hs : seC T g hom sty kep I) (hk : kk < 4 ∧ jj < 3) (hf : f = fo kk jj) (hF : fdC T f lim st I) (hB : fdB st) (hl : rg lim) (hpl : ∀ j, j < nK T → I 69 j = iI (pl j : Int) ∧ pl j < n) (hw : 0 ≤ w ∧ w ≤ 100000) (hh : 0 ≤ h ∧ h ≤ 1000) (hm : 0 ≤ mv ∧ mv ≤ 1000) (hg : g = 0 ∨ g = 1 ∨ g = 2) : ∃ I', Search_take S0 (some 61) (iI w) (iI h) (iI mv) (I, J, Pst b f) = some (I', J, Pst b f) ∧ Agr (fun o => o ≠ f ∧ o ≠ f + 1 ∧ o ≠ f + 2) I I' ∧ I' f 2 = I f 2 ∧ fdC T f lim (lfn g lim w h mv pl st) I' := by
  have hfo := fo_is hk
  have hz1 : tcw T m n (nK T - nK T) = 0 := by rw [Nat.sub_self]; rfl
  have hz2 : tch T m n (nK T - nK T) = 0 := by rw [Nat.sub_self]; rfl
  have hw1 := cl_isWorth (J := J) (b := b) (i := nK T) ht hv hK hP hs hk hf hF hB hl (Nat.le_refl _) hw hh hm (by rw [hz1]; omega) hg
  rw [hz1, hz2, Int.add_zero, if_neg (show ¬ h < 0 by omega)] at hw1
  have u6 : I 62 6 = iI (nK T : Int) := hP.1.1.1
  have g6 : I 61 6 = iI g := hs.1
  cases e : wrt g lim w h mv st
  · rw [wrt_no e]
    rw [e] at hw1
    refine ⟨I, ?_, Agr.refl _ _, rfl, hF⟩
    unfold Search_take
    rw [rc61, Option.bind_some, gr61_0, Option.bind_some, gi62, Option.bind_some, u6, hw1, Option.bind_some, if_pos (by rfl)]
  · rw [e] at hw1
    have hb1 : ¬ bI true = 0 := by decide
    have hb0 : bI false = 0 := by decide
    obtain ⟨⟨f3, f4, f8⟩, f5, f6⟩ := id hF
    by_cases e1 : st.1 = false ∨ g ≠ 0 ∨ w < st.2.1
    · have hlf : lfn g lim w h mv pl st = (true, w, h, mv, 1, fun i => (pl i : Int), fun i p => decide (p = pl i)) := by unfold lfn; rw [if_pos e, if_pos e1]
      rw [hlf]
      have hj : ((if I f 4 = (0 : Int32) then (some 1) else ((gI S0 8 6 (I, J, Pst b f) (some 61)).bind fun x29 => if x29 = 0 then ((some (some f) : Option (Option Nat)).bind fun x30 => (gI S0 2 5 (I, J, Pst b f) x30).bind fun x31 => if x31 ≤ iI w then (some 0) else (some 1)) else (some 1))) : Option Int32) = some (bI true) := by
        rw [f4]
        cases es : st.1
        · rw [if_pos hb0]; rfl
        · rw [if_neg hb1, gi61, Option.bind_some, g6]
          by_cases eg : g = 0
          · have hlt : w < st.2.1 := by
              rcases e1 with q | q | q
              · rw [es] at q; cases q
              · exact absurd eg q
              · exact q
            have hb := hB es
            rw [if_pos (by rw [eg]; rfl), Option.bind_some, hf, gifo hk, ← hf, Option.bind_some, (f5 es).1, if_neg (by rw [iI_le (by omega)]; omega)]
            rfl
          · rw [if_neg (by rw [n_0, iI_eq (by omega)]; exact eg)]; rfl
      obtain ⟨I1, a1, a2, a3, a4, a5⟩ := cl_begin (T := T) (J := J) (b := b) (w := w) (h' := h) (mv := mv) (p0 := st.2.2.2.2.2.1) (e0 := st.2.2.2.2.2.2) hk hf f6
      have hP2 : prS T m n (hup I1 f 8 (iI 1)) := (hP.agr (a2.sub fun o h => by omega)).agr ((Agr.refl _ _).hup (by omega))
      have hpl2 : ∀ j, j < nK T → hup I1 f 8 (iI 1) 69 j = iI (pl j : Int) ∧ pl j < n := fun j hj => ⟨by rw [hup_obj _ _ _ (by omega), a2 69 (by omega) j]; exact (hpl j hj).1, (hpl j hj).2⟩
      have hpe : peC T f st.2.2.2.2.2.1 (fun _ _ => false) (hup I1 f 8 (iI 1)) := fun y hy => by
        rw [hup_obj _ _ _ (by omega), hup_obj _ _ _ (by omega)]
        exact a5 y hy
      obtain ⟨I2, b1, b2, b3⟩ := cl_mark (J := J) (b := b) (fs := true) (pl := pl) hK hn hP2 hk hf hpl2 hpe
      have b2' : ∀ k, I2 f k = hup I1 f 8 (iI 1) f k := fun k => b2 f (by omega) k
      refine ⟨I2, ?_, ((a2.sub fun o h => by omega).hup (by omega)).trans (b2.sub fun o h => by omega), ?_, ⟨?_, fun _ => ?_, ?_⟩⟩
      · unfold Search_take
        rw [rc61, Option.bind_some, gr61_0, Option.bind_some, gi62, Option.bind_some, u6, hw1, Option.bind_some, if_neg hb1, gr61_7, Option.bind_some, hf, gifo hk, ← hf, Option.bind_some, hj, Option.bind_some, if_neg hb1, Option.bind_some, a1, Option.bind_some, Option.bind_some, gr61_7, Option.bind_some, hf, gifo hk, ← hf, Option.bind_some, a3.2.2.2, hf, pifo hk, ← hf, Option.bind_some, n_0, n_1, iI_add, show (0 : Int) + 1 = 1 from rfl, b1, Option.bind_some]
      · rw [b2', hup_ix _ _ _ (by omega)]; exact a3.1
      · refine ⟨?_, ?_, ?_⟩
        · rw [b2', hup_ix _ _ _ (by omega), a3.2.1]; exact f3
        · rw [b2', hup_ix _ _ _ (by omega), a3.2.2.1]
        · rw [b2', hup_same]
      · refine ⟨?_, ?_, ?_⟩
        · rw [b2', hup_ix _ _ _ (by omega), a4.1]
        · rw [b2', hup_ix _ _ _ (by omega), a4.2.1]
        · rw [b2', hup_ix _ _ _ (by omega), a4.2.2]
      · intro y hy
        have := b3 y hy
        simp only [Bool.false_or, if_true] at this
        exact this
    · have hlf : lfn g lim w h mv pl st = (st.1, st.2.1, st.2.2.1, st.2.2.2.1, st.2.2.2.2.1 + 1, st.2.2.2.2.2.1, fun i p => st.2.2.2.2.2.2 i p || decide (p = pl i)) := by unfold lfn; rw [if_pos e, if_neg e1]
      rw [hlf]
      have es : st.1 = true := by
        cases es : st.1
        · exact absurd (Or.inl es) e1
        · rfl
      have eg : g = 0 := Classical.byContradiction fun q => e1 (Or.inr (Or.inl q))
      have ew : ¬ w < st.2.1 := fun q => e1 (Or.inr (Or.inr q))
      have hb := hB es
      have hj : ((if I f 4 = (0 : Int32) then (some 1) else ((gI S0 8 6 (I, J, Pst b f) (some 61)).bind fun x29 => if x29 = 0 then ((some (some f) : Option (Option Nat)).bind fun x30 => (gI S0 2 5 (I, J, Pst b f) x30).bind fun x31 => if x31 ≤ iI w then (some 0) else (some 1)) else (some 1))) : Option Int32) = some (bI false) := by
        rw [f4, es, if_neg hb1, gi61, Option.bind_some, g6, if_pos (by rw [eg]; rfl), Option.bind_some, hf, gifo hk, ← hf, Option.bind_some, (f5 es).1, if_pos (by rw [iI_le (by omega)]; omega)]
        rfl
      have hP2 : prS T m n (hup I f 8 (iI (st.2.2.2.2.1 + 1))) := hP.agr ((Agr.refl _ _).hup (by omega))
      have hpl2 : ∀ j, j < nK T → hup I f 8 (iI (st.2.2.2.2.1 + 1)) 69 j = iI (pl j : Int) ∧ pl j < n := fun j hj => ⟨by rw [hup_obj _ _ _ (by omega)]; exact (hpl j hj).1, (hpl j hj).2⟩
      have hpe : peC T f st.2.2.2.2.2.1 st.2.2.2.2.2.2 (hup I f 8 (iI (st.2.2.2.2.1 + 1))) := fun y hy => by
        rw [hup_obj _ _ _ (by omega), hup_obj _ _ _ (by omega)]
        exact f6 y hy
      obtain ⟨I2, b1, b2, b3⟩ := cl_mark (J := J) (b := b) (fs := false) (pl := pl) hK hn hP2 hk hf hpl2 hpe
      have b2' : ∀ k, I2 f k = hup I f 8 (iI (st.2.2.2.2.1 + 1)) f k := fun k => b2 f (by omega) k
      refine ⟨I2, ?_, ((Agr.refl _ I).hup (by omega)).trans (b2.sub fun o h => by omega), ?_, ⟨?_, fun q => ?_, ?_⟩⟩
      · unfold Search_take
        rw [rc61, Option.bind_some, gr61_0, Option.bind_some, gi62, Option.bind_some, u6, hw1, Option.bind_some, if_neg hb1, gr61_7, Option.bind_some, hf, gifo hk, ← hf, Option.bind_some, hj, Option.bind_some, if_pos hb0, Option.bind_some, gr61_7, Option.bind_some, hf, gifo hk, ← hf, Option.bind_some, f8, hf, pifo hk, ← hf, n_0, n_1, iI_add, Option.bind_some, b1, Option.bind_some]
      · rw [b2', hup_ix _ _ _ (by omega)]
      · refine ⟨?_, ?_, ?_⟩
        · rw [b2', hup_ix _ _ _ (by omega)]; exact f3
        · rw [b2', hup_ix _ _ _ (by omega)]; exact f4
        · rw [b2', hup_same]
      · refine ⟨?_, ?_, ?_⟩
        · rw [b2', hup_ix _ _ _ (by omega)]; exact (f5 es).1
        · rw [b2', hup_ix _ _ _ (by omega)]; exact (f5 es).2.1
        · rw [b2', hup_ix _ _ _ (by omega)]; exact (f5 es).2.2
      · intro y hy
        have := b3 y hy
        simp only [Bool.false_eq_true, if_false] at this
        exact this
end
