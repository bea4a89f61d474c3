/-! ===== layer 2: slights, class's loops ===== -/
section
variable {T : Tb} {I I' : Nat → Nat → Int32} {J : Nat → Nat → Int64} {b v : Bool} {f k : Nat} {P : Nat → Nat → Option Nat} {a g w c1 c2 c s p m n q o : Int} {r x y : Nat} {pl : Nat → Int} {L : List S3} {V0 : hV}
theorem hgh_rg (w n c a o : Int) : -1 ≤ hgh w n c a o ∧ hgh w n c a o ≤ 2 := by
  unfold hgh
  (repeat' split) <;> omega
theorem isSlightI {h : Int} {bs : Bool} (hw : 0 ≤ w ∧ w ≤ 2) (hb : -1 ≤ h ∧ h ≤ 2) : Fi_isSlight (iI w) (iI h) (bI bs) = bI (slt w h bs) := by
  rcases (show w = 0 ∨ w = 1 ∨ w = 2 by omega) with rfl | rfl | rfl
  · simp (disch := omega) only [Fi_isSlight, slt, n_0, n_1, n_2, n_3, n_4, n_5, n_6, n_7, n_8, n_9, n_10, n_12, n_15, n_20, n_24, n_32, n_48, n_57, n_59, n_80, n_97, n_99, n_100, n_122, n_680, n_700, n_999, n_1023, n_1024, iI_neg, iI_add, iI_sub, iI_lt, iI_le, iI_eq, Option.bind_some, if_true, if_false]
    (repeat' split) <;> first | exact bI_df (by omega) | exact bI_dt (by omega)
  · simp (disch := omega) only [Fi_isSlight, slt, n_0, n_1, n_2, n_3, n_4, n_5, n_6, n_7, n_8, n_9, n_10, n_12, n_15, n_20, n_24, n_32, n_48, n_57, n_59, n_80, n_97, n_99, n_100, n_122, n_680, n_700, n_999, n_1023, n_1024, iI_neg, iI_add, iI_sub, iI_lt, iI_le, iI_eq, Option.bind_some, if_true, if_false, show ¬ (1 : Int) = 0 by omega]
    (repeat' split) <;> first | exact bI_df (by omega) | exact bI_dt (by omega)
  · simp (disch := omega) only [Fi_isSlight, slt, n_0, n_1, n_2, n_3, n_4, n_5, n_6, n_7, n_8, n_9, n_10, n_12, n_15, n_20, n_24, n_32, n_48, n_57, n_59, n_80, n_97, n_99, n_100, n_122, n_680, n_700, n_999, n_1023, n_1024, iI_neg, iI_add, iI_sub, iI_lt, iI_le, iI_eq, Option.bind_some, if_true, if_false, show ¬ (2 : Int) = 0 by omega, show ¬ (2 : Int) = 1 by omega, bI_and1]
abbrev outS (o : Nat) : Prop := o ≠ 55 ∧ o ≠ 57
theorem cl_pair (E : EC T b I) (V : TV T) (hp : plC pl I) (hpl : plV T m pl) (hm : isM T m) (hc : 0 ≤ c ∧ c < 20) (hq : rg q) (hr : (r : Int) < T 0 4) (hx : x < 10) (hk : k < 10) (hnz : bt 10 (cpl T r x) ≠ 0) (hS : slC T m c pl q L I) (hl : lok T L) (hn : L.length < 1200) : ∃ I', Slights_tellRule_L13 S0 (some 55) (some (ru b r)) (iI (r : Int)) (some (ro m.toNat)) (iI c) (iI (x : Int), V0) (iI (k : Int), (I, J, Pst b f)) = some (.inl (iI ((k : Int) + 1), (I', J, Pst b f))) ∧ Agr outS I I' ∧ slC T m c pl q (L ++ if slP T m c pl r x k then [(r, x, k)] else []) I' := by
  obtain ⟨⟨eA, eB⟩, ⟨eC, eD⟩, eE⟩ := id E
  obtain ⟨⟨vA, vB⟩, ⟨vC, vD⟩, vE, vF⟩ := id V
  have h0 := vC.1
  have h00 := vB.1
  obtain ⟨d1, d2, d3, d4, d5, d6, d7, d8⟩ := eD r hr
  obtain ⟨v1, v2, v3, v4, v5, v6, v7⟩ := vD r hr
  have hb := bt10 (cpl T r x)
  have hpx := hpl x
  have hpk := hpl k
  have hT := (vB.2 _ (mN hm)).2
  simp (disch := omega) only [Slights_tellRule_L13, rc0, gi0, gl0, pi0, pl0, pz0, pr0, gr0_0, gr0_1, gr0_2, gr0_3, gr0_4, gr0_5, gr0_6, gr0_7, gr0_8, rc1, gi1, gl1, pi1, pl1, pz1, pr1, gr1_0, rc3, gi3, gl3, pi3, pl3, pz3, pr3, gr3_0, gr3_10, gr3_11, rc47, gi47, gl47, pi47, pl47, pz47, pr47, gr47_0, gr47_1, gr47_2, gr47_3, gr47_4, gr47_5, gr47_6, rc55, gi55, gl55, pi55, pl55, pz55, pr55, gr55_0, gr55_1, rc58, gi58, gl58, pi58, pl58, pz58, pr58, gr58_0, gr58_1, rc61, gi61, gl61, pi61, pl61, pz61, pr61, gr61_0, gr61_1, gr61_2, gr61_7, rc62, gi62, gl62, pi62, pl62, pz62, pr62, gr62_0, gr62_1, gr62_2, gr62_3, gr62_4, gr62_5, ld2, st2, an2, ld4, st4, an4, ld5, st5, an5, an6, ld48, st48, an48, ld49, st49, an49, ld50, st50, an50, ld51, st51, an51, ld52, st52, an52, ld53, st53, an53, ld54, st54, an54, ld56, st56, an56, ld57, st57, an57, ld59, st59, an59, ld60, st60, an60, ld63, st63, an63, ld64, st64, an64, ld65, st65, an65, ld66, st66, an66, ld67, st67, an67, ld68, st68, an68, ld69, st69, an69, ld70, st70, an70, rcct, gict, glct, pict, plct, pzct, prct, grct_0, grct_1, grct_2, grct_3, ldctm, stctm, anctm, ldctr, stctr, anctr, ldctp, stctp, anctp, anctR, rcru, giru, glru, piru, plru, pzru, prru, grru_7, ldcu, stcu, ancu, arct, ar6, rcro, giro, piro, pzro, grro_1, grro_2, grro_3, rcfo, gifo, pifo, pzfo, grfo_0, grfo_1, ldfop, stfop, anfop, ldfoe, stfoe, anfoe, Option.bind_some, if_true, if_false, n_0, n_1, n_2, n_3, n_4, n_5, n_6, n_7, n_8, n_9, n_10, n_12, n_15, n_20, n_24, n_32, n_48, n_57, n_59, n_80, n_97, n_99, n_100, n_122, n_680, n_700, n_999, n_1023, n_1024, iI_neg, iI_add, iI_sub, iI_lt, iI_le, iI_eq, Int.toNat_natCast, show ¬ (10 : Int) ≤ (k : Int) by omega, d8 x hx, show ¬ ((bt 10 (cpl T r x) : Nat) : Int) = 0 by omega, hp x hx, hp k hk, bt10_has hk, bI_0]
  by_cases p1 : pl x = -1
  · refine ⟨I, ?_, Agr.refl _ _, ?_⟩
    · simp only [p1, Option.bind_some, if_true, if_false]
    · simpa [slP, p1] using hS
  · by_cases p2 : pl k = -1
    · refine ⟨I, ?_, Agr.refl _ _, ?_⟩
      · simp only [p1, p2, Option.bind_some, if_true, if_false]
      · simpa [slP, p2] using hS
    · cases p3 : cpl T r x k
      · refine ⟨I, ?_, Agr.refl _ _, ?_⟩
        · simp only [p1, p2, Option.bind_some, if_true, if_false, show ¬ iI 1 = iI 0 by decide]
        · simpa [slP, p3] using hS
      · have hne := (cpl_ng vC vD hr p3).2
        have hhr := hgh_rg (T 2 m.toNat) (T 3 m.toNat) c (pl x) (pl k)
        have q1 := cl_higherOf (J := J) (P := Pst b f) eB vB (mN hm) hc (a := pl x) (o := pl k) (by omega) (by omega)
        have q2 := cl_beside (J := J) (P := Pst b f) eB vB (mN hm) (a := pl x) (o := pl k) (by omega) (by omega)
        have hslt : slt (T 5 r) (hgh (T 2 m.toNat) (T 3 m.toNat) c (pl x) (pl k)) (bes (T 2 m.toNat) (T 3 m.toNat) (pl x) (pl k)) = slP T m c pl r x k := by simp [slP, p1, p2, p3, hh, bb]
        simp (disch := omega) only [p1, p2, Option.bind_some, if_true, if_false, show ¬ iI 1 = iI 0 by decide, Bool.true_eq_false, q1, q2, rc0, gi0, gl0, pi0, pl0, pz0, pr0, gr0_0, gr0_1, gr0_2, gr0_3, gr0_4, gr0_5, gr0_6, gr0_7, gr0_8, rc1, gi1, gl1, pi1, pl1, pz1, pr1, gr1_0, rc3, gi3, gl3, pi3, pl3, pz3, pr3, gr3_0, gr3_10, gr3_11, rc47, gi47, gl47, pi47, pl47, pz47, pr47, gr47_0, gr47_1, gr47_2, gr47_3, gr47_4, gr47_5, gr47_6, rc55, gi55, gl55, pi55, pl55, pz55, pr55, gr55_0, gr55_1, rc58, gi58, gl58, pi58, pl58, pz58, pr58, gr58_0, gr58_1, rc61, gi61, gl61, pi61, pl61, pz61, pr61, gr61_0, gr61_1, gr61_2, gr61_7, rc62, gi62, gl62, pi62, pl62, pz62, pr62, gr62_0, gr62_1, gr62_2, gr62_3, gr62_4, gr62_5, ld2, st2, an2, ld4, st4, an4, ld5, st5, an5, an6, ld48, st48, an48, ld49, st49, an49, ld50, st50, an50, ld51, st51, an51, ld52, st52, an52, ld53, st53, an53, ld54, st54, an54, ld56, st56, an56, ld57, st57, an57, ld59, st59, an59, ld60, st60, an60, ld63, st63, an63, ld64, st64, an64, ld65, st65, an65, ld66, st66, an66, ld67, st67, an67, ld68, st68, an68, ld69, st69, an69, ld70, st70, an70, rcct, gict, glct, pict, plct, pzct, prct, grct_0, grct_1, grct_2, grct_3, ldctm, stctm, anctm, ldctr, stctr, anctr, ldctp, stctp, anctp, anctR, rcru, giru, glru, piru, plru, pzru, prru, grru_7, ldcu, stcu, ancu, arct, ar6, rcro, giro, piro, pzro, grro_1, grro_2, grro_3, rcfo, gifo, pifo, pzfo, grfo_0, grfo_1, ldfop, stfop, anfop, ldfoe, stfoe, anfoe, d1, d4, isSlightI v1 hhr, hslt, bI_0, Int.toNat_natCast, hp x hx, hp k hk]
        cases p4 : slP T m c pl r x k
        · refine ⟨I, ?_, Agr.refl _ _, ?_⟩
          · simp only [Option.bind_some, if_true, if_false]
          · simpa using hS
        · obtain ⟨I1, n1, n2, n3, n4⟩ := cl_note (J := J) (b := b) (f := f) (x := x) (y := k) hS vD hl hn hr hq
          have hd1 : cD T b I1 := eD.agr (n2.sub fun o h => by have := ct_or b; omega) (by omega)
          obtain ⟨I2, z1, z2, z3⟩ := cl_mind (J := J) (f := f) (L := L) (x := x) (y := k) (h := hh T m c pl x k) (fun g hg => (n2 57 (by omega) g).trans (hS.2.2 g hg)) hd1 vC vD hr hx hk hne rfl hhr
          refine ⟨I2, ?_, ?_, ?_⟩
          · have z1' : Slights_mind S0 (some 55) (some (ru b r)) (iI (hgh (T 2 m.toNat) (T 3 m.toNat) c (pl x) (pl k))) (iI (x : Int)) (iI (k : Int)) (I1, J, Pst b f) = some (I2, J, Pst b f) := z1
            simp only [Bool.true_eq_false, Option.bind_some, if_true, if_false, n1, z1']
          · exact (n2.sub fun o h => h.1).trans (z2.sub fun o h => h.2)
          · simp only [if_true]
            have a5 := z2 55 (by omega)
            exact ⟨⟨(a5 2).trans n3.1, (a5 3).trans n3.2.1, (a5 4).trans n3.2.2.1, (a5 5).trans n3.2.2.2⟩, ⟨(a5 6).trans n4.1, (a5 7).trans n4.2.1, (a5 8).trans n4.2.2⟩, z3⟩
theorem plC.agr (h : plC pl I) (ha : Agr (fun o => o = 56) I I') : plC pl I' := fun g hg => (ha _ rfl g).trans (h g hg)
theorem lok_3 (hl : lok T L) (hr : (r : Int) < T 0 4) {p : Nat → Bool} : lok T (L ++ sl3 p r x k) := fun t ht => by
  rcases List.mem_append.mp ht with z | z
  · exact hl t z
  · exact sl3_all (q := fun t => (t.1 : Int) < T 0 4) (fun y _ _ => hr) t z
theorem slP_cpl (h : ∀ y, y < 10 → cpl T r x y = false) (ht : tvC T) (hv : tvD T) (hr : (r : Int) < T 0 4) (y : Nat) : slP T m c pl r x y = false := by
  have h0 := ng_le ht
  by_cases hy : y < 10
  · simp [slP, h y hy]
  · simp [slP, cpl_out ht hv hr (x := x) (y := y) (Or.inr (by omega))]
theorem cl_row (E : EC T b I) (V : TV T) (hp : plC pl I) (hpl : plV T m pl) (hm : isM T m) (hc : 0 ≤ c ∧ c < 20) (hq : rg q) (hr : (r : Int) < T 0 4) (hx : x < 10) (hS : slC T m c pl q L I) (hl : lok T L) (hn : L.length + 10 ≤ 1200) : ∃ I', jloop (Slights_tellRule_L13 S0 (some 55) (some (ru b r)) (iI (r : Int)) (some (ro m.toNat)) (iI c) (iI (x : Int), V0)) jN (iI 0, (I, J, Pst b f)) = some (I', J, Pst b f) ∧ Agr outS I I' ∧ slC T m c pl q (L ++ sl3 (slP T m c pl r x) r x (ng T)) I' := by
  obtain ⟨⟨eA, eB⟩, ⟨eC, eD⟩, eE⟩ := id E
  obtain ⟨⟨vA, vB⟩, ⟨vC, vD⟩, vE, vF⟩ := id V
  have h0 := vC.1
  have hng := ng_le vC
  have hout : sl3 (slP T m c pl r x) r x 10 = sl3 (slP T m c pl r x) r x (ng T) := by
    have := sl3_out (r := r) (x := x) (p := slP T m c pl r x) (ng T) (fun y hy => by simp [slP, cpl_out vC vD hr (x := x) (y := y) (Or.inr hy)]) (10 - ng T)
    rwa [show ng T + (10 - ng T) = 10 by omega] at this
  by_cases hz : bt 10 (cpl T r x) = 0
  · have hcp : ∀ y, y < 10 → cpl T r x y = false := fun y hy => by
      have := bt_bit (cpl T r x) y 10
      rw [hz] at this
      simpa [hy] using this.symm
    refine ⟨I, ?_, Agr.refl _ _, ?_⟩
    · obtain ⟨d1, d2, d3, d4, d5, d6, d7, d8⟩ := eD r hr
      refine jl_e (n := 4999) ?_
      simp (disch := omega) only [Slights_tellRule_L13, rc0, gi0, gl0, pi0, pl0, pz0, pr0, gr0_0, gr0_1, gr0_2, gr0_3, gr0_4, gr0_5, gr0_6, gr0_7, gr0_8, rc1, gi1, gl1, pi1, pl1, pz1, pr1, gr1_0, rc3, gi3, gl3, pi3, pl3, pz3, pr3, gr3_0, gr3_10, gr3_11, rc47, gi47, gl47, pi47, pl47, pz47, pr47, gr47_0, gr47_1, gr47_2, gr47_3, gr47_4, gr47_5, gr47_6, rc55, gi55, gl55, pi55, pl55, pz55, pr55, gr55_0, gr55_1, rc58, gi58, gl58, pi58, pl58, pz58, pr58, gr58_0, gr58_1, rc61, gi61, gl61, pi61, pl61, pz61, pr61, gr61_0, gr61_1, gr61_2, gr61_7, rc62, gi62, gl62, pi62, pl62, pz62, pr62, gr62_0, gr62_1, gr62_2, gr62_3, gr62_4, gr62_5, ld2, st2, an2, ld4, st4, an4, ld5, st5, an5, an6, ld48, st48, an48, ld49, st49, an49, ld50, st50, an50, ld51, st51, an51, ld52, st52, an52, ld53, st53, an53, ld54, st54, an54, ld56, st56, an56, ld57, st57, an57, ld59, st59, an59, ld60, st60, an60, ld63, st63, an63, ld64, st64, an64, ld65, st65, an65, ld66, st66, an66, ld67, st67, an67, ld68, st68, an68, ld69, st69, an69, ld70, st70, an70, rcct, gict, glct, pict, plct, pzct, prct, grct_0, grct_1, grct_2, grct_3, ldctm, stctm, anctm, ldctr, stctr, anctr, ldctp, stctp, anctp, anctR, rcru, giru, glru, piru, plru, pzru, prru, grru_7, ldcu, stcu, ancu, arct, ar6, rcro, giro, piro, pzro, grro_1, grro_2, grro_3, rcfo, gifo, pifo, pzfo, grfo_0, grfo_1, ldfop, stfop, anfop, ldfoe, stfoe, anfoe, Option.bind_some, if_true, if_false, n_0, n_1, n_2, n_3, n_4, n_5, n_6, n_7, n_8, n_9, n_10, n_12, n_15, n_20, n_24, n_32, n_48, n_57, n_59, n_80, n_97, n_99, n_100, n_122, n_680, n_700, n_999, n_1023, n_1024, iI_neg, iI_add, iI_sub, iI_lt, iI_le, iI_eq, show ¬ (10 : Int) ≤ 0 by omega, Int.toNat_natCast, d8 x hx, hz, Int.natCast_zero]
    · rw [sl3_no fun y _ => slP_cpl hcp vC vD hr y]
      simpa using hS
  · rw [← hout]
    have key := jheap (J := J) (P := Pst b f) (I := I) (body := Slights_tellRule_L13 S0 (some 55) (some (ru b r)) (iI (r : Int)) (some (ro m.toNat)) (iI c) (iI (x : Int), V0)) (fun k I' => Agr outS I I' ∧ slC T m c pl q (L ++ sl3 (slP T m c pl r x) r x k) I') 0 10 ⟨Agr.refl _ _, by simpa [sl3] using hS⟩ (by omega) (by omega) (fun k I1 _ hk h1 => ?_) (fun I1 h1 => ?_)
    · exact key
    · have hlen := sl3_len (slP T m c pl r x) (r := r) (x := x) k
      obtain ⟨I2, e1, e2, e3⟩ := cl_pair (V0 := V0) (J := J) (f := f) (I := I1) (E.agr V (h1.1.sub fun o h => by omega)) V (hp.agr (h1.1.sub fun o h => by omega)) hpl hm hc hq hr hx hk hz h1.2 (lok_3 hl hr) (by rw [List.length_append]; omega)
      refine ⟨I2, e1, h1.1.trans e2, ?_⟩
      rw [List.append_assoc] at e3
      exact e3
    · simp (disch := omega) only [Slights_tellRule_L13, rc0, gi0, gl0, pi0, pl0, pz0, pr0, gr0_0, gr0_1, gr0_2, gr0_3, gr0_4, gr0_5, gr0_6, gr0_7, gr0_8, rc1, gi1, gl1, pi1, pl1, pz1, pr1, gr1_0, rc3, gi3, gl3, pi3, pl3, pz3, pr3, gr3_0, gr3_10, gr3_11, rc47, gi47, gl47, pi47, pl47, pz47, pr47, gr47_0, gr47_1, gr47_2, gr47_3, gr47_4, gr47_5, gr47_6, rc55, gi55, gl55, pi55, pl55, pz55, pr55, gr55_0, gr55_1, rc58, gi58, gl58, pi58, pl58, pz58, pr58, gr58_0, gr58_1, rc61, gi61, gl61, pi61, pl61, pz61, pr61, gr61_0, gr61_1, gr61_2, gr61_7, rc62, gi62, gl62, pi62, pl62, pz62, pr62, gr62_0, gr62_1, gr62_2, gr62_3, gr62_4, gr62_5, ld2, st2, an2, ld4, st4, an4, ld5, st5, an5, an6, ld48, st48, an48, ld49, st49, an49, ld50, st50, an50, ld51, st51, an51, ld52, st52, an52, ld53, st53, an53, ld54, st54, an54, ld56, st56, an56, ld57, st57, an57, ld59, st59, an59, ld60, st60, an60, ld63, st63, an63, ld64, st64, an64, ld65, st65, an65, ld66, st66, an66, ld67, st67, an67, ld68, st68, an68, ld69, st69, an69, ld70, st70, an70, rcct, gict, glct, pict, plct, pzct, prct, grct_0, grct_1, grct_2, grct_3, ldctm, stctm, anctm, ldctr, stctr, anctr, ldctp, stctp, anctp, anctR, rcru, giru, glru, piru, plru, pzru, prru, grru_7, ldcu, stcu, ancu, arct, ar6, rcro, giro, piro, pzro, grro_1, grro_2, grro_3, rcfo, gifo, pifo, pzfo, grfo_0, grfo_1, ldfop, stfop, anfop, ldfoe, stfoe, anfoe, Option.bind_some, if_true, if_false, n_0, n_1, n_2, n_3, n_4, n_5, n_6, n_7, n_8, n_9, n_10, n_12, n_15, n_20, n_24, n_32, n_48, n_57, n_59, n_80, n_97, n_99, n_100, n_122, n_680, n_700, n_999, n_1023, n_1024, iI_neg, iI_add, iI_sub, iI_lt, iI_le, iI_eq, show (10 : Int) ≤ ((10 : Nat) : Int) by omega]
end
