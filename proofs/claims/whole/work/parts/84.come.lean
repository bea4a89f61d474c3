/-! ===== layer 2: seatings: what is to come; lay ===== -/
section
variable {T : Tb} {I I' I'' : Nat → Nat → Int32} {J : Nat → Nat → Int64} {b : Bool} {f k n i j x y p q r a c K d o e : Nat} {P : Nat → Nat → Option Nat} {m s : Int} {V0 V1 : hV}
abbrev wW (T : Tb) (m : Int) : Nat → Nat → Nat → Int := cW T m (nr T)
abbrev wH (T : Tb) (m : Int) : Nat → Nat → Nat → Int := cH T m (nr T)
def lW (T : Tb) (m : Int) (n i j : Nat) : Int := mx0 (lso (wth T m n) (wW T m i j) 8)
def lH (T : Tb) (m : Int) (n i j : Nat) : Int := mx0 (lso (wth T m n) (wH T m i j) 8)
def sLw (T : Tb) (m : Int) (n o : Nat) : Nat → Int
  | 0 => 0
  | k + 1 => sLw T m n o k + lW T m n k o
def hL (T : Tb) (m : Int) (n o : Nat) (s : Int) : Nat → Int
  | 0 => s
  | k + 1 => if hL T m n o s k < lH T m n k o then lH T m n k o else hL T m n o s k
def tcw (T : Tb) (m : Int) (n : Nat) : Nat → Int
  | 0 => 0
  | d + 1 => tcw T m n d + sLw T m n (nK T - (d + 1)) (nK T - (d + 1))
def tch (T : Tb) (m : Int) (n : Nat) : Nat → Int
  | 0 => 0
  | d + 1 => hL T m n (nK T - (d + 1)) (tch T m n d) (nK T - (d + 1))
theorem wW_rg (ht : tvC T) (hv : tvD T) (i j w : Nat) : 0 ≤ wW T m i j w ∧ wW T m i j w ≤ 1000 := by
  have h0 := ht.1
  have h1 := nrI ht
  have := cW_rg (m := m) ht hv (nr T) (by omega) i j w
  show 0 ≤ cW T m (nr T) i j w ∧ cW T m (nr T) i j w ≤ 1000
  omega
theorem wH_rg (ht : tvC T) (hv : tvD T) (i j w : Nat) : 0 ≤ wH T m i j w ∧ wH T m i j w ≤ 9 := by
  have h1 := nrI ht
  exact cH_rg ht hv (nr T) (by omega) i j w
theorem lH_rg (ht : tvC T) (hv : tvD T) (i j : Nat) : 0 ≤ lH T m n i j ∧ lH T m n i j ≤ 1000 := by
  have := lso_rg (S := wth T m n) (v := wH T m i j) (fun w => by have := wH_rg (m := m) ht hv i j w; omega) 8
  unfold lH mx0
  split <;> omega
theorem hL_rg (ht : tvC T) (hv : tvD T) (hs : 0 ≤ s ∧ s ≤ 1000) : ∀ k, 0 ≤ hL T m n o s k ∧ hL T m n o s k ≤ 1000
  | 0 => hs
  | k + 1 => by
    have h1 := hL_rg ht hv hs k
    have h2 := lH_rg (m := m) (n := n) ht hv k o
    show 0 ≤ (if hL T m n o s k < lH T m n k o then lH T m n k o else hL T m n o s k) ∧ (if hL T m n o s k < lH T m n k o then lH T m n k o else hL T m n o s k) ≤ 1000
    split <;> omega
theorem tch_rg (ht : tvC T) (hv : tvD T) : ∀ d, 0 ≤ tch T m n d ∧ tch T m n d ≤ 1000
  | 0 => by simp [tch]
  | d + 1 => hL_rg ht hv (tch_rg ht hv d) _
/-- what the class keeps of the pairs -/
def toC (T : Tb) (m : Int) (n : Nat) (I : Nat → Nat → Int32) : Prop := ∀ i, i ≤ nK T → I 67 i = iI (tcw T m n (nK T - i)) ∧ I 68 i = iI (tch T m n (nK T - i))
def prS (T : Tb) (m : Int) (n : Nat) (I : Nat → Nat → Int32) : Prop := (tuC T I ∧ plS T m n I) ∧ tab (nK T) (wW T m) (wH T m) I ∧ toC T m n I
theorem cl_come1 (ht : tvC T) (hv : tvD T) (hK : nK T ≤ 7) (ho : o < nK T) (h8 : I 62 8 = iI (bt 8 (wth T m n) : Int)) (h : tab (nK T) (wW T m) (wH T m) I) (hd : d < 10) : jloop (Pairs_layToCome_L48 S0 (some 62) (iI (o : Int), (I, J, Pst b f))) jN (iI (tcw T m n d), iI (tch T m n d), iI 0) = some (iI (tcw T m n d + sLw T m n o o), iI (hL T m n o (tch T m n d) o)) := by
  have h1 := tch_rg (m := m) (n := n) ht hv d
  refine jfun (fun k => (iI (tcw T m n d + sLw T m n o k), iI (hL T m n o (tch T m n d) k), iI (k : Int))) o ?_ (fun k hk => ?_) ?_ (by omega)
  · show _ = (iI (tcw T m n d + 0), _, _)
    rw [Int.add_zero]; rfl
  · have hp : Pairs_pairOf (iI (k : Int)) (iI (o : Int)) = iI (((7 * k + o) * 8 : Nat) : Int) := by
      unfold Pairs_pairOf
      rw [n_7, n_8, iI_mul, iI_add, iI_mul]
      congr 1
      omega
    have a1 := cl_least (J := J) (b := b) (f := f) (ob := 65) (x := (7 * k + o) * 8) (v := wW T m k o) (fun I a ha => ld65 (by omega)) h8 (by omega) (fun w hw => (h k o w hk ho hw).1) (wW_rg ht hv k o)
    have a2 := cl_least (J := J) (b := b) (f := f) (ob := 66) (x := (7 * k + o) * 8) (v := wH T m k o) (fun I a ha => ld66 (by omega)) h8 (by omega) (fun w hw => (h k o w hk ho hw).2) (fun w => by have := wH_rg (m := m) ht hv k o w; omega)
    have h2 := hL_rg (m := m) (n := n) (o := o) ht hv h1 k
    have h3 := lH_rg (m := m) (n := n) ht hv k o
    have a2' : Pairs_leastOf S0 (some 62) (some 66) (iI (((7 * k + o) * 8 : Nat) : Int)) (I, J, Pst b f) = some (iI (lH T m n k o)) := a2
    have hmx : Jd_max (iI (hL T m n o (tch T m n d) k)) (iI (lH T m n k o)) = iI (hL T m n o (tch T m n d) (k + 1)) := by rw [maxI (by omega)]; rfl
    simp (maxSteps := 4000000) (disch := omega) only [Pairs_layToCome_L48, rc0, gi0, gl0, pi0, pl0, pz0, pr0, gr0_0, gr0_1, gr0_2, gr0_3, gr0_4, gr0_5, gr0_6, gr0_7, gr0_8, rc1, gi1, gl1, pi1, pl1, pz1, pr1, gr1_0, rc3, gi3, gl3, pi3, pl3, pz3, pr3, gr3_0, gr3_10, gr3_11, rc47, gi47, gl47, pi47, pl47, pz47, pr47, gr47_0, gr47_1, gr47_2, gr47_3, gr47_4, gr47_5, gr47_6, rc55, gi55, gl55, pi55, pl55, pz55, pr55, gr55_0, gr55_1, rc58, gi58, gl58, pi58, pl58, pz58, pr58, gr58_0, gr58_1, rc61, gi61, gl61, pi61, pl61, pz61, pr61, gr61_0, gr61_1, gr61_2, gr61_7, rc62, gi62, gl62, pi62, pl62, pz62, pr62, gr62_0, gr62_1, gr62_2, gr62_3, gr62_4, gr62_5, ld2, st2, an2, ld4, st4, an4, ld5, st5, an5, an6, ld48, st48, an48, ld49, st49, an49, ld50, st50, an50, ld51, st51, an51, ld52, st52, an52, ld53, st53, an53, ld54, st54, an54, ld56, st56, an56, ld57, st57, an57, ld59, st59, an59, ld60, st60, an60, ld63, st63, an63, ld64, st64, an64, ld65, st65, an65, ld66, st66, an66, ld67, st67, an67, ld68, st68, an68, ld69, st69, an69, ld70, st70, an70, rcct, gict, glct, pict, plct, pzct, prct, grct_0, grct_1, grct_2, grct_3, ldctm, stctm, anctm, ldctr, stctr, anctr, ldctp, stctp, anctp, anctR, rcru, giru, glru, piru, plru, pzru, prru, grru_7, ldcu, stcu, ancu, arct, ar6, rcro, giro, piro, pzro, grro_1, grro_2, grro_3, rcfo, gifo, pifo, pzfo, grfo_0, grfo_1, ldfop, stfop, anfop, ldfoe, stfoe, anfoe, Option.bind_some, if_true, if_false, n_1, iI_add, iI_lt, iI_le, iI_eq, show ¬ (o : Int) ≤ (k : Int) by omega, hp, a1, a2', hmx]
    show _ = some (Sum.inl (iI (tcw T m n d + (sLw T m n o k + lW T m n k o)), _, _))
    rw [← Int.add_assoc]
    rfl
  · simp (maxSteps := 4000000) (disch := omega) only [Pairs_layToCome_L48, Option.bind_some, if_true, if_false, iI_lt, iI_le, iI_eq, show (o : Int) ≤ (o : Int) by omega]
theorem cl_come (ht : tvC T) (hv : tvD T) (hK : nK T ≤ 7) (hu : tuC T I) (hp : plS T m n I) (h : tab (nK T) (wW T m) (wH T m) I) : ∃ I', Pairs_layToCome S0 (some 62) (I, J, Pst b f) = some (I', J, Pst b f) ∧ Agr (fun o => o ≠ 67 ∧ o ≠ 68) I I' ∧ toC T m n I' := by
  obtain ⟨I1, f1, f2, f3⟩ := fillI (J := J) (P := Pst b f) (I := I) (N := 8) (ob := 67) (vl := iI 0) (by omega) an67 (fun a I ha => st67 (by omega))
  obtain ⟨I2, g1, g2, g3⟩ := fillI (J := J) (P := Pst b f) (I := I1) (N := 8) (ob := 68) (vl := iI 0) (by omega) an68 (fun a I ha => st68 (by omega))
  have a2 : Agr (fun o => o ≠ 67 ∧ o ≠ 68) I I2 := (f2.sub fun o h => h.1).trans (g2.sub fun o h => h.2)
  have key := jinv (body := Pairs_layToCome_L23 S0 (some 62)) (s0 := (iI ((nK T : Int) - 1), (I2, J, Pst b f))) (fun d s => ∃ I', s = (iI ((nK T : Int) - 1 - (d : Int)), (I', J, Pst b f)) ∧ Agr (fun o => o ≠ 67 ∧ o ≠ 68) I I' ∧ ∀ e, e ≤ d → I' 67 (nK T - e) = iI (tcw T m n e) ∧ I' 68 (nK T - e) = iI (tch T m n e)) (fun r => ∃ I', r = (I', J, Pst b f) ∧ Agr (fun o => o ≠ 67 ∧ o ≠ 68) I I' ∧ ∀ e, e ≤ nK T → I' 67 (nK T - e) = iI (tcw T m n e) ∧ I' 68 (nK T - e) = iI (tch T m n e)) (nK T) ⟨I2, by simp, a2, fun e he => ?_⟩ (fun d s hd hs => ?_) (fun s hs => ?_) (by omega)
  · obtain ⟨r, h1, I3, h2, h3, h4⟩ := key
    refine ⟨I3, ?_, h3, fun i hi => ?_⟩
    · have u6 : I2 62 6 = iI (nK T : Int) := (a2 62 (by omega) 6).trans hu.1
      unfold Pairs_layToCome
      rw [rc62, Option.bind_some, gr62_4, Option.bind_some, n_0, f1, Option.bind_some, gr62_5, Option.bind_some, g1, Option.bind_some, gi62, Option.bind_some, u6, n_1, iI_sub, h1, h2, Option.bind_some]
    · have := h4 (nK T - i) (by omega)
      rwa [show nK T - (nK T - i) = i by omega] at this
  · have : e = 0 := by omega
    subst this
    exact ⟨(g2 67 (by omega) _).trans (f3 _ (by omega)), g3 _ (by omega)⟩
  · obtain ⟨I3, rfl, h3, h4⟩ := hs
    have h8 : I3 62 8 = iI (bt 8 (wth T m n) : Int) := (h3 62 (by omega) 8).trans hp.2.1
    have ht3 : tab (nK T) (wW T m) (wH T m) I3 := fun i j w a1 a2 a3 => ⟨(h3 65 (by omega) _).trans (h i j w a1 a2 a3).1, (h3 66 (by omega) _).trans (h i j w a1 a2 a3).2⟩
    have hl := cl_come1 (J := J) (b := b) (f := f) (o := nK T - 1 - d) (d := d) ht hv hK (by omega) h8 ht3 (by omega)
    have hcur := h4 d (Nat.le_refl _)
    have eo : (nK T : Int) - 1 - (d : Int) = ((nK T - 1 - d : Nat) : Int) := by omega
    have eo1 : nK T - (d + 1) = nK T - 1 - d := by omega
    refine ⟨.inl (iI ((nK T : Int) - 1 - ((d + 1 : Nat) : Int)), (hup (hup I3 67 (nK T - 1 - d) (iI (tcw T m n (d + 1)))) 68 (nK T - 1 - d) (iI (tch T m n (d + 1))), J, Pst b f)), ?_, _, rfl, (h3.hup (by omega)).hup (by omega), fun e he => ?_⟩
    · have e1 : tcw T m n (d + 1) = tcw T m n d + sLw T m n (nK T - 1 - d) (nK T - 1 - d) := by show tcw T m n d + sLw T m n (nK T - (d + 1)) (nK T - (d + 1)) = _; rw [eo1]
      have e2 : tch T m n (d + 1) = hL T m n (nK T - 1 - d) (tch T m n d) (nK T - 1 - d) := by show hL T m n (nK T - (d + 1)) (tch T m n d) (nK T - (d + 1)) = _; rw [eo1]
      rw [e1, e2, eo]
      have ei : (((nK T - 1 - d : Nat) : Int) + 1).toNat = nK T - d := by omega
      simp (maxSteps := 4000000) (disch := omega) only [Pairs_layToCome_L23, rc0, gi0, gl0, pi0, pl0, pz0, pr0, gr0_0, gr0_1, gr0_2, gr0_3, gr0_4, gr0_5, gr0_6, gr0_7, gr0_8, rc1, gi1, gl1, pi1, pl1, pz1, pr1, gr1_0, rc3, gi3, gl3, pi3, pl3, pz3, pr3, gr3_0, gr3_10, gr3_11, rc47, gi47, gl47, pi47, pl47, pz47, pr47, gr47_0, gr47_1, gr47_2, gr47_3, gr47_4, gr47_5, gr47_6, rc55, gi55, gl55, pi55, pl55, pz55, pr55, gr55_0, gr55_1, rc58, gi58, gl58, pi58, pl58, pz58, pr58, gr58_0, gr58_1, rc61, gi61, gl61, pi61, pl61, pz61, pr61, gr61_0, gr61_1, gr61_2, gr61_7, rc62, gi62, gl62, pi62, pl62, pz62, pr62, gr62_0, gr62_1, gr62_2, gr62_3, gr62_4, gr62_5, ld2, st2, an2, ld4, st4, an4, ld5, st5, an5, an6, ld48, st48, an48, ld49, st49, an49, ld50, st50, an50, ld51, st51, an51, ld52, st52, an52, ld53, st53, an53, ld54, st54, an54, ld56, st56, an56, ld57, st57, an57, ld59, st59, an59, ld60, st60, an60, ld63, st63, an63, ld64, st64, an64, ld65, st65, an65, ld66, st66, an66, ld67, st67, an67, ld68, st68, an68, ld69, st69, an69, ld70, st70, an70, rcct, gict, glct, pict, plct, pzct, prct, grct_0, grct_1, grct_2, grct_3, ldctm, stctm, anctm, ldctr, stctr, anctr, ldctp, stctp, anctp, anctR, rcru, giru, glru, piru, plru, pzru, prru, grru_7, ldcu, stcu, ancu, arct, ar6, rcro, giro, piro, pzro, grro_1, grro_2, grro_3, rcfo, gifo, pifo, pzfo, grfo_0, grfo_1, ldfop, stfop, anfop, ldfoe, stfoe, anfoe, Option.bind_some, if_true, if_false, n_0, n_1, iI_neg, iI_add, iI_lt, iI_le, iI_eq, show ¬ ((nK T - 1 - d : Nat) : Int) < 0 by omega, ei, hcur.1, hcur.2, hl, Int.toNat_natCast, show ((nK T - 1 - d : Nat) : Int) + -1 = (nK T : Int) - 1 - ((d + 1 : Nat) : Int) by omega]
    · by_cases z : e = d + 1
      · subst z
        rw [show nK T - (d + 1) = nK T - 1 - d by omega, hup_obj _ _ _ (by omega), hup_same, hup_same]
        exact ⟨rfl, rfl⟩
      · rw [hup_obj _ _ _ (by omega), hup_ix _ _ _ (by omega), hup_ix _ _ _ (by omega), hup_obj _ _ _ (by omega)]
        exact h4 e (by omega)
  · obtain ⟨I3, rfl, h3, h4⟩ := hs
    refine ⟨.inr (I3, J, Pst b f), ?_, I3, rfl, h3, h4⟩
    simp (maxSteps := 4000000) (disch := omega) only [Pairs_layToCome_L23, Option.bind_some, if_true, if_false, n_0, iI_lt, iI_le, iI_eq, show (nK T : Int) - 1 - (nK T : Int) < 0 by omega]
abbrev oL (o : Nat) : Prop := o < 62 ∨ 68 < o
theorem cl_lay (E : EC T b I) (V : TV T) (hm : isM T m) (hn : (n : Int) = T 3 m.toNat) (h8 : n ≤ 8) (hK : nK T ≤ 7) : ∃ I', Pairs_lay S0 (some 62) (some (ct b)) (some (ro m.toNat)) (I, J, Pst b f) = some (I', J, Pst b f) ∧ Agr oL I I' ∧ prS T m n I' := by
  obtain ⟨⟨vA, vB⟩, ⟨vC, vD⟩, vE, vF⟩ := id V
  obtain ⟨I1, a1, a2, a3⟩ := cl_turns (J := J) (f := f) E V hK
  have E1 := E.agr V (a2.sub fun o h => by omega)
  obtain ⟨I2, b1, b2, b3, b4⟩ := cl_ways (J := J) (f := f) E1 V hm hn h8 a3
  obtain ⟨I3, f1, f2, f3⟩ := fillI (J := J) (P := Pst b f) (I := I2) (N := 392) (ob := 65) (vl := iI 0) (by omega) an65 (fun a I ha => st65 (by omega))
  obtain ⟨I4, g1, g2, g3⟩ := fillI (J := J) (P := Pst b f) (I := I3) (N := 392) (ob := 66) (vl := iI 0) (by omega) an66 (fun a I ha => st66 (by omega))
  have ag4 : Agr (fun o => o ≠ 65 ∧ o ≠ 66) I2 I4 := (f2.sub fun o h => h.1).trans (g2.sub fun o h => h.2)
  have tot4 : Agr oL I I4 := ((a2.sub fun o h => by omega).trans (b2.sub fun o h => by omega)).trans (ag4.sub fun o h => by omega)
  have E4 := E.agr V (tot4.sub fun o h => by omega)
  have u4 : tuC T I4 := ⟨(ag4 62 (by omega) 6).trans b4.1, fun i hi => (ag4 63 (by omega) i).trans (b4.2 i hi)⟩
  have t4 : tab (nK T) (cW T m 0) (cH T m 0) I4 := fun i j w h1 h2 h3 => ⟨(g2 65 (by omega) _).trans (f3 _ (by omega)), g3 _ (by omega)⟩
  obtain ⟨I5, c1, c2, c3⟩ := cl_layRules (J := J) (f := f) (I := I4) E4 V hm hK u4 t4
  have u5 : tuC T I5 := ⟨(c2 62 (by omega) 6).trans u4.1, fun i hi => (c2 63 (by omega) i).trans (u4.2 i hi)⟩
  have p5 : plS T m n I5 := ⟨((c2 62 (by omega) 7).trans (ag4 62 (by omega) 7)).trans b3.1, ((c2 62 (by omega) 8).trans (ag4 62 (by omega) 8)).trans b3.2.1, fun p q hp hq => ((c2 64 (by omega) _).trans (ag4 64 (by omega) _)).trans (b3.2.2 p q hp hq)⟩
  obtain ⟨I6, d1, d2, d3⟩ := cl_come (J := J) (b := b) (f := f) (I := I5) vC vD hK u5 p5 c3
  refine ⟨I6, ?_, (tot4.trans (c2.sub fun o h => by omega)).trans (d2.sub fun o h => by omega), ⟨⟨(d2 62 (by omega) 6).trans u5.1, fun i hi => (d2 63 (by omega) i).trans (u5.2 i hi)⟩, (d2 62 (by omega) 7).trans p5.1, (d2 62 (by omega) 8).trans p5.2.1, fun p q hp hq => (d2 64 (by omega) _).trans (p5.2.2 p q hp hq)⟩, fun i j w h1 h2 h3 => ⟨(d2 65 (by omega) _).trans (c3 i j w h1 h2 h3).1, (d2 66 (by omega) _).trans (c3 i j w h1 h2 h3).2⟩, d3⟩
  unfold Pairs_lay
  rw [rc62, Option.bind_some, n_0, pi62, Option.bind_some, a1, Option.bind_some, b1, Option.bind_some, gr62_2, Option.bind_some, f1, Option.bind_some, gr62_3, Option.bind_some, g1, Option.bind_some, c1, Option.bind_some, d1, Option.bind_some]
end
