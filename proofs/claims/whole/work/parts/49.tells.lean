/-! ===== layer 2: slights, class's tellAll and seatByHand ===== -/
section
variable {T : Tb} {I I' : Nat → Nat → Int32} {J : Nat → Nat → Int64} {b v : Bool} {f k : Nat} {P : Nat → Nat → Option Nat} {a g w c1 c2 c s p m n q o : Int} {r x y : Nat} {pl : Nat → Int} {L : List S3} {V0 : hV}
theorem sl2_all {p : Nat → Nat → Bool} {q : S3 → Prop} {N : Nat} : ∀ {k : Nat}, (∀ x y, p x y = true → q (r, x, y)) → ∀ t ∈ sl2 p r N k, q t
  | 0, _, t, ht => by cases ht
  | k + 1, h, t, ht => by
    unfold sl2 at ht
    rcases List.mem_append.mp ht with z | z
    · exact sl2_all (k := k) h t z
    · exact sl3_all (fun y _ e => h k y e) t z
theorem sl1_all {p : Nat → Nat → Nat → Bool} {q : S3 → Prop} {N : Nat} : ∀ {k : Nat}, (∀ r x y, r < k → p r x y = true → q (r, x, y)) → ∀ t ∈ sl1 p N k, q t
  | 0, _, t, ht => by cases ht
  | k + 1, h, t, ht => by
    unfold sl1 at ht
    rcases List.mem_append.mp ht with z | z
    · exact sl1_all (k := k) (fun r x y hr => h r x y (by omega)) t z
    · exact sl2_all (fun x y e => h k x y (by omega) e) t z
theorem lok_2 (hl : lok T L) (hr : (r : Int) < T 0 4) {p : Nat → Nat → Bool} {N : Nat} : lok T (L ++ sl2 p r N k) := fun t ht => by
  rcases List.mem_append.mp ht with z | z
  · exact hl t z
  · exact sl2_all (q := fun t => (t.1 : Int) < T 0 4) (fun x y _ => hr) t z
theorem lok_1 (hk : (k : Int) ≤ T 0 4) {p : Nat → Nat → Nat → Bool} {N : Nat} : lok T (sl1 p N k) := sl1_all (q := fun t => (t.1 : Int) < T 0 4) (fun r x y hr _ => by show (r : Int) < T 0 4; omega)
theorem cl_tellRule (E : EC T b I) (V : TV T) (hp : plC pl I) (hpl : plV T m pl) (hm : isM T m) (hc : 0 ≤ c ∧ c < 20) (hq : rg q) (hr : (r : Int) < T 0 4) (hS : slC T m c pl q L I) (hl : lok T L) (hn : L.length + 100 ≤ 1200) : ∃ I', Slights_tellRule S0 (some 55) (some (ru b r)) (iI (r : Int)) (some (ro m.toNat)) (iI c) (I, J, Pst b f) = some (I', J, Pst b f) ∧ Agr outS I I' ∧ slC T m c pl q (L ++ sl2 (slP T m c pl r) r (ng T) (ng T)) I' := by
  obtain ⟨⟨vA, vB⟩, ⟨vC, vD⟩, vE, vF⟩ := id V
  have h0 := vC.1
  have hng := ng_le vC
  have hout : sl2 (slP T m c pl r) r (ng T) 10 = sl2 (slP T m c pl r) r (ng T) (ng T) := by
    have := sl2_out (r := r) (p := slP T m c pl r) (ng T) (ng T) (fun x y hx => by simp [slP, cpl_out vC vD hr (x := x) (y := y) (Or.inl hx)]) (10 - ng T)
    rwa [show ng T + (10 - ng T) = 10 by omega] at this
  rw [← hout]
  have key := jheap (J := J) (P := Pst b f) (I := I) (body := Slights_tellRule_L3 S0 (some 55) (some (ru b r)) (iI (r : Int)) (some (ro m.toNat)) (iI c)) (fun k I' => Agr outS I I' ∧ slC T m c pl q (L ++ sl2 (slP T m c pl r) r (ng T) k) I') 0 10 ⟨Agr.refl _ _, by simpa [sl2] using hS⟩ (by omega) (by omega) (fun k I1 _ hk h1 => ?_) (fun I1 h1 => ?_)
  · obtain ⟨I2, e1, e2⟩ := key
    have e1' : jloop (Slights_tellRule_L3 S0 (some 55) (some (ru b r)) (iI (r : Int)) (some (ro m.toNat)) (iI c)) jN (iI 0, (I, J, Pst b f)) = some (I2, J, Pst b f) := e1
    refine ⟨I2, ?_, e2⟩
    simp only [Slights_tellRule, rc0, gi0, gl0, pi0, pl0, pz0, pr0, gr0_0, gr0_1, gr0_2, gr0_3, gr0_4, gr0_5, gr0_6, gr0_7, gr0_8, rc1, gi1, gl1, pi1, pl1, pz1, pr1, gr1_0, rc3, gi3, gl3, pi3, pl3, pz3, pr3, gr3_0, gr3_10, gr3_11, rc47, gi47, gl47, pi47, pl47, pz47, pr47, gr47_0, gr47_1, gr47_2, gr47_3, gr47_4, gr47_5, gr47_6, rc55, gi55, gl55, pi55, pl55, pz55, pr55, gr55_0, gr55_1, rc58, gi58, gl58, pi58, pl58, pz58, pr58, gr58_0, gr58_1, rc61, gi61, gl61, pi61, pl61, pz61, pr61, gr61_0, gr61_1, gr61_2, gr61_7, rc62, gi62, gl62, pi62, pl62, pz62, pr62, gr62_0, gr62_1, gr62_2, gr62_3, gr62_4, gr62_5, ld2, st2, an2, ld4, st4, an4, ld5, st5, an5, an6, ld48, st48, an48, ld49, st49, an49, ld50, st50, an50, ld51, st51, an51, ld52, st52, an52, ld53, st53, an53, ld54, st54, an54, ld56, st56, an56, ld57, st57, an57, ld59, st59, an59, ld60, st60, an60, ld63, st63, an63, ld64, st64, an64, ld65, st65, an65, ld66, st66, an66, ld67, st67, an67, ld68, st68, an68, ld69, st69, an69, ld70, st70, an70, rcct, gict, glct, pict, plct, pzct, prct, grct_0, grct_1, grct_2, grct_3, ldctm, stctm, anctm, ldctr, stctr, anctr, ldctp, stctp, anctp, anctR, rcru, giru, glru, piru, plru, pzru, prru, grru_7, ldcu, stcu, ancu, arct, ar6, rcro, giro, piro, pzro, grro_1, grro_2, grro_3, rcfo, gifo, pifo, pzfo, grfo_0, grfo_1, ldfop, stfop, anfop, ldfoe, stfoe, anfoe, Option.bind_some, if_true, if_false, n_0, e1']
  · have hlen := sl2_len (slP T m c pl r) (r := r) hng k
    obtain ⟨I2, e1, e2, e3⟩ := cl_row (V0 := (I1, J, Pst b f)) (J := J) (f := f) (I := I1) (E.agr V (h1.1.sub fun o h => by omega)) V (hp.agr (h1.1.sub fun o h => by omega)) hpl hm hc hq hr hk h1.2 (lok_2 hl hr) (by rw [List.length_append]; omega)
    refine ⟨I2, ?_, h1.1.trans e2, ?_⟩
    · simp (disch := omega) only [Slights_tellRule_L3, Option.bind_some, if_true, if_false, n_0, n_1, n_2, n_3, n_4, n_5, n_6, n_7, n_8, n_9, n_10, n_12, n_15, n_20, n_24, n_32, n_48, n_57, n_59, n_80, n_97, n_99, n_100, n_122, n_680, n_700, n_999, n_1023, n_1024, iI_neg, iI_add, iI_sub, iI_lt, iI_le, iI_eq, show ¬ (10 : Int) ≤ (k : Int) by omega, e1]
    · rw [List.append_assoc] at e3
      exact e3
  · simp (disch := omega) only [Slights_tellRule_L3, Option.bind_some, if_true, if_false, n_0, n_1, n_2, n_3, n_4, n_5, n_6, n_7, n_8, n_9, n_10, n_12, n_15, n_20, n_24, n_32, n_48, n_57, n_59, n_80, n_97, n_99, n_100, n_122, n_680, n_700, n_999, n_1023, n_1024, iI_neg, iI_add, iI_sub, iI_lt, iI_le, iI_eq, show (10 : Int) ≤ ((10 : Nat) : Int) by omega]
/-- filling an array -/
theorem fillI {N ob : Nat} {vl : Int32} (hN : N < 5000) (h1 : aN S0 (some ob) = some (iI (N : Int))) (h2 : ∀ (a : Int) (I : Nat → Nat → Int32), 0 ≤ a ∧ a < N → sI S0 (I, J, P) (some ob) (iI a) vl = some (hup I ob a.toNat vl, J, P)) : ∃ I', Jd_fill S0 (some ob) vl (I, J, P) = some (I', J, P) ∧ Agr (fun o => o ≠ ob) I I' ∧ ∀ k, k < N → I' ob k = vl := by
  have key := jheap (J := J) (P := P) (I := I) (body := Jd_fill_L5 S0 (some ob) vl (iI (N : Int))) (fun k I' => Agr (fun o => o ≠ ob) I I' ∧ ∀ j, j < k → I' ob j = vl) 0 N ⟨Agr.refl _ _, fun j hj => by omega⟩ (by omega) hN (fun k I1 _ hk q1 => ?_) (fun I1 q1 => ?_)
  · obtain ⟨I2, e1, e2⟩ := key
    refine ⟨I2, ?_, e2⟩
    have e1' : jloop (Jd_fill_L5 S0 (some ob) vl (iI (N : Int))) jN (iI 0, (I, J, P)) = some (I2, J, P) := e1
    simp only [Jd_fill, h1, Option.bind_some, if_true, if_false, n_0, e1']
  · refine ⟨hup I1 ob k vl, ?_, q1.1.hup (by omega), fun j hj => ?_⟩
    · simp (disch := omega) only [Jd_fill_L5, Option.bind_some, if_true, if_false, n_0, n_1, n_2, n_3, n_4, n_5, n_6, n_7, n_8, n_9, n_10, n_12, n_15, n_20, n_24, n_32, n_48, n_57, n_59, n_80, n_97, n_99, n_100, n_122, n_680, n_700, n_999, n_1023, n_1024, iI_neg, iI_add, iI_sub, iI_lt, iI_le, iI_eq, show ¬ (N : Int) ≤ (k : Int) by omega, h2 (k : Int) I1 (by omega), Int.toNat_natCast]
    · by_cases e : j = k
      · simp [hup, e]
      · simp only [hup, e, and_false, if_false]
        exact q1.2 j (by omega)
  · simp (disch := omega) only [Jd_fill_L5, Option.bind_some, if_true, if_false, iI_lt, iI_le, iI_eq, show (N : Int) ≤ (N : Int) by omega]
theorem lat_nil (k : Int) (d : S3 → Nat) : lat [] k d = -1 := by unfold lat; rw [if_neg (by simp only [List.length_nil]; omega)]
/-- the slights of places told -/
def SLS (T : Tb) (m c : Int) (pl : Nat → Int) : List S3 := sl1 (slQ T m c pl) (ng T) (nr T)
theorem SLS_len (ht : tvC T) : (SLS T m c pl).length ≤ 1200 := by
  have h0 := ht.1
  have h1 := nrI ht
  have := sl1_len (slQ T m c pl) (ng_le ht) (nr T)
  unfold SLS; omega
theorem SLS_ok (ht : tvC T) : lok T (SLS T m c pl) := lok_1 (by have := nrI ht; omega)
theorem nm_1 : (-1 : Int32) = iI (-1) := by decide
def tl0 (I : Nat → Nat → Int32) (q : Int) : Nat → Nat → Int32 := hup (hup (hup (hup (hup (hup (hup I 55 2 0) 55 3 0) 55 4 0) 55 5 (iI q)) 55 6 (-1)) 55 7 (-1)) 55 8 (-1)
theorem an57n : aN S0 (some 57) = some (iI ((10 : Nat) : Int)) := by rw [an57]; rfl
theorem tl0_fill : ∃ I9, Jd_fill S0 (some 57) 0 (tl0 I q, J, Pst b f) = some (I9, J, Pst b f) ∧ Agr (fun o => o ≠ 57) (tl0 I q) I9 ∧ ∀ k, k < 10 → I9 57 k = 0 := fillI (by omega) an57n (fun a I ha => st57 (by omega))
theorem tl0_eq (I9 : Nat → Nat → Int32) (h : Jd_fill S0 (some 57) 0 (tl0 I q, J, Pst b f) = some (I9, J, Pst b f)) (v1 v2 : Option Nat) (v3 : Int32) : Slights_tellAll S0 (some 55) v1 v2 v3 (iI q) (I, J, Pst b f) = (jloop (Slights_tellAll_L47 S0 (some 55) v1 v2 v3) jN (0, (I9, J, Pst b f))).bind fun z => some z := by
  unfold tl0 at h
  unfold Slights_tellAll
  rw [rc55, Option.bind_some, pi55, Option.bind_some, pi55, Option.bind_some, pi55, Option.bind_some, pi55, Option.bind_some, pi55, Option.bind_some, pi55, Option.bind_some, pi55, Option.bind_some, gr55_1, Option.bind_some, h, Option.bind_some]
theorem tl0_slC (I9 : Nat → Nat → Int32) (f2 : Agr (fun o => o ≠ 57) (tl0 I q) I9) (f3 : ∀ k, k < 10 → I9 57 k = 0) : slC T m c pl q [] I9 := by
  have a5 := f2 55 (by omega)
  have l0 : ∀ g, lmn T m c pl g [] = 0 := fun _ => rfl
  have l1 : lwt T [] = 0 := rfl
  have l2 : lhv T [] = 0 := rfl
  refine ⟨⟨?_, ?_, ?_, ?_⟩, ⟨?_, ?_, ?_⟩, fun g hg => ?_⟩
  · rw [a5, l1]; simp only [tl0, hup, and_true, and_self, show ¬ (2 : Nat) = 3 by omega, show ¬ (2 : Nat) = 4 by omega, show ¬ (2 : Nat) = 5 by omega, show ¬ (2 : Nat) = 6 by omega, show ¬ (2 : Nat) = 7 by omega, show ¬ (2 : Nat) = 8 by omega, and_false, if_false, if_true]; exact n_0
  · rw [a5]; simp only [tl0, hup, and_true, and_self, show ¬ (3 : Nat) = 4 by omega, show ¬ (3 : Nat) = 5 by omega, show ¬ (3 : Nat) = 6 by omega, show ¬ (3 : Nat) = 7 by omega, show ¬ (3 : Nat) = 8 by omega, and_false, if_false, if_true, List.length_nil]; exact n_0
  · rw [a5, l2]; simp only [tl0, hup, and_true, and_self, show ¬ (4 : Nat) = 5 by omega, show ¬ (4 : Nat) = 6 by omega, show ¬ (4 : Nat) = 7 by omega, show ¬ (4 : Nat) = 8 by omega, and_false, if_false, if_true]; exact n_0
  · rw [a5]; simp only [tl0, hup, and_true, and_self, show ¬ (5 : Nat) = 6 by omega, show ¬ (5 : Nat) = 7 by omega, show ¬ (5 : Nat) = 8 by omega, and_false, if_false, if_true]
  · rw [a5, lat_nil]; simp only [tl0, hup, and_true, and_self, show ¬ (6 : Nat) = 7 by omega, show ¬ (6 : Nat) = 8 by omega, and_false, if_false, if_true]; exact nm_1
  · rw [a5, lat_nil]; simp only [tl0, hup, and_true, and_self, show ¬ (7 : Nat) = 8 by omega, and_false, if_false, if_true]; exact nm_1
  · rw [a5, lat_nil]; simp only [tl0, hup, and_true, and_self, if_true]; exact nm_1
  · rw [f3 g hg, l0]; exact n_0
theorem tl0_agr : Agr outS I (tl0 I q) := ((((((((Agr.refl _ I).hup (by omega)).hup (by omega)).hup (by omega)).hup (by omega)).hup (by omega)).hup (by omega)).hup (by omega))
theorem cl_tell0 : ∃ I9, (∀ v1 v2 v3, Slights_tellAll S0 (some 55) v1 v2 v3 (iI q) (I, J, Pst b f) = (jloop (Slights_tellAll_L47 S0 (some 55) v1 v2 v3) jN (0, (I9, J, Pst b f))).bind fun z => some z) ∧ Agr outS I I9 ∧ slC T m c pl q [] I9 := by
  obtain ⟨I9, f1, f2, f3⟩ := tl0_fill (I := I) (q := q) (J := J) (b := b) (f := f)
  exact ⟨I9, fun v1 v2 v3 => tl0_eq I9 f1 v1 v2 v3, tl0_agr.trans (f2.sub fun o h => h.2), tl0_slC I9 f2 f3⟩
theorem cl_tellAll (E : EC T b I) (V : TV T) (hp : plC pl I) (hpl : plV T m pl) (hm : isM T m) (hc : 0 ≤ c ∧ c < 20) (hq : rg q) : ∃ I', Slights_tellAll S0 (some 55) (some (ct b)) (some (ro m.toNat)) (iI c) (iI q) (I, J, Pst b f) = some (I', J, Pst b f) ∧ Agr outS I I' ∧ slC T m c pl q (SLS T m c pl) I' := by
  obtain ⟨⟨vA, vB⟩, ⟨vC, vD⟩, vE, vF⟩ := id V
  have h0 := vC.1
  have h00 := vB.1
  have hng := ng_le vC
  have h1 := nrI vC
  obtain ⟨I9, t1, a0, s0⟩ := cl_tell0 (T := T) (m := m) (c := c) (pl := pl) (q := q) (I := I) (J := J) (b := b) (f := f)
  have key := jheap (J := J) (P := Pst b f) (I := I9) (body := Slights_tellAll_L47 S0 (some 55) (some (ct b)) (some (ro m.toNat)) (iI c)) (fun k I' => Agr outS I I' ∧ slC T m c pl q (sl1 (slQ T m c pl) (ng T) k) I') 0 (nr T) ⟨a0, s0⟩ (by omega) (by omega) (fun k I1 _ hk q1 => ?_) (fun I1 q1 => ?_)
  · obtain ⟨I2, e1, e2⟩ := key
    refine ⟨I2, ?_, e2⟩
    have e1' : jloop (Slights_tellAll_L47 S0 (some 55) (some (ct b)) (some (ro m.toNat)) (iI c)) jN (iI 0, (I9, J, Pst b f)) = some (I2, J, Pst b f) := e1
    rw [t1, n_0, e1']; rfl
  · have E1 := E.agr V (q1.1.sub fun o h => by omega)
    obtain ⟨⟨eA, eB⟩, ⟨eC, eD⟩, eE⟩ := id E1
    have hk' : (k : Int) < T 0 4 := by omega
    have hro := (eB.2 m.toNat (by omega)).1
    rw [show ((m.toNat : Nat) : Int) = m by omega] at hro
    simp (disch := omega) only [Slights_tellAll_L47, rc0, gi0, gl0, pi0, pl0, pz0, pr0, gr0_0, gr0_1, gr0_2, gr0_3, gr0_4, gr0_5, gr0_6, gr0_7, gr0_8, rc1, gi1, gl1, pi1, pl1, pz1, pr1, gr1_0, rc3, gi3, gl3, pi3, pl3, pz3, pr3, gr3_0, gr3_10, gr3_11, rc47, gi47, gl47, pi47, pl47, pz47, pr47, gr47_0, gr47_1, gr47_2, gr47_3, gr47_4, gr47_5, gr47_6, rc55, gi55, gl55, pi55, pl55, pz55, pr55, gr55_0, gr55_1, rc58, gi58, gl58, pi58, pl58, pz58, pr58, gr58_0, gr58_1, rc61, gi61, gl61, pi61, pl61, pz61, pr61, gr61_0, gr61_1, gr61_2, gr61_7, rc62, gi62, gl62, pi62, pl62, pz62, pr62, gr62_0, gr62_1, gr62_2, gr62_3, gr62_4, gr62_5, ld2, st2, an2, ld4, st4, an4, ld5, st5, an5, an6, ld48, st48, an48, ld49, st49, an49, ld50, st50, an50, ld51, st51, an51, ld52, st52, an52, ld53, st53, an53, ld54, st54, an54, ld56, st56, an56, ld57, st57, an57, ld59, st59, an59, ld60, st60, an60, ld63, st63, an63, ld64, st64, an64, ld65, st65, an65, ld66, st66, an66, ld67, st67, an67, ld68, st68, an68, ld69, st69, an69, ld70, st70, an70, rcct, gict, glct, pict, plct, pzct, prct, grct_0, grct_1, grct_2, grct_3, ldctm, stctm, anctm, ldctr, stctr, anctr, ldctp, stctp, anctp, anctR, rcru, giru, glru, piru, plru, pzru, prru, grru_7, ldcu, stcu, ancu, arct, ar6, rcro, giro, piro, pzro, grro_1, grro_2, grro_3, rcfo, gifo, pifo, pzfo, grfo_0, grfo_1, ldfop, stfop, anfop, ldfoe, stfoe, anfoe, Option.bind_some, if_true, if_false, n_0, n_1, n_2, n_3, n_4, n_5, n_6, n_7, n_8, n_9, n_10, n_12, n_15, n_20, n_24, n_32, n_48, n_57, n_59, n_80, n_97, n_99, n_100, n_122, n_680, n_700, n_999, n_1023, n_1024, iI_neg, iI_add, iI_sub, iI_lt, iI_le, iI_eq, eC.1.2.2, show ¬ T 0 4 ≤ (k : Int) by omega, show ¬ (12 : Int) ≤ (k : Int) by omega, Int.toNat_natCast, hro, cl_countsIn eD vC vD hk' (show 0 ≤ m ∧ m < 4 by omega), bI_0]
    cases hct : ctn T m k
    · refine ⟨I1, by simp only [Option.bind_some, if_true, if_false], q1.1, ?_⟩
      show slC T m c pl q (sl1 (slQ T m c pl) (ng T) k ++ sl2 (slQ T m c pl k) k (ng T) (ng T)) I1
      rw [sl2_no _ fun x y => by simp [slQ, hct], List.append_nil]
      exact q1.2
    · have hlen := sl1_len (slQ T m c pl) hng k
      obtain ⟨I2, e1, e2, e3⟩ := cl_tellRule (J := J) (f := f) (I := I1) E1 V (hp.agr (q1.1.sub fun o h => by omega)) hpl hm hc hq hk' q1.2 (lok_1 (by omega)) (by omega)
      refine ⟨I2, by simp only [Bool.true_eq_false, Option.bind_some, if_true, if_false, e1], q1.1.trans e2, ?_⟩
      show slC T m c pl q (sl1 (slQ T m c pl) (ng T) k ++ sl2 (slQ T m c pl k) k (ng T) (ng T)) I2
      rw [show slQ T m c pl k = slP T m c pl k from funext fun x => funext fun y => by simp [slQ, hct]]
      exact e3
  · have E1 := E.agr V (q1.1.sub fun o h => by omega)
    simp (disch := omega) only [Slights_tellAll_L47, rc0, gi0, gl0, pi0, pl0, pz0, pr0, gr0_0, gr0_1, gr0_2, gr0_3, gr0_4, gr0_5, gr0_6, gr0_7, gr0_8, rc1, gi1, gl1, pi1, pl1, pz1, pr1, gr1_0, rc3, gi3, gl3, pi3, pl3, pz3, pr3, gr3_0, gr3_10, gr3_11, rc47, gi47, gl47, pi47, pl47, pz47, pr47, gr47_0, gr47_1, gr47_2, gr47_3, gr47_4, gr47_5, gr47_6, rc55, gi55, gl55, pi55, pl55, pz55, pr55, gr55_0, gr55_1, rc58, gi58, gl58, pi58, pl58, pz58, pr58, gr58_0, gr58_1, rc61, gi61, gl61, pi61, pl61, pz61, pr61, gr61_0, gr61_1, gr61_2, gr61_7, rc62, gi62, gl62, pi62, pl62, pz62, pr62, gr62_0, gr62_1, gr62_2, gr62_3, gr62_4, gr62_5, ld2, st2, an2, ld4, st4, an4, ld5, st5, an5, an6, ld48, st48, an48, ld49, st49, an49, ld50, st50, an50, ld51, st51, an51, ld52, st52, an52, ld53, st53, an53, ld54, st54, an54, ld56, st56, an56, ld57, st57, an57, ld59, st59, an59, ld60, st60, an60, ld63, st63, an63, ld64, st64, an64, ld65, st65, an65, ld66, st66, an66, ld67, st67, an67, ld68, st68, an68, ld69, st69, an69, ld70, st70, an70, rcct, gict, glct, pict, plct, pzct, prct, grct_0, grct_1, grct_2, grct_3, ldctm, stctm, anctm, ldctr, stctr, anctr, ldctp, stctp, anctp, anctR, rcru, giru, glru, piru, plru, pzru, prru, grru_7, ldcu, stcu, ancu, arct, ar6, rcro, giro, piro, pzro, grro_1, grro_2, grro_3, rcfo, gifo, pifo, pzfo, grfo_0, grfo_1, ldfop, stfop, anfop, ldfoe, stfoe, anfoe, Option.bind_some, if_true, if_false, n_0, n_1, n_2, n_3, n_4, n_5, n_6, n_7, n_8, n_9, n_10, n_12, n_15, n_20, n_24, n_32, n_48, n_57, n_59, n_80, n_97, n_99, n_100, n_122, n_680, n_700, n_999, n_1023, n_1024, iI_neg, iI_add, iI_sub, iI_lt, iI_le, iI_eq, E1.2.1.1.1.2.2, show T 0 4 ≤ (nr T : Int) by omega]
end
