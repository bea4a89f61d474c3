/-! ===== layer 2: ring ===== -/
section
variable {T : Tb} {I I' I'' : Nat → Nat → Int32} {J : Nat → Nat → Int64} {b : Bool} {f k n B L st : Nat} {P : Nat → Nat → Option Nat} {a w c s m : Int} {r x y g : Nat} {A R : Nat → Nat → Bool} {W H : Nat → Bool} {V0 V1 : hV} {p q : Nat → Bool} {C : Nat → Int}
theorem wk1_eq (hy : y < 10) : wk A 1 g y = A g y := by
  rw [Bool.eq_iff_iff]
  constructor
  · intro h
    obtain ⟨z, a1, a2, a3⟩ := wk_s.mp h
    rw [wk_0.mp a3] at a2
    exact a2
  · intro h; exact wk_1 h hy
theorem cl_steps (h : row 48 A I) (hg : g < 10) : Rank_stepsBackTo S0 (some 47) (iI (g : Int)) (I, J, Pst b f) = some (iI (rgL A g)) := by
  have hle := cy_le (A := A) (g := g)
  have e := jfun (body := Rank_stepsBackTo_L9 S0 (some 47) (iI (g : Int)) (I, J, Pst b f)) (fun k => (iI (bt 10 (wk A (k + 1) g) : Int), iI ((k : Int) + 1))) (cy A g) (r := if cy A g < 10 then .inr (iI ((cy A g : Int) + 1)) else .inl ()) (s0 := (iI (bt 10 (A g) : Int), iI 1)) ?_ (fun k hk => ?_) ?_ (by omega)
  · simp (maxSteps := 4000000) (disch := omega) only [Rank_stepsBackTo, rc0, gi0, gl0, pi0, pl0, pz0, pr0, gr0_0, gr0_1, gr0_2, gr0_3, gr0_4, gr0_5, gr0_6, gr0_7, gr0_8, rc1, gi1, gl1, pi1, pl1, pz1, pr1, gr1_0, rc3, gi3, gl3, pi3, pl3, pz3, pr3, gr3_0, gr3_10, gr3_11, rc47, gi47, gl47, pi47, pl47, pz47, pr47, gr47_0, gr47_1, gr47_2, gr47_3, gr47_4, gr47_5, gr47_6, rc55, gi55, gl55, pi55, pl55, pz55, pr55, gr55_0, gr55_1, rc58, gi58, gl58, pi58, pl58, pz58, pr58, gr58_0, gr58_1, rc61, gi61, gl61, pi61, pl61, pz61, pr61, gr61_0, gr61_1, gr61_2, gr61_7, rc62, gi62, gl62, pi62, pl62, pz62, pr62, gr62_0, gr62_1, gr62_2, gr62_3, gr62_4, gr62_5, ld2, st2, an2, ld4, st4, an4, ld5, st5, an5, an6, ld48, st48, an48, ld49, st49, an49, ld50, st50, an50, ld51, st51, an51, ld52, st52, an52, ld53, st53, an53, ld54, st54, an54, ld56, st56, an56, ld57, st57, an57, ld59, st59, an59, ld60, st60, an60, ld63, st63, an63, ld64, st64, an64, ld65, st65, an65, ld66, st66, an66, ld67, st67, an67, ld68, st68, an68, ld69, st69, an69, ld70, st70, an70, rcct, gict, glct, pict, plct, pzct, prct, grct_0, grct_1, grct_2, grct_3, ldctm, stctm, anctm, ldctr, stctr, anctr, ldctp, stctp, anctp, anctR, rcru, giru, glru, piru, plru, pzru, prru, grru_7, ldcu, stcu, ancu, arct, ar6, rcro, giro, piro, pzro, grro_1, grro_2, grro_3, rcfo, gifo, pifo, pzfo, grfo_0, grfo_1, ldfop, stfop, anfop, ldfoe, stfoe, anfoe, Option.bind_some, if_true, if_false, n_1, Int.toNat_natCast, h g hg, e]
    unfold rgL
    split <;> rfl
  · exact Prod.ext (sI_ext fun y hy => (wk1_eq hy).symm) rfl
  · have hb := cl_below (J := J) (b := b) (f := f) (W := wk A (k + 1) g) h
    have hw : iI (bt 10 (blw A (wk A (k + 1) g)) : Int) = iI (bt 10 (wk A (k + 1 + 1) g) : Int) := sI_ext fun y hy => wk_blw hg hy
    rw [hw] at hb
    simp (maxSteps := 4000000) (disch := omega) only [Rank_stepsBackTo_L9, Option.bind_some, if_true, if_false, n_0, n_1, n_2, n_3, n_4, n_5, n_6, n_7, n_8, n_9, n_10, n_12, n_15, n_20, n_24, n_32, n_48, n_57, n_59, n_80, n_97, n_99, n_100, n_122, n_680, n_700, n_999, n_1023, n_1024, iI_neg, iI_add, iI_sub, iI_lt, iI_le, iI_eq, show ¬ (10 : Int) < (k : Int) + 1 by omega, bt10_has hg, bI_0, cy_not hk, hb]
    rfl
  · by_cases q : cy A g < 10
    · simp (maxSteps := 4000000) (disch := omega) only [Rank_stepsBackTo_L9, Option.bind_some, if_true, if_false, n_0, n_1, n_2, n_3, n_4, n_5, n_6, n_7, n_8, n_9, n_10, n_12, n_15, n_20, n_24, n_32, n_48, n_57, n_59, n_80, n_97, n_99, n_100, n_122, n_680, n_700, n_999, n_1023, n_1024, iI_neg, iI_add, iI_sub, iI_lt, iI_le, iI_eq, show ¬ (10 : Int) < (cy A g : Int) + 1 by omega, bt10_has hg, bI_0, cy_wk q, Bool.true_eq_false, q]
    · simp (maxSteps := 4000000) (disch := omega) only [Rank_stepsBackTo_L9, Option.bind_some, if_true, if_false, n_0, n_1, n_2, n_3, n_4, n_5, n_6, n_7, n_8, n_9, n_10, n_12, n_15, n_20, n_24, n_32, n_48, n_57, n_59, n_80, n_97, n_99, n_100, n_122, n_680, n_700, n_999, n_1023, n_1024, iI_neg, iI_add, iI_sub, iI_lt, iI_le, iI_eq, show (10 : Int) < (cy A g : Int) + 1 by omega, q]
/-- the first of the shortest: how long, and where it begins -/
def rb (C : Nat → Int) : Nat → Int × Int
  | 0 => (-1, -1)
  | k + 1 => if C k = -1 then rb C k else if (rb C k).1 = -1 ∨ C k < (rb C k).1 then (C k, (k : Int)) else rb C k
theorem rb_s (C : Nat → Int) (k : Nat) : rb C (k + 1) = if C k = -1 then rb C k else if (rb C k).1 = -1 ∨ C k < (rb C k).1 then (C k, (k : Int)) else rb C k := rfl
theorem rb_out (h : ∀ k, n ≤ k → C k = -1) : ∀ d, rb C (n + d) = rb C n
  | 0 => rfl
  | d + 1 => by
    show rb C (n + d + 1) = _
    rw [rb_s, if_pos (h _ (by omega)), rb_out h d]
theorem rb_is (C : Nat → Int) : ∀ k, (rb C k = (-1, -1) ∧ ∀ j, j < k → C j = -1) ∨ ∃ j : Nat, j < k ∧ rb C k = (C j, (j : Int)) ∧ C j ≠ -1
  | 0 => Or.inl ⟨rfl, fun j hj => by omega⟩
  | k + 1 => by
    rw [rb_s]
    by_cases e : C k = -1
    · rw [if_pos e]
      rcases rb_is C k with ⟨h1, h2⟩ | ⟨j, h1, h2, h3⟩
      · refine Or.inl ⟨h1, fun j hj => ?_⟩
        by_cases q : j = k
        · rw [q]; exact e
        · exact h2 j (by omega)
      · exact Or.inr ⟨j, by omega, h2, h3⟩
    · rw [if_neg e]
      by_cases e2 : (rb C k).1 = -1 ∨ C k < (rb C k).1
      · rw [if_pos e2]
        exact Or.inr ⟨k, by omega, rfl, e⟩
      · rw [if_neg e2]
        rcases rb_is C k with ⟨h1, h2⟩ | ⟨j, h1, h2, h3⟩
        · rw [h1] at e2; exact absurd (Or.inl rfl) e2
        · exact Or.inr ⟨j, by omega, h2, h3⟩
theorem rb_rg (hC : ∀ g, -1 ≤ C g ∧ C g ≤ 10) (k : Nat) : (-1 ≤ (rb C k).1 ∧ (rb C k).1 ≤ 10) ∧ -1 ≤ (rb C k).2 ∧ (rb C k).2 < k := by
  rcases rb_is C k with ⟨h1, h2⟩ | ⟨j, h1, h2, h3⟩
  · rw [h1]; simp; omega
  · rw [h2]; have := hC j; simp only; omega
theorem cl_short (h : row 48 A I) : jloop (Rank_shortestRing_L6 S0 (some 47) (I, J, Pst b f)) jN (iI (-1), iI (-1), iI 0) = some (iI (rb (rgL A) 10).1, iI (rb (rgL A) 10).2) := by
  refine jfun (fun k => (iI (rb (rgL A) k).1, iI (rb (rgL A) k).2, iI (k : Int))) 10 rfl (fun k hk => ?_) ?_ (by omega)
  · have h1 := rgL_rg (R := A) (g := k)
    have h2 := rb_rg (C := rgL A) (fun g => rgL_rg) k
    rw [rb_s]
    simp (maxSteps := 4000000) (disch := omega) only [Rank_shortestRing_L6, Option.bind_some, if_true, if_false, n_0, n_1, n_2, n_3, n_4, n_5, n_6, n_7, n_8, n_9, n_10, n_12, n_15, n_20, n_24, n_32, n_48, n_57, n_59, n_80, n_97, n_99, n_100, n_122, n_680, n_700, n_999, n_1023, n_1024, iI_neg, iI_add, iI_sub, iI_lt, iI_le, iI_eq, show ¬ (10 : Int) ≤ (k : Int) by omega, cl_steps h hk]
    by_cases e : rgL A k = -1
    · simp only [e, Option.bind_some, if_true, if_false]; rfl
    · by_cases e2 : (rb (rgL A) k).1 = -1
      · simp only [e, e2, true_or, Option.bind_some, if_true, if_false]; rfl
      · by_cases e3 : (rb (rgL A) k).1 ≤ rgL A k
        · simp only [e, e2, e3, false_or, show ¬ rgL A k < (rb (rgL A) k).1 by omega, Option.bind_some, if_true, if_false]; rfl
        · simp only [e, e2, e3, false_or, show rgL A k < (rb (rgL A) k).1 by omega, Option.bind_some, if_true, if_false]; rfl
  · simp (maxSteps := 4000000) (disch := omega) only [Rank_shortestRing_L6, Option.bind_some, if_true, if_false, n_0, n_1, n_2, n_3, n_4, n_5, n_6, n_7, n_8, n_9, n_10, n_12, n_15, n_20, n_24, n_32, n_48, n_57, n_59, n_80, n_97, n_99, n_100, n_122, n_680, n_700, n_999, n_1023, n_1024, iI_neg, iI_add, iI_sub, iI_lt, iI_le, iI_eq, show (10 : Int) ≤ ((10 : Nat) : Int) by omega]
/-- the ring of L steps from st -/
def rgn (A : Nat → Nat → Bool) (st L : Nat) : Nat → Nat
  | 0 => st
  | k + 1 => lowP (fun y => A (rgn A st L k) y && wk A (L - (k + 1)) y st)
theorem rgn_ok (hst : st < 10) (hL : wk A L st st = true) : ∀ k, k < L → rgn A st L k < 10 ∧ wk A (L - k) (rgn A st L k) st = true ∧ wk A k st (rgn A st L k) = true
  | 0, _ => ⟨hst, hL, wk_0.mpr rfl⟩
  | k + 1, h => by
    obtain ⟨h1, h2, h3⟩ := rgn_ok hst hL k (by omega)
    rw [show L - k = (L - (k + 1)) + 1 by omega] at h2
    obtain ⟨z, a1, a2, a3⟩ := wk_s.mp h2
    have h4 := lowP_lt (p := fun y => A (rgn A st L k) y && wk A (L - (k + 1)) y st) (anyb_iff.mpr ⟨z, a1, by simp [a2, a3]⟩)
    have h5 := h4.2.2
    simp only [Bool.and_eq_true] at h5
    exact ⟨h4.1, h5.2, wk_add h3 (wk_1 h5.1 h4.1)⟩
theorem rgn_A (hst : st < 10) (hL : wk A L st st = true) (h : k + 1 < L) : A (rgn A st L k) (rgn A st L (k + 1)) = true ∧ wk A (L - (k + 1)) (rgn A st L (k + 1)) st = true ∧ rgn A st L (k + 1) = fst_ 10 (fun y => A (rgn A st L k) y && wk A (L - (k + 1)) y st) := by
  obtain ⟨h1, h2, h3⟩ := rgn_ok hst hL k (by omega)
  rw [show L - k = (L - (k + 1)) + 1 by omega] at h2
  obtain ⟨z, a1, a2, a3⟩ := wk_s.mp h2
  have h4 := lowP_lt (p := fun y => A (rgn A st L k) y && wk A (L - (k + 1)) y st) (anyb_iff.mpr ⟨z, a1, by simp [a2, a3]⟩)
  have h5 := h4.2.2
  simp only [Bool.and_eq_true] at h5
  exact ⟨h5.1, h5.2, h4.2.1⟩
theorem cl_back (h : row 48 A I) (hst : st < 10) (hL : L ≤ 10) (hk : k ≤ L) : jloop (Rank_writeRing_L28 S0 (some 47) (iI (L : Int)) (iI (k : Int), (I, J, Pst b f))) jN (iI (bt 10 (fun y => decide (y = st)) : Int), iI (k : Int)) = some (iI (bt 10 (fun y => wk A (L - k) y st) : Int)) := by
  refine jfun (fun j => (iI (bt 10 (fun y => wk A j y st) : Int), iI ((k + j : Nat) : Int))) (L - k) rfl (fun j hj => ?_) ?_ (by omega)
  · have ho := cl_over (J := J) (b := b) (f := f) (W := fun y => wk A j y st) h
    simp (maxSteps := 4000000) (disch := omega) only [Rank_writeRing_L28, Option.bind_some, if_true, if_false, n_0, n_1, n_2, n_3, n_4, n_5, n_6, n_7, n_8, n_9, n_10, n_12, n_15, n_20, n_24, n_32, n_48, n_57, n_59, n_80, n_97, n_99, n_100, n_122, n_680, n_700, n_999, n_1023, n_1024, iI_neg, iI_add, iI_sub, iI_lt, iI_le, iI_eq, show ¬ (L : Int) ≤ ((k + j : Nat) : Int) by omega, ho]
    rfl
  · simp (maxSteps := 4000000) (disch := omega) only [Rank_writeRing_L28, Option.bind_some, if_true, if_false, n_0, n_1, n_2, n_3, n_4, n_5, n_6, n_7, n_8, n_9, n_10, n_12, n_15, n_20, n_24, n_32, n_48, n_57, n_59, n_80, n_97, n_99, n_100, n_122, n_680, n_700, n_999, n_1023, n_1024, iI_neg, iI_add, iI_sub, iI_lt, iI_le, iI_eq, show (L : Int) ≤ ((k + (L - k) : Nat) : Int) by omega]
theorem cl_writeRing (h : row 48 A I) (hst : st < 10) (hL : wk A L st st = true) (h10 : L ≤ 10) (h1 : 1 ≤ L) : Rank_writeRing S0 (some 47) (iI (st : Int)) (iI (L : Int)) (I, J, Pst b f) = some (rwH 50 (fun k => (rgn A st L k : Int)) I L, J, Pst b f) := by
  have e := jfun (body := Rank_writeRing_L9 S0 (some 47) (iI (st : Int)) (iI (L : Int))) (fun k => (iI ((k + 1 : Nat) : Int), (rwH 50 (fun k => (rgn A st L k : Int)) I (k + 1), J, Pst b f))) (L - 1) (r := (rwH 50 (fun k => (rgn A st L k : Int)) I L, J, Pst b f)) (s0 := (iI 1, (rwH 50 (fun k => (rgn A st L k : Int)) I 1, J, Pst b f))) rfl (fun k hk => ?_) ?_ (by omega)
  · have e0 : (hup I 50 0 (iI (st : Int))) = rwH 50 (fun k => (rgn A st L k : Int)) I 1 := rfl
    simp (maxSteps := 4000000) (disch := omega) only [Rank_writeRing, rc0, gi0, gl0, pi0, pl0, pz0, pr0, gr0_0, gr0_1, gr0_2, gr0_3, gr0_4, gr0_5, gr0_6, gr0_7, gr0_8, rc1, gi1, gl1, pi1, pl1, pz1, pr1, gr1_0, rc3, gi3, gl3, pi3, pl3, pz3, pr3, gr3_0, gr3_10, gr3_11, rc47, gi47, gl47, pi47, pl47, pz47, pr47, gr47_0, gr47_1, gr47_2, gr47_3, gr47_4, gr47_5, gr47_6, rc55, gi55, gl55, pi55, pl55, pz55, pr55, gr55_0, gr55_1, rc58, gi58, gl58, pi58, pl58, pz58, pr58, gr58_0, gr58_1, rc61, gi61, gl61, pi61, pl61, pz61, pr61, gr61_0, gr61_1, gr61_2, gr61_7, rc62, gi62, gl62, pi62, pl62, pz62, pr62, gr62_0, gr62_1, gr62_2, gr62_3, gr62_4, gr62_5, ld2, st2, an2, ld4, st4, an4, ld5, st5, an5, an6, ld48, st48, an48, ld49, st49, an49, ld50, st50, an50, ld51, st51, an51, ld52, st52, an52, ld53, st53, an53, ld54, st54, an54, ld56, st56, an56, ld57, st57, an57, ld59, st59, an59, ld60, st60, an60, ld63, st63, an63, ld64, st64, an64, ld65, st65, an65, ld66, st66, an66, ld67, st67, an67, ld68, st68, an68, ld69, st69, an69, ld70, st70, an70, rcct, gict, glct, pict, plct, pzct, prct, grct_0, grct_1, grct_2, grct_3, ldctm, stctm, anctm, ldctr, stctr, anctr, ldctp, stctp, anctp, anctR, rcru, giru, glru, piru, plru, pzru, prru, grru_7, ldcu, stcu, ancu, arct, ar6, rcro, giro, piro, pzro, grro_1, grro_2, grro_3, rcfo, gifo, pifo, pzfo, grfo_0, grfo_1, ldfop, stfop, anfop, ldfoe, stfoe, anfoe, Option.bind_some, if_true, if_false, n_0, n_1, Int.toNat_zero, e0, e]
  · have hrow : row 48 A (rwH 50 (fun k => (rgn A st L k : Int)) I (k + 1)) := h.agr fun x => rwH_obj _ 48 (by omega) x
    have hb := cl_back (J := J) (b := b) (f := f) (k := k + 1) hrow hst h10 (by omega)
    have hg := rwH_get (I := I) (o := 50) (F := fun k => (rgn A st L k : Int)) (j := k) (k := k + 1) (by omega)
    have hok := rgn_ok hst hL k (by omega)
    have hok2 := rgn_ok hst hL (k + 1) (by omega)
    have hlow : Fi_lowest (iI (bt 10 (fun y => A (rgn A st L k) y && wk A (L - (k + 1)) y st) : Int)) = iI (rgn A st L (k + 1) : Int) := sI_low _
    simp (maxSteps := 4000000) (disch := omega) only [Rank_writeRing_L9, rc0, gi0, gl0, pi0, pl0, pz0, pr0, gr0_0, gr0_1, gr0_2, gr0_3, gr0_4, gr0_5, gr0_6, gr0_7, gr0_8, rc1, gi1, gl1, pi1, pl1, pz1, pr1, gr1_0, rc3, gi3, gl3, pi3, pl3, pz3, pr3, gr3_0, gr3_10, gr3_11, rc47, gi47, gl47, pi47, pl47, pz47, pr47, gr47_0, gr47_1, gr47_2, gr47_3, gr47_4, gr47_5, gr47_6, rc55, gi55, gl55, pi55, pl55, pz55, pr55, gr55_0, gr55_1, rc58, gi58, gl58, pi58, pl58, pz58, pr58, gr58_0, gr58_1, rc61, gi61, gl61, pi61, pl61, pz61, pr61, gr61_0, gr61_1, gr61_2, gr61_7, rc62, gi62, gl62, pi62, pl62, pz62, pr62, gr62_0, gr62_1, gr62_2, gr62_3, gr62_4, gr62_5, ld2, st2, an2, ld4, st4, an4, ld5, st5, an5, an6, ld48, st48, an48, ld49, st49, an49, ld50, st50, an50, ld51, st51, an51, ld52, st52, an52, ld53, st53, an53, ld54, st54, an54, ld56, st56, an56, ld57, st57, an57, ld59, st59, an59, ld60, st60, an60, ld63, st63, an63, ld64, st64, an64, ld65, st65, an65, ld66, st66, an66, ld67, st67, an67, ld68, st68, an68, ld69, st69, an69, ld70, st70, an70, rcct, gict, glct, pict, plct, pzct, prct, grct_0, grct_1, grct_2, grct_3, ldctm, stctm, anctm, ldctr, stctr, anctr, ldctp, stctp, anctp, anctR, rcru, giru, glru, piru, plru, pzru, prru, grru_7, ldcu, stcu, ancu, arct, ar6, rcro, giro, piro, pzro, grro_1, grro_2, grro_3, rcfo, gifo, pifo, pzfo, grfo_0, grfo_1, ldfop, stfop, anfop, ldfoe, stfoe, anfoe, Option.bind_some, if_true, if_false, n_0, n_1, n_2, n_3, n_4, n_5, n_6, n_7, n_8, n_9, n_10, n_12, n_15, n_20, n_24, n_32, n_48, n_57, n_59, n_80, n_97, n_99, n_100, n_122, n_680, n_700, n_999, n_1023, n_1024, iI_neg, iI_add, iI_sub, iI_lt, iI_le, iI_eq, show ¬ (L : Int) ≤ ((k + 1 : Nat) : Int) by omega, show ¬ (10 : Int) ≤ ((k + 1 : Nat) : Int) by omega, sI_one hst, hb, show ((k + 1 : Nat) : Int) - 1 = (k : Int) by omega, Int.toNat_natCast, hg, hrow (rgn A st L k) hok.1, sI_and, hlow, show ¬ (10 : Int) ≤ (rgn A st L (k + 1) : Int) by omega]
    rfl
  · simp (maxSteps := 4000000) (disch := omega) only [Rank_writeRing_L9, Option.bind_some, if_true, if_false, n_0, n_1, n_2, n_3, n_4, n_5, n_6, n_7, n_8, n_9, n_10, n_12, n_15, n_20, n_24, n_32, n_48, n_57, n_59, n_80, n_97, n_99, n_100, n_122, n_680, n_700, n_999, n_1023, n_1024, iI_neg, iI_add, iI_sub, iI_lt, iI_le, iI_eq, show (L : Int) ≤ ((L - 1 + 1 : Nat) : Int) by omega]
    rw [show L - 1 + 1 = L by omega]
/-- the answer of ring -/
def rnA (A : Nat → Nat → Bool) (n : Nat) (w : Int) : Int := if (rb (rgL A) n).1 = -1 ∨ w = -1 then (rb (rgL A) n).1 else if 0 ≤ w ∧ w < (rb (rgL A) n).1 then (rgn A (rb (rgL A) n).2.toNat (rb (rgL A) n).1.toNat w.toNat : Int) else -1
def rnR (T : Tb) (m w : Int) : Int := if isM T m then rnA (abv T m 0) (ng T) w else -1
theorem rgL_no (ht : tvC T) (hv : tvD T) (hg : ng T ≤ g) : rgL (abv T m B) g = -1 := by
  refine rgL_1.mpr fun q => ?_
  obtain ⟨z, a1, a2, a3⟩ := wk_s.mp (cy_wk q)
  have := (abv_lt ht hv _ _ a2).1
  omega
theorem rb_10 (ht : tvC T) (hv : tvD T) : rb (rgL (abv T m B)) 10 = rb (rgL (abv T m B)) (ng T) := by
  have h1 := ng_le ht
  have := rb_out (C := rgL (abv T m B)) (n := ng T) (fun k hk => rgL_no ht hv hk) (10 - ng T)
  rwa [show ng T + (10 - ng T) = 10 by omega] at this
theorem rb_ring (hn : n ≤ 10) (h : (rb (rgL A) n).1 ≠ -1) : ∃ j : Nat, j < n ∧ cy A j < 10 ∧ rb (rgL A) n = ((cy A j : Int) + 1, (j : Int)) := by
  rcases rb_is (rgL A) n with ⟨h1, h2⟩ | ⟨j, h1, h2, h3⟩
  · rw [h1] at h; exact absurd rfl h
  · refine ⟨j, h1, ?_, ?_⟩
    · exact Decidable.of_not_not fun q => h3 (rgL_1.mpr q)
    · rw [h2]
      have : rgL A j = (cy A j : Int) + 1 := if_pos (Decidable.of_not_not fun q => h3 (rgL_1.mpr q))
      rw [this]
theorem cl_ring (E : EC T b I) (V : TV T) (hm : rg m) (hw : rg w) : ∃ I', Fi_ring S0 (some 0) (iI m) (iI w) (I, J, Pst b f) = some (iI (rnR T m w), (I', J, Pst b f)) ∧ Agr outO I I' := by
  obtain ⟨⟨vA, vB⟩, ⟨vC, vD⟩, vE, vF⟩ := id V
  have hng := ng_le vC
  by_cases z : isM T m
  · obtain ⟨I1, a1, a2, a3⟩ := cl_rank1 (J := J) (f := f) E V z
    have hs := cl_short (J := J) (b := b) (f := f) a3.2.1
    rw [rb_10 vC vD] at hs
    have hR : rnR T m w = rnA (abv T m 0) (ng T) w := if_pos z
    rw [hR]
    by_cases e : (rb (rgL (abv T m 0)) (ng T)).1 = -1
    · have e2 : (rb (rgL (abv T m 0)) (ng T)).2 = -1 := by
        rcases rb_is (rgL (abv T m 0)) (ng T) with ⟨h1, h2⟩ | ⟨j, h1, h2, h3⟩
        · rw [h1]
        · rw [h2] at e; dsimp only at e; exact absurd e h3
      have hA : rnA (abv T m 0) (ng T) w = -1 := by unfold rnA; rw [if_pos (Or.inl e), e]
      rw [e, e2] at hs
      refine ⟨I1, ?_, a2.sub fun o h => by omega⟩
      simp (maxSteps := 4000000) (disch := omega) only [Fi_ring, Rank_shortestRing, rc0, gi0, gl0, pi0, pl0, pz0, pr0, gr0_0, gr0_1, gr0_2, gr0_3, gr0_4, gr0_5, gr0_6, gr0_7, gr0_8, rc1, gi1, gl1, pi1, pl1, pz1, pr1, gr1_0, rc3, gi3, gl3, pi3, pl3, pz3, pr3, gr3_0, gr3_10, gr3_11, rc47, gi47, gl47, pi47, pl47, pz47, pr47, gr47_0, gr47_1, gr47_2, gr47_3, gr47_4, gr47_5, gr47_6, rc55, gi55, gl55, pi55, pl55, pz55, pr55, gr55_0, gr55_1, rc58, gi58, gl58, pi58, pl58, pz58, pr58, gr58_0, gr58_1, rc61, gi61, gl61, pi61, pl61, pz61, pr61, gr61_0, gr61_1, gr61_2, gr61_7, rc62, gi62, gl62, pi62, pl62, pz62, pr62, gr62_0, gr62_1, gr62_2, gr62_3, gr62_4, gr62_5, ld2, st2, an2, ld4, st4, an4, ld5, st5, an5, an6, ld48, st48, an48, ld49, st49, an49, ld50, st50, an50, ld51, st51, an51, ld52, st52, an52, ld53, st53, an53, ld54, st54, an54, ld56, st56, an56, ld57, st57, an57, ld59, st59, an59, ld60, st60, an60, ld63, st63, an63, ld64, st64, an64, ld65, st65, an65, ld66, st66, an66, ld67, st67, an67, ld68, st68, an68, ld69, st69, an69, ld70, st70, an70, rcct, gict, glct, pict, plct, pzct, prct, grct_0, grct_1, grct_2, grct_3, ldctm, stctm, anctm, ldctr, stctr, anctr, ldctp, stctp, anctp, anctR, rcru, giru, glru, piru, plru, pzru, prru, grru_7, ldcu, stcu, ancu, arct, ar6, rcro, giro, piro, pzro, grro_1, grro_2, grro_3, rcfo, gifo, pifo, pzfo, grfo_0, grfo_1, ldfop, stfop, anfop, ldfoe, stfoe, anfoe, Option.bind_some, if_true, if_false, n_0, n_1, n_2, n_3, n_4, n_5, n_6, n_7, n_8, n_9, n_10, n_12, n_15, n_20, n_24, n_32, n_48, n_57, n_59, n_80, n_97, n_99, n_100, n_122, n_680, n_700, n_999, n_1023, n_1024, iI_neg, iI_add, iI_sub, iI_lt, iI_le, iI_eq, a1, show ¬ (1 : Int) = 0 by omega, hs, hA]
    · obtain ⟨j, h1, h2, h3⟩ := rb_ring hng e
      have hwr := cl_writeRing (J := J) (b := b) (f := f) (st := j) (L := cy (abv T m 0) j + 1) a3.2.1 (by omega) (cy_wk h2) (by omega) (by omega)
      rw [show ((cy (abv T m 0) j + 1 : Nat) : Int) = (cy (abv T m 0) j : Int) + 1 by omega] at hwr
      rw [h3] at hs
      refine ⟨rwH 50 (fun k => (rgn (abv T m 0) j (cy (abv T m 0) j + 1) k : Int)) I1 (cy (abv T m 0) j + 1), ?_, (a2.sub fun o h => by omega).trans ((rwH_obj _).sub fun o h => by omega)⟩
      by_cases e1 : w = -1
      · have hA : rnA (abv T m 0) (ng T) w = (cy (abv T m 0) j : Int) + 1 := by unfold rnA; rw [if_pos (Or.inr e1), h3]
        rw [hA]
        simp (maxSteps := 4000000) (disch := omega) only [Fi_ring, Rank_shortestRing, rc0, gi0, gl0, pi0, pl0, pz0, pr0, gr0_0, gr0_1, gr0_2, gr0_3, gr0_4, gr0_5, gr0_6, gr0_7, gr0_8, rc1, gi1, gl1, pi1, pl1, pz1, pr1, gr1_0, rc3, gi3, gl3, pi3, pl3, pz3, pr3, gr3_0, gr3_10, gr3_11, rc47, gi47, gl47, pi47, pl47, pz47, pr47, gr47_0, gr47_1, gr47_2, gr47_3, gr47_4, gr47_5, gr47_6, rc55, gi55, gl55, pi55, pl55, pz55, pr55, gr55_0, gr55_1, rc58, gi58, gl58, pi58, pl58, pz58, pr58, gr58_0, gr58_1, rc61, gi61, gl61, pi61, pl61, pz61, pr61, gr61_0, gr61_1, gr61_2, gr61_7, rc62, gi62, gl62, pi62, pl62, pz62, pr62, gr62_0, gr62_1, gr62_2, gr62_3, gr62_4, gr62_5, ld2, st2, an2, ld4, st4, an4, ld5, st5, an5, an6, ld48, st48, an48, ld49, st49, an49, ld50, st50, an50, ld51, st51, an51, ld52, st52, an52, ld53, st53, an53, ld54, st54, an54, ld56, st56, an56, ld57, st57, an57, ld59, st59, an59, ld60, st60, an60, ld63, st63, an63, ld64, st64, an64, ld65, st65, an65, ld66, st66, an66, ld67, st67, an67, ld68, st68, an68, ld69, st69, an69, ld70, st70, an70, rcct, gict, glct, pict, plct, pzct, prct, grct_0, grct_1, grct_2, grct_3, ldctm, stctm, anctm, ldctr, stctr, anctr, ldctp, stctp, anctp, anctR, rcru, giru, glru, piru, plru, pzru, prru, grru_7, ldcu, stcu, ancu, arct, ar6, rcro, giro, piro, pzro, grro_1, grro_2, grro_3, rcfo, gifo, pifo, pzfo, grfo_0, grfo_1, ldfop, stfop, anfop, ldfoe, stfoe, anfoe, Option.bind_some, if_true, if_false, n_0, n_1, n_2, n_3, n_4, n_5, n_6, n_7, n_8, n_9, n_10, n_12, n_15, n_20, n_24, n_32, n_48, n_57, n_59, n_80, n_97, n_99, n_100, n_122, n_680, n_700, n_999, n_1023, n_1024, iI_neg, iI_add, iI_sub, iI_lt, iI_le, iI_eq, a1, show ¬ (1 : Int) = 0 by omega, hs, show ¬ (j : Int) = -1 by omega, hwr, show ¬ (cy (abv T m 0) j : Int) + 1 = -1 by omega, e1]
      · by_cases e3 : 0 ≤ w ∧ w < (cy (abv T m 0) j : Int) + 1
        · have hA : rnA (abv T m 0) (ng T) w = (rgn (abv T m 0) j (cy (abv T m 0) j + 1) w.toNat : Int) := by
            unfold rnA
            rw [h3]
            simp only
            rw [if_neg (by omega), if_pos e3, Int.toNat_natCast, show ((cy (abv T m 0) j : Int) + 1).toNat = cy (abv T m 0) j + 1 by omega]
          have hg := rwH_get (I := I1) (o := 50) (F := fun k => (rgn (abv T m 0) j (cy (abv T m 0) j + 1) k : Int)) (j := w.toNat) (k := cy (abv T m 0) j + 1) (by omega)
          simp (maxSteps := 4000000) (disch := omega) only [Fi_ring, Rank_shortestRing, rc0, gi0, gl0, pi0, pl0, pz0, pr0, gr0_0, gr0_1, gr0_2, gr0_3, gr0_4, gr0_5, gr0_6, gr0_7, gr0_8, rc1, gi1, gl1, pi1, pl1, pz1, pr1, gr1_0, rc3, gi3, gl3, pi3, pl3, pz3, pr3, gr3_0, gr3_10, gr3_11, rc47, gi47, gl47, pi47, pl47, pz47, pr47, gr47_0, gr47_1, gr47_2, gr47_3, gr47_4, gr47_5, gr47_6, rc55, gi55, gl55, pi55, pl55, pz55, pr55, gr55_0, gr55_1, rc58, gi58, gl58, pi58, pl58, pz58, pr58, gr58_0, gr58_1, rc61, gi61, gl61, pi61, pl61, pz61, pr61, gr61_0, gr61_1, gr61_2, gr61_7, rc62, gi62, gl62, pi62, pl62, pz62, pr62, gr62_0, gr62_1, gr62_2, gr62_3, gr62_4, gr62_5, ld2, st2, an2, ld4, st4, an4, ld5, st5, an5, an6, ld48, st48, an48, ld49, st49, an49, ld50, st50, an50, ld51, st51, an51, ld52, st52, an52, ld53, st53, an53, ld54, st54, an54, ld56, st56, an56, ld57, st57, an57, ld59, st59, an59, ld60, st60, an60, ld63, st63, an63, ld64, st64, an64, ld65, st65, an65, ld66, st66, an66, ld67, st67, an67, ld68, st68, an68, ld69, st69, an69, ld70, st70, an70, rcct, gict, glct, pict, plct, pzct, prct, grct_0, grct_1, grct_2, grct_3, ldctm, stctm, anctm, ldctr, stctr, anctr, ldctp, stctp, anctp, anctR, rcru, giru, glru, piru, plru, pzru, prru, grru_7, ldcu, stcu, ancu, arct, ar6, rcro, giro, piro, pzro, grro_1, grro_2, grro_3, rcfo, gifo, pifo, pzfo, grfo_0, grfo_1, ldfop, stfop, anfop, ldfoe, stfoe, anfoe, Option.bind_some, if_true, if_false, n_0, n_1, n_2, n_3, n_4, n_5, n_6, n_7, n_8, n_9, n_10, n_12, n_15, n_20, n_24, n_32, n_48, n_57, n_59, n_80, n_97, n_99, n_100, n_122, n_680, n_700, n_999, n_1023, n_1024, iI_neg, iI_add, iI_sub, iI_lt, iI_le, iI_eq, a1, show ¬ (1 : Int) = 0 by omega, hs, show ¬ (j : Int) = -1 by omega, hwr, show ¬ (cy (abv T m 0) j : Int) + 1 = -1 by omega, hA, e1, show ¬ w < 0 by omega, show ¬ (cy (abv T m 0) j : Int) + 1 ≤ w by omega, show ¬ (10 : Int) ≤ w by omega, hg]
        · have hA : rnA (abv T m 0) (ng T) w = -1 := by
            unfold rnA
            rw [h3]
            simp only
            rw [if_neg (by omega), if_neg e3]
          by_cases e4 : w < 0
          · simp (maxSteps := 4000000) (disch := omega) only [Fi_ring, Rank_shortestRing, rc0, gi0, gl0, pi0, pl0, pz0, pr0, gr0_0, gr0_1, gr0_2, gr0_3, gr0_4, gr0_5, gr0_6, gr0_7, gr0_8, rc1, gi1, gl1, pi1, pl1, pz1, pr1, gr1_0, rc3, gi3, gl3, pi3, pl3, pz3, pr3, gr3_0, gr3_10, gr3_11, rc47, gi47, gl47, pi47, pl47, pz47, pr47, gr47_0, gr47_1, gr47_2, gr47_3, gr47_4, gr47_5, gr47_6, rc55, gi55, gl55, pi55, pl55, pz55, pr55, gr55_0, gr55_1, rc58, gi58, gl58, pi58, pl58, pz58, pr58, gr58_0, gr58_1, rc61, gi61, gl61, pi61, pl61, pz61, pr61, gr61_0, gr61_1, gr61_2, gr61_7, rc62, gi62, gl62, pi62, pl62, pz62, pr62, gr62_0, gr62_1, gr62_2, gr62_3, gr62_4, gr62_5, ld2, st2, an2, ld4, st4, an4, ld5, st5, an5, an6, ld48, st48, an48, ld49, st49, an49, ld50, st50, an50, ld51, st51, an51, ld52, st52, an52, ld53, st53, an53, ld54, st54, an54, ld56, st56, an56, ld57, st57, an57, ld59, st59, an59, ld60, st60, an60, ld63, st63, an63, ld64, st64, an64, ld65, st65, an65, ld66, st66, an66, ld67, st67, an67, ld68, st68, an68, ld69, st69, an69, ld70, st70, an70, rcct, gict, glct, pict, plct, pzct, prct, grct_0, grct_1, grct_2, grct_3, ldctm, stctm, anctm, ldctr, stctr, anctr, ldctp, stctp, anctp, anctR, rcru, giru, glru, piru, plru, pzru, prru, grru_7, ldcu, stcu, ancu, arct, ar6, rcro, giro, piro, pzro, grro_1, grro_2, grro_3, rcfo, gifo, pifo, pzfo, grfo_0, grfo_1, ldfop, stfop, anfop, ldfoe, stfoe, anfoe, Option.bind_some, if_true, if_false, n_0, n_1, n_2, n_3, n_4, n_5, n_6, n_7, n_8, n_9, n_10, n_12, n_15, n_20, n_24, n_32, n_48, n_57, n_59, n_80, n_97, n_99, n_100, n_122, n_680, n_700, n_999, n_1023, n_1024, iI_neg, iI_add, iI_sub, iI_lt, iI_le, iI_eq, a1, show ¬ (1 : Int) = 0 by omega, hs, show ¬ (j : Int) = -1 by omega, hwr, show ¬ (cy (abv T m 0) j : Int) + 1 = -1 by omega, hA, e1, e4]
          · simp (maxSteps := 4000000) (disch := omega) only [Fi_ring, Rank_shortestRing, rc0, gi0, gl0, pi0, pl0, pz0, pr0, gr0_0, gr0_1, gr0_2, gr0_3, gr0_4, gr0_5, gr0_6, gr0_7, gr0_8, rc1, gi1, gl1, pi1, pl1, pz1, pr1, gr1_0, rc3, gi3, gl3, pi3, pl3, pz3, pr3, gr3_0, gr3_10, gr3_11, rc47, gi47, gl47, pi47, pl47, pz47, pr47, gr47_0, gr47_1, gr47_2, gr47_3, gr47_4, gr47_5, gr47_6, rc55, gi55, gl55, pi55, pl55, pz55, pr55, gr55_0, gr55_1, rc58, gi58, gl58, pi58, pl58, pz58, pr58, gr58_0, gr58_1, rc61, gi61, gl61, pi61, pl61, pz61, pr61, gr61_0, gr61_1, gr61_2, gr61_7, rc62, gi62, gl62, pi62, pl62, pz62, pr62, gr62_0, gr62_1, gr62_2, gr62_3, gr62_4, gr62_5, ld2, st2, an2, ld4, st4, an4, ld5, st5, an5, an6, ld48, st48, an48, ld49, st49, an49, ld50, st50, an50, ld51, st51, an51, ld52, st52, an52, ld53, st53, an53, ld54, st54, an54, ld56, st56, an56, ld57, st57, an57, ld59, st59, an59, ld60, st60, an60, ld63, st63, an63, ld64, st64, an64, ld65, st65, an65, ld66, st66, an66, ld67, st67, an67, ld68, st68, an68, ld69, st69, an69, ld70, st70, an70, rcct, gict, glct, pict, plct, pzct, prct, grct_0, grct_1, grct_2, grct_3, ldctm, stctm, anctm, ldctr, stctr, anctr, ldctp, stctp, anctp, anctR, rcru, giru, glru, piru, plru, pzru, prru, grru_7, ldcu, stcu, ancu, arct, ar6, rcro, giro, piro, pzro, grro_1, grro_2, grro_3, rcfo, gifo, pifo, pzfo, grfo_0, grfo_1, ldfop, stfop, anfop, ldfoe, stfoe, anfoe, Option.bind_some, if_true, if_false, n_0, n_1, n_2, n_3, n_4, n_5, n_6, n_7, n_8, n_9, n_10, n_12, n_15, n_20, n_24, n_32, n_48, n_57, n_59, n_80, n_97, n_99, n_100, n_122, n_680, n_700, n_999, n_1023, n_1024, iI_neg, iI_add, iI_sub, iI_lt, iI_le, iI_eq, a1, show ¬ (1 : Int) = 0 by omega, hs, show ¬ (j : Int) = -1 by omega, hwr, show ¬ (cy (abv T m 0) j : Int) + 1 = -1 by omega, hA, e1, e4, show (cy (abv T m 0) j : Int) + 1 ≤ w by omega]
  · refine ⟨I, ?_, Agr.refl _ _⟩
    have hR : rnR T m w = -1 := if_neg z
    simp (maxSteps := 4000000) (disch := omega) only [Fi_ring, rc0, gi0, gl0, pi0, pl0, pz0, pr0, gr0_0, gr0_1, gr0_2, gr0_3, gr0_4, gr0_5, gr0_6, gr0_7, gr0_8, rc1, gi1, gl1, pi1, pl1, pz1, pr1, gr1_0, rc3, gi3, gl3, pi3, pl3, pz3, pr3, gr3_0, gr3_10, gr3_11, rc47, gi47, gl47, pi47, pl47, pz47, pr47, gr47_0, gr47_1, gr47_2, gr47_3, gr47_4, gr47_5, gr47_6, rc55, gi55, gl55, pi55, pl55, pz55, pr55, gr55_0, gr55_1, rc58, gi58, gl58, pi58, pl58, pz58, pr58, gr58_0, gr58_1, rc61, gi61, gl61, pi61, pl61, pz61, pr61, gr61_0, gr61_1, gr61_2, gr61_7, rc62, gi62, gl62, pi62, pl62, pz62, pr62, gr62_0, gr62_1, gr62_2, gr62_3, gr62_4, gr62_5, ld2, st2, an2, ld4, st4, an4, ld5, st5, an5, an6, ld48, st48, an48, ld49, st49, an49, ld50, st50, an50, ld51, st51, an51, ld52, st52, an52, ld53, st53, an53, ld54, st54, an54, ld56, st56, an56, ld57, st57, an57, ld59, st59, an59, ld60, st60, an60, ld63, st63, an63, ld64, st64, an64, ld65, st65, an65, ld66, st66, an66, ld67, st67, an67, ld68, st68, an68, ld69, st69, an69, ld70, st70, an70, rcct, gict, glct, pict, plct, pzct, prct, grct_0, grct_1, grct_2, grct_3, ldctm, stctm, anctm, ldctr, stctr, anctr, ldctp, stctp, anctp, anctR, rcru, giru, glru, piru, plru, pzru, prru, grru_7, ldcu, stcu, ancu, arct, ar6, rcro, giro, piro, pzro, grro_1, grro_2, grro_3, rcfo, gifo, pifo, pzfo, grfo_0, grfo_1, ldfop, stfop, anfop, ldfoe, stfoe, anfoe, Option.bind_some, if_true, if_false, n_0, n_1, n_2, n_3, n_4, n_5, n_6, n_7, n_8, n_9, n_10, n_12, n_15, n_20, n_24, n_32, n_48, n_57, n_59, n_80, n_97, n_99, n_100, n_122, n_680, n_700, n_999, n_1023, n_1024, iI_neg, iI_add, iI_sub, iI_lt, iI_le, iI_eq, cl_rank0 E V hm z, hR]
end
