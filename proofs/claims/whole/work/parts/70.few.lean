/-! ===== layer 2: few, class's side ===== -/
section
variable {T : Tb} {I I' I'' : Nat → Nat → Int32} {J : Nat → Nat → Int64} {b : Bool} {f k n B d u most : Nat} {P : Nat → Nat → Option Nat} {m w : Int} {x y z g i h : Nat} {A E : Nat → Nat → Bool} {H W cm : Nat → Bool} {hp r : Nat → Nat → Bool} {Q : (Nat → Bool) → Bool}
theorem fsO_n {α : Type} {F : Nat → Option α} (h : fsO F k = none) : fsO F (k + 1) = F k := by
  show (match fsO F k with | some r => some r | none => F k) = _
  rw [h]
theorem fsO_up {α : Type} {F : Nat → Option α} {r : α} (h : fsO F k = some r) : ∀ d, fsO F (k + d) = some r
  | 0 => h
  | d + 1 => by
    show (match fsO F (k + d) with | some r => some r | none => F (k + d)) = _
    rw [fsO_up h d]
theorem jfs_aux {α : Type} {body : Int32 × hV → Option ((Int32 × hV) ⊕ (hV ⊕ (Int32 × hV)))} (Q0 : (Nat → Nat → Int32) → Prop) (Q1 : α → (Nat → Nat → Int32) → Prop) (F : Nat → Option α) (N : Nat) (hs : ∀ k I, k < N → Q0 I → ∃ I', body (iI (k : Int), (I, J, P)) = some ((F k).elim (.inl (iI ((k : Int) + 1), (I', J, P))) (fun _ => .inr (.inr (iI 1, (I', J, P))))) ∧ (F k).elim (Q0 I') (fun r => Q1 r I')) (he : ∀ I, Q0 I → body (iI (N : Int), (I, J, P)) = some (.inr (.inl (I, J, P)))) : ∀ (d at_ fu : Nat) (I0 : Nat → Nat → Int32), at_ + d = N → d < fu → fsO F at_ = none → Q0 I0 → ∃ I', jloop body fu (iI (at_ : Int), (I0, J, P)) = some ((fsO F N).elim (.inl (I', J, P)) (fun _ => .inr (iI 1, (I', J, P)))) ∧ (fsO F N).elim (Q0 I') (fun r => Q1 r I')
  | 0, at_, fu, I0, h1, h2, hn, hq => by
    obtain ⟨fu, rfl⟩ : ∃ z, fu = z + 1 := ⟨fu - 1, by omega⟩
    have e : at_ = N := by omega
    subst e
    refine ⟨I0, ?_, ?_⟩
    · rw [hn]; exact jl_e (he I0 hq)
    · rw [hn]; exact hq
  | d + 1, at_, fu, I0, h1, h2, hn, hq => by
    obtain ⟨fu, rfl⟩ : ∃ z, fu = z + 1 := ⟨fu - 1, by omega⟩
    obtain ⟨I1, e1, e2⟩ := hs at_ I0 (by omega) hq
    cases e : F at_ with
    | none =>
      rw [e] at e1 e2
      obtain ⟨I2, q1, q2⟩ := jfs_aux Q0 Q1 F N hs he d (at_ + 1) fu I1 (by omega) (by omega) ((fsO_n hn).trans e) e2
      exact ⟨I2, (jl_s e1).trans q1, q2⟩
    | some r =>
      rw [e] at e1 e2
      have h3 := fsO_up ((fsO_n hn).trans e) d
      rw [show at_ + 1 + d = N by omega] at h3
      refine ⟨I1, ?_, ?_⟩
      · rw [h3]; exact jl_e e1
      · rw [h3]; exact e2
theorem jfs {α : Type} {body : Int32 × hV → Option ((Int32 × hV) ⊕ (hV ⊕ (Int32 × hV)))} (Q0 : (Nat → Nat → Int32) → Prop) (Q1 : α → (Nat → Nat → Int32) → Prop) (F : Nat → Option α) (N : Nat) (h0 : Q0 I) (hN : N < 5000) (hs : ∀ k I, k < N → Q0 I → ∃ I', body (iI (k : Int), (I, J, P)) = some ((F k).elim (.inl (iI ((k : Int) + 1), (I', J, P))) (fun _ => .inr (.inr (iI 1, (I', J, P))))) ∧ (F k).elim (Q0 I') (fun r => Q1 r I')) (he : ∀ I, Q0 I → body (iI (N : Int), (I, J, P)) = some (.inr (.inl (I, J, P)))) : ∃ I', jloop body jN (iI 0, (I, J, P)) = some ((fsO F N).elim (.inl (I', J, P)) (fun _ => .inr (iI 1, (I', J, P)))) ∧ (fsO F N).elim (Q0 I') (fun r => Q1 r I') :=
  jfs_aux Q0 Q1 F N hs he N 0 jN I (by omega) (by unfold jN; omega) rfl h0
theorem ovr_one (hg : g < 10) : ovr A (fun z => decide (z = g)) y = A y g := by
  rw [Bool.eq_iff_iff]
  unfold ovr
  rw [anyb_iff]
  constructor
  · rintro ⟨z, h1, h2⟩
    simp only [Bool.and_eq_true, decide_eq_true_eq] at h2
    rw [← h2.2]; exact h2.1
  · intro h; exact ⟨g, hg, by simp [h]⟩
theorem cl_fits (h48 : row 48 A I) (h49 : row 49 E I) (hg : g < 10) : Rank_fits S0 (some 47) (iI (g : Int)) (iI (bt 10 H : Int)) (I, J, Pst b f) = some (bI (fit A E H g)) := by
  have ho : Rank_over S0 (some 47) (iI (bt 10 (fun z => decide (z = g)) : Int)) (I, J, Pst b f) = some (iI (bt 10 (fun y => A y g) : Int)) := by
    rw [cl_over h48]
    exact congrArg some (sI_ext fun y _ => ovr_one hg)
  have hle := fst_le (fun k => anyb 10 (fun y => rcs A H g k y && (A y g && H y))) 10
  have e := jfun (body := Rank_fits_L45 S0 (some 47) (iI (bt 10 H : Int)) (I, J, Pst b f) (iI (bt 10 (fun y => A y g) : Int))) (fun k => (iI (bt 10 (rcs A H g k) : Int), iI (k : Int))) (fst_ 10 (fun k => anyb 10 (fun y => rcs A H g k y && (A y g && H y)))) (r := if fst_ 10 (fun k => anyb 10 (fun y => rcs A H g k y && (A y g && H y))) < 10 then .inr (iI 0) else .inl ()) (s0 := (iI (bt 10 (fun y => A g y && H y) : Int), iI 0)) rfl (fun k hk => ?_) ?_ (by omega)
  · simp (maxSteps := 4000000) (disch := omega) only [Rank_fits, rc0, gi0, gl0, pi0, pl0, pz0, pr0, gr0_0, gr0_1, gr0_2, gr0_3, gr0_4, gr0_5, gr0_6, gr0_7, gr0_8, rc1, gi1, gl1, pi1, pl1, pz1, pr1, gr1_0, rc3, gi3, gl3, pi3, pl3, pz3, pr3, gr3_0, gr3_10, gr3_11, rc47, gi47, gl47, pi47, pl47, pz47, pr47, gr47_0, gr47_1, gr47_2, gr47_3, gr47_4, gr47_5, gr47_6, rc55, gi55, gl55, pi55, pl55, pz55, pr55, gr55_0, gr55_1, rc58, gi58, gl58, pi58, pl58, pz58, pr58, gr58_0, gr58_1, rc61, gi61, gl61, pi61, pl61, pz61, pr61, gr61_0, gr61_1, gr61_2, gr61_7, rc62, gi62, gl62, pi62, pl62, pz62, pr62, gr62_0, gr62_1, gr62_2, gr62_3, gr62_4, gr62_5, ld2, st2, an2, ld4, st4, an4, ld5, st5, an5, an6, ld48, st48, an48, ld49, st49, an49, ld50, st50, an50, ld51, st51, an51, ld52, st52, an52, ld53, st53, an53, ld54, st54, an54, ld56, st56, an56, ld57, st57, an57, ld59, st59, an59, ld60, st60, an60, ld63, st63, an63, ld64, st64, an64, ld65, st65, an65, ld66, st66, an66, ld67, st67, an67, ld68, st68, an68, ld69, st69, an69, ld70, st70, an70, rcct, gict, glct, pict, plct, pzct, prct, grct_0, grct_1, grct_2, grct_3, ldctm, stctm, anctm, ldctr, stctr, anctr, ldctp, stctp, anctp, anctR, rcru, giru, glru, piru, plru, pzru, prru, grru_7, ldcu, stcu, ancu, arct, ar6, rcro, giro, piro, pzro, grro_1, grro_2, grro_3, rcfo, gifo, pifo, pzfo, grfo_0, grfo_1, ldfop, stfop, anfop, ldfoe, stfoe, anfoe, Option.bind_some, if_true, if_false, n_0, n_1, sI_one hg, ho, Int.toNat_natCast, h49 g hg, h48 g hg, sI_and, sI_or, sI_0, e]
    unfold fit
    cases e1 : anyb 10 (fun y => E g y && ((A g y && H y) || (A y g && H y)))
    · cases e2 : anyb 10 (fun k => anyb 10 (fun y => rcs A H g k y && (A y g && H y)))
      · have : ¬ fst_ 10 (fun k => anyb 10 (fun y => rcs A H g k y && (A y g && H y))) < 10 := fun q => by rw [fst_any.mp q] at e2; cases e2
        simp only [if_true, if_neg this]; rfl
      · simp only [if_true, if_pos (fst_any.mpr e2)]; rfl
    · simp only [Bool.true_eq_false, if_false]; rfl
  · have hn := fst_not hk
    have hb := cl_below (J := J) (b := b) (f := f) (W := rcs A H g k) h48
    simp (maxSteps := 4000000) (disch := omega) only [Rank_fits_L45, Option.bind_some, if_true, if_false, n_0, n_1, n_2, n_3, n_4, n_5, n_6, n_7, n_8, n_9, n_10, n_12, n_15, n_20, n_24, n_32, n_48, n_57, n_59, n_80, n_97, n_99, n_100, n_122, n_680, n_700, n_999, n_1023, n_1024, iI_neg, iI_add, iI_sub, iI_lt, iI_le, iI_eq, show ¬ (10 : Int) ≤ (k : Int) by omega, sI_and, sI_0, hn, hb, sI_or]
    rfl
  · by_cases q : fst_ 10 (fun k => anyb 10 (fun y => rcs A H g k y && (A y g && H y))) < 10
    · have hn := fst_is q
      simp (maxSteps := 4000000) (disch := omega) only [Rank_fits_L45, Option.bind_some, if_true, if_false, n_0, n_1, n_2, n_3, n_4, n_5, n_6, n_7, n_8, n_9, n_10, n_12, n_15, n_20, n_24, n_32, n_48, n_57, n_59, n_80, n_97, n_99, n_100, n_122, n_680, n_700, n_999, n_1023, n_1024, iI_neg, iI_add, iI_sub, iI_lt, iI_le, iI_eq, show ¬ (10 : Int) ≤ (fst_ 10 (fun k => anyb 10 (fun y => rcs A H g k y && (A y g && H y))) : Int) by omega, sI_and, sI_0, hn, Bool.true_eq_false, q]
    · simp (maxSteps := 4000000) (disch := omega) only [Rank_fits_L45, Option.bind_some, if_true, if_false, n_0, n_1, n_2, n_3, n_4, n_5, n_6, n_7, n_8, n_9, n_10, n_12, n_15, n_20, n_24, n_32, n_48, n_57, n_59, n_80, n_97, n_99, n_100, n_122, n_680, n_700, n_999, n_1023, n_1024, iI_neg, iI_add, iI_sub, iI_lt, iI_le, iI_eq, show (10 : Int) ≤ (fst_ 10 (fun k => anyb 10 (fun y => rcs A H g k y && (A y g && H y))) : Int) by omega, q]
theorem hpu_same : hpu hp h g h = adg (hp h) g := if_pos rfl
theorem hpu_ne (e : i ≠ h) : hpu hp h g i = hp i := if_neg e
theorem mxN (u h : Nat) : Jd_max (iI (u : Int)) (iI ((h : Int) + 1)) = iI ((max u (h + 1) : Nat) : Int) ∨ ¬ (u < 1000 ∧ h < 1000) := by
  by_cases q : u < 1000 ∧ h < 1000
  · left
    rw [maxI (by omega)]
    congr 1
    split <;> omega
  · exact Or.inr q
theorem mxI (hu : u < 1000) (hh : h < 1000) : Jd_max (iI (u : Int)) (iI ((h : Int) + 1)) = iI ((max u (h + 1) : Nat) : Int) := (mxN u h).elim id fun q => absurd ⟨hu, hh⟩ q
/-- what holds of the heaps when those below g are parted -/
def hok (Q : (Nat → Bool) → Bool) (cm : Nat → Bool) (g : Nat) (hp : Nat → Nat → Bool) : Prop := (∀ i, Q (hp i) = true) ∧ ∀ i y, hp i y = true → y < g ∧ cm y = true
theorem hok_up (h1 : hok Q cm g hp) (hc : cm g = true) (hq : Q (adg (hp h) g) = true) : hok Q cm (g + 1) (hpu hp h g) := by
  refine ⟨fun i => ?_, fun i y hy => ?_⟩
  · by_cases e : i = h
    · subst e; rw [hpu_same]; exact hq
    · rw [hpu_ne e]; exact h1.1 i
  · by_cases e : i = h
    · subst e
      rw [hpu_same] at hy
      rcases (show hp i y = true ∨ y = g by simpa [adg] using hy) with q | q
      · have := h1.2 i y q; exact ⟨by omega, this.2⟩
      · rw [q]; exact ⟨by omega, hc⟩
    · rw [hpu_ne e] at hy
      have := h1.2 i y hy; exact ⟨by omega, this.2⟩
theorem hok_s (h1 : hok Q cm g hp) : hok Q cm (g + 1) hp := ⟨h1.1, fun i y hy => by have := h1.2 i y hy; exact ⟨by omega, this.2⟩⟩
theorem cl_part (hfit : ∀ H g, g < 10 → cm g = true → (∀ y, H y = true → y < g ∧ cm y = true) → Q H = true → fit A E H g = Q (adg H g)) (hmost : most ≤ 10) : ∀ (d n : Nat) (hp : Nat → Nat → Bool) (u : Nat) (I : Nat → Nat → Int32), d ≤ 10 → d < n → u + d ≤ 10 → row 48 A I → row 49 E I → I 47 7 = iI (bt 10 cm : Int) → row 51 hp I → hok Q cm (10 - d) hp → ∃ I', Rank_partFrom S0 n (some 47) (iI ((10 - d : Nat) : Int)) (iI (u : Int)) (iI (most : Int)) (I, J, Pst b f) = some (bI (prt Q cm most d hp u).isSome, (I', J, Pst b f)) ∧ Agr (fun o => o ≠ 51) I I' ∧ (prt Q cm most d hp u).elim (row 51 hp I') (fun r => row 51 r.1 I')
  | 0, n, hp, u, I, hd, hn, hu, h48, h49, h7, h51, ho => by
    obtain ⟨n, rfl⟩ : ∃ z, n = z + 1 := ⟨n - 1, by omega⟩
    refine ⟨I, ?_, Agr.refl _ _, h51⟩
    show Rank_partFrom_B S0 (Rank_partFrom S0 n) _ _ _ _ _ = _
    simp (maxSteps := 4000000) (disch := omega) only [Rank_partFrom_B, Option.bind_some, if_true, if_false, n_0, n_1, n_2, n_3, n_4, n_5, n_6, n_7, n_8, n_9, n_10, n_12, n_15, n_20, n_24, n_32, n_48, n_57, n_59, n_80, n_97, n_99, n_100, n_122, n_680, n_700, n_999, n_1023, n_1024, iI_neg, iI_add, iI_sub, iI_lt, iI_le, iI_eq, show ¬ ((10 - 0 : Nat) : Int) < 10 by omega]
    rfl
  | d + 1, n, hp, u, I, hd, hn, hu, h48, h49, h7, h51, ho => by
    obtain ⟨n, rfl⟩ : ∃ z, n = z + 1 := ⟨n - 1, by omega⟩
    have eg : 10 - (d + 1) = 9 - d := by omega
    have eg1 : ((9 - d : Nat) : Int) + 1 = ((10 - d : Nat) : Int) := by omega
    have eg2 : 9 - d + 1 = 10 - d := by omega
    have hg10 : 9 - d < 10 := by omega
    rw [eg] at ho ⊢
    have hpr : prt Q cm most (d + 1) hp u = if cm (9 - d) = true then fsO (fun h => if Q (adg (hp h) (9 - d)) = true then prt Q cm most d (hpu hp h (9 - d)) (max u (h + 1)) else none) (min (u + 1) most) else prt Q cm most d hp u := rfl
    rw [hpr]
    cases ec : cm (9 - d)
    · have hih := cl_part hfit hmost d n hp u I (by omega) (by omega) (by omega) h48 h49 h7 h51 (by rw [← eg2]; exact hok_s ho)
      obtain ⟨I1, a1, a2, a3⟩ := hih
      simp only [Bool.false_eq_true, if_false]
      refine ⟨I1, ?_, a2, a3⟩
      show Rank_partFrom_B S0 (Rank_partFrom S0 n) _ _ _ _ _ = _
      simp (maxSteps := 4000000) (disch := omega) only [Rank_partFrom_B, rc0, gi0, gl0, pi0, pl0, pz0, pr0, gr0_0, gr0_1, gr0_2, gr0_3, gr0_4, gr0_5, gr0_6, gr0_7, gr0_8, rc1, gi1, gl1, pi1, pl1, pz1, pr1, gr1_0, rc3, gi3, gl3, pi3, pl3, pz3, pr3, gr3_0, gr3_10, gr3_11, rc47, gi47, gl47, pi47, pl47, pz47, pr47, gr47_0, gr47_1, gr47_2, gr47_3, gr47_4, gr47_5, gr47_6, rc55, gi55, gl55, pi55, pl55, pz55, pr55, gr55_0, gr55_1, rc58, gi58, gl58, pi58, pl58, pz58, pr58, gr58_0, gr58_1, rc61, gi61, gl61, pi61, pl61, pz61, pr61, gr61_0, gr61_1, gr61_2, gr61_7, rc62, gi62, gl62, pi62, pl62, pz62, pr62, gr62_0, gr62_1, gr62_2, gr62_3, gr62_4, gr62_5, ld2, st2, an2, ld4, st4, an4, ld5, st5, an5, an6, ld48, st48, an48, ld49, st49, an49, ld50, st50, an50, ld51, st51, an51, ld52, st52, an52, ld53, st53, an53, ld54, st54, an54, ld56, st56, an56, ld57, st57, an57, ld59, st59, an59, ld60, st60, an60, ld63, st63, an63, ld64, st64, an64, ld65, st65, an65, ld66, st66, an66, ld67, st67, an67, ld68, st68, an68, ld69, st69, an69, ld70, st70, an70, rcct, gict, glct, pict, plct, pzct, prct, grct_0, grct_1, grct_2, grct_3, ldctm, stctm, anctm, ldctr, stctr, anctr, ldctp, stctp, anctp, anctR, rcru, giru, glru, piru, plru, pzru, prru, grru_7, ldcu, stcu, ancu, arct, ar6, rcro, giro, piro, pzro, grro_1, grro_2, grro_3, rcfo, gifo, pifo, pzfo, grfo_0, grfo_1, ldfop, stfop, anfop, ldfoe, stfoe, anfoe, Option.bind_some, if_true, if_false, n_0, n_1, n_2, n_3, n_4, n_5, n_6, n_7, n_8, n_9, n_10, n_12, n_15, n_20, n_24, n_32, n_48, n_57, n_59, n_80, n_97, n_99, n_100, n_122, n_680, n_700, n_999, n_1023, n_1024, iI_neg, iI_add, iI_sub, iI_lt, iI_le, iI_eq, show ((9 - d : Nat) : Int) < 10 by omega, h7, bt10_has hg10, ec, bI_0, eg1, a1, bI_and1]
    · simp only [if_true]
      have key := jfs (J := J) (P := Pst b f) (I := I) (body := Rank_partFrom_L32 S0 (Rank_partFrom S0 n) (some 47) (iI ((9 - d : Nat) : Int)) (iI (u : Int)) (iI (most : Int))) (fun I' => Agr (fun o => o ≠ 51) I I' ∧ row 51 hp I') (fun r I' => Agr (fun o => o ≠ 51) I I' ∧ row 51 r.1 I') (fun h => if Q (adg (hp h) (9 - d)) = true then prt Q cm most d (hpu hp h (9 - d)) (max u (h + 1)) else none) (min (u + 1) most) ⟨Agr.refl _ _, h51⟩ (by omega) (fun k I1 hk q1 => ?_) (fun I1 q1 => ?_)
      · obtain ⟨I1, a1, a2⟩ := key
        refine ⟨I1, ?_, ?_⟩
        · show Rank_partFrom_B S0 (Rank_partFrom S0 n) _ _ _ _ _ = _
          simp (maxSteps := 4000000) (disch := omega) only [Rank_partFrom_B, rc0, gi0, gl0, pi0, pl0, pz0, pr0, gr0_0, gr0_1, gr0_2, gr0_3, gr0_4, gr0_5, gr0_6, gr0_7, gr0_8, rc1, gi1, gl1, pi1, pl1, pz1, pr1, gr1_0, rc3, gi3, gl3, pi3, pl3, pz3, pr3, gr3_0, gr3_10, gr3_11, rc47, gi47, gl47, pi47, pl47, pz47, pr47, gr47_0, gr47_1, gr47_2, gr47_3, gr47_4, gr47_5, gr47_6, rc55, gi55, gl55, pi55, pl55, pz55, pr55, gr55_0, gr55_1, rc58, gi58, gl58, pi58, pl58, pz58, pr58, gr58_0, gr58_1, rc61, gi61, gl61, pi61, pl61, pz61, pr61, gr61_0, gr61_1, gr61_2, gr61_7, rc62, gi62, gl62, pi62, pl62, pz62, pr62, gr62_0, gr62_1, gr62_2, gr62_3, gr62_4, gr62_5, ld2, st2, an2, ld4, st4, an4, ld5, st5, an5, an6, ld48, st48, an48, ld49, st49, an49, ld50, st50, an50, ld51, st51, an51, ld52, st52, an52, ld53, st53, an53, ld54, st54, an54, ld56, st56, an56, ld57, st57, an57, ld59, st59, an59, ld60, st60, an60, ld63, st63, an63, ld64, st64, an64, ld65, st65, an65, ld66, st66, an66, ld67, st67, an67, ld68, st68, an68, ld69, st69, an69, ld70, st70, an70, rcct, gict, glct, pict, plct, pzct, prct, grct_0, grct_1, grct_2, grct_3, ldctm, stctm, anctm, ldctr, stctr, anctr, ldctp, stctp, anctp, anctR, rcru, giru, glru, piru, plru, pzru, prru, grru_7, ldcu, stcu, ancu, arct, ar6, rcro, giro, piro, pzro, grro_1, grro_2, grro_3, rcfo, gifo, pifo, pzfo, grfo_0, grfo_1, ldfop, stfop, anfop, ldfoe, stfoe, anfoe, Option.bind_some, if_true, if_false, n_0, n_1, n_2, n_3, n_4, n_5, n_6, n_7, n_8, n_9, n_10, n_12, n_15, n_20, n_24, n_32, n_48, n_57, n_59, n_80, n_97, n_99, n_100, n_122, n_680, n_700, n_999, n_1023, n_1024, iI_neg, iI_add, iI_sub, iI_lt, iI_le, iI_eq, show ((9 - d : Nat) : Int) < 10 by omega, h7, bt10_has hg10, ec, bI_0, Bool.true_eq_false, a1]
          cases fsO (fun h => if Q (adg (hp h) (9 - d)) = true then prt Q cm most d (hpu hp h (9 - d)) (max u (h + 1)) else none) (min (u + 1) most) <;> rfl
        · cases e : fsO (fun h => if Q (adg (hp h) (9 - d)) = true then prt Q cm most d (hpu hp h (9 - d)) (max u (h + 1)) else none) (min (u + 1) most) with
          | none => rw [e] at a2; exact a2
          | some r => rw [e] at a2; exact a2
      · have h48' : row 48 A I1 := h48.agr fun x => q1.1 48 (by omega) x
        have h49' : row 49 E I1 := h49.agr fun x => q1.1 49 (by omega) x
        have hf := cl_fits (J := J) (b := b) (f := f) (H := hp k) h48' h49' hg10
        rw [hfit (hp k) (9 - d) hg10 ec (fun y hy => ho.2 k y hy) (ho.1 k)] at hf
        have c1 : ¬ (u : Int) < (k : Int) := by omega
        have c2 : ¬ (most : Int) ≤ (k : Int) := by omega
        have c3 : ¬ (10 : Int) ≤ (k : Int) := by omega
        cases eq : Q (adg (hp k) (9 - d))
        · simp only [Bool.false_eq_true, if_false, Option.elim]
          refine ⟨I1, ?_, q1⟩
          simp (maxSteps := 4000000) (disch := omega) only [Rank_partFrom_L32, rc0, gi0, gl0, pi0, pl0, pz0, pr0, gr0_0, gr0_1, gr0_2, gr0_3, gr0_4, gr0_5, gr0_6, gr0_7, gr0_8, rc1, gi1, gl1, pi1, pl1, pz1, pr1, gr1_0, rc3, gi3, gl3, pi3, pl3, pz3, pr3, gr3_0, gr3_10, gr3_11, rc47, gi47, gl47, pi47, pl47, pz47, pr47, gr47_0, gr47_1, gr47_2, gr47_3, gr47_4, gr47_5, gr47_6, rc55, gi55, gl55, pi55, pl55, pz55, pr55, gr55_0, gr55_1, rc58, gi58, gl58, pi58, pl58, pz58, pr58, gr58_0, gr58_1, rc61, gi61, gl61, pi61, pl61, pz61, pr61, gr61_0, gr61_1, gr61_2, gr61_7, rc62, gi62, gl62, pi62, pl62, pz62, pr62, gr62_0, gr62_1, gr62_2, gr62_3, gr62_4, gr62_5, ld2, st2, an2, ld4, st4, an4, ld5, st5, an5, an6, ld48, st48, an48, ld49, st49, an49, ld50, st50, an50, ld51, st51, an51, ld52, st52, an52, ld53, st53, an53, ld54, st54, an54, ld56, st56, an56, ld57, st57, an57, ld59, st59, an59, ld60, st60, an60, ld63, st63, an63, ld64, st64, an64, ld65, st65, an65, ld66, st66, an66, ld67, st67, an67, ld68, st68, an68, ld69, st69, an69, ld70, st70, an70, rcct, gict, glct, pict, plct, pzct, prct, grct_0, grct_1, grct_2, grct_3, ldctm, stctm, anctm, ldctr, stctr, anctr, ldctp, stctp, anctp, anctR, rcru, giru, glru, piru, plru, pzru, prru, grru_7, ldcu, stcu, ancu, arct, ar6, rcro, giro, piro, pzro, grro_1, grro_2, grro_3, rcfo, gifo, pifo, pzfo, grfo_0, grfo_1, ldfop, stfop, anfop, ldfoe, stfoe, anfoe, Option.bind_some, if_true, if_false, n_0, n_1, n_2, n_3, n_4, n_5, n_6, n_7, n_8, n_9, n_10, n_12, n_15, n_20, n_24, n_32, n_48, n_57, n_59, n_80, n_97, n_99, n_100, n_122, n_680, n_700, n_999, n_1023, n_1024, iI_neg, iI_add, iI_sub, iI_lt, iI_le, iI_eq, c1, c2, c3, Int.toNat_natCast, q1.2 k (by omega), hf, eq, bI_0]
        · simp only [if_true]
          have hrow : row 51 (hpu hp k (9 - d)) (hup I1 51 k (iI (bt 10 (adg (hp k) (9 - d)) : Int))) := by
            have := row.up (R := hpu hp k (9 - d)) (x := k) q1.2 fun z y hz _ _ => by rw [hpu_ne hz]
            rwa [hpu_same] at this
          have hag : Agr (fun o => o ≠ 51) I1 (hup I1 51 k (iI (bt 10 (adg (hp k) (9 - d)) : Int))) := (Agr.refl _ _).hup (by omega)
          obtain ⟨I2, a1, a2, a3⟩ := cl_part hfit hmost d n (hpu hp k (9 - d)) (max u (k + 1)) (hup I1 51 k (iI (bt 10 (adg (hp k) (9 - d)) : Int))) (by omega) (by omega) (by omega) (h48'.agr fun x => hag 48 (by omega) x) (h49'.agr fun x => hag 49 (by omega) x) ((hag 47 (by omega) 7).trans ((q1.1 47 (by omega) 7).trans h7)) hrow (by rw [← eg2]; exact hok_up ho ec eq)
          have hor : iI (bt 10 (hp k) : Int) ||| iI (bt 10 (fun y => decide (y = 9 - d)) : Int) = iI (bt 10 (adg (hp k) (9 - d)) : Int) := sI_or _ _ _
          cases er : prt Q cm most d (hpu hp k (9 - d)) (max u (k + 1)) with
          | none =>
            rw [er] at a1 a3
            have h3 : I2 51 k &&& (iI (bt 10 (fun y => decide (y = 9 - d)) : Int) ^^^ iI (-1)) = iI (bt 10 (hp k) : Int) := by
              rw [a3 k (by omega), hpu_same, sI_andn]
              refine sI_ext fun y _ => ?_
              by_cases q : y = 9 - d
              · have : hp k y = false := by
                  cases e : hp k y
                  · rfl
                  · have := (ho.2 k y e).1; omega
                simp [adg, q]
                rw [← q]; exact this
              · simp [adg, q]
            refine ⟨hup I2 51 k (iI (bt 10 (hp k) : Int)), ?_, (q1.1.trans (hag.trans a2)).hup (by omega), ?_⟩
            · simp (maxSteps := 4000000) (disch := omega) only [Rank_partFrom_L32, rc0, gi0, gl0, pi0, pl0, pz0, pr0, gr0_0, gr0_1, gr0_2, gr0_3, gr0_4, gr0_5, gr0_6, gr0_7, gr0_8, rc1, gi1, gl1, pi1, pl1, pz1, pr1, gr1_0, rc3, gi3, gl3, pi3, pl3, pz3, pr3, gr3_0, gr3_10, gr3_11, rc47, gi47, gl47, pi47, pl47, pz47, pr47, gr47_0, gr47_1, gr47_2, gr47_3, gr47_4, gr47_5, gr47_6, rc55, gi55, gl55, pi55, pl55, pz55, pr55, gr55_0, gr55_1, rc58, gi58, gl58, pi58, pl58, pz58, pr58, gr58_0, gr58_1, rc61, gi61, gl61, pi61, pl61, pz61, pr61, gr61_0, gr61_1, gr61_2, gr61_7, rc62, gi62, gl62, pi62, pl62, pz62, pr62, gr62_0, gr62_1, gr62_2, gr62_3, gr62_4, gr62_5, ld2, st2, an2, ld4, st4, an4, ld5, st5, an5, an6, ld48, st48, an48, ld49, st49, an49, ld50, st50, an50, ld51, st51, an51, ld52, st52, an52, ld53, st53, an53, ld54, st54, an54, ld56, st56, an56, ld57, st57, an57, ld59, st59, an59, ld60, st60, an60, ld63, st63, an63, ld64, st64, an64, ld65, st65, an65, ld66, st66, an66, ld67, st67, an67, ld68, st68, an68, ld69, st69, an69, ld70, st70, an70, rcct, gict, glct, pict, plct, pzct, prct, grct_0, grct_1, grct_2, grct_3, ldctm, stctm, anctm, ldctr, stctr, anctr, ldctp, stctp, anctp, anctR, rcru, giru, glru, piru, plru, pzru, prru, grru_7, ldcu, stcu, ancu, arct, ar6, rcro, giro, piro, pzro, grro_1, grro_2, grro_3, rcfo, gifo, pifo, pzfo, grfo_0, grfo_1, ldfop, stfop, anfop, ldfoe, stfoe, anfoe, Option.bind_some, if_true, if_false, n_0, n_1, n_2, n_3, n_4, n_5, n_6, n_7, n_8, n_9, n_10, n_12, n_15, n_20, n_24, n_32, n_48, n_57, n_59, n_80, n_97, n_99, n_100, n_122, n_680, n_700, n_999, n_1023, n_1024, iI_neg, iI_add, iI_sub, iI_lt, iI_le, iI_eq, c1, c2, c3, Int.toNat_natCast, q1.2 k (by omega), hf, eq, bI_0, Bool.true_eq_false, sI_one hg10, hor, eg1, mxI (show u < 1000 by omega) (show k < 1000 by omega), a1, Option.isSome_none, h3, Option.elim]
            · have := row.up (R := hp) (x := k) a3 fun z y hz _ _ => by rw [hpu_ne hz]
              exact this
          | some r =>
            rw [er] at a1 a3
            refine ⟨I2, ?_, q1.1.trans (hag.trans a2), a3⟩
            simp (maxSteps := 4000000) (disch := omega) only [Rank_partFrom_L32, rc0, gi0, gl0, pi0, pl0, pz0, pr0, gr0_0, gr0_1, gr0_2, gr0_3, gr0_4, gr0_5, gr0_6, gr0_7, gr0_8, rc1, gi1, gl1, pi1, pl1, pz1, pr1, gr1_0, rc3, gi3, gl3, pi3, pl3, pz3, pr3, gr3_0, gr3_10, gr3_11, rc47, gi47, gl47, pi47, pl47, pz47, pr47, gr47_0, gr47_1, gr47_2, gr47_3, gr47_4, gr47_5, gr47_6, rc55, gi55, gl55, pi55, pl55, pz55, pr55, gr55_0, gr55_1, rc58, gi58, gl58, pi58, pl58, pz58, pr58, gr58_0, gr58_1, rc61, gi61, gl61, pi61, pl61, pz61, pr61, gr61_0, gr61_1, gr61_2, gr61_7, rc62, gi62, gl62, pi62, pl62, pz62, pr62, gr62_0, gr62_1, gr62_2, gr62_3, gr62_4, gr62_5, ld2, st2, an2, ld4, st4, an4, ld5, st5, an5, an6, ld48, st48, an48, ld49, st49, an49, ld50, st50, an50, ld51, st51, an51, ld52, st52, an52, ld53, st53, an53, ld54, st54, an54, ld56, st56, an56, ld57, st57, an57, ld59, st59, an59, ld60, st60, an60, ld63, st63, an63, ld64, st64, an64, ld65, st65, an65, ld66, st66, an66, ld67, st67, an67, ld68, st68, an68, ld69, st69, an69, ld70, st70, an70, rcct, gict, glct, pict, plct, pzct, prct, grct_0, grct_1, grct_2, grct_3, ldctm, stctm, anctm, ldctr, stctr, anctr, ldctp, stctp, anctp, anctR, rcru, giru, glru, piru, plru, pzru, prru, grru_7, ldcu, stcu, ancu, arct, ar6, rcro, giro, piro, pzro, grro_1, grro_2, grro_3, rcfo, gifo, pifo, pzfo, grfo_0, grfo_1, ldfop, stfop, anfop, ldfoe, stfoe, anfoe, Option.bind_some, if_true, if_false, n_0, n_1, n_2, n_3, n_4, n_5, n_6, n_7, n_8, n_9, n_10, n_12, n_15, n_20, n_24, n_32, n_48, n_57, n_59, n_80, n_97, n_99, n_100, n_122, n_680, n_700, n_999, n_1023, n_1024, iI_neg, iI_add, iI_sub, iI_lt, iI_le, iI_eq, c1, c2, c3, Int.toNat_natCast, q1.2 k (by omega), hf, eq, bI_0, Bool.true_eq_false, sI_one hg10, hor, eg1, mxI (show u < 1000 by omega) (show k < 1000 by omega), a1, Option.isSome_some, Option.elim]
      · by_cases q : (u : Int) < ((min (u + 1) most : Nat) : Int)
        · simp (maxSteps := 4000000) (disch := omega) only [Rank_partFrom_L32, Option.bind_some, if_true, if_false, n_0, n_1, n_2, n_3, n_4, n_5, n_6, n_7, n_8, n_9, n_10, n_12, n_15, n_20, n_24, n_32, n_48, n_57, n_59, n_80, n_97, n_99, n_100, n_122, n_680, n_700, n_999, n_1023, n_1024, iI_neg, iI_add, iI_sub, iI_lt, iI_le, iI_eq, q]
        · simp (maxSteps := 4000000) (disch := omega) only [Rank_partFrom_L32, Option.bind_some, if_true, if_false, n_0, n_1, n_2, n_3, n_4, n_5, n_6, n_7, n_8, n_9, n_10, n_12, n_15, n_20, n_24, n_32, n_48, n_57, n_59, n_80, n_97, n_99, n_100, n_122, n_680, n_700, n_999, n_1023, n_1024, iI_neg, iI_add, iI_sub, iI_lt, iI_le, iI_eq, q, show (most : Int) ≤ ((min (u + 1) most : Nat) : Int) by omega]
end
