/-! ===== layer 2: groups; rounds, class's side ===== -/
section
variable {T : Tb} {I I' I'' : Nat → Nat → Int32} {J : Nat → Nat → Int64} {b : Bool} {f k n N x y z g t s doors a : Nat} {P : Nat → Nat → Option Nat} {m w : Int} {A E : Nat → Nat → Bool} {W C cm : Nat → Bool}
/-- who hangs together with g, and the least of them -/
def cpn (E : Nat → Nat → Bool) (g y : Nat) : Bool := anyb 10 (fun n => wk E n g y)
def ldr (E : Nat → Nat → Bool) (g : Nat) : Nat := lowP (cpn E g)
theorem cpn_wk (hg : g < 10) (hy : y < 10) (h : wk E n g y = true) : cpn E g y = true := by
  obtain ⟨k, h1, h2⟩ := wk_short hy hg h
  exact anyb_iff.mpr ⟨k, by omega, h2⟩
theorem cpn_is (h : cpn E g y = true) : ∃ n, n < 10 ∧ wk E n g y = true := anyb_iff.mp h
theorem cpn_refl : cpn E g g = true := anyb_iff.mpr ⟨0, by omega, wk_0.mpr rfl⟩
theorem wk_rev (hE : ∀ x y, E x y = E y x) : ∀ {n x}, x < 10 → y < 10 → wk E n x y = true → wk E n y x = true
  | 0, x, _, _, h => wk_0.mpr (wk_0.mp h).symm
  | n + 1, x, hx, hy, h => by
    obtain ⟨z, h1, h2, h3⟩ := wk_s.mp h
    exact (wk_snoc hy hx).mpr ⟨z, h1, wk_rev hE h1 hy h3, by rw [hE]; exact h2⟩
theorem cpn_sym (hE : ∀ x y, E x y = E y x) (hg : g < 10) (hy : y < 10) (h : cpn E g y = true) : cpn E y g = true := by
  obtain ⟨n, h1, h2⟩ := cpn_is h
  exact anyb_iff.mpr ⟨n, h1, wk_rev hE hg hy h2⟩
theorem cpn_trans (hg : g < 10) (hz : z < 10) (h : cpn E g y = true) (h' : cpn E y z = true) : cpn E g z = true := by
  obtain ⟨n, h1, h2⟩ := cpn_is h
  obtain ⟨k, h3, h4⟩ := cpn_is h'
  exact cpn_wk hg hz (wk_add h2 h4)
theorem ldr_is (hg : g < 10) : ldr E g < 10 ∧ cpn E g (ldr E g) = true ∧ ∀ y, y < 10 → cpn E g y = true → ldr E g ≤ y := by
  have h := lowP_lt (p := cpn E g) (anyb_iff.mpr ⟨g, hg, cpn_refl⟩)
  refine ⟨h.1, h.2.2, fun y hy hc => ?_⟩
  rcases Nat.lt_or_ge y (ldr E g) with q | q
  · have e : ldr E g = fst_ 10 (cpn E g) := h.2.1
    have := fst_not (p := cpn E g) (n := 10) (k := y) (by omega)
    rw [hc] at this; cases this
  · exact q
theorem ldr_eq (hE : ∀ x y, E x y = E y x) (hg : g < 10) (hy : y < 10) (h : cpn E g y = true) : ldr E g = ldr E y := by
  have h1 := ldr_is (E := E) hg
  have h2 := ldr_is (E := E) hy
  have h3 := h1.2.2 _ h2.1 (cpn_trans hg h2.1 h h2.2.1)
  have h4 := h2.2.2 _ h1.1 (cpn_trans hy h1.1 (cpn_sym hE hg hy h) h1.2.1)
  omega
theorem ldr_ldr (hE : ∀ x y, E x y = E y x) (hg : g < 10) : ldr E (ldr E g) = ldr E g := by
  have h1 := ldr_is (E := E) hg
  exact (ldr_eq hE hg h1.1 h1.2.1).symm
theorem cpn_cm (hc : ∀ x y, E x y = true → cm x = true ∧ cm y = true) (hg : g < 10) (hy : y < 10) (h : cpn E g y = true) (h1 : cm g = true) : cm y = true := by
  obtain ⟨n, _, h2⟩ := cpn_is h
  cases n with
  | zero => rw [← wk_0.mp h2]; exact h1
  | succ n =>
    obtain ⟨z, _, _, h3⟩ := (wk_snoc hg hy).mp h2
    exact (hc _ _ h3).2
theorem ldO_id (hE : ∀ x y, E x y = E y x) (hc : ∀ x y, E x y = true → cm x = true ∧ cm y = true) : ldO cm (ldr E) id 10 := by
  refine ⟨fun y hy h => ?_, fun y z _ _ _ _ h => ?_, fun y hy _ => ?_⟩
  rotate_left
  · simp only [id_eq] at h
    exact h
  · simp only [id_eq]
    exact (ldr_is (E := E) hy).1
  have h1 := ldr_is (E := E) hy
  exact ⟨h1.1, cpn_cm hc hy h1.1 h1.2.1 h, ldr_ldr hE hy⟩
/-! the class gathers a group -/
def psE (E : Nat → Nat → Bool) (W : Nat → Bool) : Nat → Nat → Bool
  | 0 => W
  | x + 1 => fun y => psE E W x y || (psE E W x x && E x y)
theorem psE_up : ∀ {x y}, W y = true → psE E W x y = true
  | 0, _, h => h
  | x + 1, y, h => by
    show (psE E W x y || _) = true
    rw [psE_up h]; rfl
theorem psE_up2 (h : psE E W x y = true) : ∀ d, psE E W (x + d) y = true
  | 0 => h
  | d + 1 => by
    show (psE E W (x + d) y || _) = true
    rw [psE_up2 h d]; rfl
theorem psE_nb (hx : x < 10) (h : W x = true) (he : E x y = true) : psE E W 10 y = true := by
  have h1 : psE E W (x + 1) y = true := by
    show (psE E W x y || (psE E W x x && E x y)) = true
    rw [psE_up (x := x) h, he]; simp
  have := psE_up2 h1 (9 - x)
  rwa [show x + 1 + (9 - x) = 10 by omega] at this
theorem psE_in (hC : ∀ x y, x < 10 → C x = true → E x y = true → C y = true) (hW : ∀ y, W y = true → C y = true) : ∀ x, x ≤ 10 → ∀ y, psE E W x y = true → C y = true
  | 0, _, y, h => hW y h
  | x + 1, hx, y, h => by
    have h' : (psE E W x y || (psE E W x x && E x y)) = true := h
    simp only [Bool.or_eq_true, Bool.and_eq_true] at h'
    rcases h' with q | ⟨q1, q2⟩
    · exact psE_in hC hW x (by omega) y q
    · exact hC x y (by omega) (psE_in hC hW x (by omega) x q1) q2
def hgn (E : Nat → Nat → Bool) (g : Nat) : Nat → Nat → Bool
  | 0 => fun y => decide (y = g)
  | k + 1 => psE E (hgn E g k) 10
theorem hgn_up (hg : g < 10) : ∀ {k y}, y < 10 → wk E k g y = true → hgn E g k y = true
  | 0, y, _, h => by rw [← wk_0.mp h]; simp [hgn]
  | k + 1, y, hy, h => by
    obtain ⟨z, h1, h2, h3⟩ := (wk_snoc hg hy).mp h
    exact psE_nb h1 (hgn_up hg h1 h2) h3
theorem hgn_mono (k : Nat) (h : hgn E g k y = true) : ∀ d, hgn E g (k + d) y = true
  | 0 => h
  | d + 1 => psE_up (x := 10) (hgn_mono k h d)
theorem hgn_10 (hg : g < 10) (hE : ∀ x y, E x y = true → y < 10) (hy : y < 10) : hgn E g 10 y = cpn E g y := by
  rw [Bool.eq_iff_iff]
  constructor
  · have : ∀ k y, hgn E g k y = true → y < 10 ∧ cpn E g y = true := by
      intro k
      induction k with
      | zero =>
        intro y h
        have e : y = g := by simpa [hgn] using h
        rw [e]; exact ⟨hg, cpn_refl⟩
      | succ k ih =>
        intro y h
        have h1 := psE_in (C := fun y => decide (y < 10) && cpn E g y) (fun x y hx hc he => by
          simp only [Bool.and_eq_true, decide_eq_true_eq] at hc ⊢
          exact ⟨hE _ _ he, cpn_trans hg (hE _ _ he) hc.2 (cpn_wk hx (hE _ _ he) (wk_1 he (hE _ _ he)))⟩) (fun y hy => by
          have := ih y hy
          simp [this.1, this.2]) 10 (by omega) y h
        simpa using h1
    intro h; exact (this 10 y h).2
  · intro h
    obtain ⟨n, h1, h2⟩ := cpn_is h
    have := hgn_mono n (hgn_up hg hy h2) (10 - n)
    rwa [show n + (10 - n) = 10 by omega] at this
theorem cl_pass (h : row 49 E I) : jloop (Rank_hangingWith_L15 S0 (some 47) (I, J, Pst b f)) jN (iI (bt 10 W : Int), iI 0) = some (iI (bt 10 (psE E W 10) : Int)) := by
  refine jgather (fun k => iI (bt 10 (psE E W k) : Int)) 10 (fun k hk => ?_) ?_ (by omega)
  · simp (maxSteps := 4000000) (disch := omega) only [Rank_hangingWith_L15, rc0, gi0, gl0, pi0, pl0, pz0, pr0, gr0_0, gr0_1, gr0_2, gr0_3, gr0_4, gr0_5, gr0_6, gr0_7, gr0_8, rc1, gi1, gl1, pi1, pl1, pz1, pr1, gr1_0, rc3, gi3, gl3, pi3, pl3, pz3, pr3, gr3_0, gr3_10, gr3_11, rc47, gi47, gl47, pi47, pl47, pz47, pr47, gr47_0, gr47_1, gr47_2, gr47_3, gr47_4, gr47_5, gr47_6, rc55, gi55, gl55, pi55, pl55, pz55, pr55, gr55_0, gr55_1, rc58, gi58, gl58, pi58, pl58, pz58, pr58, gr58_0, gr58_1, rc61, gi61, gl61, pi61, pl61, pz61, pr61, gr61_0, gr61_1, gr61_2, gr61_7, rc62, gi62, gl62, pi62, pl62, pz62, pr62, gr62_0, gr62_1, gr62_2, gr62_3, gr62_4, gr62_5, ld2, st2, an2, ld4, st4, an4, ld5, st5, an5, an6, ld48, st48, an48, ld49, st49, an49, ld50, st50, an50, ld51, st51, an51, ld52, st52, an52, ld53, st53, an53, ld54, st54, an54, ld56, st56, an56, ld57, st57, an57, ld59, st59, an59, ld60, st60, an60, ld63, st63, an63, ld64, st64, an64, ld65, st65, an65, ld66, st66, an66, ld67, st67, an67, ld68, st68, an68, ld69, st69, an69, ld70, st70, an70, rcct, gict, glct, pict, plct, pzct, prct, grct_0, grct_1, grct_2, grct_3, ldctm, stctm, anctm, ldctr, stctr, anctr, ldctp, stctp, anctp, anctR, rcru, giru, glru, piru, plru, pzru, prru, grru_7, ldcu, stcu, ancu, arct, ar6, rcro, giro, piro, pzro, grro_1, grro_2, grro_3, rcfo, gifo, pifo, pzfo, grfo_0, grfo_1, ldfop, stfop, anfop, ldfoe, stfoe, anfoe, Option.bind_some, if_true, if_false, n_0, n_1, n_2, n_3, n_4, n_5, n_6, n_7, n_8, n_9, n_10, n_12, n_15, n_20, n_24, n_32, n_48, n_57, n_59, n_80, n_97, n_99, n_100, n_122, n_680, n_700, n_999, n_1023, n_1024, iI_neg, iI_add, iI_sub, iI_lt, iI_le, iI_eq, show ¬ (10 : Int) ≤ (k : Int) by omega, bt10_has hk, bI_0, Int.toNat_natCast, h k hk, sI_or]
    cases e : psE E W k k
    · simp only [Option.bind_some, if_true, if_false]
      rw [sI_ext (q := psE E W (k + 1)) fun y _ => by show _ = (psE E W k y || (psE E W k k && E k y)); simp [e]]
    · simp only [Bool.true_eq_false, Option.bind_some, if_true, if_false]
      rw [sI_ext (q := psE E W (k + 1)) fun y _ => by show _ = (psE E W k y || (psE E W k k && E k y)); simp [e]]
  · simp (maxSteps := 4000000) (disch := omega) only [Rank_hangingWith_L15, Option.bind_some, if_true, if_false, n_0, n_1, n_2, n_3, n_4, n_5, n_6, n_7, n_8, n_9, n_10, n_12, n_15, n_20, n_24, n_32, n_48, n_57, n_59, n_80, n_97, n_99, n_100, n_122, n_680, n_700, n_999, n_1023, n_1024, iI_neg, iI_add, iI_sub, iI_lt, iI_le, iI_eq, show (10 : Int) ≤ ((10 : Nat) : Int) by omega]
theorem cl_hang (h : row 49 E I) (hE : ∀ x y, E x y = true → y < 10) (hg : g < 10) : Rank_hangingWith S0 (some 47) (iI (g : Int)) (I, J, Pst b f) = some (iI (bt 10 (cpn E g) : Int)) := by
  have e := jgather (body := Rank_hangingWith_L6 S0 (some 47) (I, J, Pst b f)) (fun k => iI (bt 10 (hgn E g k) : Int)) 10 (fun k hk => ?_) ?_ (by omega)
  · have e0 : iI (bt 10 (hgn E g 10) : Int) = iI (bt 10 (cpn E g) : Int) := sI_ext fun y hy => hgn_10 hg hE hy
    have e' : jloop (Rank_hangingWith_L6 S0 (some 47) (I, J, Pst b f)) jN (iI (bt 10 (fun y => decide (y = g)) : Int), iI 0) = some (iI (bt 10 (cpn E g) : Int)) := by rw [← e0]; exact e
    simp only [Rank_hangingWith, rc0, gi0, gl0, pi0, pl0, pz0, pr0, gr0_0, gr0_1, gr0_2, gr0_3, gr0_4, gr0_5, gr0_6, gr0_7, gr0_8, rc1, gi1, gl1, pi1, pl1, pz1, pr1, gr1_0, rc3, gi3, gl3, pi3, pl3, pz3, pr3, gr3_0, gr3_10, gr3_11, rc47, gi47, gl47, pi47, pl47, pz47, pr47, gr47_0, gr47_1, gr47_2, gr47_3, gr47_4, gr47_5, gr47_6, rc55, gi55, gl55, pi55, pl55, pz55, pr55, gr55_0, gr55_1, rc58, gi58, gl58, pi58, pl58, pz58, pr58, gr58_0, gr58_1, rc61, gi61, gl61, pi61, pl61, pz61, pr61, gr61_0, gr61_1, gr61_2, gr61_7, rc62, gi62, gl62, pi62, pl62, pz62, pr62, gr62_0, gr62_1, gr62_2, gr62_3, gr62_4, gr62_5, ld2, st2, an2, ld4, st4, an4, ld5, st5, an5, an6, ld48, st48, an48, ld49, st49, an49, ld50, st50, an50, ld51, st51, an51, ld52, st52, an52, ld53, st53, an53, ld54, st54, an54, ld56, st56, an56, ld57, st57, an57, ld59, st59, an59, ld60, st60, an60, ld63, st63, an63, ld64, st64, an64, ld65, st65, an65, ld66, st66, an66, ld67, st67, an67, ld68, st68, an68, ld69, st69, an69, ld70, st70, an70, rcct, gict, glct, pict, plct, pzct, prct, grct_0, grct_1, grct_2, grct_3, ldctm, stctm, anctm, ldctr, stctr, anctr, ldctp, stctp, anctp, anctR, rcru, giru, glru, piru, plru, pzru, prru, grru_7, ldcu, stcu, ancu, arct, ar6, rcro, giro, piro, pzro, grro_1, grro_2, grro_3, rcfo, gifo, pifo, pzfo, grfo_0, grfo_1, ldfop, stfop, anfop, ldfoe, stfoe, anfoe, Option.bind_some, if_true, if_false, n_0, n_1, sI_one hg, e']
  · simp (maxSteps := 4000000) (disch := omega) only [Rank_hangingWith_L6, Option.bind_some, if_true, if_false, n_0, n_1, n_2, n_3, n_4, n_5, n_6, n_7, n_8, n_9, n_10, n_12, n_15, n_20, n_24, n_32, n_48, n_57, n_59, n_80, n_97, n_99, n_100, n_122, n_680, n_700, n_999, n_1023, n_1024, iI_neg, iI_add, iI_sub, iI_lt, iI_le, iI_eq, show ¬ (10 : Int) ≤ (k : Int) by omega, cl_pass h]
    rfl
  · simp (maxSteps := 4000000) (disch := omega) only [Rank_hangingWith_L6, Option.bind_some, if_true, if_false, n_0, n_1, n_2, n_3, n_4, n_5, n_6, n_7, n_8, n_9, n_10, n_12, n_15, n_20, n_24, n_32, n_48, n_57, n_59, n_80, n_97, n_99, n_100, n_122, n_680, n_700, n_999, n_1023, n_1024, iI_neg, iI_add, iI_sub, iI_lt, iI_le, iI_eq, show (10 : Int) ≤ ((10 : Nat) : Int) by omega]
/-- who goes in together with g -/
def tg (cm : Nat → Bool) (E : Nat → Nat → Bool) (g y : Nat) : Bool := cm g && cpn E g y
def lea (cm : Nat → Bool) (E : Nat → Nat → Bool) (g : Nat) : Bool := cm g && decide (ldr E g = g)
theorem tg_low (hg : g < 10) : (lowP (tg cm E g) = g) ↔ lea cm E g = true := by
  unfold lea
  cases e : cm g
  · have : lowP (tg cm E g) = 32 := lowP_no (anyb_not.mpr fun y _ => by simp [tg, e])
    rw [this]
    simp
    omega
  · have : tg cm E g = cpn E g := by funext y; simp [tg, e]
    rw [this, Bool.true_and]
    exact decide_eq_true_iff.symm
theorem cl_form1 (h49 : row 49 E I) (h7 : I 47 7 = iI (bt 10 cm : Int)) (hE : ∀ x y, E x y = true → y < 10) : ∃ I', jloop (Rank_formGroups_L4 S0 (some 47)) jN (iI 0, iI 0, (I, J, Pst b f)) = some (iI (bt 10 (lea cm E) : Int), (I', J, Pst b f)) ∧ Agr (fun o => o ≠ 52) I I' ∧ row 52 (tg cm E) I' := by
  have key := jinv (body := Rank_formGroups_L4 S0 (some 47)) (s0 := (iI 0, iI 0, (I, J, Pst b f))) (fun k s => ∃ I', s = (iI (bt 10 (fun x => decide (x < k) && lea cm E x) : Int), iI (k : Int), (I', J, Pst b f)) ∧ Agr (fun o => o ≠ 52) I I' ∧ ∀ x, x < k → I' 52 x = iI (bt 10 (tg cm E x) : Int)) (fun r => ∃ I', r = (iI (bt 10 (lea cm E) : Int), (I', J, Pst b f)) ∧ Agr (fun o => o ≠ 52) I I' ∧ row 52 (tg cm E) I') 10 ⟨I, ?_, Agr.refl _ _, fun x hx => by omega⟩ (fun k s hk hs => ?_) (fun s hs => ?_) (by omega)
  · obtain ⟨r, h1, I1, h2, h3, h4⟩ := key
    exact ⟨I1, by rw [h1, h2], h3, h4⟩
  · rw [sI_z]
    refine Prod.ext (sI_ext fun x _ => by simp) rfl
  · obtain ⟨I1, rfl, h3, h4⟩ := hs
    have h49' : row 49 E I1 := h49.agr fun x => h3 49 (by omega) x
    have h7' := (h3 47 (by omega) 7).trans h7
    have hj : ((if cm k = false then some (iI 0) else some (iI (bt 10 (cpn E k) : Int))) : Option Int32) = some (iI (bt 10 (tg cm E k) : Int)) := by
      cases e : cm k
      · simp only [if_true]
        rw [sI_z]
        exact congrArg some (sI_ext fun y _ => by simp [tg, e])
      · simp only [Bool.true_eq_false, if_false]
        exact congrArg some (sI_ext fun y _ => by simp [tg, e])
    have hlow := sI_low (tg cm E k)
    have hlv : lowP (tg cm E k) ≤ 32 := by unfold lowP; split <;> omega
    have htl := tg_low (cm := cm) (E := E) hk
    refine ⟨.inl (iI (bt 10 (fun x => decide (x < k + 1) && lea cm E x) : Int), iI ((k + 1 : Nat) : Int), (hup I1 52 k (iI (bt 10 (tg cm E k) : Int)), J, Pst b f)), ?_, _, rfl, h3.hup (by omega), fun x hx => ?_⟩
    · simp (maxSteps := 4000000) (disch := omega) only [Rank_formGroups_L4, rc0, gi0, gl0, pi0, pl0, pz0, pr0, gr0_0, gr0_1, gr0_2, gr0_3, gr0_4, gr0_5, gr0_6, gr0_7, gr0_8, rc1, gi1, gl1, pi1, pl1, pz1, pr1, gr1_0, rc3, gi3, gl3, pi3, pl3, pz3, pr3, gr3_0, gr3_10, gr3_11, rc47, gi47, gl47, pi47, pl47, pz47, pr47, gr47_0, gr47_1, gr47_2, gr47_3, gr47_4, gr47_5, gr47_6, rc55, gi55, gl55, pi55, pl55, pz55, pr55, gr55_0, gr55_1, rc58, gi58, gl58, pi58, pl58, pz58, pr58, gr58_0, gr58_1, rc61, gi61, gl61, pi61, pl61, pz61, pr61, gr61_0, gr61_1, gr61_2, gr61_7, rc62, gi62, gl62, pi62, pl62, pz62, pr62, gr62_0, gr62_1, gr62_2, gr62_3, gr62_4, gr62_5, ld2, st2, an2, ld4, st4, an4, ld5, st5, an5, an6, ld48, st48, an48, ld49, st49, an49, ld50, st50, an50, ld51, st51, an51, ld52, st52, an52, ld53, st53, an53, ld54, st54, an54, ld56, st56, an56, ld57, st57, an57, ld59, st59, an59, ld60, st60, an60, ld63, st63, an63, ld64, st64, an64, ld65, st65, an65, ld66, st66, an66, ld67, st67, an67, ld68, st68, an68, ld69, st69, an69, ld70, st70, an70, rcct, gict, glct, pict, plct, pzct, prct, grct_0, grct_1, grct_2, grct_3, ldctm, stctm, anctm, ldctr, stctr, anctr, ldctp, stctp, anctp, anctR, rcru, giru, glru, piru, plru, pzru, prru, grru_7, ldcu, stcu, ancu, arct, ar6, rcro, giro, piro, pzro, grro_1, grro_2, grro_3, rcfo, gifo, pifo, pzfo, grfo_0, grfo_1, ldfop, stfop, anfop, ldfoe, stfoe, anfoe, Option.bind_some, if_true, if_false, n_0, n_1, n_2, n_3, n_4, n_5, n_6, n_7, n_8, n_9, n_10, n_12, n_15, n_20, n_24, n_32, n_48, n_57, n_59, n_80, n_97, n_99, n_100, n_122, n_680, n_700, n_999, n_1023, n_1024, iI_neg, iI_add, iI_sub, iI_lt, iI_le, iI_eq, show ¬ (10 : Int) ≤ (k : Int) by omega, h7', bt10_has hk, bI_0, cl_hang h49' hE hk, hj, Int.toNat_natCast, hup_same, hlow, sI_one hk, sI_or]
      cases e : lea cm E k
      · have hne : ¬ (lowP (tg cm E k) : Int) = (k : Int) := fun q => by
          have := htl.mp (by omega)
          rw [e] at this; cases this
        rw [if_neg hne, sI_ext (q := fun x => decide (x < k + 1) && lea cm E x) fun x _ => by
          by_cases q : x = k
          · subst q; simp [e]
          · simp only [lt_sk x k q]]
        rfl
      · have hq : (lowP (tg cm E k) : Int) = (k : Int) := by have := htl.mpr e; omega
        rw [if_pos hq, sI_ext (q := fun x => decide (x < k + 1) && lea cm E x) fun x _ => by
          by_cases q : x = k
          · subst q; simp [e]
          · simp [lt_sk x k q, q]]
        rfl
    · by_cases e : x = k
      · subst e; rw [hup_same]
      · rw [hup_ix _ _ _ e]; exact h4 x (by omega)
  · obtain ⟨I1, rfl, h3, h4⟩ := hs
    refine ⟨.inr (iI (bt 10 (lea cm E) : Int), (I1, J, Pst b f)), ?_, I1, rfl, h3, h4⟩
    simp (maxSteps := 4000000) (disch := omega) only [Rank_formGroups_L4, Option.bind_some, if_true, if_false, n_0, n_1, n_2, n_3, n_4, n_5, n_6, n_7, n_8, n_9, n_10, n_12, n_15, n_20, n_24, n_32, n_48, n_57, n_59, n_80, n_97, n_99, n_100, n_122, n_680, n_700, n_999, n_1023, n_1024, iI_neg, iI_add, iI_sub, iI_lt, iI_le, iI_eq, show (10 : Int) ≤ ((10 : Nat) : Int) by omega]
    rw [sI_ext (q := lea cm E) fun x hx => by simp [hx]]
set_option maxRecDepth 100000 in
theorem lowbK : ∀ A : Nat, A < 1024 → iI (A : Int) &&& (-(iI (A : Int))) = iI ((if lowN A < 10 then 2 ^ lowN A else 0 : Nat) : Int) := by decide +kernel
theorem sI_lowb (p : Nat → Bool) : iI (bt 10 p : Int) &&& (-(iI (bt 10 p : Int))) = iI (bt 10 (fun l => decide (l = lowP p)) : Int) := by
  have e : lowN (bt 10 p) = lowP p := by rw [lowN, lowP, fst_ext (p := (bt 10 p).testBit) (q := p) fun k hk => by rw [bt_bit]; simp [hk]]
  rw [lowbK _ (bt10 p), e]
  by_cases q : lowP p < 10
  · rw [if_pos q, bt_one q]
  · rw [if_neg q]
    show iI 0 = _
    rw [sI_z]
    exact sI_ext fun l hl => by simp; omega
theorem sI_lowc (p : Nat → Bool) : iI (bt 10 p : Int) &&& iI (-(bt 10 p : Int)) = iI (bt 10 (fun l => decide (l = lowP p)) : Int) := by rw [← iI_neg]; exact sI_lowb p
/-- the leaders of those of S -/
def lds (cm : Nat → Bool) (E : Nat → Nat → Bool) (S : Nat → Bool) (l : Nat) : Bool := anyb 10 (fun x => S x && (cm x && decide (l = ldr E x)))
theorem cl_leadersOf (h : row 52 (tg cm E) I) : Rank_leadersOf S0 (some 47) (iI (bt 10 W : Int)) (I, J, Pst b f) = some (iI (bt 10 (lds cm E W) : Int)) := by
  have e := jgather (body := Rank_leadersOf_L4 S0 (some 47) (iI (bt 10 W : Int)) (I, J, Pst b f)) (fun k => iI (bt 10 (fun l => anyb k (fun x => W x && (cm x && decide (l = ldr E x)))) : Int)) 10 (fun k hk => ?_) ?_ (by omega)
  · have e' : jloop (Rank_leadersOf_L4 S0 (some 47) (iI (bt 10 W : Int)) (I, J, Pst b f)) jN (iI 0, iI 0) = some (iI (bt 10 (lds cm E W) : Int)) := (congrArg (fun z => jloop (Rank_leadersOf_L4 S0 (some 47) (iI (bt 10 W : Int)) (I, J, Pst b f)) jN (z, iI 0)) sI_z).trans e
    simp only [Rank_leadersOf, rc0, gi0, gl0, pi0, pl0, pz0, pr0, gr0_0, gr0_1, gr0_2, gr0_3, gr0_4, gr0_5, gr0_6, gr0_7, gr0_8, rc1, gi1, gl1, pi1, pl1, pz1, pr1, gr1_0, rc3, gi3, gl3, pi3, pl3, pz3, pr3, gr3_0, gr3_10, gr3_11, rc47, gi47, gl47, pi47, pl47, pz47, pr47, gr47_0, gr47_1, gr47_2, gr47_3, gr47_4, gr47_5, gr47_6, rc55, gi55, gl55, pi55, pl55, pz55, pr55, gr55_0, gr55_1, rc58, gi58, gl58, pi58, pl58, pz58, pr58, gr58_0, gr58_1, rc61, gi61, gl61, pi61, pl61, pz61, pr61, gr61_0, gr61_1, gr61_2, gr61_7, rc62, gi62, gl62, pi62, pl62, pz62, pr62, gr62_0, gr62_1, gr62_2, gr62_3, gr62_4, gr62_5, ld2, st2, an2, ld4, st4, an4, ld5, st5, an5, an6, ld48, st48, an48, ld49, st49, an49, ld50, st50, an50, ld51, st51, an51, ld52, st52, an52, ld53, st53, an53, ld54, st54, an54, ld56, st56, an56, ld57, st57, an57, ld59, st59, an59, ld60, st60, an60, ld63, st63, an63, ld64, st64, an64, ld65, st65, an65, ld66, st66, an66, ld67, st67, an67, ld68, st68, an68, ld69, st69, an69, ld70, st70, an70, rcct, gict, glct, pict, plct, pzct, prct, grct_0, grct_1, grct_2, grct_3, ldctm, stctm, anctm, ldctr, stctr, anctr, ldctp, stctp, anctp, anctR, rcru, giru, glru, piru, plru, pzru, prru, grru_7, ldcu, stcu, ancu, arct, ar6, rcro, giro, piro, pzro, grro_1, grro_2, grro_3, rcfo, gifo, pifo, pzfo, grfo_0, grfo_1, ldfop, stfop, anfop, ldfoe, stfoe, anfoe, Option.bind_some, if_true, if_false, n_0, e']
  · have hl : iI (bt 10 (fun l => decide (l = lowP (tg cm E k))) : Int) = iI (bt 10 (fun l => cm k && decide (l = ldr E k)) : Int) := by
      refine sI_ext fun l hl => ?_
      cases e : cm k
      · have : lowP (tg cm E k) = 32 := lowP_no (anyb_not.mpr fun y _ => by simp [tg, e])
        rw [this]
        simp
        omega
      · have : tg cm E k = cpn E k := by funext y; simp [tg, e]
        rw [this, Bool.true_and]
        exact decide_eq_decide.mpr Iff.rfl
    simp (maxSteps := 4000000) (disch := omega) only [Rank_leadersOf_L4, rc0, gi0, gl0, pi0, pl0, pz0, pr0, gr0_0, gr0_1, gr0_2, gr0_3, gr0_4, gr0_5, gr0_6, gr0_7, gr0_8, rc1, gi1, gl1, pi1, pl1, pz1, pr1, gr1_0, rc3, gi3, gl3, pi3, pl3, pz3, pr3, gr3_0, gr3_10, gr3_11, rc47, gi47, gl47, pi47, pl47, pz47, pr47, gr47_0, gr47_1, gr47_2, gr47_3, gr47_4, gr47_5, gr47_6, rc55, gi55, gl55, pi55, pl55, pz55, pr55, gr55_0, gr55_1, rc58, gi58, gl58, pi58, pl58, pz58, pr58, gr58_0, gr58_1, rc61, gi61, gl61, pi61, pl61, pz61, pr61, gr61_0, gr61_1, gr61_2, gr61_7, rc62, gi62, gl62, pi62, pl62, pz62, pr62, gr62_0, gr62_1, gr62_2, gr62_3, gr62_4, gr62_5, ld2, st2, an2, ld4, st4, an4, ld5, st5, an5, an6, ld48, st48, an48, ld49, st49, an49, ld50, st50, an50, ld51, st51, an51, ld52, st52, an52, ld53, st53, an53, ld54, st54, an54, ld56, st56, an56, ld57, st57, an57, ld59, st59, an59, ld60, st60, an60, ld63, st63, an63, ld64, st64, an64, ld65, st65, an65, ld66, st66, an66, ld67, st67, an67, ld68, st68, an68, ld69, st69, an69, ld70, st70, an70, rcct, gict, glct, pict, plct, pzct, prct, grct_0, grct_1, grct_2, grct_3, ldctm, stctm, anctm, ldctr, stctr, anctr, ldctp, stctp, anctp, anctR, rcru, giru, glru, piru, plru, pzru, prru, grru_7, ldcu, stcu, ancu, arct, ar6, rcro, giro, piro, pzro, grro_1, grro_2, grro_3, rcfo, gifo, pifo, pzfo, grfo_0, grfo_1, ldfop, stfop, anfop, ldfoe, stfoe, anfoe, Option.bind_some, if_true, if_false, n_0, n_1, n_2, n_3, n_4, n_5, n_6, n_7, n_8, n_9, n_10, n_12, n_15, n_20, n_24, n_32, n_48, n_57, n_59, n_80, n_97, n_99, n_100, n_122, n_680, n_700, n_999, n_1023, n_1024, iI_neg, iI_add, iI_sub, iI_lt, iI_le, iI_eq, show ¬ (10 : Int) ≤ (k : Int) by omega, bt10_has hk, bI_0, Int.toNat_natCast, h k hk, sI_lowc, hl, sI_or, anyb_s]
    cases e : W k
    · simp only [Option.bind_some, if_true, if_false]
      rw [sI_ext (q := fun l => anyb k (fun x => W x && (cm x && decide (l = ldr E x))) || (false && (cm k && decide (l = ldr E k)))) fun y _ => by simp]
    · simp only [Bool.true_eq_false, Option.bind_some, if_true, if_false]
      rw [sI_ext (q := fun l => anyb k (fun x => W x && (cm x && decide (l = ldr E x))) || (true && (cm k && decide (l = ldr E k)))) fun y _ => by simp]
  · simp (maxSteps := 4000000) (disch := omega) only [Rank_leadersOf_L4, Option.bind_some, if_true, if_false, n_0, n_1, n_2, n_3, n_4, n_5, n_6, n_7, n_8, n_9, n_10, n_12, n_15, n_20, n_24, n_32, n_48, n_57, n_59, n_80, n_97, n_99, n_100, n_122, n_680, n_700, n_999, n_1023, n_1024, iI_neg, iI_add, iI_sub, iI_lt, iI_le, iI_eq, show (10 : Int) ≤ ((10 : Nat) : Int) by omega]
/-- who goes in ahead of the group of g -/
def ahd (cm : Nat → Bool) (A E : Nat → Nat → Bool) (g : Nat) : Nat → Bool := lds cm E (ovr A (tg cm E g))
theorem cl_form (h48 : row 48 A I) (h49 : row 49 E I) (h7 : I 47 7 = iI (bt 10 cm : Int)) (hE : ∀ x y, E x y = true → y < 10) : ∃ I', Rank_formGroups S0 (some 47) (I, J, Pst b f) = some (iI (bt 10 (lea cm E) : Int), (I', J, Pst b f)) ∧ Agr (fun o => o ≠ 52 ∧ o ≠ 53) I I' ∧ row 52 (tg cm E) I' ∧ row 53 (ahd cm A E) I' := by
  obtain ⟨I1, a1, a2, a3⟩ := cl_form1 (J := J) (b := b) (f := f) h49 h7 hE
  have key := jheap (J := J) (P := Pst b f) (I := I1) (body := Rank_formGroups_L63 S0 (some 47)) (fun k I' => Agr (fun o => o ≠ 53) I1 I' ∧ ∀ x, x < k → I' 53 x = iI (bt 10 (ahd cm A E x) : Int)) 0 10 ⟨Agr.refl _ _, fun x hx => by omega⟩ (by omega) (by omega) (fun k I2 _ hk q1 => ?_) (fun I2 q1 => ?_)
  · obtain ⟨I2, e1, e2, e3⟩ := key
    have e1' : jloop (Rank_formGroups_L63 S0 (some 47)) jN (iI 0, (I1, J, Pst b f)) = some (I2, J, Pst b f) := e1
    refine ⟨I2, ?_, (a2.sub fun o h => h.1).trans (e2.sub fun o h => h.2), a3.agr fun x => e2 52 (by omega) x, e3⟩
    simp only [Rank_formGroups, rc0, gi0, gl0, pi0, pl0, pz0, pr0, gr0_0, gr0_1, gr0_2, gr0_3, gr0_4, gr0_5, gr0_6, gr0_7, gr0_8, rc1, gi1, gl1, pi1, pl1, pz1, pr1, gr1_0, rc3, gi3, gl3, pi3, pl3, pz3, pr3, gr3_0, gr3_10, gr3_11, rc47, gi47, gl47, pi47, pl47, pz47, pr47, gr47_0, gr47_1, gr47_2, gr47_3, gr47_4, gr47_5, gr47_6, rc55, gi55, gl55, pi55, pl55, pz55, pr55, gr55_0, gr55_1, rc58, gi58, gl58, pi58, pl58, pz58, pr58, gr58_0, gr58_1, rc61, gi61, gl61, pi61, pl61, pz61, pr61, gr61_0, gr61_1, gr61_2, gr61_7, rc62, gi62, gl62, pi62, pl62, pz62, pr62, gr62_0, gr62_1, gr62_2, gr62_3, gr62_4, gr62_5, ld2, st2, an2, ld4, st4, an4, ld5, st5, an5, an6, ld48, st48, an48, ld49, st49, an49, ld50, st50, an50, ld51, st51, an51, ld52, st52, an52, ld53, st53, an53, ld54, st54, an54, ld56, st56, an56, ld57, st57, an57, ld59, st59, an59, ld60, st60, an60, ld63, st63, an63, ld64, st64, an64, ld65, st65, an65, ld66, st66, an66, ld67, st67, an67, ld68, st68, an68, ld69, st69, an69, ld70, st70, an70, rcct, gict, glct, pict, plct, pzct, prct, grct_0, grct_1, grct_2, grct_3, ldctm, stctm, anctm, ldctr, stctr, anctr, ldctp, stctp, anctp, anctR, rcru, giru, glru, piru, plru, pzru, prru, grru_7, ldcu, stcu, ancu, arct, ar6, rcro, giro, piro, pzro, grro_1, grro_2, grro_3, rcfo, gifo, pifo, pzfo, grfo_0, grfo_1, ldfop, stfop, anfop, ldfoe, stfoe, anfoe, Option.bind_some, if_true, if_false, n_0, a1, e1']
  · have h52 : row 52 (tg cm E) I2 := a3.agr fun x => q1.1 52 (by omega) x
    have h48' : row 48 A I2 := h48.agr fun x => (q1.1 48 (by omega) x).trans (a2 48 (by omega) x)
    refine ⟨hup I2 53 k (iI (bt 10 (ahd cm A E k) : Int)), ?_, q1.1.hup (by omega), fun x hx => ?_⟩
    · simp (maxSteps := 4000000) (disch := omega) only [Rank_formGroups_L63, rc0, gi0, gl0, pi0, pl0, pz0, pr0, gr0_0, gr0_1, gr0_2, gr0_3, gr0_4, gr0_5, gr0_6, gr0_7, gr0_8, rc1, gi1, gl1, pi1, pl1, pz1, pr1, gr1_0, rc3, gi3, gl3, pi3, pl3, pz3, pr3, gr3_0, gr3_10, gr3_11, rc47, gi47, gl47, pi47, pl47, pz47, pr47, gr47_0, gr47_1, gr47_2, gr47_3, gr47_4, gr47_5, gr47_6, rc55, gi55, gl55, pi55, pl55, pz55, pr55, gr55_0, gr55_1, rc58, gi58, gl58, pi58, pl58, pz58, pr58, gr58_0, gr58_1, rc61, gi61, gl61, pi61, pl61, pz61, pr61, gr61_0, gr61_1, gr61_2, gr61_7, rc62, gi62, gl62, pi62, pl62, pz62, pr62, gr62_0, gr62_1, gr62_2, gr62_3, gr62_4, gr62_5, ld2, st2, an2, ld4, st4, an4, ld5, st5, an5, an6, ld48, st48, an48, ld49, st49, an49, ld50, st50, an50, ld51, st51, an51, ld52, st52, an52, ld53, st53, an53, ld54, st54, an54, ld56, st56, an56, ld57, st57, an57, ld59, st59, an59, ld60, st60, an60, ld63, st63, an63, ld64, st64, an64, ld65, st65, an65, ld66, st66, an66, ld67, st67, an67, ld68, st68, an68, ld69, st69, an69, ld70, st70, an70, rcct, gict, glct, pict, plct, pzct, prct, grct_0, grct_1, grct_2, grct_3, ldctm, stctm, anctm, ldctr, stctr, anctr, ldctp, stctp, anctp, anctR, rcru, giru, glru, piru, plru, pzru, prru, grru_7, ldcu, stcu, ancu, arct, ar6, rcro, giro, piro, pzro, grro_1, grro_2, grro_3, rcfo, gifo, pifo, pzfo, grfo_0, grfo_1, ldfop, stfop, anfop, ldfoe, stfoe, anfoe, Option.bind_some, if_true, if_false, n_0, n_1, n_2, n_3, n_4, n_5, n_6, n_7, n_8, n_9, n_10, n_12, n_15, n_20, n_24, n_32, n_48, n_57, n_59, n_80, n_97, n_99, n_100, n_122, n_680, n_700, n_999, n_1023, n_1024, iI_neg, iI_add, iI_sub, iI_lt, iI_le, iI_eq, show ¬ (10 : Int) ≤ (k : Int) by omega, Int.toNat_natCast, h52 k hk, cl_over h48', cl_leadersOf h52]
      rfl
    · by_cases e : x = k
      · subst e; rw [hup_same]
      · rw [hup_ix _ _ _ e]; exact q1.2 x (by omega)
  · simp (maxSteps := 4000000) (disch := omega) only [Rank_formGroups_L63, Option.bind_some, if_true, if_false, n_0, n_1, n_2, n_3, n_4, n_5, n_6, n_7, n_8, n_9, n_10, n_12, n_15, n_20, n_24, n_32, n_48, n_57, n_59, n_80, n_97, n_99, n_100, n_122, n_680, n_700, n_999, n_1023, n_1024, iI_neg, iI_add, iI_sub, iI_lt, iI_le, iI_eq, show (10 : Int) ≤ ((10 : Nat) : Int) by omega]
/-! how many go in -/
theorem cnt_one (ha : a < 10) (c : Bool) : cnt 10 (fun g => decide (g = a) && c) = if c = true then 1 else 0 := by
  cases c
  · simp only [Bool.and_false, Bool.false_eq_true, if_false]
    exact cnt_0 fun k _ => rfl
  · simp only [Bool.and_true, if_true]
    have h1 := cnt_del (p := fun g => decide (g = a)) (n := 10) ha (by simp)
    have h2 : cnt 10 (fun y => decide (y = a) && !decide (y = a)) = 0 := cnt_0 fun k _ => by simp
    omega
theorem led_eq (hE : ∀ x y, E x y = E y x) (hc : ∀ x y, E x y = true → cm x = true ∧ cm y = true) (hn : ∀ g, n.testBit g = true → g < 10 ∧ lea cm E g = true) : sm 10 (fun g => if n.testBit g = true then cnt 10 (tg cm E g) else 0) = cnt 10 (uS cm (ldr E) id n) := by
  have h1 : sm 10 (fun g => if n.testBit g = true then cnt 10 (tg cm E g) else 0) = sm 10 (fun g => cnt 10 (fun y => n.testBit g && tg cm E g y)) := by
    refine sm_ext fun g _ => ?_
    cases e : n.testBit g
    · simp only [Bool.false_eq_true, if_false, Bool.false_and]
      exact (cnt_0 fun k _ => rfl).symm
    · simp only [if_true, Bool.true_and]
  have h2 : ∀ k, sm k (fun y => if uS cm (ldr E) id n y = true then 1 else 0) = cnt k (uS cm (ldr E) id n) := fun k => by
    induction k with
    | zero => rfl
    | succ k ih => simp only [sm, cnt, ih]
  rw [h1, sm_swap, ← h2]
  refine sm_ext fun y hy => ?_
  rw [← cnt_one (ldr_is (E := E) hy).1 (uS cm (ldr E) id n y)]
  refine cnt_ext fun g hg => ?_
  rw [Bool.eq_iff_iff]
  simp only [tg, uS, id, Bool.and_eq_true, decide_eq_true_eq]
  constructor
  · rintro ⟨q1, q2, q3⟩
    have hl := (hn g q1).2
    simp only [lea, Bool.and_eq_true, decide_eq_true_eq] at hl
    have he := ldr_eq hE hg hy q3
    rw [hl.2] at he
    exact ⟨he, cpn_cm hc hg hy q3 q2, by rw [← he]; exact q1⟩
  · rintro ⟨q1, q2, q3⟩
    have hl := ldr_is (E := E) hy
    rw [q1]
    exact ⟨q3, cpn_cm hc hy hl.1 hl.2.1 q2, cpn_sym hE hy hl.1 hl.2.1⟩
theorem cl_led (h52 : row 52 (tg cm E) I) (hE : ∀ x y, E x y = E y x) (hc : ∀ x y, E x y = true → cm x = true ∧ cm y = true) (hn10 : n < 1024) (hn : ∀ g, n.testBit g = true → g < 10 ∧ lea cm E g = true) : Rank_howManyLed S0 (some 47) (iI (n : Int)) (I, J, Pst b f) = some (iI (cnt 10 (uS cm (ldr E) id n) : Int)) := by
  rw [← led_eq hE hc hn]
  have e := jgather (body := Rank_howManyLed_L4 S0 (some 47) (iI (n : Int)) (I, J, Pst b f)) (fun k => iI (sm k (fun g => if n.testBit g = true then cnt 10 (tg cm E g) else 0) : Int)) 10 (fun k hk => ?_) ?_ (by omega)
  · have e' : jloop (Rank_howManyLed_L4 S0 (some 47) (iI (n : Int)) (I, J, Pst b f)) jN (iI 0, iI 0) = some (iI (sm 10 (fun g => if n.testBit g = true then cnt 10 (tg cm E g) else 0) : Int)) := e
    simp only [Rank_howManyLed, rc0, gi0, gl0, pi0, pl0, pz0, pr0, gr0_0, gr0_1, gr0_2, gr0_3, gr0_4, gr0_5, gr0_6, gr0_7, gr0_8, rc1, gi1, gl1, pi1, pl1, pz1, pr1, gr1_0, rc3, gi3, gl3, pi3, pl3, pz3, pr3, gr3_0, gr3_10, gr3_11, rc47, gi47, gl47, pi47, pl47, pz47, pr47, gr47_0, gr47_1, gr47_2, gr47_3, gr47_4, gr47_5, gr47_6, rc55, gi55, gl55, pi55, pl55, pz55, pr55, gr55_0, gr55_1, rc58, gi58, gl58, pi58, pl58, pz58, pr58, gr58_0, gr58_1, rc61, gi61, gl61, pi61, pl61, pz61, pr61, gr61_0, gr61_1, gr61_2, gr61_7, rc62, gi62, gl62, pi62, pl62, pz62, pr62, gr62_0, gr62_1, gr62_2, gr62_3, gr62_4, gr62_5, ld2, st2, an2, ld4, st4, an4, ld5, st5, an5, an6, ld48, st48, an48, ld49, st49, an49, ld50, st50, an50, ld51, st51, an51, ld52, st52, an52, ld53, st53, an53, ld54, st54, an54, ld56, st56, an56, ld57, st57, an57, ld59, st59, an59, ld60, st60, an60, ld63, st63, an63, ld64, st64, an64, ld65, st65, an65, ld66, st66, an66, ld67, st67, an67, ld68, st68, an68, ld69, st69, an69, ld70, st70, an70, rcct, gict, glct, pict, plct, pzct, prct, grct_0, grct_1, grct_2, grct_3, ldctm, stctm, anctm, ldctr, stctr, anctr, ldctp, stctp, anctp, anctR, rcru, giru, glru, piru, plru, pzru, prru, grru_7, ldcu, stcu, ancu, arct, ar6, rcro, giro, piro, pzro, grro_1, grro_2, grro_3, rcfo, gifo, pifo, pzfo, grfo_0, grfo_1, ldfop, stfop, anfop, ldfoe, stfoe, anfoe, Option.bind_some, if_true, if_false, n_0, e']
  · have hh := hasI n (k : Int) (by omega) (by omega)
    rw [Int.toNat_natCast] at hh
    simp (maxSteps := 4000000) (disch := omega) only [Rank_howManyLed_L4, rc0, gi0, gl0, pi0, pl0, pz0, pr0, gr0_0, gr0_1, gr0_2, gr0_3, gr0_4, gr0_5, gr0_6, gr0_7, gr0_8, rc1, gi1, gl1, pi1, pl1, pz1, pr1, gr1_0, rc3, gi3, gl3, pi3, pl3, pz3, pr3, gr3_0, gr3_10, gr3_11, rc47, gi47, gl47, pi47, pl47, pz47, pr47, gr47_0, gr47_1, gr47_2, gr47_3, gr47_4, gr47_5, gr47_6, rc55, gi55, gl55, pi55, pl55, pz55, pr55, gr55_0, gr55_1, rc58, gi58, gl58, pi58, pl58, pz58, pr58, gr58_0, gr58_1, rc61, gi61, gl61, pi61, pl61, pz61, pr61, gr61_0, gr61_1, gr61_2, gr61_7, rc62, gi62, gl62, pi62, pl62, pz62, pr62, gr62_0, gr62_1, gr62_2, gr62_3, gr62_4, gr62_5, ld2, st2, an2, ld4, st4, an4, ld5, st5, an5, an6, ld48, st48, an48, ld49, st49, an49, ld50, st50, an50, ld51, st51, an51, ld52, st52, an52, ld53, st53, an53, ld54, st54, an54, ld56, st56, an56, ld57, st57, an57, ld59, st59, an59, ld60, st60, an60, ld63, st63, an63, ld64, st64, an64, ld65, st65, an65, ld66, st66, an66, ld67, st67, an67, ld68, st68, an68, ld69, st69, an69, ld70, st70, an70, rcct, gict, glct, pict, plct, pzct, prct, grct_0, grct_1, grct_2, grct_3, ldctm, stctm, anctm, ldctr, stctr, anctr, ldctp, stctp, anctp, anctR, rcru, giru, glru, piru, plru, pzru, prru, grru_7, ldcu, stcu, ancu, arct, ar6, rcro, giro, piro, pzro, grro_1, grro_2, grro_3, rcfo, gifo, pifo, pzfo, grfo_0, grfo_1, ldfop, stfop, anfop, ldfoe, stfoe, anfoe, Option.bind_some, if_true, if_false, n_0, n_1, n_2, n_3, n_4, n_5, n_6, n_7, n_8, n_9, n_10, n_12, n_15, n_20, n_24, n_32, n_48, n_57, n_59, n_80, n_97, n_99, n_100, n_122, n_680, n_700, n_999, n_1023, n_1024, iI_neg, iI_add, iI_sub, iI_lt, iI_le, iI_eq, show ¬ (10 : Int) ≤ (k : Int) by omega, hh, bI_0, Int.toNat_natCast, h52 k hk, sI_cnt, sm, Int.natCast_add]
    cases e : n.testBit k
    · simp only [Option.bind_some, if_true, if_false, Bool.false_eq_true]
      rw [show (((0 : Nat) : Int)) = 0 from rfl, Int.add_zero]
    · simp only [Option.bind_some, if_true, if_false, Bool.true_eq_false]
  · simp (maxSteps := 4000000) (disch := omega) only [Rank_howManyLed_L4, Option.bind_some, if_true, if_false, n_0, n_1, n_2, n_3, n_4, n_5, n_6, n_7, n_8, n_9, n_10, n_12, n_15, n_20, n_24, n_32, n_48, n_57, n_59, n_80, n_97, n_99, n_100, n_122, n_680, n_700, n_999, n_1023, n_1024, iI_neg, iI_add, iI_sub, iI_lt, iI_le, iI_eq, show (10 : Int) ≤ ((10 : Nat) : Int) by omega]
end
