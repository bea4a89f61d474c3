/-! ===== layer 2: evened, class's side ===== -/
section
variable {T : Tb} {I I' I'' : Nat → Nat → Int32} {J : Nat → Nat → Int64} {b : Bool} {f k n B c : Nat} {P : Nat → Nat → Option Nat} {m w q a : Int} {x y z g r h j s code : Nat} {M : Nat → Nat → Int} {F : Nat → Int}
/-- the digit k -/
def dg (n code k : Nat) : Nat := code / n ^ k % n
theorem dg_lt (hn : 0 < n) : dg n code k < n := Nat.mod_lt _ hn
def gsm (M : Nat → Nat → Int) (n code g : Nat) : Nat → Int
  | 0 => 0
  | k + 1 => gsm M n code g k + M (dg n code k) g
def mxg (F : Nat → Int) : Nat → Int
  | 0 => 0
  | g + 1 => if mxg F g < F g then F g else mxg F g
def am (F : Nat → Int) : Nat → Nat
  | 0 => 0
  | k + 1 => if F k < F (am F k) then k else am F k
theorem am_s (F : Nat → Int) (k : Nat) : am F (k + 1) = if F k < F (am F k) then k else am F k := rfl
theorem am_lt (F : Nat → Int) : ∀ k, am F (k + 1) ≤ k
  | 0 => by rw [am_s]; show (if F 0 < F 0 then 0 else 0) ≤ 0; split <;> omega
  | k + 1 => by
    have := am_lt F k
    rw [am_s]
    split <;> omega
theorem am_stop (h0 : ∀ k, 0 ≤ F k) (hk : F (am F k) ≤ 0) : ∀ d, am F (k + d) = am F k
  | 0 => rfl
  | d + 1 => by
    show am F (k + d + 1) = _
    have := h0 (k + d)
    rw [am_s, am_stop h0 hk d, if_neg (by omega)]
theorem mxg_0 (F : Nat → Int) : ∀ g, 0 ≤ mxg F g
  | 0 => Int.le_refl _
  | g + 1 => by
    have := mxg_0 F g
    show 0 ≤ if mxg F g < F g then F g else mxg F g
    split <;> omega
theorem mxg_le {B : Int} (hB : 0 ≤ B) (h : ∀ g, F g ≤ B) : ∀ g, mxg F g ≤ B
  | 0 => hB
  | g + 1 => by
    have h1 := mxg_le hB h g
    have h2 := h g
    show (if mxg F g < F g then F g else mxg F g) ≤ B
    split <;> omega
theorem mxg_out (h : ∀ k, n ≤ k → F k = 0) : ∀ d, mxg F (n + d) = mxg F n
  | 0 => rfl
  | d + 1 => by
    show (if mxg F (n + d) < F (n + d) then F (n + d) else mxg F (n + d)) = _
    have := mxg_0 F (n + d)
    rw [h _ (by omega), if_neg (by omega), mxg_out h d]
theorem gsm_rg (hM : ∀ s g, 0 ≤ M s g ∧ M s g ≤ 21600) : ∀ k : Nat, 0 ≤ gsm M n code g k ∧ gsm M n code g k ≤ 21600 * k
  | 0 => by simp [gsm]
  | k + 1 => by
    have h1 := gsm_rg hM k
    have h2 := hM (dg n code k) g
    show 0 ≤ gsm M n code g k + M (dg n code k) g ∧ gsm M n code g k + M (dg n code k) g ≤ _
    omega
/-- what the one who minds most minds -/
def gG (M : Nat → Nat → Int) (n c code : Nat) : Int := mxg (fun g => gsm M n code g c) 10
theorem gG_rg (hM : ∀ s g, 0 ≤ M s g ∧ M s g ≤ 21600) (hc : c ≤ 3) : 0 ≤ gG M n c code ∧ gG M n c code ≤ 64800 := by
  refine ⟨mxg_0 _ _, mxg_le (by omega) (fun g => ?_) _⟩
  have := gsm_rg hM (n := n) (code := code) (g := g) c
  omega
theorem jnz8 (h : 0 < n ∧ n ≤ 8) : jnz (iI (n : Int)) = some () := jnzI (by omega)
theorem irm8 (h : 0 < n ∧ n ≤ 8) (ha : x < 512) : irm (iI (x : Int)) (iI (n : Int)) = iI ((x % n : Nat) : Int) := irm5K n (by omega) h.1 x ha
theorem div8 (h : 0 < n ∧ n ≤ 8) (ha : x < 512) : iI (x : Int) / iI (n : Int) = iI ((x / n : Nat) : Int) := div5K n (by omega) h.1 x ha
theorem div_s : code / n ^ k / n = code / n ^ (k + 1) := by rw [Nat.div_div_eq_div_mul, Nat.pow_succ]
theorem div_lt (h : code < 512) : code / n ^ k < 512 := Nat.lt_of_le_of_lt (Nat.div_le_self _ _) h
theorem cl_sum1 (hI : ∀ s g, s < n → g < 10 → I 59 (10 * s + g) = iI (M s g)) (hn : 0 < n ∧ n ≤ 8) (hg : g < 10) (hc : c ≤ 3) (hcode : code < 512) {s1 : Int32} : jloop (Evening_greatestSum_L22 S0 (some 58) (iI (n : Int)) (iI (c : Int)) (I, J, Pst b f) (s1, iI (g : Int))) jN (iI 0, iI (code : Int), iI 0) = some (iI (gsm M n code g c)) := by
  refine jfun (fun k => (iI (gsm M n code g k), iI ((code / n ^ k : Nat) : Int), iI (k : Int))) c ?_ (fun k hk => ?_) ?_ (by omega)
  · rw [Nat.pow_zero, Nat.div_one]; rfl
  · have hd := div_lt (n := n) (k := k) hcode
    have hl := dg_lt (n := n) (code := code) (k := k) hn.1
    have hm := hI (dg n code k) g hl hg
    unfold dg at hl hm
    simp (maxSteps := 4000000) (disch := omega) only [Evening_greatestSum_L22, rc0, gi0, gl0, pi0, pl0, pz0, pr0, gr0_0, gr0_1, gr0_2, gr0_3, gr0_4, gr0_5, gr0_6, gr0_7, gr0_8, rc1, gi1, gl1, pi1, pl1, pz1, pr1, gr1_0, rc3, gi3, gl3, pi3, pl3, pz3, pr3, gr3_0, gr3_10, gr3_11, rc47, gi47, gl47, pi47, pl47, pz47, pr47, gr47_0, gr47_1, gr47_2, gr47_3, gr47_4, gr47_5, gr47_6, rc55, gi55, gl55, pi55, pl55, pz55, pr55, gr55_0, gr55_1, rc58, gi58, gl58, pi58, pl58, pz58, pr58, gr58_0, gr58_1, rc61, gi61, gl61, pi61, pl61, pz61, pr61, gr61_0, gr61_1, gr61_2, gr61_7, rc62, gi62, gl62, pi62, pl62, pz62, pr62, gr62_0, gr62_1, gr62_2, gr62_3, gr62_4, gr62_5, ld2, st2, an2, ld4, st4, an4, ld5, st5, an5, an6, ld48, st48, an48, ld49, st49, an49, ld50, st50, an50, ld51, st51, an51, ld52, st52, an52, ld53, st53, an53, ld54, st54, an54, ld56, st56, an56, ld57, st57, an57, ld59, st59, an59, ld60, st60, an60, ld63, st63, an63, ld64, st64, an64, ld65, st65, an65, ld66, st66, an66, ld67, st67, an67, ld68, st68, an68, ld69, st69, an69, ld70, st70, an70, rcct, gict, glct, pict, plct, pzct, prct, grct_0, grct_1, grct_2, grct_3, ldctm, stctm, anctm, ldctr, stctr, anctr, ldctp, stctp, anctp, anctR, rcru, giru, glru, piru, plru, pzru, prru, grru_7, ldcu, stcu, ancu, arct, ar6, rcro, giro, piro, pzro, grro_1, grro_2, grro_3, rcfo, gifo, pifo, pzfo, grfo_0, grfo_1, ldfop, stfop, anfop, ldfoe, stfoe, anfoe, Option.bind_some, if_true, if_false, n_0, n_1, n_2, n_3, n_4, n_5, n_6, n_7, n_8, n_9, n_10, n_12, n_15, n_20, n_24, n_32, n_48, n_57, n_59, n_80, n_97, n_99, n_100, n_122, n_680, n_700, n_999, n_1023, n_1024, iI_neg, iI_add, iI_sub, iI_mul, iI_lt, iI_le, iI_eq, show ¬ (c : Int) ≤ (k : Int) by omega, show ¬ (n : Int) ≤ 0 by omega, jnz8 hn, irm8 hn hd, div8 hn hd, show (((code / n ^ k % n : Nat) : Int) * 10 + (g : Int)).toNat = 10 * (code / n ^ k % n) + g by omega, hm, div_s]
    rfl
  · simp (maxSteps := 4000000) (disch := omega) only [Evening_greatestSum_L22, Option.bind_some, if_true, if_false, n_0, n_1, n_2, n_3, n_4, n_5, n_6, n_7, n_8, n_9, n_10, n_12, n_15, n_20, n_24, n_32, n_48, n_57, n_59, n_80, n_97, n_99, n_100, n_122, n_680, n_700, n_999, n_1023, n_1024, iI_neg, iI_add, iI_sub, iI_lt, iI_le, iI_eq, show (c : Int) ≤ (c : Int) by omega]
theorem cl_sum (hI : ∀ s g, s < n → g < 10 → I 59 (10 * s + g) = iI (M s g)) (hM : ∀ s g, 0 ≤ M s g ∧ M s g ≤ 21600) (hn : 0 < n ∧ n ≤ 8) (hc : c ≤ 3) (hcode : code < 512) : Evening_greatestSum S0 (some 58) (iI (code : Int)) (iI (n : Int)) (iI (c : Int)) (I, J, Pst b f) = some (iI (gG M n c code)) := by
  have e := jgather (body := Evening_greatestSum_L6 S0 (some 58) (iI (code : Int)) (iI (n : Int)) (iI (c : Int)) (I, J, Pst b f)) (fun k => iI (mxg (fun g => gsm M n code g c) k)) 10 (fun k hk => ?_) ?_ (by omega)
  · have e' : jloop (Evening_greatestSum_L6 S0 (some 58) (iI (code : Int)) (iI (n : Int)) (iI (c : Int)) (I, J, Pst b f)) jN (iI 0, iI 0) = some (iI (gG M n c code)) := e
    simp only [Evening_greatestSum, rc0, gi0, gl0, pi0, pl0, pz0, pr0, gr0_0, gr0_1, gr0_2, gr0_3, gr0_4, gr0_5, gr0_6, gr0_7, gr0_8, rc1, gi1, gl1, pi1, pl1, pz1, pr1, gr1_0, rc3, gi3, gl3, pi3, pl3, pz3, pr3, gr3_0, gr3_10, gr3_11, rc47, gi47, gl47, pi47, pl47, pz47, pr47, gr47_0, gr47_1, gr47_2, gr47_3, gr47_4, gr47_5, gr47_6, rc55, gi55, gl55, pi55, pl55, pz55, pr55, gr55_0, gr55_1, rc58, gi58, gl58, pi58, pl58, pz58, pr58, gr58_0, gr58_1, rc61, gi61, gl61, pi61, pl61, pz61, pr61, gr61_0, gr61_1, gr61_2, gr61_7, rc62, gi62, gl62, pi62, pl62, pz62, pr62, gr62_0, gr62_1, gr62_2, gr62_3, gr62_4, gr62_5, ld2, st2, an2, ld4, st4, an4, ld5, st5, an5, an6, ld48, st48, an48, ld49, st49, an49, ld50, st50, an50, ld51, st51, an51, ld52, st52, an52, ld53, st53, an53, ld54, st54, an54, ld56, st56, an56, ld57, st57, an57, ld59, st59, an59, ld60, st60, an60, ld63, st63, an63, ld64, st64, an64, ld65, st65, an65, ld66, st66, an66, ld67, st67, an67, ld68, st68, an68, ld69, st69, an69, ld70, st70, an70, rcct, gict, glct, pict, plct, pzct, prct, grct_0, grct_1, grct_2, grct_3, ldctm, stctm, anctm, ldctr, stctr, anctr, ldctp, stctp, anctp, anctR, rcru, giru, glru, piru, plru, pzru, prru, grru_7, ldcu, stcu, ancu, arct, ar6, rcro, giro, piro, pzro, grro_1, grro_2, grro_3, rcfo, gifo, pifo, pzfo, grfo_0, grfo_1, ldfop, stfop, anfop, ldfoe, stfoe, anfoe, Option.bind_some, if_true, if_false, n_0, e']
  · have h1 := gsm_rg hM (n := n) (code := code) (g := k) c
    have h2 := mxg_0 (fun g => gsm M n code g c) k
    have h3 := mxg_le (F := fun g => gsm M n code g c) (B := 64800) (by omega) (fun g => by have := gsm_rg hM (n := n) (code := code) (g := g) c; omega) k
    simp (maxSteps := 4000000) (disch := omega) only [Evening_greatestSum_L6, Option.bind_some, if_true, if_false, n_0, n_1, n_2, n_3, n_4, n_5, n_6, n_7, n_8, n_9, n_10, n_12, n_15, n_20, n_24, n_32, n_48, n_57, n_59, n_80, n_97, n_99, n_100, n_122, n_680, n_700, n_999, n_1023, n_1024, iI_neg, iI_add, iI_sub, iI_lt, iI_le, iI_eq, show ¬ (10 : Int) ≤ (k : Int) by omega, cl_sum1 hI hn hk hc hcode, maxI]
    rfl
  · simp (maxSteps := 4000000) (disch := omega) only [Evening_greatestSum_L6, Option.bind_some, if_true, if_false, n_0, n_1, n_2, n_3, n_4, n_5, n_6, n_7, n_8, n_9, n_10, n_12, n_15, n_20, n_24, n_32, n_48, n_57, n_59, n_80, n_97, n_99, n_100, n_122, n_680, n_700, n_999, n_1023, n_1024, iI_neg, iI_add, iI_sub, iI_lt, iI_le, iI_eq, show (10 : Int) ≤ ((10 : Nat) : Int) by omega]
theorem minI {a o : Int} (h : rg a ∧ rg o) : Jd_min (iI a) (iI o) = iI (if o < a then o else a) := by
  unfold Jd_min
  simp (maxSteps := 4000000) (disch := omega) only [iI_lt]
  split <;> rfl
theorem plc8 (hn : 0 < n ∧ n ≤ 8) : Jd_max (iI 1) (Jd_min (iI (n : Int)) (iI 8)) = iI (n : Int) := by
  rw [minI (by omega), if_neg (by omega), maxI (by omega)]
  split
  · rfl
  · congr 1; omega
theorem cl_rows (hn : 0 < n ∧ n ≤ 8) (hc : c ≤ 3) : jloop (Evening_seek_L75 S0 (iI (c : Int)) (iI (n : Int))) jN (iI 1, iI 0) = some (iI ((n ^ c : Nat) : Int)) := by
  refine jfun (fun k => (iI ((n ^ k : Nat) : Int), iI (k : Int))) c rfl (fun k hk => ?_) ?_ (by omega)
  · simp (maxSteps := 4000000) (disch := omega) only [Evening_seek_L75, Option.bind_some, if_true, if_false, n_0, n_1, n_2, n_3, n_4, n_5, n_6, n_7, n_8, n_9, n_10, n_12, n_15, n_20, n_24, n_32, n_48, n_57, n_59, n_80, n_97, n_99, n_100, n_122, n_680, n_700, n_999, n_1023, n_1024, iI_neg, iI_add, iI_sub, iI_lt, iI_le, iI_eq, show ¬ (c : Int) ≤ (k : Int) by omega, plc8 hn, iI_mul]
    rw [Nat.pow_succ, Int.natCast_mul]
    rfl
  · simp (maxSteps := 4000000) (disch := omega) only [Evening_seek_L75, Option.bind_some, if_true, if_false, n_0, n_1, n_2, n_3, n_4, n_5, n_6, n_7, n_8, n_9, n_10, n_12, n_15, n_20, n_24, n_32, n_48, n_57, n_59, n_80, n_97, n_99, n_100, n_122, n_680, n_700, n_999, n_1023, n_1024, iI_neg, iI_add, iI_sub, iI_lt, iI_le, iI_eq, show (c : Int) ≤ (c : Int) by omega]
theorem pow_512 (hn : 0 < n ∧ n ≤ 8) (hc : c ≤ 3) : 1 ≤ n ^ c ∧ n ^ c ≤ 512 := by
  refine ⟨Nat.pow_pos hn.1, ?_⟩
  have h1 : n ^ c ≤ 8 ^ c := Nat.pow_le_pow_left hn.2 c
  have h2 : 8 ^ c ≤ 8 ^ 3 := Nat.pow_le_pow_right (by decide) hc
  omega
theorem cl_codes (hI : ∀ s g, s < n → g < 10 → I 59 (10 * s + g) = iI (M s g)) (hM : ∀ s g, 0 ≤ M s g ∧ M s g ≤ 21600) (hn : 0 < n ∧ n ≤ 8) (hc : c ≤ 3) : jloop (Evening_seek_L112 S0 (some 58) (iI (c : Int)) (iI (n : Int)) (iI ((n ^ c : Nat) : Int))) jN (iI 0, iI 1, (hup I 58 2 (iI (gG M n c 0)), J, Pst b f)) = some (iI (am (gG M n c) (n ^ c) : Int), (hup I 58 2 (iI (gG M n c (am (gG M n c) (n ^ c)))), J, Pst b f)) := by
  have hp := pow_512 hn hc
  have hF : ∀ code, 0 ≤ gG M n c code ∧ gG M n c code ≤ 64800 := fun code => gG_rg hM hc
  have key := jinv (body := Evening_seek_L112 S0 (some 58) (iI (c : Int)) (iI (n : Int)) (iI ((n ^ c : Nat) : Int))) (s0 := (iI 0, iI 1, (hup I 58 2 (iI (gG M n c 0)), J, Pst b f))) (fun k s => s = (iI (am (gG M n c) (k + 1) : Int), iI ((k + 1 : Nat) : Int), (hup I 58 2 (iI (gG M n c (am (gG M n c) (k + 1)))), J, Pst b f))) (fun r => r = (iI (am (gG M n c) (n ^ c) : Int), (hup I 58 2 (iI (gG M n c (am (gG M n c) (n ^ c)))), J, Pst b f))) (n ^ c - 1) ?_ (fun k s hk hs => ?_) (fun s hs => ?_) (by omega)
  · obtain ⟨r, h1, h2⟩ := key
    rw [h1, h2]
  · have : am (gG M n c) (0 + 1) = 0 := by have := am_lt (gG M n c) 0; omega
    rw [this]; rfl
  · subst hs
    have h1 := hF (am (gG M n c) (k + 1))
    have h2 := hF (k + 1)
    have hI' : ∀ s g, s < n → g < 10 → hup I 58 2 (iI (gG M n c (am (gG M n c) (k + 1)))) 59 (10 * s + g) = iI (M s g) := fun s g hs hg => by rw [hup_obj _ _ _ (by omega)]; exact hI s g hs hg
    have hsum := cl_sum (J := J) (b := b) (f := f) (code := k + 1) hI' hM hn hc (by omega)
    by_cases e : gG M n c (am (gG M n c) (k + 1)) ≤ 0
    · have hst := am_stop (F := gG M n c) (fun k => (hF k).1) e (n ^ c - (k + 1))
      rw [show k + 1 + (n ^ c - (k + 1)) = n ^ c by omega] at hst
      refine ⟨.inr (iI (am (gG M n c) (n ^ c) : Int), (hup I 58 2 (iI (gG M n c (am (gG M n c) (n ^ c)))), J, Pst b f)), ?_, rfl⟩
      rw [hst]
      simp (maxSteps := 4000000) (disch := omega) only [Evening_seek_L112, rc0, gi0, gl0, pi0, pl0, pz0, pr0, gr0_0, gr0_1, gr0_2, gr0_3, gr0_4, gr0_5, gr0_6, gr0_7, gr0_8, rc1, gi1, gl1, pi1, pl1, pz1, pr1, gr1_0, rc3, gi3, gl3, pi3, pl3, pz3, pr3, gr3_0, gr3_10, gr3_11, rc47, gi47, gl47, pi47, pl47, pz47, pr47, gr47_0, gr47_1, gr47_2, gr47_3, gr47_4, gr47_5, gr47_6, rc55, gi55, gl55, pi55, pl55, pz55, pr55, gr55_0, gr55_1, rc58, gi58, gl58, pi58, pl58, pz58, pr58, gr58_0, gr58_1, rc61, gi61, gl61, pi61, pl61, pz61, pr61, gr61_0, gr61_1, gr61_2, gr61_7, rc62, gi62, gl62, pi62, pl62, pz62, pr62, gr62_0, gr62_1, gr62_2, gr62_3, gr62_4, gr62_5, ld2, st2, an2, ld4, st4, an4, ld5, st5, an5, an6, ld48, st48, an48, ld49, st49, an49, ld50, st50, an50, ld51, st51, an51, ld52, st52, an52, ld53, st53, an53, ld54, st54, an54, ld56, st56, an56, ld57, st57, an57, ld59, st59, an59, ld60, st60, an60, ld63, st63, an63, ld64, st64, an64, ld65, st65, an65, ld66, st66, an66, ld67, st67, an67, ld68, st68, an68, ld69, st69, an69, ld70, st70, an70, rcct, gict, glct, pict, plct, pzct, prct, grct_0, grct_1, grct_2, grct_3, ldctm, stctm, anctm, ldctr, stctr, anctr, ldctp, stctp, anctp, anctR, rcru, giru, glru, piru, plru, pzru, prru, grru_7, ldcu, stcu, ancu, arct, ar6, rcro, giro, piro, pzro, grro_1, grro_2, grro_3, rcfo, gifo, pifo, pzfo, grfo_0, grfo_1, ldfop, stfop, anfop, ldfoe, stfoe, anfoe, Option.bind_some, if_true, if_false, n_0, n_1, n_2, n_3, n_4, n_5, n_6, n_7, n_8, n_9, n_10, n_12, n_15, n_20, n_24, n_32, n_48, n_57, n_59, n_80, n_97, n_99, n_100, n_122, n_680, n_700, n_999, n_1023, n_1024, iI_neg, iI_add, iI_sub, iI_lt, iI_le, iI_eq, show ¬ ((n ^ c : Nat) : Int) ≤ ((k + 1 : Nat) : Int) by omega, hup_same, e]
    · refine ⟨.inl (iI (am (gG M n c) (k + 1 + 1) : Int), iI ((k + 1 + 1 : Nat) : Int), (hup I 58 2 (iI (gG M n c (am (gG M n c) (k + 1 + 1)))), J, Pst b f)), ?_, rfl⟩
      rw [am_s (gG M n c) (k + 1)]
      by_cases e2 : gG M n c (k + 1) < gG M n c (am (gG M n c) (k + 1))
      · rw [if_pos e2]
        simp (maxSteps := 4000000) (disch := omega) only [Evening_seek_L112, rc0, gi0, gl0, pi0, pl0, pz0, pr0, gr0_0, gr0_1, gr0_2, gr0_3, gr0_4, gr0_5, gr0_6, gr0_7, gr0_8, rc1, gi1, gl1, pi1, pl1, pz1, pr1, gr1_0, rc3, gi3, gl3, pi3, pl3, pz3, pr3, gr3_0, gr3_10, gr3_11, rc47, gi47, gl47, pi47, pl47, pz47, pr47, gr47_0, gr47_1, gr47_2, gr47_3, gr47_4, gr47_5, gr47_6, rc55, gi55, gl55, pi55, pl55, pz55, pr55, gr55_0, gr55_1, rc58, gi58, gl58, pi58, pl58, pz58, pr58, gr58_0, gr58_1, rc61, gi61, gl61, pi61, pl61, pz61, pr61, gr61_0, gr61_1, gr61_2, gr61_7, rc62, gi62, gl62, pi62, pl62, pz62, pr62, gr62_0, gr62_1, gr62_2, gr62_3, gr62_4, gr62_5, ld2, st2, an2, ld4, st4, an4, ld5, st5, an5, an6, ld48, st48, an48, ld49, st49, an49, ld50, st50, an50, ld51, st51, an51, ld52, st52, an52, ld53, st53, an53, ld54, st54, an54, ld56, st56, an56, ld57, st57, an57, ld59, st59, an59, ld60, st60, an60, ld63, st63, an63, ld64, st64, an64, ld65, st65, an65, ld66, st66, an66, ld67, st67, an67, ld68, st68, an68, ld69, st69, an69, ld70, st70, an70, rcct, gict, glct, pict, plct, pzct, prct, grct_0, grct_1, grct_2, grct_3, ldctm, stctm, anctm, ldctr, stctr, anctr, ldctp, stctp, anctp, anctR, rcru, giru, glru, piru, plru, pzru, prru, grru_7, ldcu, stcu, ancu, arct, ar6, rcro, giro, piro, pzro, grro_1, grro_2, grro_3, rcfo, gifo, pifo, pzfo, grfo_0, grfo_1, ldfop, stfop, anfop, ldfoe, stfoe, anfoe, Option.bind_some, if_true, if_false, n_0, n_1, n_2, n_3, n_4, n_5, n_6, n_7, n_8, n_9, n_10, n_12, n_15, n_20, n_24, n_32, n_48, n_57, n_59, n_80, n_97, n_99, n_100, n_122, n_680, n_700, n_999, n_1023, n_1024, iI_neg, iI_add, iI_sub, iI_lt, iI_le, iI_eq, show ¬ ((n ^ c : Nat) : Int) ≤ ((k + 1 : Nat) : Int) by omega, hup_same, e, plc8 hn, hsum, show ¬ gG M n c (am (gG M n c) (k + 1)) ≤ gG M n c (k + 1) by omega, hup_hup]
        rfl
      · rw [if_neg e2]
        simp (maxSteps := 4000000) (disch := omega) only [Evening_seek_L112, rc0, gi0, gl0, pi0, pl0, pz0, pr0, gr0_0, gr0_1, gr0_2, gr0_3, gr0_4, gr0_5, gr0_6, gr0_7, gr0_8, rc1, gi1, gl1, pi1, pl1, pz1, pr1, gr1_0, rc3, gi3, gl3, pi3, pl3, pz3, pr3, gr3_0, gr3_10, gr3_11, rc47, gi47, gl47, pi47, pl47, pz47, pr47, gr47_0, gr47_1, gr47_2, gr47_3, gr47_4, gr47_5, gr47_6, rc55, gi55, gl55, pi55, pl55, pz55, pr55, gr55_0, gr55_1, rc58, gi58, gl58, pi58, pl58, pz58, pr58, gr58_0, gr58_1, rc61, gi61, gl61, pi61, pl61, pz61, pr61, gr61_0, gr61_1, gr61_2, gr61_7, rc62, gi62, gl62, pi62, pl62, pz62, pr62, gr62_0, gr62_1, gr62_2, gr62_3, gr62_4, gr62_5, ld2, st2, an2, ld4, st4, an4, ld5, st5, an5, an6, ld48, st48, an48, ld49, st49, an49, ld50, st50, an50, ld51, st51, an51, ld52, st52, an52, ld53, st53, an53, ld54, st54, an54, ld56, st56, an56, ld57, st57, an57, ld59, st59, an59, ld60, st60, an60, ld63, st63, an63, ld64, st64, an64, ld65, st65, an65, ld66, st66, an66, ld67, st67, an67, ld68, st68, an68, ld69, st69, an69, ld70, st70, an70, rcct, gict, glct, pict, plct, pzct, prct, grct_0, grct_1, grct_2, grct_3, ldctm, stctm, anctm, ldctr, stctr, anctr, ldctp, stctp, anctp, anctR, rcru, giru, glru, piru, plru, pzru, prru, grru_7, ldcu, stcu, ancu, arct, ar6, rcro, giro, piro, pzro, grro_1, grro_2, grro_3, rcfo, gifo, pifo, pzfo, grfo_0, grfo_1, ldfop, stfop, anfop, ldfoe, stfoe, anfoe, Option.bind_some, if_true, if_false, n_0, n_1, n_2, n_3, n_4, n_5, n_6, n_7, n_8, n_9, n_10, n_12, n_15, n_20, n_24, n_32, n_48, n_57, n_59, n_80, n_97, n_99, n_100, n_122, n_680, n_700, n_999, n_1023, n_1024, iI_neg, iI_add, iI_sub, iI_lt, iI_le, iI_eq, show ¬ ((n ^ c : Nat) : Int) ≤ ((k + 1 : Nat) : Int) by omega, hup_same, e, plc8 hn, hsum, show gG M n c (am (gG M n c) (k + 1)) ≤ gG M n c (k + 1) by omega]
        rfl
  · subst hs
    refine ⟨.inr (iI (am (gG M n c) (n ^ c) : Int), (hup I 58 2 (iI (gG M n c (am (gG M n c) (n ^ c)))), J, Pst b f)), ?_, rfl⟩
    rw [show n ^ c - 1 + 1 = n ^ c by omega]
    simp (maxSteps := 4000000) (disch := omega) only [Evening_seek_L112, Option.bind_some, if_true, if_false, n_0, n_1, n_2, n_3, n_4, n_5, n_6, n_7, n_8, n_9, n_10, n_12, n_15, n_20, n_24, n_32, n_48, n_57, n_59, n_80, n_97, n_99, n_100, n_122, n_680, n_700, n_999, n_1023, n_1024, iI_neg, iI_add, iI_sub, iI_lt, iI_le, iI_eq, show ((n ^ c : Nat) : Int) ≤ ((n ^ c : Nat) : Int) by omega]
theorem cl_writeRow (hn : 0 < n ∧ n ≤ 8) (hc : 1 ≤ c ∧ c ≤ 3) (hcode : code < 512) : ∃ I', Evening_writeRow S0 (some 58) (iI (code : Int)) (iI (n : Int)) (iI (c : Int)) (I, J, Pst b f) = some (I', J, Pst b f) ∧ Agr (fun o => o ≠ 60) I I' ∧ ∀ k, k < c → I' 60 k = iI (dg n code (c - 1 - k) : Int) := by
  have key := jinv (body := Evening_writeRow_L12 S0 (some 58) (iI (n : Int))) (s0 := (iI (code : Int), iI ((c : Int) - 1), (I, J, Pst b f))) (fun j s => ∃ I', s = (iI ((code / n ^ j : Nat) : Int), iI ((c : Int) - 1 - (j : Int)), (I', J, Pst b f)) ∧ Agr (fun o => o ≠ 60) I I' ∧ ∀ i, i < j → I' 60 (c - 1 - i) = iI (dg n code i : Int)) (fun r => ∃ I', r = (I', J, Pst b f) ∧ Agr (fun o => o ≠ 60) I I' ∧ ∀ k, k < c → I' 60 k = iI (dg n code (c - 1 - k) : Int)) c ⟨I, ?_, Agr.refl _ _, fun i hi => by omega⟩ (fun j s hj hs => ?_) (fun s hs => ?_) (by omega)
  · obtain ⟨r, h1, I1, h2, h3, h4⟩ := key
    have hmin : Jd_min (iI (c : Int)) (iI 3) - iI 1 = iI ((c : Int) - 1) := by rw [minI (by omega), if_neg (by omega), iI_sub]
    refine ⟨I1, ?_, h3, h4⟩
    simp (maxSteps := 4000000) (disch := omega) only [Evening_writeRow, rc0, gi0, gl0, pi0, pl0, pz0, pr0, gr0_0, gr0_1, gr0_2, gr0_3, gr0_4, gr0_5, gr0_6, gr0_7, gr0_8, rc1, gi1, gl1, pi1, pl1, pz1, pr1, gr1_0, rc3, gi3, gl3, pi3, pl3, pz3, pr3, gr3_0, gr3_10, gr3_11, rc47, gi47, gl47, pi47, pl47, pz47, pr47, gr47_0, gr47_1, gr47_2, gr47_3, gr47_4, gr47_5, gr47_6, rc55, gi55, gl55, pi55, pl55, pz55, pr55, gr55_0, gr55_1, rc58, gi58, gl58, pi58, pl58, pz58, pr58, gr58_0, gr58_1, rc61, gi61, gl61, pi61, pl61, pz61, pr61, gr61_0, gr61_1, gr61_2, gr61_7, rc62, gi62, gl62, pi62, pl62, pz62, pr62, gr62_0, gr62_1, gr62_2, gr62_3, gr62_4, gr62_5, ld2, st2, an2, ld4, st4, an4, ld5, st5, an5, an6, ld48, st48, an48, ld49, st49, an49, ld50, st50, an50, ld51, st51, an51, ld52, st52, an52, ld53, st53, an53, ld54, st54, an54, ld56, st56, an56, ld57, st57, an57, ld59, st59, an59, ld60, st60, an60, ld63, st63, an63, ld64, st64, an64, ld65, st65, an65, ld66, st66, an66, ld67, st67, an67, ld68, st68, an68, ld69, st69, an69, ld70, st70, an70, rcct, gict, glct, pict, plct, pzct, prct, grct_0, grct_1, grct_2, grct_3, ldctm, stctm, anctm, ldctr, stctr, anctr, ldctp, stctp, anctp, anctR, rcru, giru, glru, piru, plru, pzru, prru, grru_7, ldcu, stcu, ancu, arct, ar6, rcro, giro, piro, pzro, grro_1, grro_2, grro_3, rcfo, gifo, pifo, pzfo, grfo_0, grfo_1, ldfop, stfop, anfop, ldfoe, stfoe, anfoe, Option.bind_some, if_true, if_false, n_3, n_1, hmin, h1, h2]
  · rw [Nat.pow_zero, Nat.div_one]
    simp
  · obtain ⟨I1, rfl, h3, h4⟩ := hs
    have hd := div_lt (n := n) (k := j) hcode
    refine ⟨.inl (iI ((code / n ^ (j + 1) : Nat) : Int), iI ((c : Int) - 1 - ((j + 1 : Nat) : Int)), (hup I1 60 (c - 1 - j) (iI (dg n code j : Int)), J, Pst b f)), ?_, _, rfl, h3.hup (by omega), fun i hi => ?_⟩
    · simp (maxSteps := 4000000) (disch := omega) only [Evening_writeRow_L12, rc0, gi0, gl0, pi0, pl0, pz0, pr0, gr0_0, gr0_1, gr0_2, gr0_3, gr0_4, gr0_5, gr0_6, gr0_7, gr0_8, rc1, gi1, gl1, pi1, pl1, pz1, pr1, gr1_0, rc3, gi3, gl3, pi3, pl3, pz3, pr3, gr3_0, gr3_10, gr3_11, rc47, gi47, gl47, pi47, pl47, pz47, pr47, gr47_0, gr47_1, gr47_2, gr47_3, gr47_4, gr47_5, gr47_6, rc55, gi55, gl55, pi55, pl55, pz55, pr55, gr55_0, gr55_1, rc58, gi58, gl58, pi58, pl58, pz58, pr58, gr58_0, gr58_1, rc61, gi61, gl61, pi61, pl61, pz61, pr61, gr61_0, gr61_1, gr61_2, gr61_7, rc62, gi62, gl62, pi62, pl62, pz62, pr62, gr62_0, gr62_1, gr62_2, gr62_3, gr62_4, gr62_5, ld2, st2, an2, ld4, st4, an4, ld5, st5, an5, an6, ld48, st48, an48, ld49, st49, an49, ld50, st50, an50, ld51, st51, an51, ld52, st52, an52, ld53, st53, an53, ld54, st54, an54, ld56, st56, an56, ld57, st57, an57, ld59, st59, an59, ld60, st60, an60, ld63, st63, an63, ld64, st64, an64, ld65, st65, an65, ld66, st66, an66, ld67, st67, an67, ld68, st68, an68, ld69, st69, an69, ld70, st70, an70, rcct, gict, glct, pict, plct, pzct, prct, grct_0, grct_1, grct_2, grct_3, ldctm, stctm, anctm, ldctr, stctr, anctr, ldctp, stctp, anctp, anctR, rcru, giru, glru, piru, plru, pzru, prru, grru_7, ldcu, stcu, ancu, arct, ar6, rcro, giro, piro, pzro, grro_1, grro_2, grro_3, rcfo, gifo, pifo, pzfo, grfo_0, grfo_1, ldfop, stfop, anfop, ldfoe, stfoe, anfoe, Option.bind_some, if_true, if_false, n_0, n_1, n_2, n_3, n_4, n_5, n_6, n_7, n_8, n_9, n_10, n_12, n_15, n_20, n_24, n_32, n_48, n_57, n_59, n_80, n_97, n_99, n_100, n_122, n_680, n_700, n_999, n_1023, n_1024, iI_neg, iI_add, iI_sub, iI_lt, iI_le, iI_eq, show ¬ (c : Int) - 1 - (j : Int) < 0 by omega, show ¬ (n : Int) ≤ 0 by omega, jnz8 hn, irm8 hn hd, div8 hn hd, div_s, show ((c : Int) - 1 - (j : Int)).toNat = c - 1 - j by omega, show (c : Int) - 1 - (j : Int) + -1 = (c : Int) - 1 - ((j + 1 : Nat) : Int) by omega]
      rfl
    · by_cases e : i = j
      · subst e; rw [hup_same]
      · rw [hup_ix _ _ _ (by omega)]; exact h4 i (by omega)
  · obtain ⟨I1, rfl, h3, h4⟩ := hs
    refine ⟨.inr (I1, J, Pst b f), ?_, I1, rfl, h3, fun k hk => ?_⟩
    · simp (maxSteps := 4000000) (disch := omega) only [Evening_writeRow_L12, Option.bind_some, if_true, if_false, n_0, n_1, n_2, n_3, n_4, n_5, n_6, n_7, n_8, n_9, n_10, n_12, n_15, n_20, n_24, n_32, n_48, n_57, n_59, n_80, n_97, n_99, n_100, n_122, n_680, n_700, n_999, n_1023, n_1024, iI_neg, iI_add, iI_sub, iI_lt, iI_le, iI_eq, show (c : Int) - 1 - (c : Int) < 0 by omega]
    · have := h4 (c - 1 - k) (by omega)
      rwa [show c - 1 - (c - 1 - k) = k by omega] at this
/-- what g minds, s places on -/
def mev (T : Tb) (m : Int) (s g : Nat) : Int := mnd T m 0 (plh T m (s : Int)) g
theorem acpI (hs : s < 8) : acp S0 (I, J, Pst b f) (some 57) (iI 0) (some 59) (iI ((s : Int) * 10)) (iI 10) = some (fun o k => if o = 59 ∧ 10 * s ≤ k ∧ k < 10 * s + 10 then I 57 (k - 10 * s) else I o k, J, Pst b f) := by
  have e1 : S0.2 57 = (100, 10) := by rw [S0_t 57 (by omega)]; rfl
  have e2 : S0.2 59 = (100, 80) := by rw [S0_t 59 (by omega)]; rfl
  have h0 : (iI 0).toNatClampNeg = 0 := by rw [iI_clamp (by omega)]; rfl
  have h1 : (iI ((s : Int) * 10)).toNatClampNeg = 10 * s := by rw [iI_clamp (by omega)]; omega
  have h2 : (iI 10).toNatClampNeg = 10 := by rw [iI_clamp (by omega)]; rfl
  unfold acp
  simp only [h0, h1, h2, e1, e2, S0_n.1]
  rw [if_pos]
  · simp only [Nat.zero_add]
  · refine ⟨⟨by omega, trivial⟩, ⟨by omega, trivial⟩, by omega, ?_, by show 0 + 10 ≤ 10; omega, by show 10 * s + 10 ≤ 80; omega⟩
    simp (maxSteps := 4000000) (disch := omega) only [n_0, iI_lt]
    omega
theorem cl_mindsAll (E : EC T b I) (V : TV T) (hm : isM T m) (hn : (n : Int) = T 3 m.toNat) (h8 : n ≤ 8) : ∃ I', jloop (Evening_seek_L18 S0 (some 58) (some (ct b)) (some (ro m.toNat)) (some 55) (iI (n : Int))) jN (iI 0, (I, J, Pst b f)) = some (I', J, Pst b f) ∧ Agr (fun o => o < 55 ∨ 57 < o ∧ o ≠ 59) I I' ∧ ∀ s g, s < n → g < 10 → I' 59 (10 * s + g) = iI (mev T m s g) := by
  have h3 := (V.1.2.2 _ (mN hm)).2
  have hp : 0 < n ∧ n ≤ 8 := by omega
  have key := jheap (J := J) (P := Pst b f) (I := I) (body := Evening_seek_L18 S0 (some 58) (some (ct b)) (some (ro m.toNat)) (some 55) (iI (n : Int))) (fun k I' => Agr (fun o => o < 55 ∨ 57 < o ∧ o ≠ 59) I I' ∧ ∀ s g, s < k → g < 10 → I' 59 (10 * s + g) = iI (mev T m s g)) 0 n ⟨Agr.refl _ _, fun s g hs => by omega⟩ (by omega) (by omega) (fun k I1 _ hk q1 => ?_) (fun I1 q1 => ?_)
  · exact key
  · have E1 := E.agr V (q1.1.sub fun o h => by omega)
    obtain ⟨I2, I3, a1, a2, a3, a4⟩ := cl_told1 (J := J) (f := f) (s := (k : Int)) (c := 0) (q := -1) E1 V hm (by omega) (by omega) (by omega)
    refine ⟨fun o k' => if o = 59 ∧ 10 * k ≤ k' ∧ k' < 10 * k + 10 then I3 57 (k' - 10 * k) else I3 o k', ?_, ?_, fun s g hs hg => ?_⟩
    · have hac := acpI (I := I3) (J := J) (b := b) (f := f) (s := k) (by omega)
      simp (maxSteps := 4000000) (disch := omega) only [Evening_seek_L18, Option.bind_some, if_true, if_false, n_0, n_1, n_2, n_3, n_4, n_5, n_6, n_7, n_8, n_9, n_10, n_12, n_15, n_20, n_24, n_32, n_48, n_57, n_59, n_80, n_97, n_99, n_100, n_122, n_680, n_700, n_999, n_1023, n_1024, iI_neg, iI_add, iI_sub, iI_lt, iI_le, iI_eq, plc8 hp, show ¬ (n : Int) ≤ (k : Int) by omega, a1, a2, rc0, gi0, gl0, pi0, pl0, pz0, pr0, gr0_0, gr0_1, gr0_2, gr0_3, gr0_4, gr0_5, gr0_6, gr0_7, gr0_8, rc1, gi1, gl1, pi1, pl1, pz1, pr1, gr1_0, rc3, gi3, gl3, pi3, pl3, pz3, pr3, gr3_0, gr3_10, gr3_11, rc47, gi47, gl47, pi47, pl47, pz47, pr47, gr47_0, gr47_1, gr47_2, gr47_3, gr47_4, gr47_5, gr47_6, rc55, gi55, gl55, pi55, pl55, pz55, pr55, gr55_0, gr55_1, rc58, gi58, gl58, pi58, pl58, pz58, pr58, gr58_0, gr58_1, rc61, gi61, gl61, pi61, pl61, pz61, pr61, gr61_0, gr61_1, gr61_2, gr61_7, rc62, gi62, gl62, pi62, pl62, pz62, pr62, gr62_0, gr62_1, gr62_2, gr62_3, gr62_4, gr62_5, ld2, st2, an2, ld4, st4, an4, ld5, st5, an5, an6, ld48, st48, an48, ld49, st49, an49, ld50, st50, an50, ld51, st51, an51, ld52, st52, an52, ld53, st53, an53, ld54, st54, an54, ld56, st56, an56, ld57, st57, an57, ld59, st59, an59, ld60, st60, an60, ld63, st63, an63, ld64, st64, an64, ld65, st65, an65, ld66, st66, an66, ld67, st67, an67, ld68, st68, an68, ld69, st69, an69, ld70, st70, an70, rcct, gict, glct, pict, plct, pzct, prct, grct_0, grct_1, grct_2, grct_3, ldctm, stctm, anctm, ldctr, stctr, anctr, ldctp, stctp, anctp, anctR, rcru, giru, glru, piru, plru, pzru, prru, grru_7, ldcu, stcu, ancu, arct, ar6, rcro, giro, piro, pzro, grro_1, grro_2, grro_3, rcfo, gifo, pifo, pzfo, grfo_0, grfo_1, ldfop, stfop, anfop, ldfoe, stfoe, anfoe, iI_mul, hac]
    · intro o ho k'
      show (if o = 59 ∧ _ then _ else _) = _
      rw [if_neg (by omega), a3 o (by omega) k']
      exact q1.1 o ho k'
    · show (if 59 = 59 ∧ 10 * k ≤ 10 * s + g ∧ 10 * s + g < 10 * k + 10 then I3 57 (10 * s + g - 10 * k) else I3 59 (10 * s + g)) = _
      by_cases e : s = k
      · subst e
        rw [if_pos (by omega), show 10 * s + g - 10 * s = g by omega]
        exact a4.2.2 g hg
      · rw [if_neg (by omega), a3 59 (by omega)]
        exact q1.2 s g (by omega) hg
  · simp (maxSteps := 4000000) (disch := omega) only [Evening_seek_L18, Option.bind_some, if_true, if_false, n_0, n_1, n_2, n_3, n_4, n_5, n_6, n_7, n_8, n_9, n_10, n_12, n_15, n_20, n_24, n_32, n_48, n_57, n_59, n_80, n_97, n_99, n_100, n_122, n_680, n_700, n_999, n_1023, n_1024, iI_neg, iI_add, iI_sub, iI_lt, iI_le, iI_eq, plc8 hp, show (n : Int) ≤ (n : Int) by omega]
abbrev evQ (T : Tb) (m w q : Int) : Prop := isM T m ∧ T 2 m.toNat = 4 ∧ T 3 m.toNat ≤ 8 ∧ (1 ≤ w ∧ w ≤ 3) ∧ -1 ≤ q ∧ q < w
def evR (T : Tb) (m w q : Int) : Int := if evQ T m w q then (if q = -1 then gG (mev T m) (T 3 m.toNat).toNat w.toNat (am (gG (mev T m) (T 3 m.toNat).toNat w.toNat) ((T 3 m.toNat).toNat ^ w.toNat)) else (dg (T 3 m.toNat).toNat (am (gG (mev T m) (T 3 m.toNat).toNat w.toNat) ((T 3 m.toNat).toNat ^ w.toNat)) (w.toNat - 1 - q.toNat) : Int)) else -1
theorem cl_evened (E : EC T b I) (V : TV T) (hm : rg m) (hw : rg w) (hq : rg q) : ∃ I', Fi_evened S0 (some 0) (iI m) (iI w) (iI q) (I, J, Pst b f) = some (iI (evR T m w q), (I', J, Pst b f)) ∧ Agr (fun o => o < 55 ∨ 60 < o) I I' := by
  obtain ⟨⟨eA, eB⟩, ⟨eC, eD⟩, eE⟩ := id E
  obtain ⟨⟨vA, vB⟩, ⟨vC, vD⟩, vE, vF⟩ := id V
  have hB := vB.1
  by_cases z1 : isM T m
  · have h3 := vB.2 _ (mN z1)
    have hr := (eB.2 m.toNat (by omega)).2 (mN z1)
    by_cases z : evQ T m w q
    · obtain ⟨-, z2, z3, z4, z5, z6⟩ := id z
      obtain ⟨n, hn⟩ := nN (T 3 m.toNat) (by omega)
      obtain ⟨c, hc⟩ := nN w (by omega)
      have hp : 0 < n ∧ n ≤ 8 := by omega
      have hM : ∀ s g, 0 ≤ mev T m s g ∧ mev T m s g ≤ 21600 := fun s g => mnd_rg vC vD g
      obtain ⟨I1, a1, a2, a3⟩ := cl_mindsAll (J := J) (f := f) E V z1 hn.symm (by omega)
      have b1 := cl_rows (n := n) (c := c) hp (by omega)
      have b2 := cl_sum (J := J) (b := b) (f := f) (code := 0) (c := c) a3 hM hp (by omega) (by omega)
      have b3 := cl_codes (J := J) (b := b) (f := f) (c := c) a3 hM hp (by omega)
      have hpw := pow_512 (n := n) (c := c) hp (by omega)
      have hal := am_lt (gG (mev T m) n c) (n ^ c - 1)
      rw [show n ^ c - 1 + 1 = n ^ c by omega] at hal
      obtain ⟨I4, d1, d2, d3⟩ := cl_writeRow (I := hup I1 58 2 (iI (gG (mev T m) n c (am (gG (mev T m) n c) (n ^ c))))) (J := J) (b := b) (f := f) (n := n) (c := c) (code := am (gG (mev T m) n c) (n ^ c)) hp (by omega) (by omega)
      have hseek : Evening_seek S0 (some 58) (some (ct b)) (some (ro m.toNat)) (iI (c : Int)) (some 55) (I, J, Pst b f) = some (I4, J, Pst b f) := by
        have hx : I (ro m.toNat) 5 = iI (n : Int) := by rw [hr.2, hn]
        simp (maxSteps := 4000000) (disch := omega) only [Evening_seek, rc0, gi0, gl0, pi0, pl0, pz0, pr0, gr0_0, gr0_1, gr0_2, gr0_3, gr0_4, gr0_5, gr0_6, gr0_7, gr0_8, rc1, gi1, gl1, pi1, pl1, pz1, pr1, gr1_0, rc3, gi3, gl3, pi3, pl3, pz3, pr3, gr3_0, gr3_10, gr3_11, rc47, gi47, gl47, pi47, pl47, pz47, pr47, gr47_0, gr47_1, gr47_2, gr47_3, gr47_4, gr47_5, gr47_6, rc55, gi55, gl55, pi55, pl55, pz55, pr55, gr55_0, gr55_1, rc58, gi58, gl58, pi58, pl58, pz58, pr58, gr58_0, gr58_1, rc61, gi61, gl61, pi61, pl61, pz61, pr61, gr61_0, gr61_1, gr61_2, gr61_7, rc62, gi62, gl62, pi62, pl62, pz62, pr62, gr62_0, gr62_1, gr62_2, gr62_3, gr62_4, gr62_5, ld2, st2, an2, ld4, st4, an4, ld5, st5, an5, an6, ld48, st48, an48, ld49, st49, an49, ld50, st50, an50, ld51, st51, an51, ld52, st52, an52, ld53, st53, an53, ld54, st54, an54, ld56, st56, an56, ld57, st57, an57, ld59, st59, an59, ld60, st60, an60, ld63, st63, an63, ld64, st64, an64, ld65, st65, an65, ld66, st66, an66, ld67, st67, an67, ld68, st68, an68, ld69, st69, an69, ld70, st70, an70, rcct, gict, glct, pict, plct, pzct, prct, grct_0, grct_1, grct_2, grct_3, ldctm, stctm, anctm, ldctr, stctr, anctr, ldctp, stctp, anctp, anctR, rcru, giru, glru, piru, plru, pzru, prru, grru_7, ldcu, stcu, ancu, arct, ar6, rcro, giro, piro, pzro, grro_1, grro_2, grro_3, rcfo, gifo, pifo, pzfo, grfo_0, grfo_1, ldfop, stfop, anfop, ldfoe, stfoe, anfoe, Option.bind_some, if_true, if_false, n_0, n_1, n_2, n_3, n_4, n_5, n_6, n_7, n_8, n_9, n_10, n_12, n_15, n_20, n_24, n_32, n_48, n_57, n_59, n_80, n_97, n_99, n_100, n_122, n_680, n_700, n_999, n_1023, n_1024, iI_neg, iI_add, iI_sub, hx, a1, plc8 hp, b1]
        rw [show (iI 0) = iI ((0 : Nat) : Int) from rfl, b2]
        simp (maxSteps := 4000000) (disch := omega) only [rc0, gi0, gl0, pi0, pl0, pz0, pr0, gr0_0, gr0_1, gr0_2, gr0_3, gr0_4, gr0_5, gr0_6, gr0_7, gr0_8, rc1, gi1, gl1, pi1, pl1, pz1, pr1, gr1_0, rc3, gi3, gl3, pi3, pl3, pz3, pr3, gr3_0, gr3_10, gr3_11, rc47, gi47, gl47, pi47, pl47, pz47, pr47, gr47_0, gr47_1, gr47_2, gr47_3, gr47_4, gr47_5, gr47_6, rc55, gi55, gl55, pi55, pl55, pz55, pr55, gr55_0, gr55_1, rc58, gi58, gl58, pi58, pl58, pz58, pr58, gr58_0, gr58_1, rc61, gi61, gl61, pi61, pl61, pz61, pr61, gr61_0, gr61_1, gr61_2, gr61_7, rc62, gi62, gl62, pi62, pl62, pz62, pr62, gr62_0, gr62_1, gr62_2, gr62_3, gr62_4, gr62_5, ld2, st2, an2, ld4, st4, an4, ld5, st5, an5, an6, ld48, st48, an48, ld49, st49, an49, ld50, st50, an50, ld51, st51, an51, ld52, st52, an52, ld53, st53, an53, ld54, st54, an54, ld56, st56, an56, ld57, st57, an57, ld59, st59, an59, ld60, st60, an60, ld63, st63, an63, ld64, st64, an64, ld65, st65, an65, ld66, st66, an66, ld67, st67, an67, ld68, st68, an68, ld69, st69, an69, ld70, st70, an70, rcct, gict, glct, pict, plct, pzct, prct, grct_0, grct_1, grct_2, grct_3, ldctm, stctm, anctm, ldctr, stctr, anctr, ldctp, stctp, anctp, anctR, rcru, giru, glru, piru, plru, pzru, prru, grru_7, ldcu, stcu, ancu, arct, ar6, rcro, giro, piro, pzro, grro_1, grro_2, grro_3, rcfo, gifo, pifo, pzfo, grfo_0, grfo_1, ldfop, stfop, anfop, ldfoe, stfoe, anfoe, Option.bind_some, if_true, if_false]
        rw [show (iI ((0 : Nat) : Int)) = iI 0 from rfl, b3]
        simp only [Option.bind_some, if_true, if_false, d1]
      refine ⟨I4, ?_, ((a2.sub fun o h => by omega).hup (by omega)).trans (d2.sub fun o h => by omega)⟩
      have hR : evR T m w q = if q = -1 then gG (mev T m) n c (am (gG (mev T m) n c) (n ^ c)) else (dg n (am (gG (mev T m) n c) (n ^ c)) (c - 1 - q.toNat) : Int) := by
        unfold evR
        rw [if_pos z, hn, hc, Int.toNat_natCast, Int.toNat_natCast]
      rw [hR, hc]
      have h58 : I4 58 2 = iI (gG (mev T m) n c (am (gG (mev T m) n c) (n ^ c))) := (d2 58 (by omega) 2).trans (hup_same _ _ _ _)
      by_cases e : q = -1
      · simp (maxSteps := 4000000) (disch := omega) only [Fi_evened, rc0, gi0, gl0, pi0, pl0, pz0, pr0, gr0_0, gr0_1, gr0_2, gr0_3, gr0_4, gr0_5, gr0_6, gr0_7, gr0_8, rc1, gi1, gl1, pi1, pl1, pz1, pr1, gr1_0, rc3, gi3, gl3, pi3, pl3, pz3, pr3, gr3_0, gr3_10, gr3_11, rc47, gi47, gl47, pi47, pl47, pz47, pr47, gr47_0, gr47_1, gr47_2, gr47_3, gr47_4, gr47_5, gr47_6, rc55, gi55, gl55, pi55, pl55, pz55, pr55, gr55_0, gr55_1, rc58, gi58, gl58, pi58, pl58, pz58, pr58, gr58_0, gr58_1, rc61, gi61, gl61, pi61, pl61, pz61, pr61, gr61_0, gr61_1, gr61_2, gr61_7, rc62, gi62, gl62, pi62, pl62, pz62, pr62, gr62_0, gr62_1, gr62_2, gr62_3, gr62_4, gr62_5, ld2, st2, an2, ld4, st4, an4, ld5, st5, an5, an6, ld48, st48, an48, ld49, st49, an49, ld50, st50, an50, ld51, st51, an51, ld52, st52, an52, ld53, st53, an53, ld54, st54, an54, ld56, st56, an56, ld57, st57, an57, ld59, st59, an59, ld60, st60, an60, ld63, st63, an63, ld64, st64, an64, ld65, st65, an65, ld66, st66, an66, ld67, st67, an67, ld68, st68, an68, ld69, st69, an69, ld70, st70, an70, rcct, gict, glct, pict, plct, pzct, prct, grct_0, grct_1, grct_2, grct_3, ldctm, stctm, anctm, ldctr, stctr, anctr, ldctp, stctp, anctp, anctR, rcru, giru, glru, piru, plru, pzru, prru, grru_7, ldcu, stcu, ancu, arct, ar6, rcro, giro, piro, pzro, grro_1, grro_2, grro_3, rcfo, gifo, pifo, pzfo, grfo_0, grfo_1, ldfop, stfop, anfop, ldfoe, stfoe, anfoe, Option.bind_some, if_true, if_false, n_0, n_1, n_2, n_3, n_4, n_5, n_6, n_7, n_8, n_9, n_10, n_12, n_15, n_20, n_24, n_32, n_48, n_57, n_59, n_80, n_97, n_99, n_100, n_122, n_680, n_700, n_999, n_1023, n_1024, iI_neg, iI_add, iI_sub, iI_lt, iI_le, iI_eq, cl_roomOrNull eB vB hm, iff_true_intro z1, reduceCtorEq, hr.1, z2, hr.2, z3, show ¬ (c : Int) < 1 by omega, show ¬ (3 : Int) < (c : Int) by omega, e, show ¬ (-1 : Int) < -1 by omega, show (-1 : Int) < (c : Int) by omega, hseek, h58]
      · have h60 := d3 q.toNat (by omega)
        simp (maxSteps := 4000000) (disch := omega) only [Fi_evened, rc0, gi0, gl0, pi0, pl0, pz0, pr0, gr0_0, gr0_1, gr0_2, gr0_3, gr0_4, gr0_5, gr0_6, gr0_7, gr0_8, rc1, gi1, gl1, pi1, pl1, pz1, pr1, gr1_0, rc3, gi3, gl3, pi3, pl3, pz3, pr3, gr3_0, gr3_10, gr3_11, rc47, gi47, gl47, pi47, pl47, pz47, pr47, gr47_0, gr47_1, gr47_2, gr47_3, gr47_4, gr47_5, gr47_6, rc55, gi55, gl55, pi55, pl55, pz55, pr55, gr55_0, gr55_1, rc58, gi58, gl58, pi58, pl58, pz58, pr58, gr58_0, gr58_1, rc61, gi61, gl61, pi61, pl61, pz61, pr61, gr61_0, gr61_1, gr61_2, gr61_7, rc62, gi62, gl62, pi62, pl62, pz62, pr62, gr62_0, gr62_1, gr62_2, gr62_3, gr62_4, gr62_5, ld2, st2, an2, ld4, st4, an4, ld5, st5, an5, an6, ld48, st48, an48, ld49, st49, an49, ld50, st50, an50, ld51, st51, an51, ld52, st52, an52, ld53, st53, an53, ld54, st54, an54, ld56, st56, an56, ld57, st57, an57, ld59, st59, an59, ld60, st60, an60, ld63, st63, an63, ld64, st64, an64, ld65, st65, an65, ld66, st66, an66, ld67, st67, an67, ld68, st68, an68, ld69, st69, an69, ld70, st70, an70, rcct, gict, glct, pict, plct, pzct, prct, grct_0, grct_1, grct_2, grct_3, ldctm, stctm, anctm, ldctr, stctr, anctr, ldctp, stctp, anctp, anctR, rcru, giru, glru, piru, plru, pzru, prru, grru_7, ldcu, stcu, ancu, arct, ar6, rcro, giro, piro, pzro, grro_1, grro_2, grro_3, rcfo, gifo, pifo, pzfo, grfo_0, grfo_1, ldfop, stfop, anfop, ldfoe, stfoe, anfoe, Option.bind_some, if_true, if_false, n_0, n_1, n_2, n_3, n_4, n_5, n_6, n_7, n_8, n_9, n_10, n_12, n_15, n_20, n_24, n_32, n_48, n_57, n_59, n_80, n_97, n_99, n_100, n_122, n_680, n_700, n_999, n_1023, n_1024, iI_neg, iI_add, iI_sub, iI_lt, iI_le, iI_eq, cl_roomOrNull eB vB hm, iff_true_intro z1, reduceCtorEq, hr.1, z2, hr.2, z3, show ¬ (c : Int) < 1 by omega, show ¬ (3 : Int) < (c : Int) by omega, e, show ¬ q < -1 by omega, show q < (c : Int) by omega, hseek, h60]
    · have hR : evR T m w q = -1 := if_neg z
      rw [hR]
      refine ⟨I, ?_, Agr.refl _ _⟩
      simp (maxSteps := 4000000) (disch := omega) only [Fi_evened, rc0, gi0, gl0, pi0, pl0, pz0, pr0, gr0_0, gr0_1, gr0_2, gr0_3, gr0_4, gr0_5, gr0_6, gr0_7, gr0_8, rc1, gi1, gl1, pi1, pl1, pz1, pr1, gr1_0, rc3, gi3, gl3, pi3, pl3, pz3, pr3, gr3_0, gr3_10, gr3_11, rc47, gi47, gl47, pi47, pl47, pz47, pr47, gr47_0, gr47_1, gr47_2, gr47_3, gr47_4, gr47_5, gr47_6, rc55, gi55, gl55, pi55, pl55, pz55, pr55, gr55_0, gr55_1, rc58, gi58, gl58, pi58, pl58, pz58, pr58, gr58_0, gr58_1, rc61, gi61, gl61, pi61, pl61, pz61, pr61, gr61_0, gr61_1, gr61_2, gr61_7, rc62, gi62, gl62, pi62, pl62, pz62, pr62, gr62_0, gr62_1, gr62_2, gr62_3, gr62_4, gr62_5, ld2, st2, an2, ld4, st4, an4, ld5, st5, an5, an6, ld48, st48, an48, ld49, st49, an49, ld50, st50, an50, ld51, st51, an51, ld52, st52, an52, ld53, st53, an53, ld54, st54, an54, ld56, st56, an56, ld57, st57, an57, ld59, st59, an59, ld60, st60, an60, ld63, st63, an63, ld64, st64, an64, ld65, st65, an65, ld66, st66, an66, ld67, st67, an67, ld68, st68, an68, ld69, st69, an69, ld70, st70, an70, rcct, gict, glct, pict, plct, pzct, prct, grct_0, grct_1, grct_2, grct_3, ldctm, stctm, anctm, ldctr, stctr, anctr, ldctp, stctp, anctp, anctR, rcru, giru, glru, piru, plru, pzru, prru, grru_7, ldcu, stcu, ancu, arct, ar6, rcro, giro, piro, pzro, grro_1, grro_2, grro_3, rcfo, gifo, pifo, pzfo, grfo_0, grfo_1, ldfop, stfop, anfop, ldfoe, stfoe, anfoe, Option.bind_some, if_true, if_false, n_0, n_1, n_2, n_3, n_4, n_5, n_6, n_7, n_8, n_9, n_10, n_12, n_15, n_20, n_24, n_32, n_48, n_57, n_59, n_80, n_97, n_99, n_100, n_122, n_680, n_700, n_999, n_1023, n_1024, iI_neg, iI_add, iI_sub, iI_lt, iI_le, iI_eq, cl_roomOrNull eB vB hm, iff_true_intro z1, reduceCtorEq, hr.1, hr.2]
      by_cases q2 : T 2 m.toNat = 4
      · by_cases q3 : T 3 m.toNat ≤ 8
        · by_cases q4 : w < 1
          · simp only [q2, q3, q4, Option.bind_some, if_true, if_false]
          · by_cases q5 : 3 < w
            · simp only [q2, q3, q4, q5, Option.bind_some, if_true, if_false]
            · by_cases q6 : q < -1
              · simp only [q2, q3, q4, q5, q6, Option.bind_some, if_true, if_false]
              · by_cases q7 : q < w
                · exact absurd ⟨z1, q2, q3, by omega, by omega, q7⟩ z
                · simp only [q2, q3, q4, q5, q6, q7, Option.bind_some, if_true, if_false]
        · simp only [q2, q3, Option.bind_some, if_true, if_false]
      · simp only [q2, Option.bind_some, if_true, if_false]
  · have hR : evR T m w q = -1 := if_neg fun q => z1 q.1
    rw [hR]
    refine ⟨I, ?_, Agr.refl _ _⟩
    simp (maxSteps := 4000000) (disch := omega) only [Fi_evened, rc0, gi0, gl0, pi0, pl0, pz0, pr0, gr0_0, gr0_1, gr0_2, gr0_3, gr0_4, gr0_5, gr0_6, gr0_7, gr0_8, rc1, gi1, gl1, pi1, pl1, pz1, pr1, gr1_0, rc3, gi3, gl3, pi3, pl3, pz3, pr3, gr3_0, gr3_10, gr3_11, rc47, gi47, gl47, pi47, pl47, pz47, pr47, gr47_0, gr47_1, gr47_2, gr47_3, gr47_4, gr47_5, gr47_6, rc55, gi55, gl55, pi55, pl55, pz55, pr55, gr55_0, gr55_1, rc58, gi58, gl58, pi58, pl58, pz58, pr58, gr58_0, gr58_1, rc61, gi61, gl61, pi61, pl61, pz61, pr61, gr61_0, gr61_1, gr61_2, gr61_7, rc62, gi62, gl62, pi62, pl62, pz62, pr62, gr62_0, gr62_1, gr62_2, gr62_3, gr62_4, gr62_5, ld2, st2, an2, ld4, st4, an4, ld5, st5, an5, an6, ld48, st48, an48, ld49, st49, an49, ld50, st50, an50, ld51, st51, an51, ld52, st52, an52, ld53, st53, an53, ld54, st54, an54, ld56, st56, an56, ld57, st57, an57, ld59, st59, an59, ld60, st60, an60, ld63, st63, an63, ld64, st64, an64, ld65, st65, an65, ld66, st66, an66, ld67, st67, an67, ld68, st68, an68, ld69, st69, an69, ld70, st70, an70, rcct, gict, glct, pict, plct, pzct, prct, grct_0, grct_1, grct_2, grct_3, ldctm, stctm, anctm, ldctr, stctr, anctr, ldctp, stctp, anctp, anctR, rcru, giru, glru, piru, plru, pzru, prru, grru_7, ldcu, stcu, ancu, arct, ar6, rcro, giro, piro, pzro, grro_1, grro_2, grro_3, rcfo, gifo, pifo, pzfo, grfo_0, grfo_1, ldfop, stfop, anfop, ldfoe, stfoe, anfoe, Option.bind_some, if_true, if_false, n_0, n_1, n_2, n_3, n_4, n_5, n_6, n_7, n_8, n_9, n_10, n_12, n_15, n_20, n_24, n_32, n_48, n_57, n_59, n_80, n_97, n_99, n_100, n_122, n_680, n_700, n_999, n_1023, n_1024, iI_neg, iI_add, iI_sub, iI_lt, iI_le, iI_eq, cl_roomOrNull eB vB hm, iff_false_intro z1]
end
