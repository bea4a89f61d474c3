/-! ===== layer 2: no ring ===== -/
section
variable {T : Tb} {I I' I'' : Nat → Nat → Int32} {J : Nat → Nat → Int64} {b : Bool} {f k n B : Nat} {P : Nat → Nat → Option Nat} {m : Int} {x y z g : Nat} {A R : Nat → Nat → Bool} {W W0 H : Nat → Bool}
def rch (A : Nat → Nat → Bool) (y x : Nat) : Bool := anyb 10 (fun n => wk A (n + 1) y x)
theorem rch_wk (hy : y < 10) (hx : x < 10) (h : wk A (n + 1) y x = true) : rch A y x = true := by
  obtain ⟨z, a1, a2, a3⟩ := wk_s.mp h
  obtain ⟨k, h1, h2⟩ := wk_short hx a1 a3
  exact anyb_iff.mpr ⟨k, by omega, wk_s.mpr ⟨z, a1, a2, h2⟩⟩
/-- where each has one above it there is a ring -/
theorem ring_of (hn : ∀ g, g < 10 → ¬ cy A g < 10) (hW : ∀ x, x < 10 → W x = true → ∃ z, z < 10 ∧ W z = true ∧ A z x = true) : ∀ n x, x < 10 → W x = true → cnt 10 (fun y => W y && rch A y x) ≤ n → False := by
  intro n
  induction n with
  | zero =>
    intro x hx hw hc
    obtain ⟨z, a1, a2, a3⟩ := hW x hx hw
    have := cnt_pos (p := fun y => W y && rch A y x) a1 (by simp [a2, rch_wk a1 hx (wk_1 a3 hx)])
    omega
  | succ n ih =>
    intro x hx hw hc
    obtain ⟨z, a1, a2, a3⟩ := hW x hx hw
    refine ih z a1 a2 ?_
    have := cnt_lt (p := fun y => W y && rch A y z) (q := fun y => W y && rch A y x) (n := 10) (x := z) (fun k hk h => by
      simp only [Bool.and_eq_true] at h ⊢
      refine ⟨h.1, ?_⟩
      obtain ⟨j, h1, h2⟩ := anyb_iff.mp h.2
      have := wk_add h2 (wk_1 a3 hx)
      exact rch_wk hk hx this) a1 (by
        have : rch A z z = false := anyb_not.mpr fun j _ => cy_none a1 (hn z a1) j
        simp [this]) (by simp [a2, rch_wk a1 hx (wk_1 a3 hx)])
    omega
/-- nobody is on a ring -/
def acy (A : Nat → Nat → Bool) : Bool := !anyb 10 (fun g => decide (cy A g < 10))
theorem acy_not (h : acy A = true) : ∀ g, g < 10 → ¬ cy A g < 10 := fun g hg => by
  have : anyb 10 (fun g => decide (cy A g < 10)) = false := by simpa [acy] using h
  simpa using anyb_not.mp this g hg
/-- those left when who has none above is taken away -/
def lf (A : Nat → Nat → Bool) (W0 : Nat → Bool) : Nat → Nat → Bool
  | 0 => W0
  | k + 1 => fun y => lf A W0 k y && blw A (lf A W0 k) y
theorem lf_ring (hA : ∀ x y, A x y = true → W0 y = true) (hg : g < 10) (h : wk A (n + 1) g g = true) : ∀ k x, x < 10 → (∃ a c, wk A a g x = true ∧ wk A c x g = true) → lf A W0 k x = true := by
  have pre : ∀ x, x < 10 → (∃ a c, wk A a g x = true ∧ wk A c x g = true) → ∃ z, z < 10 ∧ A z x = true ∧ ∃ a c, wk A a g z = true ∧ wk A c z g = true := by
    rintro x hx ⟨a, c, h1, h2⟩
    cases a with
    | zero =>
      have e := wk_0.mp h1
      subst e
      obtain ⟨z, a1, a2, a3⟩ := (wk_snoc hg hg).mp h
      exact ⟨z, a1, a3, n, 1, a2, wk_1 a3 hg⟩
    | succ a =>
      obtain ⟨z, a1, a2, a3⟩ := (wk_snoc hg hx).mp h1
      exact ⟨z, a1, a3, a, c + 1, a2, by rw [Nat.add_comm]; exact wk_add (wk_1 a3 hx) h2⟩
  intro k
  induction k with
  | zero =>
    intro x hx hs
    obtain ⟨z, a1, a2, a3⟩ := pre x hx hs
    exact hA _ _ a2
  | succ k ih =>
    intro x hx hs
    obtain ⟨z, a1, a2, a3⟩ := pre x hx hs
    show (lf A W0 k x && blw A (lf A W0 k) x) = true
    simp only [Bool.and_eq_true]
    exact ⟨ih x hx hs, anyb_iff.mpr ⟨z, a1, by simp [ih z a1 a3, a2]⟩⟩
def lfN (A : Nat → Nat → Bool) (W0 : Nat → Bool) : Nat := fst_ 10 (fun k => !anyb 10 (fre A (lf A W0 k)))
theorem lfN_le : lfN A W0 ≤ 10 := fst_le _ _
theorem lfN_lt (h : k < lfN A W0) : anyb 10 (fre A (lf A W0 k)) = true := by
  have := fst_not (p := fun k => !anyb 10 (fre A (lf A W0 k))) h
  simpa using this
theorem lf_cnt : ∀ k, k ≤ lfN A W0 → cnt 10 (lf A W0 k) + k ≤ 10
  | 0, _ => by have := cnt_le (lf A W0 0) 10; omega
  | k + 1, h => by
    have ih := lf_cnt k (by omega)
    obtain ⟨x, hx, h1⟩ := anyb_iff.mp (lfN_lt (A := A) (W0 := W0) (k := k) (by omega))
    simp only [fre, Bool.and_eq_true, Bool.not_eq_true'] at h1
    have h2 := cnt_lt (p := lf A W0 (k + 1)) (q := lf A W0 k) (n := 10) (x := x) (fun j _ hj => by
      have hj' : (lf A W0 k j && blw A (lf A W0 k) j) = true := hj
      simp only [Bool.and_eq_true] at hj'
      exact hj'.1) hx (by
        show (lf A W0 k x && blw A (lf A W0 k) x) = false
        simp [h1.2]) h1.1
    omega
theorem lf_10 (h : lfN A W0 = 10) : anyb 10 (lf A W0 (lfN A W0)) = false := by
  have := lf_cnt (A := A) (W0 := W0) (lfN A W0) (Nat.le_refl _)
  exact anyb_not.mpr (cnt_z (by omega))
theorem lfN_end : anyb 10 (fre A (lf A W0 (lfN A W0))) = false := by
  rcases Nat.lt_or_ge (lfN A W0) 10 with h | h
  · have h2 : (!anyb 10 (fre A (lf A W0 (lfN A W0)))) = true := fst_is (p := fun k => !anyb 10 (fre A (lf A W0 k))) (n := 10) h
    simpa using h2
  · have h1 := lf_10 (A := A) (W0 := W0) (by have := lfN_le (A := A) (W0 := W0); omega)
    refine anyb_not.mpr fun k hk => ?_
    have := anyb_not.mp h1 k hk
    simp [fre, this]
theorem lf_acy (hA : ∀ x y, A x y = true → W0 y = true) : anyb 10 (lf A W0 (lfN A W0)) = !acy A := by
  cases e : anyb 10 (lf A W0 (lfN A W0))
  · unfold acy
    rw [Bool.not_not]
    symm
    refine anyb_not.mpr fun g hg => ?_
    simp only [decide_eq_false_iff_not]
    intro q
    have := lf_ring hA hg (cy_wk q) (lfN A W0) g hg ⟨0, 0, wk_0.mpr rfl, wk_0.mpr rfl⟩
    rw [anyb_not.mp e g hg] at this
    cases this
  · cases e2 : acy A
    · rfl
    · exfalso
      obtain ⟨x, hx, h1⟩ := anyb_iff.mp e
      refine ring_of (W := lf A W0 (lfN A W0)) (acy_not e2) (fun x hx hw => ?_) 10 x hx h1 (cnt_le _ _)
      have h2 := anyb_not.mp (lfN_end (A := A) (W0 := W0)) x hx
      simp only [fre, hw, Bool.true_and, Bool.not_eq_false'] at h2
      obtain ⟨z, a1, a2⟩ := anyb_iff.mp h2
      simp only [Bool.and_eq_true] at a2
      exact ⟨z, a1, a2.1, a2.2⟩
theorem fre_none : (∀ y, y < 10 → (W y && blw A W y) = W y) ↔ anyb 10 (fre A W) = false := by
  rw [anyb_not]
  constructor
  · intro h y hy
    have := h y hy
    unfold fre
    cases e : W y
    · rfl
    · rw [e, Bool.true_and] at this
      rw [this]; rfl
  · intro h y hy
    have := h y hy
    unfold fre at this
    cases e : W y
    · rfl
    · rw [e, Bool.true_and] at this
      simpa using this
theorem cl_ringless (h : row 48 A I) (h7 : I 47 7 = iI (bt 10 W0 : Int)) (hA : ∀ x y, A x y = true → W0 y = true) : Rank_isRingless S0 (some 47) (I, J, Pst b f) = some (bI (acy A)) := by
  have hle := lfN_le (A := A) (W0 := W0)
  have hac := lf_acy hA
  have e := jfun (body := Rank_isRingless_L7 S0 (some 47) (I, J, Pst b f)) (fun k => (iI (bt 10 (lf A W0 k) : Int), iI (k : Int))) (lfN A W0) (r := if anyb 10 (lf A W0 (lfN A W0)) = true then .inr (iI 0) else .inl (iI (bt 10 (lf A W0 (lfN A W0)) : Int))) (s0 := (iI (bt 10 W0 : Int), iI 0)) rfl (fun k hk => ?_) ?_ (by omega)
  · simp only [Rank_isRingless, rc0, gi0, gl0, pi0, pl0, pz0, pr0, gr0_0, gr0_1, gr0_2, gr0_3, gr0_4, gr0_5, gr0_6, gr0_7, gr0_8, rc1, gi1, gl1, pi1, pl1, pz1, pr1, gr1_0, rc3, gi3, gl3, pi3, pl3, pz3, pr3, gr3_0, gr3_10, gr3_11, rc47, gi47, gl47, pi47, pl47, pz47, pr47, gr47_0, gr47_1, gr47_2, gr47_3, gr47_4, gr47_5, gr47_6, rc55, gi55, gl55, pi55, pl55, pz55, pr55, gr55_0, gr55_1, rc58, gi58, gl58, pi58, pl58, pz58, pr58, gr58_0, gr58_1, rc61, gi61, gl61, pi61, pl61, pz61, pr61, gr61_0, gr61_1, gr61_2, gr61_7, rc62, gi62, gl62, pi62, pl62, pz62, pr62, gr62_0, gr62_1, gr62_2, gr62_3, gr62_4, gr62_5, ld2, st2, an2, ld4, st4, an4, ld5, st5, an5, an6, ld48, st48, an48, ld49, st49, an49, ld50, st50, an50, ld51, st51, an51, ld52, st52, an52, ld53, st53, an53, ld54, st54, an54, ld56, st56, an56, ld57, st57, an57, ld59, st59, an59, ld60, st60, an60, ld63, st63, an63, ld64, st64, an64, ld65, st65, an65, ld66, st66, an66, ld67, st67, an67, ld68, st68, an68, ld69, st69, an69, ld70, st70, an70, rcct, gict, glct, pict, plct, pzct, prct, grct_0, grct_1, grct_2, grct_3, ldctm, stctm, anctm, ldctr, stctr, anctr, ldctp, stctp, anctp, anctR, rcru, giru, glru, piru, plru, pzru, prru, grru_7, ldcu, stcu, ancu, arct, ar6, rcro, giro, piro, pzro, grro_1, grro_2, grro_3, rcfo, gifo, pifo, pzfo, grfo_0, grfo_1, ldfop, stfop, anfop, ldfoe, stfoe, anfoe, Option.bind_some, if_true, if_false, h7, n_0, n_1, e]
    cases e2 : anyb 10 (lf A W0 (lfN A W0))
    · rw [e2] at hac
      have : acy A = true := by simpa using hac.symm
      rw [this]
      simp only [Bool.false_eq_true, if_false, Sum.elim_inl, sI_0, e2, if_true]
      rfl
    · rw [e2] at hac
      have : acy A = false := by simpa using hac.symm
      rw [this]
      rfl
  · have hf := lfN_lt hk
    have hW : anyb 10 (lf A W0 k) = true := by
      obtain ⟨x, hx, h1⟩ := anyb_iff.mp hf
      exact anyb_iff.mpr ⟨x, hx, fre_in h1⟩
    have hne : ¬ ∀ y, y < 10 → (lf A W0 k y && blw A (lf A W0 k) y) = lf A W0 k y := fun q => by
      rw [fre_none.mp q] at hf; cases hf
    simp (maxSteps := 4000000) (disch := omega) only [Rank_isRingless_L7, Option.bind_some, if_true, if_false, n_0, n_1, n_2, n_3, n_4, n_5, n_6, n_7, n_8, n_9, n_10, n_12, n_15, n_20, n_24, n_32, n_48, n_57, n_59, n_80, n_97, n_99, n_100, n_122, n_680, n_700, n_999, n_1023, n_1024, iI_neg, iI_add, iI_sub, iI_lt, iI_le, iI_eq, show ¬ (10 : Int) ≤ (k : Int) by omega, sI_0, hW, Bool.true_eq_false, cl_below h, sI_and, sI_eq, hne]
    rfl
  · by_cases e1 : lfN A W0 = 10
    · have h10 := lf_10 e1
      simp (maxSteps := 4000000) (disch := omega) only [Rank_isRingless_L7, Option.bind_some, if_true, if_false, n_0, n_1, n_2, n_3, n_4, n_5, n_6, n_7, n_8, n_9, n_10, n_12, n_15, n_20, n_24, n_32, n_48, n_57, n_59, n_80, n_97, n_99, n_100, n_122, n_680, n_700, n_999, n_1023, n_1024, iI_neg, iI_add, iI_sub, iI_lt, iI_le, iI_eq, show (10 : Int) ≤ (lfN A W0 : Int) by omega, h10, Bool.false_eq_true]
    · cases e2 : anyb 10 (lf A W0 (lfN A W0))
      · simp (maxSteps := 4000000) (disch := omega) only [Rank_isRingless_L7, Option.bind_some, if_true, if_false, n_0, n_1, n_2, n_3, n_4, n_5, n_6, n_7, n_8, n_9, n_10, n_12, n_15, n_20, n_24, n_32, n_48, n_57, n_59, n_80, n_97, n_99, n_100, n_122, n_680, n_700, n_999, n_1023, n_1024, iI_neg, iI_add, iI_sub, iI_lt, iI_le, iI_eq, show ¬ (10 : Int) ≤ (lfN A W0 : Int) by omega, sI_0, e2, Bool.false_eq_true]
      · have hall := fre_none.mpr (lfN_end (A := A) (W0 := W0))
        simp (maxSteps := 4000000) (disch := omega) only [Rank_isRingless_L7, Option.bind_some, if_true, if_false, n_0, n_1, n_2, n_3, n_4, n_5, n_6, n_7, n_8, n_9, n_10, n_12, n_15, n_20, n_24, n_32, n_48, n_57, n_59, n_80, n_97, n_99, n_100, n_122, n_680, n_700, n_999, n_1023, n_1024, iI_neg, iI_add, iI_sub, iI_lt, iI_le, iI_eq, show ¬ (10 : Int) ≤ (lfN A W0 : Int) by omega, sI_0, e2, Bool.true_eq_false, cl_below h, sI_and, sI_eq, iff_true_intro hall]
theorem cy_out (ht : tvC T) (hv : tvD T) (hg : ng T ≤ g) : ¬ cy (abv T m B) g < 10 := fun q => by
  obtain ⟨z, a1, a2, a3⟩ := wk_s.mp (cy_wk q)
  have := (abv_lt ht hv _ _ a2).1
  omega
theorem hrg_all (ht : tvC T) (hv : tvD T) : hrg (abv T m B) (alg T) (ng T) = !acy (abv T m B) := by
  unfold hrg acy
  rw [rs_all ht hv, Bool.not_not]
  have h1 := ng_le ht
  have := anyb_out (p := fun g => decide (cy (abv T m B) g < 10)) (n := ng T) (fun g hg => by simpa using cy_out ht hv hg) (10 - ng T)
  rw [show ng T + (10 - ng T) = 10 by omega] at this
  rw [this]
  exact anyb_ext fun g hg => by simp [alg, hg]
end
