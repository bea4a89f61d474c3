/-! ===== layer 2: what changes of one guest: comes, seat, leave, sits ===== -/
section
variable {T : Tb} {I I' : Nat → Nat → Int32} {J : Nat → Nat → Int64} {b v : Bool} {f k : Nat} {P : Nat → Nat → Option Nat} {a g w c1 c2 c s r p : Int}
def gup (T : Tb) (g : Nat) (c s r p : Int) : Tb := hup (hup (hup (hup T 12 g c) 13 g s) 14 g r) 15 g p
theorem gup_12 (x : Nat) : gup T k c s r p 12 x = if x = k then c else T 12 x := by simp [gup, hup]
theorem gup_13 (x : Nat) : gup T k c s r p 13 x = if x = k then s else T 13 x := by simp [gup, hup]
theorem gup_14 (x : Nat) : gup T k c s r p 14 x = if x = k then r else T 14 x := by simp [gup, hup]
theorem gup_15 (x : Nat) : gup T k c s r p 15 x = if x = k then p else T 15 x := by simp [gup, hup]
theorem EC_gup (E : EC T b I) (V : TV T) (hA : Agr (outC b) I I') (h1 : I' (ct b) 4 = I (ct b) 4 ∧ I' (ct b) 5 = I (ct b) 5 ∧ I' (ct b) 6 = I (ct b) 6) (h2 : Agr (fun o => o = ct b + 1 ∨ (ct b + 5 ≤ o ∧ o < ct b + 29)) I I') (h3 : I' (ct b) 7 = iI (bcom (gup T k c s r p) : Int) ∧ I' (ct b) 8 = iI (bsit (gup T k c s r p) : Int)) (h4 : ∀ x, I' (ct b + 3) x = if x = k then iI r else I (ct b + 3) x) (h5 : ∀ x, I' (ct b + 4) x = if x = k then iI p else I (ct b + 4) x) : EC (gup T k c s r p) b I' := by
  obtain ⟨⟨eA, eB⟩, ⟨eC, eD⟩, eE⟩ := E
  obtain ⟨⟨vA, vB⟩, ⟨vC, vD⟩, vE, vF⟩ := V
  have c1 : cC T b I' := eC.agr h1 (h2.sub fun o ho => Or.inl ho)
  have d1 : cD T b I' := eD.agr (h2.sub fun o ho => Or.inr ho) vC.1.2.2.2
  refine ⟨⟨eA.out hA, eB.out hA⟩, ⟨c1, d1⟩, h3, fun x hx => ?_⟩
  obtain ⟨q1, q2⟩ := eE.2 x hx
  rw [h4, h5, gup_14, gup_15]
  by_cases e : x = k
  · simp [e]
  · simp [e, q1, q2]
theorem EM_gup (E : EM T I) (hA : Agr (fun o => o < 166 ∨ 169 < o) I I') (h1 : ∀ x, I' 166 x = if x = k then iI c else I 166 x) (h2 : ∀ x, I' 167 x = if x = k then iI s else I 167 x) (h3 : ∀ x, I' 168 x = if x = k then iI r else I 168 x) (h4 : ∀ x, I' 169 x = if x = k then iI p else I 169 x) : EM (gup T k c s r p) I' := by
  obtain ⟨⟨eA, eB⟩, ⟨eC, eD⟩, eE⟩ := E
  have a1 : mA T I' := eA.agr (hA _ (by decide) 1) (hA.sub (by omega))
  have b1 : mB T I' := eB.agr (hA _ (by decide) 26) (hA.sub (by omega))
  have c1 : mC T I' := eC.agr (hA.sub (by omega))
  have d1 : mD T I' := eD.agr (hA.sub (by omega))
  refine ⟨⟨a1, b1⟩, ⟨c1, d1⟩, fun x hx => ?_⟩
  obtain ⟨q1, q2, q3, q4⟩ := eE x hx
  rw [h1, h2, h3, h4, gup_12, gup_13, gup_14, gup_15]
  by_cases e : x = k
  · simp [e]
  · simp [e, q1, q2, q3, q4]
theorem TV_gup (V : TV T) (hc : c = 0 ∨ c = 1) (hs : s = 0 ∨ s = 1) (hr : (r = -1 ∧ p = -1 ∧ s = 0) ∨ ((0 ≤ r ∧ r < T 0 1) ∧ (0 ≤ p ∧ p < T 3 r.toNat) ∧ c = 1)) (hf : r = -1 ∨ ∀ x : Nat, x < T 0 2 → x ≠ k → ¬ (T 14 x = r ∧ T 15 x = p)) : TV (gup T k c s r p) := by
  obtain ⟨⟨vA, vB⟩, ⟨vC, vD⟩, vE, vF⟩ := V
  refine ⟨⟨vA, vB⟩, ⟨vC, vD⟩, fun x hx => ?_, fun x y hx hy => ?_⟩
  · have := vE x hx
    rw [gup_12, gup_13, gup_14, gup_15]
    show (_ ∧ _ ∧ (_ ∨ ((_ ∧ _ < T 0 1) ∧ (_ ∧ _ < T 3 _) ∧ _)))
    by_cases e : x = k
    · simp only [e, if_true]; exact ⟨hc, hs, hr⟩
    · simp only [e, if_false]; exact this
  · have := vF x y hx hy
    rw [gup_14, gup_14, gup_15, gup_15]
    have hx' : (x : Int) < T 0 2 := hx
    have hy' : (y : Int) < T 0 2 := hy
    by_cases e : x = k
    · by_cases e2 : y = k
      · intro _ _ _; omega
      · simp only [e, e2, if_true, if_false]
        intro q1 q2 q3
        rcases hf with hf | hf
        · exact absurd hf q1
        · exact absurd ⟨q2.symm, q3.symm⟩ (hf y hy' e2)
    · by_cases e2 : y = k
      · simp only [e, e2, if_true, if_false]
        intro q1 q2 q3
        rcases hf with hf | hf
        · exact absurd (q2.trans hf) q1
        · exact absurd ⟨q2, q3⟩ (hf x hx' e)
      · simp only [e, e2, if_false]; exact this
theorem bcom_x (hk : k < ng T) (hc : (T 12 k = 0 ∧ c = 1) ∨ (T 12 k = 1 ∧ c = 0)) : bcom T ^^^ 2 ^ k = bcom (gup T k c s r p) := by
  apply Nat.eq_of_testBit_eq
  intro i
  rw [Nat.testBit_xor, Nat.testBit_two_pow, bcom_bit, bcom_bit, gup_12]
  show _ = (decide (i < ng T) && _)
  by_cases e : i = k
  · rcases hc with ⟨h1, h2⟩ | ⟨h1, h2⟩ <;> simp [e, hk, h1, h2]
  · have e2 : ¬ k = i := fun q => e q.symm
    simp [e, e2]
theorem bcom_s (hc : c = T 12 k) : bcom (gup T k c s r p) = bcom T := by
  apply Nat.eq_of_testBit_eq
  intro i
  rw [bcom_bit, bcom_bit, gup_12]
  show (decide (i < ng T) && _) = _
  by_cases e : i = k
  · simp [e, hc]
  · simp [e]
theorem bsit_x (hk : k < ng T) (hc : (T 13 k = 0 ∧ s = 1) ∨ (T 13 k = 1 ∧ s = 0)) : bsit T ^^^ 2 ^ k = bsit (gup T k c s r p) := by
  apply Nat.eq_of_testBit_eq
  intro i
  rw [Nat.testBit_xor, Nat.testBit_two_pow, bsit_bit, bsit_bit, gup_13]
  show _ = (decide (i < ng T) && _)
  by_cases e : i = k
  · rcases hc with ⟨h1, h2⟩ | ⟨h1, h2⟩ <;> simp [e, hk, h1, h2]
  · have e2 : ¬ k = i := fun q => e q.symm
    simp [e, e2]
theorem bsit_s (hc : s = T 13 k) : bsit (gup T k c s r p) = bsit T := by
  apply Nat.eq_of_testBit_eq
  intro i
  rw [bsit_bit, bsit_bit, gup_13]
  show (decide (i < ng T) && _) = _
  by_cases e : i = k
  · simp [e, hc]
  · simp [e]
theorem bsit_n (hs : s = 0) : bsit T ^^^ (bsit T &&& 2 ^ k) = bsit (gup T k c s r p) := by
  apply Nat.eq_of_testBit_eq
  intro i
  rw [Nat.testBit_xor, Nat.testBit_and, Nat.testBit_two_pow, bsit_bit, bsit_bit, gup_13]
  show _ = (decide (i < ng T) && _)
  by_cases e : i = k
  · simp [e, hs]
  · have e2 : ¬ k = i := fun q => e q.symm
    simp [e, e2]
/-! the class puts -/
def cput (I : Nat → Nat → Int32) (b : Bool) (k : Nat) (r p c2 : Int) : Nat → Nat → Int32 := hup (hup (hup I (ct b + 3) k (iI r)) (ct b + 4) k (iI p)) (ct b) 10 (iI (c2 + 1))
theorem cl_put (h : cC T b I) (ht : tvC T) (hn : I (ct b) 10 = iI c2) (hg : isG T g) : Court_put S0 (some (ct b)) (iI g) (iI r) (iI p) (I, J, Pst b f) = some (cput I b g.toNat r p c2, J, Pst b f) := by
  have h0 := ht.1
  have n1 : ct b ≠ ct b + 3 := by omega
  have n2 : ct b ≠ ct b + 4 := by omega
  simp (disch := omega) only [Court_put, rc0, gi0, gl0, pi0, pl0, pz0, pr0, gr0_0, gr0_1, gr0_2, gr0_3, gr0_4, gr0_5, gr0_6, gr0_7, gr0_8, rc1, gi1, gl1, pi1, pl1, pz1, pr1, gr1_0, rc3, gi3, gl3, pi3, pl3, pz3, pr3, gr3_0, gr3_10, gr3_11, rc47, gi47, gl47, pi47, pl47, pz47, pr47, gr47_0, gr47_1, gr47_2, gr47_3, gr47_4, gr47_5, gr47_6, rc55, gi55, gl55, pi55, pl55, pz55, pr55, gr55_0, gr55_1, rc58, gi58, gl58, pi58, pl58, pz58, pr58, gr58_0, gr58_1, rc61, gi61, gl61, pi61, pl61, pz61, pr61, gr61_0, gr61_1, gr61_2, gr61_7, rc62, gi62, gl62, pi62, pl62, pz62, pr62, gr62_0, gr62_1, gr62_2, gr62_3, gr62_4, gr62_5, ld2, st2, an2, ld4, st4, an4, ld5, st5, an5, an6, ld48, st48, an48, ld49, st49, an49, ld50, st50, an50, ld51, st51, an51, ld52, st52, an52, ld53, st53, an53, ld54, st54, an54, ld56, st56, an56, ld57, st57, an57, ld59, st59, an59, ld60, st60, an60, ld63, st63, an63, ld64, st64, an64, ld65, st65, an65, ld66, st66, an66, ld67, st67, an67, ld68, st68, an68, ld69, st69, an69, ld70, st70, an70, rcct, gict, glct, pict, plct, pzct, prct, grct_0, grct_1, grct_2, grct_3, ldctm, stctm, anctm, ldctr, stctr, anctr, ldctp, stctp, anctp, anctR, rcru, giru, glru, piru, plru, pzru, prru, grru_7, ldcu, stcu, ancu, arct, ar6, rcro, giro, piro, pzro, grro_1, grro_2, grro_3, rcfo, gifo, pifo, pzfo, grfo_0, grfo_1, ldfop, stfop, anfop, ldfoe, stfoe, anfoe, Option.bind_some, if_true, if_false, cl_hasGuest h ht (show rg g by omega), n_0, n_1, bI_0, decide_eq_false_iff_not, iff_true_intro hg, not_true, hup_obj _ _ _ n1, hup_obj _ _ _ n2, hn, iI_add, cput]
theorem cput_agr : Agr (outC b) I (cput I b k r p c2) := (((Agr.refl _ I).hup (by omega)).hup (by omega)).hup (by omega)
theorem cput_agr2 : Agr (fun o => o = ct b + 1 ∨ (ct b + 5 ≤ o ∧ o < ct b + 29)) I (cput I b k r p c2) := (((Agr.refl _ I).hup (by omega)).hup (by omega)).hup (by omega)
theorem cput_c (j : Nat) (hj : j ≠ 10) : cput I b k r p c2 (ct b) j = I (ct b) j := by simp [cput, hup, hj]
theorem cput_10 : cput I b k r p c2 (ct b) 10 = iI (c2 + 1) := by simp [cput, hup]
theorem cput_3 (x : Nat) : cput I b k r p c2 (ct b + 3) x = if x = k then iI r else I (ct b + 3) x := by simp [cput, hup]
theorem cput_4 (x : Nat) : cput I b k r p c2 (ct b + 4) x = if x = k then iI p else I (ct b + 4) x := by simp [cput, hup]
end
