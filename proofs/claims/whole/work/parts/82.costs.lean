/-! ===== layer 2: seatings: what two guests' places cost ===== -/
section
variable {T : Tb} {I I' I'' : Nat → Nat → Int32} {J : Nat → Nat → Int64} {b : Bool} {f k n i j x y p q r a c K : Nat} {P : Nat → Nat → Option Nat} {m w : Int} {V0 V1 : hV} {F G : Nat → Nat → Nat → Int}
def hwI (w : Nat) : Int := (w : Int) / 2 - 1
def bwI (w : Nat) : Bool := decide (w % 2 = 1)
def flp (h : Int) : Int := if h = 1 ∨ h = 2 then 3 - h else h
def hm (g : Int) (d : Bool) (t : Int) : Int := if d = true then (if g < t then t else g) else g
theorem hm_f (g t : Int) : hm g false t = g := rfl
/-- the table of the costs -/
def tab (K : Nat) (F G : Nat → Nat → Nat → Int) (I : Nat → Nat → Int32) : Prop := ∀ i j w, i < j → j < K → w < 8 → I 65 ((7 * i + j) * 8 + w) = iI (F i j w) ∧ I 66 ((7 * i + j) * 8 + w) = iI (G i j w)
def swC (T : Tb) (r a c w : Nat) : Bool := slt (T 5 r) (if a ≤ c then hwI w else flp (hwI w)) (bwI w)
theorem flp_rg (h : -1 ≤ m ∧ m ≤ 2) : -1 ≤ flp m ∧ flp m ≤ 2 := by unfold flp; split <;> omega
abbrev oT (o : Nat) : Prop := o ≠ 65 ∧ o ≠ 66
theorem cl_couple (hd : cD T b I) (ht : tvC T) (hv : tvD T) (hr : (r : Int) < T 0 4) (hK : K ≤ 7) (ha : a < K) (hc : c < K) (hne : a ≠ c) (hG : ∀ i j w, 0 ≤ G i j w ∧ G i j w ≤ 9) (h : tab K F G I) : ∃ I', Pairs_layCouple S0 (some 62) (some (ru b r)) (iI (a : Int)) (iI (c : Int)) (I, J, Pst b f) = some (I', J, Pst b f) ∧ Agr oT I I' ∧ tab K (fun i j w => F i j w + if (i = min a c ∧ j = max a c) ∧ swC T r a c w = true then T 8 r else 0) (fun i j w => hm (G i j w) (decide (i = min a c ∧ j = max a c) && swC T r a c w) (T 8 r)) I' := by
  have h0 := ht.1
  obtain ⟨v1, v2, v3, v4, v5, v6, v7⟩ := hv r hr
  have key := jheap (J := J) (P := Pst b f) (I := I) (body := Pairs_layCouple_L18 S0 (some 62) (some (ru b r)) (iI (a : Int)) (iI (c : Int))) (fun k I' => Agr oT I I' ∧ tab K (fun i j w => F i j w + if (i = min a c ∧ j = max a c ∧ w < k) ∧ swC T r a c w = true then T 8 r else 0) (fun i j w => hm (G i j w) (decide (i = min a c ∧ j = max a c ∧ w < k) && swC T r a c w) (T 8 r)) I') 0 8 ⟨Agr.refl _ _, fun i j w h1 h2 h3 => ?_⟩ (by omega) (by omega) (fun k I1 _ hk q1 => ?_) (fun I1 q1 => ?_)
  · obtain ⟨I2, e1, e2, e3⟩ := key
    have e1' : jloop (Pairs_layCouple_L18 S0 (some 62) (some (ru b r)) (iI (a : Int)) (iI (c : Int))) jN (iI 0, (I, J, Pst b f)) = some (I2, J, Pst b f) := e1
    refine ⟨I2, by simp only [Pairs_layCouple, rc0, gi0, gl0, pi0, pl0, pz0, pr0, gr0_0, gr0_1, gr0_2, gr0_3, gr0_4, gr0_5, gr0_6, gr0_7, gr0_8, rc1, gi1, gl1, pi1, pl1, pz1, pr1, gr1_0, rc3, gi3, gl3, pi3, pl3, pz3, pr3, gr3_0, gr3_10, gr3_11, rc47, gi47, gl47, pi47, pl47, pz47, pr47, gr47_0, gr47_1, gr47_2, gr47_3, gr47_4, gr47_5, gr47_6, rc55, gi55, gl55, pi55, pl55, pz55, pr55, gr55_0, gr55_1, rc58, gi58, gl58, pi58, pl58, pz58, pr58, gr58_0, gr58_1, rc61, gi61, gl61, pi61, pl61, pz61, pr61, gr61_0, gr61_1, gr61_2, gr61_7, rc62, gi62, gl62, pi62, pl62, pz62, pr62, gr62_0, gr62_1, gr62_2, gr62_3, gr62_4, gr62_5, ld2, st2, an2, ld4, st4, an4, ld5, st5, an5, an6, ld48, st48, an48, ld49, st49, an49, ld50, st50, an50, ld51, st51, an51, ld52, st52, an52, ld53, st53, an53, ld54, st54, an54, ld56, st56, an56, ld57, st57, an57, ld59, st59, an59, ld60, st60, an60, ld63, st63, an63, ld64, st64, an64, ld65, st65, an65, ld66, st66, an66, ld67, st67, an67, ld68, st68, an68, ld69, st69, an69, ld70, st70, an70, rcct, gict, glct, pict, plct, pzct, prct, grct_0, grct_1, grct_2, grct_3, ldctm, stctm, anctm, ldctr, stctr, anctr, ldctp, stctp, anctp, anctR, rcru, giru, glru, piru, plru, pzru, prru, grru_7, ldcu, stcu, ancu, arct, ar6, rcro, giro, piro, pzro, grro_1, grro_2, grro_3, rcfo, gifo, pifo, pzfo, grfo_0, grfo_1, ldfop, stfop, anfop, ldfoe, stfoe, anfoe, Option.bind_some, if_true, if_false, n_0, e1'], e2, fun i j w h1 h2 h3 => ?_⟩
    have := e3 i j w h1 h2 h3
    simp only [h3, and_true] at this
    exact this
  · have := h i j w h1 h2 h3
    simp only [Nat.not_lt_zero, and_false, false_and, if_false, Int.add_zero, decide_false, Bool.false_and, hm, Bool.false_eq_true]
    exact this
  · have hd1 : cD T b I1 := hd.agr (q1.1.sub fun o h => by have := ct_or b; omega) (by omega)
    obtain ⟨d1, d2, d3, d4, d5, d6, d7, d8⟩ := hd1 r hr
    have hh : -1 ≤ hwI k ∧ hwI k ≤ 2 := by unfold hwI; omega
    have hfl := flp_rg hh
    have hj1 : ((if (a : Int) ≤ (c : Int) then some (iI (hwI k)) else if hwI k = 1 then some (iI (3 - hwI k)) else if hwI k = 2 then some (iI (3 - hwI k)) else some (iI (hwI k))) : Option Int32) = some (iI (if a ≤ c then hwI k else flp (hwI k))) := by
      by_cases e : a ≤ c
      · rw [if_pos (by omega), if_pos e]
      · rw [if_neg (by omega), if_neg e]
        unfold flp
        by_cases e1 : hwI k = 1
        · rw [if_pos e1, if_pos (Or.inl e1)]
        · by_cases e2 : hwI k = 2
          · rw [if_neg e1, if_pos e2, if_pos (Or.inr e2)]
          · rw [if_neg e1, if_neg e2, if_neg (by omega)]
    have hj2 : ((if (k : Int) % 2 = 1 then some (iI 1) else some (iI 0)) : Option Int32) = some (bI (bwI k)) := by
      unfold bwI
      by_cases e : k % 2 = 1
      · rw [if_pos (by omega), decide_eq_true e]; rfl
      · rw [if_neg (by omega), decide_eq_false e]; rfl
    have hsl : Fi_isSlight (iI (T 5 r)) (iI (if a ≤ c then hwI k else flp (hwI k))) (bI (bwI k)) = bI (swC T r a c k) := isSlightI v1 (by split <;> assumption)
    have hpo : Pairs_pairOf (Jd_min (iI (a : Int)) (iI (c : Int))) (Jd_max (iI (a : Int)) (iI (c : Int))) + iI (k : Int) = iI (((7 * min a c + max a c) * 8 + k : Nat) : Int) := by
      unfold Pairs_pairOf
      rw [minI (by omega), maxI (by omega), n_7, n_8, iI_mul, iI_add, iI_mul, iI_add]
      congr 1
      split <;> split <;> omega
    have hw2 : (k : Int) / 2 - 1 = hwI k := rfl
    have hlt : min a c < max a c := by omega
    have hmx : max a c < K := by omega
    have hix : (7 * min a c + max a c) * 8 + k < 392 := by omega
    have hq := q1.2 (min a c) (max a c) k hlt hmx hk
    have hv1 : (fun i j w => F i j w + if (i = min a c ∧ j = max a c ∧ w < k) ∧ swC T r a c w = true then T 8 r else 0) (min a c) (max a c) k = F (min a c) (max a c) k := by simp
    have hv2 : (fun i j w => hm (G i j w) (decide (i = min a c ∧ j = max a c ∧ w < k) && swC T r a c w) (T 8 r)) (min a c) (max a c) k = G (min a c) (max a c) k := by simp [hm]
    rw [hv1, hv2] at hq
    have hGb := hG (min a c) (max a c) k
    cases e : swC T r a c k
    · refine ⟨I1, ?_, q1.1, fun i j w h1 h2 h3 => ?_⟩
      · simp (maxSteps := 4000000) (disch := omega) only [Pairs_layCouple_L18, rc0, gi0, gl0, pi0, pl0, pz0, pr0, gr0_0, gr0_1, gr0_2, gr0_3, gr0_4, gr0_5, gr0_6, gr0_7, gr0_8, rc1, gi1, gl1, pi1, pl1, pz1, pr1, gr1_0, rc3, gi3, gl3, pi3, pl3, pz3, pr3, gr3_0, gr3_10, gr3_11, rc47, gi47, gl47, pi47, pl47, pz47, pr47, gr47_0, gr47_1, gr47_2, gr47_3, gr47_4, gr47_5, gr47_6, rc55, gi55, gl55, pi55, pl55, pz55, pr55, gr55_0, gr55_1, rc58, gi58, gl58, pi58, pl58, pz58, pr58, gr58_0, gr58_1, rc61, gi61, gl61, pi61, pl61, pz61, pr61, gr61_0, gr61_1, gr61_2, gr61_7, rc62, gi62, gl62, pi62, pl62, pz62, pr62, gr62_0, gr62_1, gr62_2, gr62_3, gr62_4, gr62_5, ld2, st2, an2, ld4, st4, an4, ld5, st5, an5, an6, ld48, st48, an48, ld49, st49, an49, ld50, st50, an50, ld51, st51, an51, ld52, st52, an52, ld53, st53, an53, ld54, st54, an54, ld56, st56, an56, ld57, st57, an57, ld59, st59, an59, ld60, st60, an60, ld63, st63, an63, ld64, st64, an64, ld65, st65, an65, ld66, st66, an66, ld67, st67, an67, ld68, st68, an68, ld69, st69, an69, ld70, st70, an70, rcct, gict, glct, pict, plct, pzct, prct, grct_0, grct_1, grct_2, grct_3, ldctm, stctm, anctm, ldctr, stctr, anctr, ldctp, stctp, anctp, anctR, rcru, giru, glru, piru, plru, pzru, prru, grru_7, ldcu, stcu, ancu, arct, ar6, rcro, giro, piro, pzro, grro_1, grro_2, grro_3, rcfo, gifo, pifo, pzfo, grfo_0, grfo_1, ldfop, stfop, anfop, ldfoe, stfoe, anfoe, Option.bind_some, if_true, if_false, n_0, n_1, n_2, n_3, n_8, iI_add, iI_sub, iI_lt, iI_le, iI_eq, show ¬ (8 : Int) ≤ (k : Int) by omega, div2I, hw2, hj1, d1, irmI, hj2, hsl, e, bI_0]
      · have := q1.2 i j w h1 h2 h3
        by_cases z : w = k
        · subst z
          simp only [Nat.lt_irrefl, and_false, false_and, if_false, decide_false, Bool.false_and, hm, Bool.false_eq_true] at this
          simp only [e, Bool.false_eq_true, and_false, if_false, Bool.and_false, hm]
          exact this
        · simp only [lt_sk w k z]; exact this
    · refine ⟨hup (hup I1 65 ((7 * min a c + max a c) * 8 + k) (iI (F (min a c) (max a c) k + T 8 r))) 66 ((7 * min a c + max a c) * 8 + k) (iI (if G (min a c) (max a c) k < T 8 r then T 8 r else G (min a c) (max a c) k)), ?_, (q1.1.hup (by omega)).hup (by omega), fun i j w h1 h2 h3 => ?_⟩
      · have d4' : ∀ v, hup I1 65 ((7 * min a c + max a c) * 8 + k) v (ru b r) 3 = iI (T 8 r) := fun v => by
          have := ru_gt b r
          rw [hup_obj _ _ _ (by omega)]; exact d4
        have hmaxG : Jd_max (iI (G (min a c) (max a c) k)) (iI (T 8 r)) = iI (if G (min a c) (max a c) k < T 8 r then T 8 r else G (min a c) (max a c) k) := maxI (by omega)
        simp (maxSteps := 4000000) (disch := omega) only [Pairs_layCouple_L18, rc0, gi0, gl0, pi0, pl0, pz0, pr0, gr0_0, gr0_1, gr0_2, gr0_3, gr0_4, gr0_5, gr0_6, gr0_7, gr0_8, rc1, gi1, gl1, pi1, pl1, pz1, pr1, gr1_0, rc3, gi3, gl3, pi3, pl3, pz3, pr3, gr3_0, gr3_10, gr3_11, rc47, gi47, gl47, pi47, pl47, pz47, pr47, gr47_0, gr47_1, gr47_2, gr47_3, gr47_4, gr47_5, gr47_6, rc55, gi55, gl55, pi55, pl55, pz55, pr55, gr55_0, gr55_1, rc58, gi58, gl58, pi58, pl58, pz58, pr58, gr58_0, gr58_1, rc61, gi61, gl61, pi61, pl61, pz61, pr61, gr61_0, gr61_1, gr61_2, gr61_7, rc62, gi62, gl62, pi62, pl62, pz62, pr62, gr62_0, gr62_1, gr62_2, gr62_3, gr62_4, gr62_5, ld2, st2, an2, ld4, st4, an4, ld5, st5, an5, an6, ld48, st48, an48, ld49, st49, an49, ld50, st50, an50, ld51, st51, an51, ld52, st52, an52, ld53, st53, an53, ld54, st54, an54, ld56, st56, an56, ld57, st57, an57, ld59, st59, an59, ld60, st60, an60, ld63, st63, an63, ld64, st64, an64, ld65, st65, an65, ld66, st66, an66, ld67, st67, an67, ld68, st68, an68, ld69, st69, an69, ld70, st70, an70, rcct, gict, glct, pict, plct, pzct, prct, grct_0, grct_1, grct_2, grct_3, ldctm, stctm, anctm, ldctr, stctr, anctr, ldctp, stctp, anctp, anctR, rcru, giru, glru, piru, plru, pzru, prru, grru_7, ldcu, stcu, ancu, arct, ar6, rcro, giro, piro, pzro, grro_1, grro_2, grro_3, rcfo, gifo, pifo, pzfo, grfo_0, grfo_1, ldfop, stfop, anfop, ldfoe, stfoe, anfoe, Option.bind_some, if_true, if_false, n_0, n_1, n_2, n_3, n_8, iI_add, iI_sub, iI_lt, iI_le, iI_eq, show ¬ (8 : Int) ≤ (k : Int) by omega, div2I, hw2, hj1, d1, irmI, hj2, hsl, e, bI_0, Bool.true_eq_false, hpo, Int.toNat_natCast, hq.1, d4, hup_obj _ _ _ (show (66 : Nat) ≠ 65 by omega), hq.2, d4', hmaxG]
      · by_cases z : (i = min a c ∧ j = max a c) ∧ w = k
        · obtain ⟨⟨z1, z2⟩, z3⟩ := z
          subst z3
          rw [z1, z2, hup_obj _ _ _ (by omega), hup_same, hup_same]
          simp [e, hm]
        · have hne2 : (7 * i + j) * 8 + w ≠ (7 * min a c + max a c) * 8 + k := by omega
          rw [hup_obj _ _ _ (by omega), hup_ix _ _ _ hne2, hup_ix _ _ _ hne2, hup_obj _ _ _ (by omega)]
          have := q1.2 i j w h1 h2 h3
          have hiff : (i = min a c ∧ j = max a c ∧ w < k + 1) ↔ (i = min a c ∧ j = max a c ∧ w < k) := by omega
          simp only [hiff]
          exact this
  · simp (maxSteps := 4000000) (disch := omega) only [Pairs_layCouple_L18, Option.bind_some, if_true, if_false, n_8, iI_lt, iI_le, iI_eq, show (8 : Int) ≤ ((8 : Nat) : Int) by omega]
def cw1 (T : Tb) (r i j w : Nat) : Bool := cpl T r (mg T i) (mg T j) && slt (T 5 r) (hwI w) (bwI w)
def cw2 (T : Tb) (r i j w : Nat) : Bool := cpl T r (mg T j) (mg T i) && slt (T 5 r) (flp (hwI w)) (bwI w)
/-- with the couples of r of which Q holds -/
def incF (T : Tb) (r : Nat) (Q : Nat → Nat → Bool) (F : Nat → Nat → Nat → Int) (i j w : Nat) : Int := F i j w + ((if (Q i j && cw1 T r i j w) = true then T 8 r else 0) + (if (Q j i && cw2 T r i j w) = true then T 8 r else 0))
def incG (T : Tb) (r : Nat) (Q : Nat → Nat → Bool) (G : Nat → Nat → Nat → Int) (i j w : Nat) : Int := hm (hm (G i j w) (Q i j && cw1 T r i j w) (T 8 r)) (Q j i && cw2 T r i j w) (T 8 r)
theorem hm_rg {g t : Int} {d : Bool} (h : 0 ≤ g ∧ g ≤ 9) (h2 : 0 ≤ t ∧ t ≤ 9) : 0 ≤ hm g d t ∧ hm g d t ≤ 9 := by
  unfold hm
  (repeat' split) <;> omega
theorem tab_ext {F' G' : Nat → Nat → Nat → Int} (h : tab K F G I) (h1 : ∀ i j w, i < j → j < K → w < 8 → F i j w = F' i j w ∧ G i j w = G' i j w) : tab K F' G' I := fun i j w a1 a2 a3 => by
  have := h i j w a1 a2 a3
  rw [(h1 i j w a1 a2 a3).1, (h1 i j w a1 a2 a3).2] at this
  exact this
def prC (a k i j : Nat) : Bool := decide (i < a) || (decide (i = a) && decide (j < k))
theorem prC_t : prC a k i j = true ↔ (i < a ∨ (i = a ∧ j < k)) := by simp [prC]
theorem prC_f : prC a k i j = false ↔ ¬ (i < a ∨ (i = a ∧ j < k)) := by rw [← prC_t, Bool.not_eq_true]
theorem prC_s (h : ¬ (i = a ∧ j = k)) : prC a (k + 1) i j = prC a k i j := by
  rw [Bool.eq_iff_iff, prC_t, prC_t]
  omega
theorem incF_eq {Q Q' : Nat → Nat → Bool} {w : Nat} (h1 : (Q i j && cw1 T r i j w) = (Q' i j && cw1 T r i j w)) (h2 : (Q j i && cw2 T r i j w) = (Q' j i && cw2 T r i j w)) : incF T r Q F i j w = incF T r Q' F i j w ∧ incG T r Q G i j w = incG T r Q' G i j w := by
  unfold incF incG
  rw [h1, h2]
  exact ⟨rfl, rfl⟩
theorem cl_rrow (hd : cD T b I) (ht : tvC T) (hv : tvD T) (hr : (r : Int) < T 0 4) (hK : nK T ≤ 7) (hu : tuC T I) (ha : a < nK T) (hG : ∀ i j w, 0 ≤ G i j w ∧ G i j w ≤ 9) (h : tab (nK T) (incF T r (prC a 0) F) (incG T r (prC a 0) G) I) : ∃ I', jloop (Pairs_layRule_L12 S0 (some 62) (some (ru b r)) (iI (a : Int), V0)) jN (iI 0, (I, J, Pst b f)) = some (I', J, Pst b f) ∧ Agr oT I I' ∧ tab (nK T) (incF T r (prC (a + 1) 0) F) (incG T r (prC (a + 1) 0) G) I' := by
  have h0 := ht.1
  have v4 := (hv r hr).2.2.2.1
  have hag := mg_is ha
  have key := jheap (J := J) (P := Pst b f) (I := I) (body := Pairs_layRule_L12 S0 (some 62) (some (ru b r)) (iI (a : Int), V0)) (fun k I' => Agr oT I I' ∧ tab (nK T) (incF T r (prC a k) F) (incG T r (prC a k) G) I') 0 (nK T) ⟨Agr.refl _ _, h⟩ (by omega) (by omega) (fun k I1 _ hk q1 => ?_) (fun I1 q1 => ?_)
  · obtain ⟨I2, e1, e2, e3⟩ := key
    refine ⟨I2, e1, e2, tab_ext e3 fun i j w h1 h2 h3 => incF_eq ?_ ?_⟩
    · rw [show prC a (nK T) i j = prC (a + 1) 0 i j by rw [Bool.eq_iff_iff, prC_t, prC_t]; omega]
    · rw [show prC a (nK T) j i = prC (a + 1) 0 j i by rw [Bool.eq_iff_iff, prC_t, prC_t]; omega]
  · have hd1 : cD T b I1 := hd.agr (q1.1.sub fun o h => by have := ct_or b; omega) (by omega)
    have d8 := (hd1 r hr).2.2.2.2.2.2.2
    have hkg := mg_is hk
    have u6 : I1 62 6 = iI (nK T : Int) := (q1.1 62 (by omega) 6).trans hu.1
    have ua : I1 63 a = iI (mg T a : Int) := (q1.1 63 (by omega) a).trans (hu.2 a ha)
    have uk : I1 63 k = iI (mg T k : Int) := (q1.1 63 (by omega) k).trans (hu.2 k hk)
    have hne : cpl T r (mg T a) (mg T k) = true → a ≠ k := fun e1 e2 => by
      subst e2
      exact (cpl_ng ht hv hr e1).2 rfl
    cases e : cpl T r (mg T a) (mg T k)
    · refine ⟨I1, ?_, q1.1, tab_ext q1.2 fun i j w h1 h2 h3 => incF_eq ?_ ?_⟩
      · simp (maxSteps := 4000000) (disch := omega) only [Pairs_layRule_L12, rc0, gi0, gl0, pi0, pl0, pz0, pr0, gr0_0, gr0_1, gr0_2, gr0_3, gr0_4, gr0_5, gr0_6, gr0_7, gr0_8, rc1, gi1, gl1, pi1, pl1, pz1, pr1, gr1_0, rc3, gi3, gl3, pi3, pl3, pz3, pr3, gr3_0, gr3_10, gr3_11, rc47, gi47, gl47, pi47, pl47, pz47, pr47, gr47_0, gr47_1, gr47_2, gr47_3, gr47_4, gr47_5, gr47_6, rc55, gi55, gl55, pi55, pl55, pz55, pr55, gr55_0, gr55_1, rc58, gi58, gl58, pi58, pl58, pz58, pr58, gr58_0, gr58_1, rc61, gi61, gl61, pi61, pl61, pz61, pr61, gr61_0, gr61_1, gr61_2, gr61_7, rc62, gi62, gl62, pi62, pl62, pz62, pr62, gr62_0, gr62_1, gr62_2, gr62_3, gr62_4, gr62_5, ld2, st2, an2, ld4, st4, an4, ld5, st5, an5, an6, ld48, st48, an48, ld49, st49, an49, ld50, st50, an50, ld51, st51, an51, ld52, st52, an52, ld53, st53, an53, ld54, st54, an54, ld56, st56, an56, ld57, st57, an57, ld59, st59, an59, ld60, st60, an60, ld63, st63, an63, ld64, st64, an64, ld65, st65, an65, ld66, st66, an66, ld67, st67, an67, ld68, st68, an68, ld69, st69, an69, ld70, st70, an70, rcct, gict, glct, pict, plct, pzct, prct, grct_0, grct_1, grct_2, grct_3, ldctm, stctm, anctm, ldctr, stctr, anctr, ldctp, stctp, anctp, anctR, rcru, giru, glru, piru, plru, pzru, prru, grru_7, ldcu, stcu, ancu, arct, ar6, rcro, giro, piro, pzro, grro_1, grro_2, grro_3, rcfo, gifo, pifo, pzfo, grfo_0, grfo_1, ldfop, stfop, anfop, ldfoe, stfoe, anfoe, Option.bind_some, if_true, if_false, n_0, n_1, n_2, n_3, n_4, n_5, n_6, n_7, n_8, n_9, n_10, n_12, n_15, n_20, n_24, n_32, n_48, n_57, n_59, n_80, n_97, n_99, n_100, n_122, n_680, n_700, n_999, n_1023, n_1024, iI_neg, iI_add, iI_sub, iI_lt, iI_le, iI_eq, u6, show ¬ (nK T : Int) ≤ (k : Int) by omega, Int.toNat_natCast, ua, uk, d8 (mg T a) hag.1, bt10_has hkg.1, e, bI_0]
      · by_cases z1 : i = a ∧ j = k
        · have hc : cw1 T r i j w = false := by unfold cw1; rw [z1.1, z1.2, e]; rfl
          rw [hc, Bool.and_false, Bool.and_false]
        · rw [prC_s z1]
      · by_cases z2 : j = a ∧ i = k
        · have hc : cw2 T r i j w = false := by unfold cw2; rw [z2.1, z2.2, e]; rfl
          rw [hc, Bool.and_false, Bool.and_false]
        · rw [prC_s z2]
    · have hak := hne e
      obtain ⟨I2, z1, z2, z3⟩ := cl_couple (J := J) (f := f) (I := I1) hd1 ht hv hr hK ha hk hak (fun i j w => hm_rg (hm_rg (hG i j w) (by omega)) (by omega)) q1.2
      refine ⟨I2, ?_, q1.1.trans z2, tab_ext z3 fun i j w h1 h2 h3 => ?_⟩
      · simp (maxSteps := 4000000) (disch := omega) only [Pairs_layRule_L12, rc0, gi0, gl0, pi0, pl0, pz0, pr0, gr0_0, gr0_1, gr0_2, gr0_3, gr0_4, gr0_5, gr0_6, gr0_7, gr0_8, rc1, gi1, gl1, pi1, pl1, pz1, pr1, gr1_0, rc3, gi3, gl3, pi3, pl3, pz3, pr3, gr3_0, gr3_10, gr3_11, rc47, gi47, gl47, pi47, pl47, pz47, pr47, gr47_0, gr47_1, gr47_2, gr47_3, gr47_4, gr47_5, gr47_6, rc55, gi55, gl55, pi55, pl55, pz55, pr55, gr55_0, gr55_1, rc58, gi58, gl58, pi58, pl58, pz58, pr58, gr58_0, gr58_1, rc61, gi61, gl61, pi61, pl61, pz61, pr61, gr61_0, gr61_1, gr61_2, gr61_7, rc62, gi62, gl62, pi62, pl62, pz62, pr62, gr62_0, gr62_1, gr62_2, gr62_3, gr62_4, gr62_5, ld2, st2, an2, ld4, st4, an4, ld5, st5, an5, an6, ld48, st48, an48, ld49, st49, an49, ld50, st50, an50, ld51, st51, an51, ld52, st52, an52, ld53, st53, an53, ld54, st54, an54, ld56, st56, an56, ld57, st57, an57, ld59, st59, an59, ld60, st60, an60, ld63, st63, an63, ld64, st64, an64, ld65, st65, an65, ld66, st66, an66, ld67, st67, an67, ld68, st68, an68, ld69, st69, an69, ld70, st70, an70, rcct, gict, glct, pict, plct, pzct, prct, grct_0, grct_1, grct_2, grct_3, ldctm, stctm, anctm, ldctr, stctr, anctr, ldctp, stctp, anctp, anctR, rcru, giru, glru, piru, plru, pzru, prru, grru_7, ldcu, stcu, ancu, arct, ar6, rcro, giro, piro, pzro, grro_1, grro_2, grro_3, rcfo, gifo, pifo, pzfo, grfo_0, grfo_1, ldfop, stfop, anfop, ldfoe, stfoe, anfoe, Option.bind_some, if_true, if_false, n_0, n_1, n_2, n_3, n_4, n_5, n_6, n_7, n_8, n_9, n_10, n_12, n_15, n_20, n_24, n_32, n_48, n_57, n_59, n_80, n_97, n_99, n_100, n_122, n_680, n_700, n_999, n_1023, n_1024, iI_neg, iI_add, iI_sub, iI_lt, iI_le, iI_eq, u6, show ¬ (nK T : Int) ≤ (k : Int) by omega, Int.toNat_natCast, ua, uk, d8 (mg T a) hag.1, bt10_has hkg.1, e, bI_0, Bool.true_eq_false, z1]
      · by_cases y1 : i = a ∧ j = k
        · have hs : swC T r a k w = slt (T 5 r) (hwI w) (bwI w) := by unfold swC; rw [if_pos (by omega)]
          have hc1 : cw1 T r i j w = slt (T 5 r) (hwI w) (bwI w) := by unfold cw1; rw [y1.1, y1.2, e]; rfl
          have hmn : i = min a k ∧ j = max a k := by omega
          have hd' : decide (i = min a k ∧ j = max a k) = true := decide_eq_true hmn
          have p0 : prC a k i j = false := prC_f.mpr (by omega)
          have p1 : prC a (k + 1) i j = true := prC_t.mpr (by omega)
          have p2 : prC a k j i = false := prC_f.mpr (by omega)
          have p3 : prC a (k + 1) j i = false := prC_f.mpr (by omega)
          unfold incF incG
          rw [p0, p1, p2, p3, hs, hc1, hd', Bool.false_and, Bool.false_and, Bool.true_and, hm_f, hm_f, hm_f]
          refine ⟨?_, rfl⟩
          rw [if_neg (show ¬ false = true by decide)]
          by_cases z : slt (T 5 r) (hwI w) (bwI w) = true
          · rw [if_pos (show (i = min a k ∧ j = max a k) ∧ slt (T 5 r) (hwI w) (bwI w) = true from ⟨hmn, z⟩), if_pos z]; omega
          · rw [if_neg (show ¬ ((i = min a k ∧ j = max a k) ∧ slt (T 5 r) (hwI w) (bwI w) = true) from fun q => z q.2), if_neg z]; omega
        · by_cases y2 : j = a ∧ i = k
          · have hs : swC T r a k w = slt (T 5 r) (flp (hwI w)) (bwI w) := by unfold swC; rw [if_neg (by omega)]
            have hc2 : cw2 T r i j w = slt (T 5 r) (flp (hwI w)) (bwI w) := by unfold cw2; rw [y2.1, y2.2, e]; rfl
            have hmn : i = min a k ∧ j = max a k := by omega
            have hd' : decide (i = min a k ∧ j = max a k) = true := decide_eq_true hmn
            have p0 : prC a k j i = false := prC_f.mpr (by omega)
            have p1 : prC a (k + 1) j i = true := prC_t.mpr (by omega)
            have p2 : prC a k i j = true := prC_t.mpr (by omega)
            have p3 : prC a (k + 1) i j = true := prC_t.mpr (by omega)
            unfold incF incG
            rw [p0, p1, p2, p3, hs, hc2, hd', Bool.false_and, Bool.true_and, Bool.true_and, hm_f]
            refine ⟨?_, rfl⟩
            by_cases z : slt (T 5 r) (flp (hwI w)) (bwI w) = true
            · rw [if_pos (show (i = min a k ∧ j = max a k) ∧ slt (T 5 r) (flp (hwI w)) (bwI w) = true from ⟨hmn, z⟩), if_pos z, if_neg (show ¬ false = true by decide)]; omega
            · rw [if_neg (show ¬ ((i = min a k ∧ j = max a k) ∧ slt (T 5 r) (flp (hwI w)) (bwI w) = true) from fun q => z q.2), if_neg z, if_neg (show ¬ false = true by decide)]; omega
          · have hn : ¬ (i = min a k ∧ j = max a k) := by omega
            have hd' : decide (i = min a k ∧ j = max a k) = false := decide_eq_false hn
            have h5 := incF_eq (T := T) (r := r) (F := F) (G := G) (Q := prC a k) (Q' := prC a (k + 1)) (i := i) (j := j) (w := w) (by rw [prC_s y1]) (by rw [prC_s y2])
            refine ⟨?_, ?_⟩
            · rw [if_neg (show ¬ ((i = min a k ∧ j = max a k) ∧ swC T r a k w = true) from fun q => hn q.1), Int.add_zero]; exact h5.1
            · rw [hd', Bool.false_and, hm_f]; exact h5.2
  · have u6 : I1 62 6 = iI (nK T : Int) := (q1.1 62 (by omega) 6).trans hu.1
    simp (maxSteps := 4000000) (disch := omega) only [Pairs_layRule_L12, rc0, gi0, gl0, pi0, pl0, pz0, pr0, gr0_0, gr0_1, gr0_2, gr0_3, gr0_4, gr0_5, gr0_6, gr0_7, gr0_8, rc1, gi1, gl1, pi1, pl1, pz1, pr1, gr1_0, rc3, gi3, gl3, pi3, pl3, pz3, pr3, gr3_0, gr3_10, gr3_11, rc47, gi47, gl47, pi47, pl47, pz47, pr47, gr47_0, gr47_1, gr47_2, gr47_3, gr47_4, gr47_5, gr47_6, rc55, gi55, gl55, pi55, pl55, pz55, pr55, gr55_0, gr55_1, rc58, gi58, gl58, pi58, pl58, pz58, pr58, gr58_0, gr58_1, rc61, gi61, gl61, pi61, pl61, pz61, pr61, gr61_0, gr61_1, gr61_2, gr61_7, rc62, gi62, gl62, pi62, pl62, pz62, pr62, gr62_0, gr62_1, gr62_2, gr62_3, gr62_4, gr62_5, ld2, st2, an2, ld4, st4, an4, ld5, st5, an5, an6, ld48, st48, an48, ld49, st49, an49, ld50, st50, an50, ld51, st51, an51, ld52, st52, an52, ld53, st53, an53, ld54, st54, an54, ld56, st56, an56, ld57, st57, an57, ld59, st59, an59, ld60, st60, an60, ld63, st63, an63, ld64, st64, an64, ld65, st65, an65, ld66, st66, an66, ld67, st67, an67, ld68, st68, an68, ld69, st69, an69, ld70, st70, an70, rcct, gict, glct, pict, plct, pzct, prct, grct_0, grct_1, grct_2, grct_3, ldctm, stctm, anctm, ldctr, stctr, anctr, ldctp, stctp, anctp, anctR, rcru, giru, glru, piru, plru, pzru, prru, grru_7, ldcu, stcu, ancu, arct, ar6, rcro, giro, piro, pzro, grro_1, grro_2, grro_3, rcfo, gifo, pifo, pzfo, grfo_0, grfo_1, ldfop, stfop, anfop, ldfoe, stfoe, anfoe, Option.bind_some, if_true, if_false, n_0, n_1, n_2, n_3, n_4, n_5, n_6, n_7, n_8, n_9, n_10, n_12, n_15, n_20, n_24, n_32, n_48, n_57, n_59, n_80, n_97, n_99, n_100, n_122, n_680, n_700, n_999, n_1023, n_1024, iI_neg, iI_add, iI_sub, iI_lt, iI_le, iI_eq, u6, show (nK T : Int) ≤ (nK T : Int) by omega]
end
