/-! ===== layer 2: seatings: the class's search ===== -/
section
variable {T : Tb} {I I' I'' : Nat → Nat → Int32} {J : Nat → Nat → Int64} {b : Bool} {f k n i j x y p q d kk jj : Nat} {m g lim w h mv : Int} {tk kep sty : Nat → Bool} {pl : Nat → Nat} {hom : Nat → Int} {st : FdS}
/-- bounds of what was found -/
def fdB (st : FdS) : Prop := st.1 = true → (0 ≤ st.2.1 ∧ st.2.1 ≤ 100000) ∧ (0 ≤ st.2.2.1 ∧ st.2.2.1 ≤ 1000) ∧ 0 ≤ st.2.2.2.1 ∧ st.2.2.2.1 ≤ 1000
/-- what was found, in the class's cells -/
def fdC (T : Tb) (f : Nat) (lim : Int) (st : FdS) (I : Nat → Nat → Int32) : Prop := (I f 3 = iI lim ∧ I f 4 = bI st.1 ∧ I f 8 = iI st.2.2.2.2.1) ∧ (st.1 = true → I f 5 = iI st.2.1 ∧ I f 6 = iI st.2.2.1 ∧ I f 7 = iI st.2.2.2.1) ∧ ∀ y, y < 10 → I (f + 1) y = iI (if cmb T y = true then st.2.2.2.2.2.1 (cnt y (cmb T)) else -1) ∧ I (f + 2) y = iI (bt 8 (fun p => cmb T y && st.2.2.2.2.2.2 (cnt y (cmb T)) p) : Int)
/-- the search at a turn -/
def seC (T : Tb) (g : Int) (hom : Nat → Int) (sty kep : Nat → Bool) (I : Nat → Nat → Int32) : Prop := I 61 6 = iI g ∧ I 61 3 = iI (bt 7 sty : Int) ∧ I 61 4 = iI (bt 8 kep : Int) ∧ ∀ i, i < nK T → I 70 i = iI (hom i)
theorem wAt_rg (ht : tvC T) (hv : tvD T) : ∀ k : Nat, 0 ≤ wAt T m pl i p k ∧ wAt T m pl i p k ≤ 1000 * k
  | 0 => by simp [wAt]
  | k + 1 => by
    have h1 := wAt_rg ht hv k
    have h2 := wW_rg (m := m) ht hv k i (wyT T m (pl k) p)
    show 0 ≤ wAt T m pl i p k + wW T m k i (wyT T m (pl k) p) ∧ wAt T m pl i p k + wW T m k i (wyT T m (pl k) p) ≤ _
    omega
theorem hAt_rg (ht : tvC T) (hv : tvD T) : ∀ k : Nat, 0 ≤ hAt T m pl i p k ∧ hAt T m pl i p k ≤ 9
  | 0 => by simp [hAt]
  | k + 1 => by
    have h1 := hAt_rg ht hv k
    have h2 := wH_rg (m := m) ht hv k i (wyT T m (pl k) p)
    show 0 ≤ (if hAt T m pl i p k < wH T m k i (wyT T m (pl k) p) then wH T m k i (wyT T m (pl k) p) else hAt T m pl i p k) ∧ (if hAt T m pl i p k < wH T m k i (wyT T m (pl k) p) then wH T m k i (wyT T m (pl k) p) else hAt T m pl i p k) ≤ 9
    split <;> omega
theorem pairI (hk : k < 7) (hi : i < 7) (hq : q < 8) : Pairs_pairOf (iI (k : Int)) (iI (i : Int)) + iI (q : Int) = iI (((7 * k + i) * 8 + q : Nat) : Int) := by
  unfold Pairs_pairOf
  rw [n_7, n_8, iI_mul, iI_add, iI_mul, iI_add]
  congr 1
  omega
theorem cl_weightAt (hK : nK T ≤ 7) (hn : n ≤ 8) (hP : prS T m n I) (hi : i < nK T) (hp : p < n) (hpl : ∀ j, j < i → I 69 j = iI (pl j : Int) ∧ pl j < n) : Search_weightAt S0 (some 61) (iI (i : Int)) (iI (p : Int)) (I, J, Pst b f) = some (iI (wAt T m pl i p i)) := by
  have e := jgather (body := Search_weightAt_L5 S0 (some 61) (iI (i : Int)) (iI (p : Int)) (I, J, Pst b f)) (fun k => iI (wAt T m pl i p k)) i (fun k hk => ?_) ?_ (by omega)
  · have e' : jloop (Search_weightAt_L5 S0 (some 61) (iI (i : Int)) (iI (p : Int)) (I, J, Pst b f)) jN (iI 0, iI 0) = some (iI (wAt T m pl i p i)) := e
    unfold Search_weightAt
    rw [rc61, Option.bind_some, n_0, e', Option.bind_some]
  · have h1 := hpl k hk
    have h2 := hP.1.2.2.2 (pl k) p h1.2 hp
    have hw := wyT_lt (T := T) (m := m) (p := pl k) (q := p)
    have h3 := (hP.2.1 k i (wyT T m (pl k) p) hk hi hw).1
    simp (maxSteps := 4000000) (disch := omega) only [Search_weightAt_L5, rc0, gi0, gl0, pi0, pl0, pz0, pr0, gr0_0, gr0_1, gr0_2, gr0_3, gr0_4, gr0_5, gr0_6, gr0_7, gr0_8, rc1, gi1, gl1, pi1, pl1, pz1, pr1, gr1_0, rc3, gi3, gl3, pi3, pl3, pz3, pr3, gr3_0, gr3_10, gr3_11, rc47, gi47, gl47, pi47, pl47, pz47, pr47, gr47_0, gr47_1, gr47_2, gr47_3, gr47_4, gr47_5, gr47_6, rc55, gi55, gl55, pi55, pl55, pz55, pr55, gr55_0, gr55_1, rc58, gi58, gl58, pi58, pl58, pz58, pr58, gr58_0, gr58_1, rc61, gi61, gl61, pi61, pl61, pz61, pr61, gr61_0, gr61_1, gr61_2, gr61_7, rc62, gi62, gl62, pi62, pl62, pz62, pr62, gr62_0, gr62_1, gr62_2, gr62_3, gr62_4, gr62_5, ld2, st2, an2, ld4, st4, an4, ld5, st5, an5, an6, ld48, st48, an48, ld49, st49, an49, ld50, st50, an50, ld51, st51, an51, ld52, st52, an52, ld53, st53, an53, ld54, st54, an54, ld56, st56, an56, ld57, st57, an57, ld59, st59, an59, ld60, st60, an60, ld63, st63, an63, ld64, st64, an64, ld65, st65, an65, ld66, st66, an66, ld67, st67, an67, ld68, st68, an68, ld69, st69, an69, ld70, st70, an70, rcct, gict, glct, pict, plct, pzct, prct, grct_0, grct_1, grct_2, grct_3, ldctm, stctm, anctm, ldctr, stctr, anctr, ldctp, stctp, anctp, anctR, rcru, giru, glru, piru, plru, pzru, prru, grru_7, ldcu, stcu, ancu, arct, ar6, rcro, giro, piro, pzro, grro_1, grro_2, grro_3, rcfo, gifo, pifo, pzfo, grfo_0, grfo_1, ldfop, stfop, anfop, ldfoe, stfoe, anfoe, Option.bind_some, if_true, if_false, n_1, n_8, iI_mul, iI_add, iI_lt, iI_le, iI_eq, show ¬ (i : Int) ≤ (k : Int) by omega, Int.toNat_natCast, h1.1, ixN8, h2, pairI (show k < 7 by omega) (show i < 7 by omega) hw, h3]
    rfl
  · simp (maxSteps := 4000000) (disch := omega) only [Search_weightAt_L5, Option.bind_some, if_true, if_false, iI_lt, iI_le, iI_eq, show (i : Int) ≤ (i : Int) by omega]
theorem cl_heavyAt (ht : tvC T) (hv : tvD T) (hK : nK T ≤ 7) (hn : n ≤ 8) (hP : prS T m n I) (hi : i < nK T) (hp : p < n) (hpl : ∀ j, j < i → I 69 j = iI (pl j : Int) ∧ pl j < n) : Search_heaviestAt S0 (some 61) (iI (i : Int)) (iI (p : Int)) (I, J, Pst b f) = some (iI (hAt T m pl i p i)) := by
  have e := jgather (body := Search_heaviestAt_L5 S0 (some 61) (iI (i : Int)) (iI (p : Int)) (I, J, Pst b f)) (fun k => iI (hAt T m pl i p k)) i (fun k hk => ?_) ?_ (by omega)
  · have e' : jloop (Search_heaviestAt_L5 S0 (some 61) (iI (i : Int)) (iI (p : Int)) (I, J, Pst b f)) jN (iI 0, iI 0) = some (iI (hAt T m pl i p i)) := e
    unfold Search_heaviestAt
    rw [rc61, Option.bind_some, n_0, e', Option.bind_some]
  · have h1 := hpl k hk
    have h2 := hP.1.2.2.2 (pl k) p h1.2 hp
    have hw := wyT_lt (T := T) (m := m) (p := pl k) (q := p)
    have h3 := (hP.2.1 k i (wyT T m (pl k) p) hk hi hw).2
    have r1 := hAt_rg (m := m) (pl := pl) (i := i) (p := p) ht hv k
    have r2 := wH_rg (m := m) ht hv k i (wyT T m (pl k) p)
    have hmx : Jd_max (iI (hAt T m pl i p k)) (iI (wH T m k i (wyT T m (pl k) p))) = iI (hAt T m pl i p (k + 1)) := by rw [maxI (by omega)]; rfl
    simp (maxSteps := 4000000) (disch := omega) only [Search_heaviestAt_L5, rc0, gi0, gl0, pi0, pl0, pz0, pr0, gr0_0, gr0_1, gr0_2, gr0_3, gr0_4, gr0_5, gr0_6, gr0_7, gr0_8, rc1, gi1, gl1, pi1, pl1, pz1, pr1, gr1_0, rc3, gi3, gl3, pi3, pl3, pz3, pr3, gr3_0, gr3_10, gr3_11, rc47, gi47, gl47, pi47, pl47, pz47, pr47, gr47_0, gr47_1, gr47_2, gr47_3, gr47_4, gr47_5, gr47_6, rc55, gi55, gl55, pi55, pl55, pz55, pr55, gr55_0, gr55_1, rc58, gi58, gl58, pi58, pl58, pz58, pr58, gr58_0, gr58_1, rc61, gi61, gl61, pi61, pl61, pz61, pr61, gr61_0, gr61_1, gr61_2, gr61_7, rc62, gi62, gl62, pi62, pl62, pz62, pr62, gr62_0, gr62_1, gr62_2, gr62_3, gr62_4, gr62_5, ld2, st2, an2, ld4, st4, an4, ld5, st5, an5, an6, ld48, st48, an48, ld49, st49, an49, ld50, st50, an50, ld51, st51, an51, ld52, st52, an52, ld53, st53, an53, ld54, st54, an54, ld56, st56, an56, ld57, st57, an57, ld59, st59, an59, ld60, st60, an60, ld63, st63, an63, ld64, st64, an64, ld65, st65, an65, ld66, st66, an66, ld67, st67, an67, ld68, st68, an68, ld69, st69, an69, ld70, st70, an70, rcct, gict, glct, pict, plct, pzct, prct, grct_0, grct_1, grct_2, grct_3, ldctm, stctm, anctm, ldctr, stctr, anctr, ldctp, stctp, anctp, anctR, rcru, giru, glru, piru, plru, pzru, prru, grru_7, ldcu, stcu, ancu, arct, ar6, rcro, giro, piro, pzro, grro_1, grro_2, grro_3, rcfo, gifo, pifo, pzfo, grfo_0, grfo_1, ldfop, stfop, anfop, ldfoe, stfoe, anfoe, Option.bind_some, if_true, if_false, n_1, n_8, iI_mul, iI_add, iI_lt, iI_le, iI_eq, show ¬ (i : Int) ≤ (k : Int) by omega, Int.toNat_natCast, h1.1, ixN8, h2, pairI (show k < 7 by omega) (show i < 7 by omega) hw, h3, hmx]
  · simp (maxSteps := 4000000) (disch := omega) only [Search_heaviestAt_L5, Option.bind_some, if_true, if_false, iI_lt, iI_le, iI_eq, show (i : Int) ≤ (i : Int) by omega]
theorem btn_has {n : Nat} {s : Nat → Bool} (hn : n ≤ 10) (hk : k < n) : Fi_has (iI (bt n s : Int)) (iI (k : Int)) = bI (s k) := by
  have h1 := bt_lt s n
  have h2 : 2 ^ n ≤ 1024 := Nat.pow_le_pow_right (n := 2) (j := 10) (by decide) hn
  rw [hasI _ _ (by omega) (by omega), Int.toNat_natCast, bt_bit]
  simp [hk]
def myT (tk kep sty : Nat → Bool) (hom : Nat → Int) (i p : Nat) : Bool := !tk p && (if sty i = true then decide (hom i = (p : Int)) else !kep p)
theorem cl_mayTake (hK : nK T ≤ 7) (hs : seC T g hom sty kep I) (h5 : I 61 5 = iI (bt 8 tk : Int)) (hi : i < nK T) (hp : p < 8) (hh : -1 ≤ hom i ∧ hom i < 10) : Search_mayTake S0 (some 61) (iI (i : Int)) (iI (p : Int)) (I, J, Pst b f) = some (bI (myT tk kep sty hom i p)) := by
  simp (maxSteps := 4000000) (disch := omega) only [Search_mayTake, rc0, gi0, gl0, pi0, pl0, pz0, pr0, gr0_0, gr0_1, gr0_2, gr0_3, gr0_4, gr0_5, gr0_6, gr0_7, gr0_8, rc1, gi1, gl1, pi1, pl1, pz1, pr1, gr1_0, rc3, gi3, gl3, pi3, pl3, pz3, pr3, gr3_0, gr3_10, gr3_11, rc47, gi47, gl47, pi47, pl47, pz47, pr47, gr47_0, gr47_1, gr47_2, gr47_3, gr47_4, gr47_5, gr47_6, rc55, gi55, gl55, pi55, pl55, pz55, pr55, gr55_0, gr55_1, rc58, gi58, gl58, pi58, pl58, pz58, pr58, gr58_0, gr58_1, rc61, gi61, gl61, pi61, pl61, pz61, pr61, gr61_0, gr61_1, gr61_2, gr61_7, rc62, gi62, gl62, pi62, pl62, pz62, pr62, gr62_0, gr62_1, gr62_2, gr62_3, gr62_4, gr62_5, ld2, st2, an2, ld4, st4, an4, ld5, st5, an5, an6, ld48, st48, an48, ld49, st49, an49, ld50, st50, an50, ld51, st51, an51, ld52, st52, an52, ld53, st53, an53, ld54, st54, an54, ld56, st56, an56, ld57, st57, an57, ld59, st59, an59, ld60, st60, an60, ld63, st63, an63, ld64, st64, an64, ld65, st65, an65, ld66, st66, an66, ld67, st67, an67, ld68, st68, an68, ld69, st69, an69, ld70, st70, an70, rcct, gict, glct, pict, plct, pzct, prct, grct_0, grct_1, grct_2, grct_3, ldctm, stctm, anctm, ldctr, stctr, anctr, ldctp, stctp, anctp, anctR, rcru, giru, glru, piru, plru, pzru, prru, grru_7, ldcu, stcu, ancu, arct, ar6, rcro, giro, piro, pzro, grro_1, grro_2, grro_3, rcfo, gifo, pifo, pzfo, grfo_0, grfo_1, ldfop, stfop, anfop, ldfoe, stfoe, anfoe, Option.bind_some, if_true, if_false, n_0, n_1, h5, btn_has (show 8 ≤ 10 by omega) hp, bI_0, hs.2.1, btn_has (show 7 ≤ 10 by omega) (show i < 7 by omega), hs.2.2.1, Int.toNat_natCast, hs.2.2.2 i hi, iI_eq, myT]
  cases tk p
  · cases sty i
    · cases kep p <;> rfl
    · simp only [Bool.true_eq_false, if_false, if_true, Bool.not_false, Bool.true_and]
      by_cases e : hom i = (p : Int)
      · rw [if_pos e, decide_eq_true e]; rfl
      · rw [if_neg e, decide_eq_false e]; rfl
  · rfl
theorem cl_isWorth (ht : tvC T) (hv : tvD T) (hK : nK T ≤ 7) (hP : prS T m n I) (hs : seC T g hom sty kep I) (hk : kk < 4 ∧ jj < 3) (hf : f = fo kk jj) (hF : fdC T f lim st I) (hB : fdB st) (hl : rg lim) (hi : i ≤ nK T) (hw : 0 ≤ w ∧ w ≤ 100000) (hh : 0 ≤ h ∧ h ≤ 1000) (hm : 0 ≤ mv ∧ mv ≤ 1000) (ht0 : 0 ≤ tcw T m n (nK T - i) ∧ tcw T m n (nK T - i) ≤ 100000) (hg : g = 0 ∨ g = 1 ∨ g = 2) : Search_isWorth S0 (some 61) (iI (i : Int)) (iI w) (iI h) (iI mv) (I, J, Pst b f) = some (bI (wrt g lim (w + tcw T m n (nK T - i)) (if h < tch T m n (nK T - i) then tch T m n (nK T - i) else h) mv st)) := by
  have hc := hP.2.2 i hi
  have hcr := tch_rg (m := m) (n := n) ht hv (nK T - i)
  have hmx : Jd_max (iI h) (iI (tch T m n (nK T - i))) = iI (if h < tch T m n (nK T - i) then tch T m n (nK T - i) else h) := maxI (by omega)
  have hv0 : 0 ≤ (if h < tch T m n (nK T - i) then tch T m n (nK T - i) else h) ∧ (if h < tch T m n (nK T - i) then tch T m n (nK T - i) else h) ≤ 1000 := by split <;> omega
  obtain ⟨⟨f3, f4, f8⟩, f5, f6⟩ := hF
  generalize tcw T m n (nK T - i) = A at *
  generalize (if h < tch T m n (nK T - i) then tch T m n (nK T - i) else h) = C at *
  subst hf
  cases es : st.1
  · rw [es] at f4
    rcases hg with q | q | q
    · simp (maxSteps := 4000000) (disch := omega) only [Search_isWorth, rc0, gi0, gl0, pi0, pl0, pz0, pr0, gr0_0, gr0_1, gr0_2, gr0_3, gr0_4, gr0_5, gr0_6, gr0_7, gr0_8, rc1, gi1, gl1, pi1, pl1, pz1, pr1, gr1_0, rc3, gi3, gl3, pi3, pl3, pz3, pr3, gr3_0, gr3_10, gr3_11, rc47, gi47, gl47, pi47, pl47, pz47, pr47, gr47_0, gr47_1, gr47_2, gr47_3, gr47_4, gr47_5, gr47_6, rc55, gi55, gl55, pi55, pl55, pz55, pr55, gr55_0, gr55_1, rc58, gi58, gl58, pi58, pl58, pz58, pr58, gr58_0, gr58_1, rc61, gi61, gl61, pi61, pl61, pz61, pr61, gr61_0, gr61_1, gr61_2, gr61_7, rc62, gi62, gl62, pi62, pl62, pz62, pr62, gr62_0, gr62_1, gr62_2, gr62_3, gr62_4, gr62_5, ld2, st2, an2, ld4, st4, an4, ld5, st5, an5, an6, ld48, st48, an48, ld49, st49, an49, ld50, st50, an50, ld51, st51, an51, ld52, st52, an52, ld53, st53, an53, ld54, st54, an54, ld56, st56, an56, ld57, st57, an57, ld59, st59, an59, ld60, st60, an60, ld63, st63, an63, ld64, st64, an64, ld65, st65, an65, ld66, st66, an66, ld67, st67, an67, ld68, st68, an68, ld69, st69, an69, ld70, st70, an70, rcct, gict, glct, pict, plct, pzct, prct, grct_0, grct_1, grct_2, grct_3, ldctm, stctm, anctm, ldctr, stctr, anctr, ldctp, stctp, anctp, anctR, rcru, giru, glru, piru, plru, pzru, prru, grru_7, ldcu, stcu, ancu, arct, ar6, rcro, giro, piro, pzro, grro_1, grro_2, grro_3, rcfo, gifo, pifo, pzfo, grfo_0, grfo_1, ldfop, stfop, anfop, ldfoe, stfoe, anfoe, Option.bind_some, if_true, if_false, n_0, n_1, n_2, iI_add, iI_lt, iI_le, iI_eq, Int.toNat_natCast, hc.1, hs.1, q, f4, bI_0, wrt, es, Bool.not_false, Bool.true_or, show ¬ (0 : Int) = 2 by omega]
      rfl
    · simp (maxSteps := 4000000) (disch := omega) only [Search_isWorth, rc0, gi0, gl0, pi0, pl0, pz0, pr0, gr0_0, gr0_1, gr0_2, gr0_3, gr0_4, gr0_5, gr0_6, gr0_7, gr0_8, rc1, gi1, gl1, pi1, pl1, pz1, pr1, gr1_0, rc3, gi3, gl3, pi3, pl3, pz3, pr3, gr3_0, gr3_10, gr3_11, rc47, gi47, gl47, pi47, pl47, pz47, pr47, gr47_0, gr47_1, gr47_2, gr47_3, gr47_4, gr47_5, gr47_6, rc55, gi55, gl55, pi55, pl55, pz55, pr55, gr55_0, gr55_1, rc58, gi58, gl58, pi58, pl58, pz58, pr58, gr58_0, gr58_1, rc61, gi61, gl61, pi61, pl61, pz61, pr61, gr61_0, gr61_1, gr61_2, gr61_7, rc62, gi62, gl62, pi62, pl62, pz62, pr62, gr62_0, gr62_1, gr62_2, gr62_3, gr62_4, gr62_5, ld2, st2, an2, ld4, st4, an4, ld5, st5, an5, an6, ld48, st48, an48, ld49, st49, an49, ld50, st50, an50, ld51, st51, an51, ld52, st52, an52, ld53, st53, an53, ld54, st54, an54, ld56, st56, an56, ld57, st57, an57, ld59, st59, an59, ld60, st60, an60, ld63, st63, an63, ld64, st64, an64, ld65, st65, an65, ld66, st66, an66, ld67, st67, an67, ld68, st68, an68, ld69, st69, an69, ld70, st70, an70, rcct, gict, glct, pict, plct, pzct, prct, grct_0, grct_1, grct_2, grct_3, ldctm, stctm, anctm, ldctr, stctr, anctr, ldctp, stctp, anctp, anctR, rcru, giru, glru, piru, plru, pzru, prru, grru_7, ldcu, stcu, ancu, arct, ar6, rcro, giro, piro, pzro, grro_1, grro_2, grro_3, rcfo, gifo, pifo, pzfo, grfo_0, grfo_1, ldfop, stfop, anfop, ldfoe, stfoe, anfoe, Option.bind_some, if_true, if_false, n_0, n_1, n_2, iI_add, iI_lt, iI_le, iI_eq, Int.toNat_natCast, hc.1, hs.1, q, f4, bI_0, wrt, es, Bool.not_false, Bool.true_or, show ¬ (1 : Int) = 2 by omega]
      rfl
    · simp (maxSteps := 4000000) (disch := omega) only [Search_isWorth, rc0, gi0, gl0, pi0, pl0, pz0, pr0, gr0_0, gr0_1, gr0_2, gr0_3, gr0_4, gr0_5, gr0_6, gr0_7, gr0_8, rc1, gi1, gl1, pi1, pl1, pz1, pr1, gr1_0, rc3, gi3, gl3, pi3, pl3, pz3, pr3, gr3_0, gr3_10, gr3_11, rc47, gi47, gl47, pi47, pl47, pz47, pr47, gr47_0, gr47_1, gr47_2, gr47_3, gr47_4, gr47_5, gr47_6, rc55, gi55, gl55, pi55, pl55, pz55, pr55, gr55_0, gr55_1, rc58, gi58, gl58, pi58, pl58, pz58, pr58, gr58_0, gr58_1, rc61, gi61, gl61, pi61, pl61, pz61, pr61, gr61_0, gr61_1, gr61_2, gr61_7, rc62, gi62, gl62, pi62, pl62, pz62, pr62, gr62_0, gr62_1, gr62_2, gr62_3, gr62_4, gr62_5, ld2, st2, an2, ld4, st4, an4, ld5, st5, an5, an6, ld48, st48, an48, ld49, st49, an49, ld50, st50, an50, ld51, st51, an51, ld52, st52, an52, ld53, st53, an53, ld54, st54, an54, ld56, st56, an56, ld57, st57, an57, ld59, st59, an59, ld60, st60, an60, ld63, st63, an63, ld64, st64, an64, ld65, st65, an65, ld66, st66, an66, ld67, st67, an67, ld68, st68, an68, ld69, st69, an69, ld70, st70, an70, rcct, gict, glct, pict, plct, pzct, prct, grct_0, grct_1, grct_2, grct_3, ldctm, stctm, anctm, ldctr, stctr, anctr, ldctp, stctp, anctp, anctR, rcru, giru, glru, piru, plru, pzru, prru, grru_7, ldcu, stcu, ancu, arct, ar6, rcro, giro, piro, pzro, grro_1, grro_2, grro_3, rcfo, gifo, pifo, pzfo, grfo_0, grfo_1, ldfop, stfop, anfop, ldfoe, stfoe, anfoe, Option.bind_some, if_true, if_false, n_0, n_1, n_2, iI_add, iI_lt, iI_le, iI_eq, Int.toNat_natCast, hc.1, hs.1, q, f3, f4, bI_0, wrt, es, Bool.not_false, Bool.true_or, Bool.and_true]
      by_cases e : lim < w + A
      · rw [if_pos e, decide_eq_false (by omega)]; rfl
      · rw [if_neg e, decide_eq_true (by omega)]; rfl
  · rw [es] at f4
    obtain ⟨g5, g6, g7⟩ := f5 es
    have hb := hB es
    rcases hg with q | q | q
    · simp (maxSteps := 4000000) (disch := omega) only [Search_isWorth, rc0, gi0, gl0, pi0, pl0, pz0, pr0, gr0_0, gr0_1, gr0_2, gr0_3, gr0_4, gr0_5, gr0_6, gr0_7, gr0_8, rc1, gi1, gl1, pi1, pl1, pz1, pr1, gr1_0, rc3, gi3, gl3, pi3, pl3, pz3, pr3, gr3_0, gr3_10, gr3_11, rc47, gi47, gl47, pi47, pl47, pz47, pr47, gr47_0, gr47_1, gr47_2, gr47_3, gr47_4, gr47_5, gr47_6, rc55, gi55, gl55, pi55, pl55, pz55, pr55, gr55_0, gr55_1, rc58, gi58, gl58, pi58, pl58, pz58, pr58, gr58_0, gr58_1, rc61, gi61, gl61, pi61, pl61, pz61, pr61, gr61_0, gr61_1, gr61_2, gr61_7, rc62, gi62, gl62, pi62, pl62, pz62, pr62, gr62_0, gr62_1, gr62_2, gr62_3, gr62_4, gr62_5, ld2, st2, an2, ld4, st4, an4, ld5, st5, an5, an6, ld48, st48, an48, ld49, st49, an49, ld50, st50, an50, ld51, st51, an51, ld52, st52, an52, ld53, st53, an53, ld54, st54, an54, ld56, st56, an56, ld57, st57, an57, ld59, st59, an59, ld60, st60, an60, ld63, st63, an63, ld64, st64, an64, ld65, st65, an65, ld66, st66, an66, ld67, st67, an67, ld68, st68, an68, ld69, st69, an69, ld70, st70, an70, rcct, gict, glct, pict, plct, pzct, prct, grct_0, grct_1, grct_2, grct_3, ldctm, stctm, anctm, ldctr, stctr, anctr, ldctp, stctp, anctp, anctR, rcru, giru, glru, piru, plru, pzru, prru, grru_7, ldcu, stcu, ancu, arct, ar6, rcro, giro, piro, pzro, grro_1, grro_2, grro_3, rcfo, gifo, pifo, pzfo, grfo_0, grfo_1, ldfop, stfop, anfop, ldfoe, stfoe, anfoe, Option.bind_some, if_true, if_false, n_0, n_1, n_2, iI_add, iI_lt, iI_le, iI_eq, Int.toNat_natCast, hc.1, hs.1, q, f4, g5, bI_0, Bool.true_eq_false, wrt, es, Bool.not_true, Bool.false_or, show ¬ (0 : Int) = 2 by omega]
      by_cases e : st.2.1 < w + A
      · rw [if_pos e, decide_eq_false (by omega)]; rfl
      · rw [if_neg e, decide_eq_true (by omega)]; rfl
    · simp (maxSteps := 4000000) (disch := omega) only [Search_isWorth, rc0, gi0, gl0, pi0, pl0, pz0, pr0, gr0_0, gr0_1, gr0_2, gr0_3, gr0_4, gr0_5, gr0_6, gr0_7, gr0_8, rc1, gi1, gl1, pi1, pl1, pz1, pr1, gr1_0, rc3, gi3, gl3, pi3, pl3, pz3, pr3, gr3_0, gr3_10, gr3_11, rc47, gi47, gl47, pi47, pl47, pz47, pr47, gr47_0, gr47_1, gr47_2, gr47_3, gr47_4, gr47_5, gr47_6, rc55, gi55, gl55, pi55, pl55, pz55, pr55, gr55_0, gr55_1, rc58, gi58, gl58, pi58, pl58, pz58, pr58, gr58_0, gr58_1, rc61, gi61, gl61, pi61, pl61, pz61, pr61, gr61_0, gr61_1, gr61_2, gr61_7, rc62, gi62, gl62, pi62, pl62, pz62, pr62, gr62_0, gr62_1, gr62_2, gr62_3, gr62_4, gr62_5, ld2, st2, an2, ld4, st4, an4, ld5, st5, an5, an6, ld48, st48, an48, ld49, st49, an49, ld50, st50, an50, ld51, st51, an51, ld52, st52, an52, ld53, st53, an53, ld54, st54, an54, ld56, st56, an56, ld57, st57, an57, ld59, st59, an59, ld60, st60, an60, ld63, st63, an63, ld64, st64, an64, ld65, st65, an65, ld66, st66, an66, ld67, st67, an67, ld68, st68, an68, ld69, st69, an69, ld70, st70, an70, rcct, gict, glct, pict, plct, pzct, prct, grct_0, grct_1, grct_2, grct_3, ldctm, stctm, anctm, ldctr, stctr, anctr, ldctp, stctp, anctp, anctR, rcru, giru, glru, piru, plru, pzru, prru, grru_7, ldcu, stcu, ancu, arct, ar6, rcro, giro, piro, pzro, grro_1, grro_2, grro_3, rcfo, gifo, pifo, pzfo, grfo_0, grfo_1, ldfop, stfop, anfop, ldfoe, stfoe, anfoe, Option.bind_some, if_true, if_false, n_0, n_1, n_2, iI_add, iI_lt, iI_le, iI_eq, Int.toNat_natCast, hc.1, hc.2, hs.1, q, f4, g5, g6, bI_0, Bool.true_eq_false, wrt, es, Bool.not_true, Bool.false_or, show ¬ (1 : Int) = 2 by omega, show ¬ (1 : Int) = 0 by omega, hmx]
      by_cases e : C < st.2.2.1
      · rw [if_pos e, decide_eq_true e]; rfl
      · rw [if_neg e, decide_eq_false e]
        by_cases e2 : C = st.2.2.1
        · rw [if_pos e2, decide_eq_true e2]
          by_cases e3 : st.2.1 ≤ w + A
          · rw [if_pos e3, decide_eq_false (show ¬ w + A < st.2.1 by omega)]; rfl
          · rw [if_neg e3, decide_eq_true (show w + A < st.2.1 by omega)]; rfl
        · rw [if_neg e2, decide_eq_false e2]; rfl
    · simp (maxSteps := 4000000) (disch := omega) only [Search_isWorth, rc0, gi0, gl0, pi0, pl0, pz0, pr0, gr0_0, gr0_1, gr0_2, gr0_3, gr0_4, gr0_5, gr0_6, gr0_7, gr0_8, rc1, gi1, gl1, pi1, pl1, pz1, pr1, gr1_0, rc3, gi3, gl3, pi3, pl3, pz3, pr3, gr3_0, gr3_10, gr3_11, rc47, gi47, gl47, pi47, pl47, pz47, pr47, gr47_0, gr47_1, gr47_2, gr47_3, gr47_4, gr47_5, gr47_6, rc55, gi55, gl55, pi55, pl55, pz55, pr55, gr55_0, gr55_1, rc58, gi58, gl58, pi58, pl58, pz58, pr58, gr58_0, gr58_1, rc61, gi61, gl61, pi61, pl61, pz61, pr61, gr61_0, gr61_1, gr61_2, gr61_7, rc62, gi62, gl62, pi62, pl62, pz62, pr62, gr62_0, gr62_1, gr62_2, gr62_3, gr62_4, gr62_5, ld2, st2, an2, ld4, st4, an4, ld5, st5, an5, an6, ld48, st48, an48, ld49, st49, an49, ld50, st50, an50, ld51, st51, an51, ld52, st52, an52, ld53, st53, an53, ld54, st54, an54, ld56, st56, an56, ld57, st57, an57, ld59, st59, an59, ld60, st60, an60, ld63, st63, an63, ld64, st64, an64, ld65, st65, an65, ld66, st66, an66, ld67, st67, an67, ld68, st68, an68, ld69, st69, an69, ld70, st70, an70, rcct, gict, glct, pict, plct, pzct, prct, grct_0, grct_1, grct_2, grct_3, ldctm, stctm, anctm, ldctr, stctr, anctr, ldctp, stctp, anctp, anctR, rcru, giru, glru, piru, plru, pzru, prru, grru_7, ldcu, stcu, ancu, arct, ar6, rcro, giro, piro, pzro, grro_1, grro_2, grro_3, rcfo, gifo, pifo, pzfo, grfo_0, grfo_1, ldfop, stfop, anfop, ldfoe, stfoe, anfoe, Option.bind_some, if_true, if_false, n_0, n_1, n_2, iI_add, iI_lt, iI_le, iI_eq, Int.toNat_natCast, hc.1, hs.1, q, f3, f4, g7, bI_0, Bool.true_eq_false, wrt, es, Bool.not_true, Bool.false_or]
      by_cases e : lim < w + A
      · rw [if_pos e, decide_eq_false (by omega)]; rfl
      · rw [if_neg e, decide_eq_true (show w + A ≤ lim by omega), Bool.true_and]
        by_cases e3 : st.2.2.2.1 ≤ mv
        · rw [if_pos e3, decide_eq_false (by omega)]; rfl
        · rw [if_neg e3, decide_eq_true (by omega)]; rfl
end
