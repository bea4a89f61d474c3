/-! ===== layer 2: seatings: the class goes through them ===== -/
section
variable {T : Tb} {I I' I'' : Nat → Nat → Int32} {J : Nat → Nat → Int64} {b : Bool} {f k n i j x y p q d kk jj nn o : Nat} {m g lim w h mv : Int} {tk kep sty : Nat → Bool} {pl : Nat → Nat} {hom : Nat → Int} {st : FdS}
set_option maxHeartbeats 8000000 in
theorem lW_rg (ht : tvC T) (hv : tvD T) (i j : Nat) : 0 ≤ lW T m n i j ∧ lW T m n i j ≤ 1000 := by
  have := lso_rg (S := wth T m n) (v := wW T m i j) (wW_rg ht hv i j) 8
  unfold lW mx0
  split <;> omega
set_option maxHeartbeats 8000000 in
theorem sLw_rg (ht : tvC T) (hv : tvD T) : ∀ k : Nat, 0 ≤ sLw T m n o k ∧ sLw T m n o k ≤ 1000 * k
  | 0 => by simp [sLw]
  | k + 1 => by
    have h1 := sLw_rg ht hv k
    have h2 := lW_rg (m := m) (n := n) ht hv k o
    show 0 ≤ sLw T m n o k + lW T m n k o ∧ sLw T m n o k + lW T m n k o ≤ _
    omega
set_option maxHeartbeats 8000000 in
theorem tcw_rg (ht : tvC T) (hv : tvD T) (hK : nK T ≤ 7) : ∀ d : Nat, 0 ≤ tcw T m n d ∧ tcw T m n d ≤ 7000 * d
  | 0 => by simp [tcw]
  | d + 1 => by
    have h1 := tcw_rg ht hv hK d
    have h2 := sLw_rg (m := m) (n := n) (o := nK T - (d + 1)) ht hv (nK T - (d + 1))
    show 0 ≤ tcw T m n d + sLw T m n (nK T - (d + 1)) (nK T - (d + 1)) ∧ tcw T m n d + sLw T m n (nK T - (d + 1)) (nK T - (d + 1)) ≤ _
    omega
abbrev oS (f o : Nat) : Prop := o ≠ 61 ∧ o ≠ 69 ∧ o ≠ f ∧ o ≠ f + 1 ∧ o ≠ f + 2
/-- what the search leaves as it was -/
def sfr (f i : Nat) (I I' : Nat → Nat → Int32) : Prop := Agr (oS f) I I' ∧ (∀ k, I' 61 k = I 61 k) ∧ (∀ j, j < i → I' 69 j = I 69 j) ∧ I' f 2 = I f 2
set_option maxHeartbeats 8000000 in
theorem sfr.refl (f i : Nat) (I : Nat → Nat → Int32) : sfr f i I I := ⟨Agr.refl _ _, fun _ => rfl, fun _ _ => rfl, rfl⟩
set_option maxHeartbeats 8000000 in
theorem cl_seat (ht : tvC T) (hv : tvD T) (hK : nK T ≤ 7) (hn : n ≤ 8) (hk : kk < 4 ∧ jj < 3) (hf : f = fo kk jj) (hl : rg lim) (hg : g = 0 ∨ g = 1 ∨ g = 2) (hhom : ∀ i, i < nK T → -1 ≤ hom i ∧ hom i < 10) (hkep : ∀ p, kep p = true → ∃ j, j < nK T ∧ sty j = true ∧ hom j = (p : Int)) : ∀ (d nn : Nat) (tk : Nat → Bool) (pl : Nat → Nat) (w h mv : Int) (st : FdS) (I : Nat → Nat → Int32), d ≤ nK T → d < nn → prS T m n I → seC T g hom sty kep I → I 61 5 = iI (bt 8 tk : Int) → fdC T f lim st I → fdB st → stT n (nK T - d) tk pl → (∀ j, j < nK T - d → I 69 j = iI (pl j : Int)) → (∀ j, j < nK T - d → sty j = true → hom j = (pl j : Int)) → (0 ≤ w ∧ w ≤ 7000 * ((nK T - d : Nat) : Int)) → (0 ≤ h ∧ h ≤ 9) → (0 ≤ mv ∧ mv ≤ ((nK T - d : Nat) : Int)) → ∃ I', Search_seatFrom S0 nn (some 61) (iI ((nK T - d : Nat) : Int)) (iI w) (iI h) (iI mv) (I, J, Pst b f) = some (I', J, Pst b f) ∧ sfr f (nK T - d) I I' ∧ fdC T f lim (sFd T m n g lim hom sty d tk pl w h mv st) I' ∧ fdB (sFd T m n g lim hom sty d tk pl w h mv st)
  | 0, nn, tk, pl, w, h, mv, st, I, hd, hnn, hP, hs, h5, hF, hB, hst, h69, hsk, hw, hh, hm => by
    obtain ⟨nn, rfl⟩ : ∃ z, nn = z + 1 := ⟨nn - 1, by omega⟩
    have hfo := fo_is hk
    have u6 : I 62 6 = iI (nK T : Int) := hP.1.1.1
    obtain ⟨I1, a1, a2, a3, a4⟩ := cl_take (J := J) (b := b) ht hv hK hn hP hs hk hf hF hB hl (fun j hj => ⟨h69 j (by omega), (hst j (by omega)).2⟩) (show 0 ≤ w ∧ w ≤ 100000 by omega) (show 0 ≤ h ∧ h ≤ 1000 by omega) (show 0 ≤ mv ∧ mv ≤ 1000 by omega) hg
    refine ⟨I1, ?_, ⟨a2.sub fun o h => by omega, fun k => a2 61 (by omega) k, fun j _ => a2 69 (by omega) j, a3⟩, a4, lfn_B hB (show 0 ≤ w ∧ w ≤ 100000 by omega) (show 0 ≤ h ∧ h ≤ 1000 by omega) (show 0 ≤ mv ∧ mv ≤ 1000 by omega)⟩
    show Search_seatFrom_B S0 (Search_seatFrom S0 nn) _ _ _ _ _ _ = _
    unfold Search_seatFrom_B
    rw [gr61_0, Option.bind_some, gi62, Option.bind_some, u6, Nat.sub_zero, if_pos (by rw [iI_le (by omega)]; omega), Option.bind_some, Sum.elim_inl, a1, Option.bind_some]
  | d + 1, nn, tk, pl, w, h, mv, st, I, hd, hnn, hP, hs, h5, hF, hB, hst, h69, hsk, hw, hh, hm => by
    obtain ⟨nn, rfl⟩ : ∃ z, nn = z + 1 := ⟨nn - 1, by omega⟩
    have hfo := fo_is hk
    have u6 : I 62 6 = iI (nK T : Int) := hP.1.1.1
    obtain ⟨i, hi⟩ : ∃ i, i = nK T - (d + 1) := ⟨_, rfl⟩
    obtain ⟨G, hG⟩ : ∃ G : Nat → FdS → FdS, G = fun p st => if tk p = false ∧ okS sty hom i p = true then sFd T m n g lim hom sty d (tku tk p) (plu pl i p) (w + wAt T m pl i p i) (nwH g h (hAt T m pl i p i)) (mv + mvA hom i p) st else st := ⟨_, rfl⟩
    have hsF : ∀ st, sFd T m n g lim hom sty (d + 1) tk pl w h mv st = fl G n st := fun st => by rw [hG, hi]; rfl
    rw [hsF]
    rw [← hi] at hst h69 hsk hw hm ⊢
    have hi1 : i < nK T := by omega
    have eid : nK T - d = i + 1 := by omega
    have key := jheap (J := J) (P := Pst b f) (I := I) (body := Search_seatFrom_L29 S0 (Search_seatFrom S0 nn) (some 61) (iI (i : Int)) (iI w) (iI h) (iI mv)) (fun k I' => sfr f i I I' ∧ fdC T f lim (fl G k st) I' ∧ fdB (fl G k st)) 0 n ⟨sfr.refl _ _ _, hF, hB⟩ (by omega) (by omega) (fun k I1 _ hkn q1 => ?_) (fun I1 q1 => ?_)
    · obtain ⟨I2, e1, e2, e3, e4⟩ := key
      refine ⟨I2, ?_, e2, e3, e4⟩
      have e1' : jloop (Search_seatFrom_L29 S0 (Search_seatFrom S0 nn) (some 61) (iI (i : Int)) (iI w) (iI h) (iI mv)) jN (0, (I, J, Pst b f)) = some (I2, J, Pst b f) := e1
      show Search_seatFrom_B S0 (Search_seatFrom S0 nn) _ _ _ _ _ _ = _
      unfold Search_seatFrom_B
      rw [gr61_0, Option.bind_some, gi62, Option.bind_some, u6, if_neg (by rw [iI_le (by omega)]; omega), if_pos (by rw [n_7, iI_lt (by omega)]; omega), e1', Option.bind_some, Option.bind_some, Sum.elim_inr]
    · obtain ⟨⟨r1, r2, r3, r4⟩, q2, q3⟩ := q1
      have hP1 := hP.agr (r1.sub fun o h => by omega)
      have hs1 := hs.agr (fun k _ => r2 k) (fun k => r1 70 (by omega) k)
      have h51 : I1 61 5 = iI (bt 8 tk : Int) := (r2 5).trans h5
      have h691 : ∀ j, j < i → I1 69 j = iI (pl j : Int) := fun j hj => (r3 j hj).trans (h69 j hj)
      have h70 := hs1.2.2.2 i hi1
      have h7 : I1 62 7 = iI (n : Int) := hP1.1.2.1
      have g6 : I1 61 6 = iI g := hs1.1
      have hho := hhom i hi1
      have c1 : ¬ (n : Int) ≤ (k : Int) := by omega
      have c2 : ¬ (8 : Int) ≤ (k : Int) := by omega
      have hmt := cl_mayTake (J := J) (b := b) (f := f) hK hs1 h51 hi1 (show k < 8 by omega) hho
      have hGk : fl G (k + 1) st = if tk k = false ∧ okS sty hom i k = true then sFd T m n g lim hom sty d (tku tk k) (plu pl i k) (w + wAt T m pl i k i) (nwH g h (hAt T m pl i k i)) (mv + mvA hom i k) (fl G k st) else fl G k st := by
        show G k (fl G k st) = _
        rw [hG]
      cases em : myT tk kep sty hom i k
      · have hsame : fl G (k + 1) st = fl G k st := by
          rw [hGk]
          by_cases e2 : tk k = false ∧ okS sty hom i k = true
          · rw [if_pos e2]
            unfold myT at em
            rw [e2.1, Bool.not_false, Bool.true_and] at em
            cases es : sty i
            · rw [es] at em
              have ek : kep k = true := by simpa using em
              obtain ⟨j, j1, j2, j3⟩ := hkep k ek
              have hji : j ≠ i := fun q => by rw [q, es] at j2; cases j2
              rcases Nat.lt_or_ge j i with z | z
              · have z1 := hsk j z j2
                have z2 := (hst j z).1
                have z3 : pl j = k := by omega
                rw [z3, e2.1] at z2
                cases z2
              · exact sFd_kept d _ _ _ _ _ (by omega) ⟨j, by omega, j1, j2, k, j3, by simp [tku]⟩
            · rw [es] at em
              have e3 := e2.2
              unfold okS at e3
              rw [es] at e3
              simp only [if_true] at em
              simp only [Bool.not_true, Bool.false_or] at e3
              rw [e3] at em
              cases em
          · rw [if_neg e2]
        refine ⟨I1, ?_, ⟨r1, r2, r3, r4⟩, ?_, ?_⟩
        · simp (maxSteps := 4000000) (disch := omega) only [Search_seatFrom_L29, rc0, gi0, gl0, pi0, pl0, pz0, pr0, gr0_0, gr0_1, gr0_2, gr0_3, gr0_4, gr0_5, gr0_6, gr0_7, gr0_8, rc1, gi1, gl1, pi1, pl1, pz1, pr1, gr1_0, rc3, gi3, gl3, pi3, pl3, pz3, pr3, gr3_0, gr3_10, gr3_11, rc47, gi47, gl47, pi47, pl47, pz47, pr47, gr47_0, gr47_1, gr47_2, gr47_3, gr47_4, gr47_5, gr47_6, rc55, gi55, gl55, pi55, pl55, pz55, pr55, gr55_0, gr55_1, rc58, gi58, gl58, pi58, pl58, pz58, pr58, gr58_0, gr58_1, rc61, gi61, gl61, pi61, pl61, pz61, pr61, gr61_0, gr61_1, gr61_2, gr61_7, rc62, gi62, gl62, pi62, pl62, pz62, pr62, gr62_0, gr62_1, gr62_2, gr62_3, gr62_4, gr62_5, ld2, st2, an2, ld4, st4, an4, ld5, st5, an5, an6, ld48, st48, an48, ld49, st49, an49, ld50, st50, an50, ld51, st51, an51, ld52, st52, an52, ld53, st53, an53, ld54, st54, an54, ld56, st56, an56, ld57, st57, an57, ld59, st59, an59, ld60, st60, an60, ld63, st63, an63, ld64, st64, an64, ld65, st65, an65, ld66, st66, an66, ld67, st67, an67, ld68, st68, an68, ld69, st69, an69, ld70, st70, an70, rcct, gict, glct, pict, plct, pzct, prct, grct_0, grct_1, grct_2, grct_3, ldctm, stctm, anctm, ldctr, stctr, anctr, ldctp, stctp, anctp, anctR, rcru, giru, glru, piru, plru, pzru, prru, grru_7, ldcu, stcu, ancu, arct, ar6, rcro, giro, piro, pzro, grro_1, grro_2, grro_3, rcfo, gifo, pifo, pzfo, grfo_0, grfo_1, ldfop, stfop, anfop, ldfoe, stfoe, anfoe, Option.bind_some, if_true, if_false, n_1, n_8, iI_add, iI_lt, iI_le, iI_eq, h7, c1, c2, hmt, em, n_0, bI_0]
        · rw [hsame]; exact q2
        · rw [hsame]; exact q3
      · have htk : tk k = false := by
          unfold myT at em
          cases e : tk k
          · rfl
          · rw [e] at em; cases em
        have hok : okS sty hom i k = true := by
          unfold okS
          unfold myT at em
          cases es : sty i
          · rfl
          · rw [es, if_pos rfl] at em
            simp only [Bool.and_eq_true] at em
            rw [em.2]; rfl
        rw [if_pos ⟨htk, hok⟩] at hGk
        have hpl1 : ∀ j, j < i → I1 69 j = iI (pl j : Int) ∧ pl j < n := fun j hj => ⟨h691 j hj, (hst j hj).2⟩
        have hwt := cl_weightAt (J := J) (b := b) (f := f) hK hn hP1 hi1 hkn hpl1
        have hha := cl_heavyAt (J := J) (b := b) (f := f) ht hv hK hn hP1 hi1 hkn hpl1
        have wr := wAt_rg (m := m) (pl := pl) (i := i) (p := k) ht hv i
        have hr := hAt_rg (m := m) (pl := pl) (i := i) (p := k) ht hv i
        have hmx : Jd_max (iI h) (iI (hAt T m pl i k i)) = iI (if h < hAt T m pl i k i then hAt T m pl i k i else h) := maxI (by omega)
        have hj77 : ((if g = 1 then some (iI (if h < hAt T m pl i k i then hAt T m pl i k i else h)) else some (iI 0)) : Option Int32) = some (iI (nwH g h (hAt T m pl i k i))) := by
          unfold nwH
          by_cases e : g = 1
          · rw [if_pos e, if_pos e]
          · rw [if_neg e, if_neg e]
        have hj106 : ((if hom i = -1 then some (iI 0) else if hom i = (k : Int) then some (iI 0) else some (iI 1)) : Option Int32) = some (iI (mvA hom i k)) := by
          unfold mvA
          by_cases e : hom i = -1
          · rw [if_pos e, if_pos (Or.inl e)]
          · by_cases e' : hom i = (k : Int)
            · rw [if_neg e, if_pos e', if_pos (Or.inr e')]
            · rw [if_neg e, if_neg e', if_neg (fun q => q.elim e e')]
        have hmv : 0 ≤ mvA hom i k ∧ mvA hom i k ≤ 1 := by unfold mvA; split <;> omega
        have hnh : 0 ≤ nwH g h (hAt T m pl i k i) ∧ nwH g h (hAt T m pl i k i) ≤ 9 := by unfold nwH; (repeat' split) <;> omega
        have htc := tcw_rg (m := m) (n := n) ht hv hK d
        have ed : nK T - (i + 1) = d := by omega
        have hwo := cl_isWorth (J := J) (b := b) (i := i + 1) (w := w + wAt T m pl i k i) (h := nwH g h (hAt T m pl i k i)) (mv := mv + mvA hom i k) ht hv hK hP1 hs1 hk hf q2 q3 hl (by omega) (by omega) (by omega) (by omega) (by rw [ed]; omega) hg
        rw [ed, show ((i + 1 : Nat) : Int) = (i : Int) + 1 by omega] at hwo
        have hst2 := stT_s (p := k) hst hkn
        generalize hW : w + wAt T m pl i k i = W at *
        generalize hH : nwH g h (hAt T m pl i k i) = H at *
        generalize hM : mv + mvA hom i k = M at *
        cases eo : wrt g lim (W + tcw T m n d) (if H < tch T m n d then tch T m n d else H) M (fl G k st)
        · have hsame : fl G (k + 1) st = fl G k st := by
            rw [hGk]
            exact sFd_no ht hv hg d _ _ _ _ _ (by omega) (by omega) (by rw [eid]; exact hst2) eo
          rw [eo] at hwo
          refine ⟨I1, ?_, ⟨r1, r2, r3, r4⟩, ?_, ?_⟩
          · simp (maxSteps := 4000000) (disch := omega) only [Search_seatFrom_L29, rc0, gi0, gl0, pi0, pl0, pz0, pr0, gr0_0, gr0_1, gr0_2, gr0_3, gr0_4, gr0_5, gr0_6, gr0_7, gr0_8, rc1, gi1, gl1, pi1, pl1, pz1, pr1, gr1_0, rc3, gi3, gl3, pi3, pl3, pz3, pr3, gr3_0, gr3_10, gr3_11, rc47, gi47, gl47, pi47, pl47, pz47, pr47, gr47_0, gr47_1, gr47_2, gr47_3, gr47_4, gr47_5, gr47_6, rc55, gi55, gl55, pi55, pl55, pz55, pr55, gr55_0, gr55_1, rc58, gi58, gl58, pi58, pl58, pz58, pr58, gr58_0, gr58_1, rc61, gi61, gl61, pi61, pl61, pz61, pr61, gr61_0, gr61_1, gr61_2, gr61_7, rc62, gi62, gl62, pi62, pl62, pz62, pr62, gr62_0, gr62_1, gr62_2, gr62_3, gr62_4, gr62_5, ld2, st2, an2, ld4, st4, an4, ld5, st5, an5, an6, ld48, st48, an48, ld49, st49, an49, ld50, st50, an50, ld51, st51, an51, ld52, st52, an52, ld53, st53, an53, ld54, st54, an54, ld56, st56, an56, ld57, st57, an57, ld59, st59, an59, ld60, st60, an60, ld63, st63, an63, ld64, st64, an64, ld65, st65, an65, ld66, st66, an66, ld67, st67, an67, ld68, st68, an68, ld69, st69, an69, ld70, st70, an70, rcct, gict, glct, pict, plct, pzct, prct, grct_0, grct_1, grct_2, grct_3, ldctm, stctm, anctm, ldctr, stctr, anctr, ldctp, stctp, anctp, anctR, rcru, giru, glru, piru, plru, pzru, prru, grru_7, ldcu, stcu, ancu, arct, ar6, rcro, giro, piro, pzro, grro_1, grro_2, grro_3, rcfo, gifo, pifo, pzfo, grfo_0, grfo_1, ldfop, stfop, anfop, ldfoe, stfoe, anfoe, Option.bind_some, if_true, if_false, n_1, n_8, iI_add, iI_neg, iI_lt, iI_le, iI_eq, h7, c1, c2, hmt, em, n_0, bI_0, Bool.true_eq_false, hwt, hW, g6, hha, hmx, hj77, Int.toNat_natCast, h70, hj106, hM, hwo]
          · rw [hsame]; exact q2
          · rw [hsame]; exact q3
        · rw [eo] at hwo
          have hor : iI (bt 8 tk : Int) ||| iI (bt 8 (fun y => decide (y = k)) : Int) = iI (bt 8 (tku tk k) : Int) := sI_or _ _ _
          have hback : iI (bt 8 (tku tk k) : Int) &&& (iI (bt 8 (fun y => decide (y = k)) : Int) ^^^ iI (-1)) = iI (bt 8 tk : Int) := by
            rw [sI_andn]
            refine sI_ext fun y _ => ?_
            by_cases q : y = k
            · rw [q, htk]; simp [tku]
            · simp [tku, q]
          have h5' : ∀ v, hup I1 69 i v 61 5 = iI (bt 8 tk : Int) := fun v => by rw [hup_obj _ _ _ (by omega)]; exact h51
          have ag3 : Agr (fun o => o ≠ 61 ∧ o ≠ 69) I1 (hup (hup I1 69 i (iI (k : Int))) 61 5 (iI (bt 8 (tku tk k) : Int))) := ((Agr.refl _ _).hup (by omega)).hup (by omega)
          have h61 : ∀ j, j ≠ 5 → hup (hup I1 69 i (iI (k : Int))) 61 5 (iI (bt 8 (tku tk k) : Int)) 61 j = I1 61 j := fun j hj => by rw [hup_ix _ _ _ hj, hup_obj _ _ _ (by omega)]
          obtain ⟨I4, a1, ⟨a2, a3, a4, a5⟩, a6, a7⟩ := cl_seat ht hv hK hn hk hf hl hg hhom hkep d nn (tku tk k) (plu pl i k) W H M (fl G k st) (hup (hup I1 69 i (iI (k : Int))) 61 5 (iI (bt 8 (tku tk k) : Int))) (by omega) (by omega) (hP1.agr (ag3.sub fun o h => by omega)) (hs1.agr h61 (fun k => ag3 70 (by omega) k)) (hup_same _ _ _ _) (q2.agr (ag3.sub fun o h => by omega)) q3 (by rw [eid]; exact hst2) (fun j hj => by
            rw [hup_obj _ _ _ (by omega)]
            by_cases e : j = i
            · subst e; rw [hup_same]; simp [plu]
            · rw [hup_ix _ _ _ e, h691 j (by omega)]; simp [plu, e]) (fun j hj hsj => by
            by_cases e : j = i
            · subst e
              have := hok
              unfold okS at this
              rw [hsj] at this
              simpa [plu] using this
            · rw [hsk j (by omega) hsj]; simp [plu, e]) (by omega) (by omega) (by omega)
          rw [eid, show ((i + 1 : Nat) : Int) = (i : Int) + 1 by omega] at a1
          have h45 : I4 61 5 = iI (bt 8 (tku tk k) : Int) := (a3 5).trans (hup_same _ _ _ _)
          refine ⟨hup I4 61 5 (iI (bt 8 tk : Int)), ?_, ⟨((r1.trans (ag3.sub fun o h => by omega)).trans a2).hup (by omega), fun j => ?_, fun j hj => ?_, ?_⟩, ?_, ?_⟩
          · simp (maxSteps := 4000000) (disch := omega) only [Search_seatFrom_L29, rc0, gi0, gl0, pi0, pl0, pz0, pr0, gr0_0, gr0_1, gr0_2, gr0_3, gr0_4, gr0_5, gr0_6, gr0_7, gr0_8, rc1, gi1, gl1, pi1, pl1, pz1, pr1, gr1_0, rc3, gi3, gl3, pi3, pl3, pz3, pr3, gr3_0, gr3_10, gr3_11, rc47, gi47, gl47, pi47, pl47, pz47, pr47, gr47_0, gr47_1, gr47_2, gr47_3, gr47_4, gr47_5, gr47_6, rc55, gi55, gl55, pi55, pl55, pz55, pr55, gr55_0, gr55_1, rc58, gi58, gl58, pi58, pl58, pz58, pr58, gr58_0, gr58_1, rc61, gi61, gl61, pi61, pl61, pz61, pr61, gr61_0, gr61_1, gr61_2, gr61_7, rc62, gi62, gl62, pi62, pl62, pz62, pr62, gr62_0, gr62_1, gr62_2, gr62_3, gr62_4, gr62_5, ld2, st2, an2, ld4, st4, an4, ld5, st5, an5, an6, ld48, st48, an48, ld49, st49, an49, ld50, st50, an50, ld51, st51, an51, ld52, st52, an52, ld53, st53, an53, ld54, st54, an54, ld56, st56, an56, ld57, st57, an57, ld59, st59, an59, ld60, st60, an60, ld63, st63, an63, ld64, st64, an64, ld65, st65, an65, ld66, st66, an66, ld67, st67, an67, ld68, st68, an68, ld69, st69, an69, ld70, st70, an70, rcct, gict, glct, pict, plct, pzct, prct, grct_0, grct_1, grct_2, grct_3, ldctm, stctm, anctm, ldctr, stctr, anctr, ldctp, stctp, anctp, anctR, rcru, giru, glru, piru, plru, pzru, prru, grru_7, ldcu, stcu, ancu, arct, ar6, rcro, giro, piro, pzro, grro_1, grro_2, grro_3, rcfo, gifo, pifo, pzfo, grfo_0, grfo_1, ldfop, stfop, anfop, ldfoe, stfoe, anfoe, Option.bind_some, if_true, if_false, n_1, n_8, iI_add, iI_neg, iI_lt, iI_le, iI_eq, h7, c1, c2, hmt, em, n_0, bI_0, Bool.true_eq_false, hwt, hW, g6, hha, hmx, hj77, Int.toNat_natCast, h70, hj106, hM, hwo, h5', sI_one8 (show k < 8 by omega), hor, a1, h45, hback]
          · by_cases e : j = 5
            · rw [e, hup_same, h5]
            · rw [hup_ix _ _ _ e, a3 j, h61 j e]; exact r2 j
          · rw [hup_obj _ _ _ (by omega), a4 j (by omega), hup_obj _ _ _ (by omega), hup_ix _ _ _ (by omega)]
            exact r3 j hj
          · rw [hup_obj _ _ _ (by omega), a5, ag3 f (by omega)]
            exact r4
          · rw [hGk]
            exact a6.agr ((Agr.refl _ _).hup (by omega))
          · rw [hGk]; exact a7
    · have hP1 := hP.agr (q1.1.1.sub fun o h => by omega)
      have h7 : I1 62 7 = iI (n : Int) := hP1.1.2.1
      simp (maxSteps := 4000000) (disch := omega) only [Search_seatFrom_L29, rc0, gi0, gl0, pi0, pl0, pz0, pr0, gr0_0, gr0_1, gr0_2, gr0_3, gr0_4, gr0_5, gr0_6, gr0_7, gr0_8, rc1, gi1, gl1, pi1, pl1, pz1, pr1, gr1_0, rc3, gi3, gl3, pi3, pl3, pz3, pr3, gr3_0, gr3_10, gr3_11, rc47, gi47, gl47, pi47, pl47, pz47, pr47, gr47_0, gr47_1, gr47_2, gr47_3, gr47_4, gr47_5, gr47_6, rc55, gi55, gl55, pi55, pl55, pz55, pr55, gr55_0, gr55_1, rc58, gi58, gl58, pi58, pl58, pz58, pr58, gr58_0, gr58_1, rc61, gi61, gl61, pi61, pl61, pz61, pr61, gr61_0, gr61_1, gr61_2, gr61_7, rc62, gi62, gl62, pi62, pl62, pz62, pr62, gr62_0, gr62_1, gr62_2, gr62_3, gr62_4, gr62_5, ld2, st2, an2, ld4, st4, an4, ld5, st5, an5, an6, ld48, st48, an48, ld49, st49, an49, ld50, st50, an50, ld51, st51, an51, ld52, st52, an52, ld53, st53, an53, ld54, st54, an54, ld56, st56, an56, ld57, st57, an57, ld59, st59, an59, ld60, st60, an60, ld63, st63, an63, ld64, st64, an64, ld65, st65, an65, ld66, st66, an66, ld67, st67, an67, ld68, st68, an68, ld69, st69, an69, ld70, st70, an70, rcct, gict, glct, pict, plct, pzct, prct, grct_0, grct_1, grct_2, grct_3, ldctm, stctm, anctm, ldctr, stctr, anctr, ldctp, stctp, anctp, anctR, rcru, giru, glru, piru, plru, pzru, prru, grru_7, ldcu, stcu, ancu, arct, ar6, rcro, giro, piro, pzro, grro_1, grro_2, grro_3, rcfo, gifo, pifo, pzfo, grfo_0, grfo_1, ldfop, stfop, anfop, ldfoe, stfoe, anfoe, Option.bind_some, if_true, if_false, iI_lt, iI_le, iI_eq, h7, show (n : Int) ≤ (n : Int) by omega]
end
