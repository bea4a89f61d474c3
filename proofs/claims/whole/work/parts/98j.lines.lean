/-! ===== layer 2: the text: the class reads rules, lines, all ===== -/
section
variable {T D D' : Tb} {I I' I'' : Nat → Nat → Int32} {J J' J'' : Nat → Nat → Int64} {b d v : Bool} {f k n i j e t s w M K r y z : Nat} {m g h a c o lo hi x wt rm un : Int} {S F G : Nat → Bool} {q : Int32}
set_option maxRecDepth 20000 in
set_option maxHeartbeats 8000000 in
theorem cl_rlTail (C : crR T D d t I J) (dv : dV D) (ht : tvA T) (hr : D 0 4 < 12) (hw : w ≤ 2) (ha : tvW D a) (hc : tvW D c) (f0 : I (ru d (nr D)) 0 = iI (w : Int)) (f1 : I (ru d (nr D)) 1 = iI a) (f2 : I (ru d (nr D)) 2 = iI c) (f3 : I (ru d (nr D)) 3 = iI wt) : ∃ q I' J', rlTail (some (ct d)) (some (ru d (nr D))) (I, J, Pst b f) = some (q, (I', J', Pst b f)) ∧ pF d I J I' J' ∧ rzC T d q I' J' (rdR2 T D w a c wt t) := by
  have h00 := dv.1.1
  have hcd := ct_or d
  have hru : ru d (nr D) = ct d + 5 + 2 * nr D := rfl
  have hcu : cu d (nr D) = ct d + 6 + 2 * nr D := rfl
  have hnr : nr D < 12 := by unfold nr; omega
  have hnrI : (nr D : Int) = D 0 4 := by unfold nr; omega
  have hnmI : (nm D : Int) = D 0 3 := by unfold nm; omega
  have hro := cl_readRoom (b := b) (f := f) C dv ht hnr
  unfold rdR2
  cases er : rdRm T t with
  | inl u =>
    rw [er] at hro
    obtain ⟨I1, J1, a1, a2, a3⟩ := hro
    refine ⟨iI 0, I1, J1, ?_, a2.pF hnr, rfl, a3⟩
    unfold rlTail
    rw [a1, Option.bind_some, if_pos (by rfl)]
    rfl
  | inr z =>
    rw [er] at hro
    obtain ⟨I1, J1, a1, a2, C1, a4, a5⟩ := hro
    have hun := cl_readUnless (b := b) (f := f) C1 dv ht hnr
    have hrm := rdRm_rg ht er
    show ∃ q I' J', _ ∧ _ ∧ rzC T d q I' J' ((rdUn T D z.1).elim _ _)
    cases eu : rdUn T D z.1 with
    | inl u =>
      rw [eu] at hun
      obtain ⟨I2, J2, b1, b2, b3⟩ := hun
      refine ⟨iI 0, I2, J2, ?_, (a2.trans b2).pF hnr, rfl, b3⟩
      unfold rlTail
      rw [a1, Option.bind_some, if_neg (show ¬ iI 1 = 0 by decide), b1, Option.bind_some, if_pos (by rfl)]
      rfl
    | inr y =>
      rw [eu] at hun
      obtain ⟨I2, J2, b1, b2, C2, b4, b5⟩ := hun
      have hur := rdUn_rg eu
      have b4' : I2 (ru d (nr D)) 5 = iI (unC y.2) := b4
      have g0 : I2 (ru d (nr D)) 0 = iI (w : Int) := (b5 0 (by omega)).trans ((a5 0 (by omega)).trans f0)
      have g1 : I2 (ru d (nr D)) 1 = iI a := (b5 1 (by omega)).trans ((a5 1 (by omega)).trans f1)
      have g2 : I2 (ru d (nr D)) 2 = iI c := (b5 2 (by omega)).trans ((a5 2 (by omega)).trans f2)
      have g3 : I2 (ru d (nr D)) 3 = iI wt := (b5 3 (by omega)).trans ((a5 3 (by omega)).trans f3)
      have g4 : I2 (ru d (nr D)) 4 = iI z.2 := (b5 4 (by omega)).trans a4
      have k1 := cl_guestsOf (J := J2) (b := b) (f := f) C2.2.2.1 dv (Or.inl ha)
      have k2 := cl_guestsOf (J := J2) (b := b) (f := f) C2.2.2.1 dv (Or.inl hc)
      have k3 := cl_guestsOf (a := unC y.2) (J := J2) (b := b) (f := f) C2.2.2.1 dv (by
        unfold unC tvW
        by_cases e : y.2 = -1
        · rw [if_pos e]; exact Or.inr rfl
        · rw [if_neg e]; exact Or.inl (Or.inr (by omega)))
      have hand : iI (bt 10 (isOf D c) : Int) &&& (iI (bt 10 (isOf D (unC y.2)) : Int) ^^^ iI (-1)) = iI (bt 10 (fun y' => isOf D c y' && !isOf D (unC y.2) y') : Int) := sI_andn _ _ _
      obtain ⟨I3, p1, p2, p3⟩ := cl_pairUp (J := J2) (b := b) (f := f) (F := isOf D a) (G := fun y' => isOf D c y' && !isOf D (unC y.2) y') hnr hw g0
      have h36 : I3 (ct d) 6 = iI (D 0 4) := (p2 _ (by omega) 6).trans C2.2.2.1.1.2.2
      obtain ⟨I4, hI4⟩ : ∃ I4, I4 = hup I3 (ct d) 6 (iI (D 0 4 + 1)) := ⟨_, rfl⟩
      have o4 : ∀ o k, o ≠ cu d (nr D) → ¬ (o = ct d ∧ k = 6) → I4 o k = I2 o k := fun o k q1 q2 => by
        rw [hI4]
        unfold hup
        rw [if_neg q2]
        exact p2 o q1 k
      have hA4 : cA T I4 := ⟨(o4 _ _ (by omega) (by omega)).trans C2.1.1.1, fun k hk => (o4 _ _ (by omega) (by omega)).trans (C2.1.1.2 k hk)⟩
      have hk4 : tkC T y.1 I4 J2 := ⟨⟨(o4 _ _ (by omega) (by omega)).trans C2.1.2.1.1, (o4 _ _ (by omega) (by omega)).trans C2.1.2.1.2.1, (o4 _ _ (by omega) (by omega)).trans C2.1.2.1.2.2⟩, C2.1.2.2⟩
      have fr4 : pF d I J I4 J2 := ((a2.trans b2).pF hnr).trans ⟨fun o k q1 q2 q3 q4 => o4 o k (by omega) (by omega), fun _ _ _ _ => rfl⟩
      have hpre : ∀ Y, ((Reader_readStop S0 (some 3) (I4, J2, Pst b f)).bind fun w53 => some (w53.1 &&& 1, w53.2)) = Y → rlTail (some (ct d)) (some (ru d (nr D))) (I, J, Pst b f) = Y := fun Y hY => by
        unfold rlTail
        rw [a1, Option.bind_some, if_neg (show ¬ iI 1 = 0 by decide), b1, Option.bind_some, if_neg (show ¬ iI 1 = 0 by decide), giru hnr, g1, Option.bind_some, k1, Option.bind_some, giru hnr, g2, Option.bind_some, k2, Option.bind_some, giru hnr, b4', Option.bind_some, k3, Option.bind_some, n_1, iI_neg, hand, p1, Option.bind_some, gict, h36, Option.bind_some, iI_add, pict, ← hI4, Option.bind_some]
        exact hY
      show ∃ q I' J', _ ∧ _ ∧ rzC T d q I' J' (if kd T y.1 = 3 then _ else _)
      by_cases es : kd T y.1 = 3
      · rw [if_pos es]
        obtain ⟨I5, J5, s1, s2, s3⟩ := cl_stopT (b := b) (f := f) hA4 hk4 ht es
        have hcr : crR T (rAdd D w a c wt z.2 y.2) d (adv T y.1) I5 J5 := by
          refine ⟨⟨s2.cA hA4, s3⟩, ⟨fun w hw => (s2.2 3 _ (by omega)).trans (C2.2.1.1 w hw), ?_⟩, ⟨⟨?_, ?_, ?_⟩, fun m hm => ?_⟩, fun r hr => ?_⟩
          · rw [rA_nm]
            have h2 : nmC (rAdd D w a c wt z.2 y.2) (nm D) I2 J2 := nmC_cg C2.2.1.2 rA_ng (fun i => rA_row (by omega) (by omega) i) (fun i => rA_row (by omega) (by omega) i)
            obtain ⟨n1, c', u, n2, n3⟩ := h2
            exact ⟨(s2.1 3 12 (by omega)).trans ((o4 _ _ (by omega) (by omega)).trans n1), c', u, fun k hk => ⟨(s2.2 4 k (by omega)).trans (n2 k hk).1, (s2.1 5 k (by omega)).trans ((o4 _ _ (by omega) (by omega)).trans (n2 k hk).2)⟩, n3⟩
          · rw [s2.1 _ _ (by omega), o4 _ _ (by omega) (by omega), rA_0 (by omega)]; exact C2.2.2.1.1.1
          · rw [s2.1 _ _ (by omega), o4 _ _ (by omega) (by omega), rA_0 (by omega)]; exact C2.2.2.1.1.2.1
          · rw [s2.1 _ _ (by omega), hI4, hup_same, rA_4]
          · rw [rA_0 (by omega)] at hm
            rw [s2.1 _ _ (by omega), o4 _ _ (by omega) (by omega), rA_row (by omega) (by omega)]; exact C2.2.2.1.2 m hm
          · rw [rA_4] at hr
            have qru : ru d r = ct d + 5 + 2 * r := rfl
            have qcu : cu d r = ct d + 6 + 2 * r := rfl
            by_cases e : r = nr D
            · subst e
              obtain ⟨k5, k6, k7, k8, k9, k10, k11⟩ := rA_new (D := D) (w := w) (a := a) (c := c) (wt := wt) (rm := z.2) (un := y.2)
              have R : ∀ k, I5 (ru d (nr D)) k = I2 (ru d (nr D)) k := fun k => (s2.1 _ _ (by omega)).trans (o4 _ _ (by omega) (by omega))
              rw [k5, k6, k7, k8, k9, k10, R, R, R, R, R, R]
              refine ⟨⟨g0, g1, g2, g3, g4, b4'⟩, fun x hx => ?_⟩
              rw [s2.1 _ _ (by omega), hI4, hup_obj _ _ _ (by omega), p3 x hx]
              exact sI_ext fun y' _ => (cpl_new hur.1).symm
            · have hr' : (r : Int) < D 0 4 := by omega
              obtain ⟨hh, hx7⟩ := C2.2.2.2 r hr'
              have R : ∀ k, I5 (ru d r) k = I2 (ru d r) k := fun k => (s2.1 _ _ (by omega)).trans (o4 _ _ (by omega) (by omega))
              have Q := fun (o : Nat) (ho : o ≠ 0) => rA_old (D := D) (w := w) (a := a) (c := c) (wt := wt) (rm := z.2) (un := y.2) o e ho
              rw [Q 5 (by omega), Q 6 (by omega), Q 7 (by omega), Q 8 (by omega), Q 9 (by omega), Q 10 (by omega), R, R, R, R, R, R]
              refine ⟨hh, fun x hx => ?_⟩
              rw [s2.1 _ _ (by omega), o4 _ _ (by omega) (by omega), hx7 x hx]
              exact sI_ext fun y' _ => (cpl_cong dv.2.1 dv.1 hr' (fun o h5 h10 => Q o (by omega)) (fun m hm => rA_row (by omega) (by omega) m) x y').symm
        refine ⟨iI 1, I5, J5, hpre _ ?_, fr4.trans (pF.tx s2), rfl, hcr⟩
        rw [s1, Option.bind_some]
        exact w11 _
      · rw [if_neg es]
        refine ⟨iI 0, I4, J2, hpre _ ?_, fr4, rfl, hk4.1.1⟩
        rw [cl_stopF hk4 es, Option.bind_some]
        exact w01 _
set_option maxRecDepth 20000 in
set_option maxHeartbeats 8000000 in
theorem cl_readRule (C : crR T D d t I J) (dv : dV D) (ht : tvA T) (hw : w ≤ 2) : ∃ q I' J', Reader_readRule S0 (some 3) (some (ct d)) (iI (w : Int)) (I, J, Pst b f) = some (q, (I', J', Pst b f)) ∧ pF d I J I' J' ∧ rzC T d q I' J' (rdRu T D w t) := by
  have h00 := dv.1.1
  have h0 := h00.2.2
  have hcd := ct_or d
  have hru : ru d (nr D) = ct d + 5 + 2 * nr D := rfl
  have hnrI : (nr D : Int) = D 0 4 := by unfold nr; omega
  have hngI : (ng D : Int) = D 0 2 := by unfold ng; omega
  have hnmI : (nm D : Int) = D 0 3 := by unfold nm; omega
  unfold rdRu
  by_cases e0 : 12 ≤ D 0 4
  · rw [if_pos e0]
    refine ⟨iI 0, I, J, ?_, pF.refl, rfl, C.1.2.1.1⟩
    rw [readRule_eq, rc3, Option.bind_some, gict, C.2.2.1.1.2.2, Option.bind_some, if_neg (by rw [n_0, iI_lt (by omega)]; omega), Option.bind_some, if_neg (by rw [n_12, iI_lt (by omega)]; omega)]
    rfl
  · rw [if_neg e0]
    have hnr : nr D < 12 := by omega
    have C1 : crR T D d t (hup I (ru d (nr D)) 0 (iI (w : Int))) J := C.wr h0.2 h0.1
    obtain ⟨I2, J2, a1, a2, C2⟩ := C1.adv (b := b) (f := f) h0.2 h0.1 ht
    have me1 := C2.mean (b := b) (f := f) dv ht
    have mr1 := mea_rg (D := D) (M := nm D) (x := nmd T (adv T t))
    have C3 : crR T D d (adv T t) (hup I2 (ru d (nr D)) 1 (iI (mea D (nm D) (nmd T (adv T t))))) J2 := C2.wr h0.2 h0.1
    have fr3 : rF d (nr D) I J (hup I2 (ru d (nr D)) 1 (iI (mea D (nm D) (nmd T (adv T t))))) J2 := (rF.refl.wr.trans (rF.tx a2)).wr
    have harr : aR S0 105 (I, J, Pst b f) (some (ct d + 2)) (iI (D 0 4)) = some (some (ru d (nr D))) := arct (by omega)
    have hpre1 : ∀ Y, (if iI (mea D (nm D) (nmd T (adv T t))) = (-1) then (some (0, (hup I2 (ru d (nr D)) 1 (iI (mea D (nm D) (nmd T (adv T t)))), J2, Pst b f))) else ((gR S0 5 0 (hup I2 (ru d (nr D)) 1 (iI (mea D (nm D) (nmd T (adv T t)))), J2, Pst b f) (some 3)).bind fun x14 => (Text_advance S0 x14 (hup I2 (ru d (nr D)) 1 (iI (mea D (nm D) (nmd T (adv T t)))), J2, Pst b f)).bind fun V15 => (Reader_meaning S0 (some 3) V15).bind fun x17 => (pI S0 7 2 V15 (some (ru d (nr D))) x17).bind fun V19 => (gI S0 7 2 V19 (some (ru d (nr D)))).bind fun x20 => if x20 = (-1) then (some (0, V19)) else ((gR S0 5 0 V19 (some 3)).bind fun x21 => (Text_advance S0 x21 V19).bind fun V22 => rlB (some (ct d)) (some (ru d (nr D))) V22))) = Y → Reader_readRule S0 (some 3) (some (ct d)) (iI (w : Int)) (I, J, Pst b f) = Y := fun Y hY => by
      rw [readRule_eq, rc3, Option.bind_some, gict, C.2.2.1.1.2.2, Option.bind_some, if_neg (by rw [n_0, iI_lt (by omega)]; omega), Option.bind_some, if_pos (by rw [n_12, iI_lt (by omega)]; omega), grct_1, Option.bind_some, Option.bind_some, harr, Option.bind_some, piru hnr, Option.bind_some, gr3_0, Option.bind_some, a1, Option.bind_some, me1, Option.bind_some, piru hnr, Option.bind_some, giru hnr, hup_same, Option.bind_some]
      exact hY
    by_cases e1 : mea D (nm D) (nmd T (adv T t)) = -1
    · rw [if_pos e1]
      refine ⟨iI 0, _, J2, hpre1 _ ?_, fr3.pF hnr, rfl, C3.1.2.1.1⟩
      rw [if_pos (by rw [e1]; rfl)]
      rfl
    · rw [if_neg e1]
      have tw1 : tvW D (mea D (nm D) (nmd T (adv T t))) := by unfold tvW; omega
      generalize mea D (nm D) (nmd T (adv T t)) = a at *
      obtain ⟨I4, J4, b1, b2, C4⟩ := C3.adv (b := b) (f := f) h0.2 h0.1 ht
      have me2 := C4.mean (b := b) (f := f) dv ht
      have mr2 := mea_rg (D := D) (M := nm D) (x := nmd T (adv T (adv T t)))
      have C5 : crR T D d (adv T (adv T t)) (hup I4 (ru d (nr D)) 2 (iI (mea D (nm D) (nmd T (adv T (adv T t)))))) J4 := C4.wr h0.2 h0.1
      have fr5 : rF d (nr D) I J (hup I4 (ru d (nr D)) 2 (iI (mea D (nm D) (nmd T (adv T (adv T t)))))) J4 := (fr3.trans (rF.tx b2)).wr
      have hpre2 : ∀ Y, (if iI (mea D (nm D) (nmd T (adv T (adv T t)))) = (-1) then (some (0, (hup I4 (ru d (nr D)) 2 (iI (mea D (nm D) (nmd T (adv T (adv T t))))), J4, Pst b f))) else ((gR S0 5 0 (hup I4 (ru d (nr D)) 2 (iI (mea D (nm D) (nmd T (adv T (adv T t))))), J4, Pst b f) (some 3)).bind fun x21 => (Text_advance S0 x21 (hup I4 (ru d (nr D)) 2 (iI (mea D (nm D) (nmd T (adv T (adv T t))))), J4, Pst b f)).bind fun V22 => rlB (some (ct d)) (some (ru d (nr D))) V22)) = Y → Reader_readRule S0 (some 3) (some (ct d)) (iI (w : Int)) (I, J, Pst b f) = Y := fun Y hY => hpre1 Y (by
        rw [if_neg (by rw [n_1, iI_neg, iI_eq (by omega)]; exact e1), gr3_0, Option.bind_some, b1, Option.bind_some, me2, Option.bind_some, piru hnr, Option.bind_some, giru hnr, hup_same, Option.bind_some]
        exact hY)
      by_cases e2 : mea D (nm D) (nmd T (adv T (adv T t))) = -1
      · rw [if_pos e2]
        refine ⟨iI 0, _, J4, hpre2 _ ?_, fr5.pF hnr, rfl, C5.1.2.1.1⟩
        rw [if_pos (by rw [e2]; rfl)]
        rfl
      · rw [if_neg e2]
        have tw2 : tvW D (mea D (nm D) (nmd T (adv T (adv T t)))) := by unfold tvW; omega
        generalize mea D (nm D) (nmd T (adv T (adv T t))) = c at *
        obtain ⟨I6, J6, c1, c2, C6⟩ := C5.adv (b := b) (f := f) h0.2 h0.1 ht
        have fr6 : rF d (nr D) I J I6 J6 := fr5.trans (rF.tx c2)
        have hkc : J6 3 7 = lI (kc 6) := C6.2.1.1 6 (by omega)
        obtain ⟨u1, u2⟩ := cl_readWord (b := b) (f := f) (w := 6) C6.1.1 C6.1.2 ht (by omega)
        have hpre3 : ∀ Y, rlB (some (ct d)) (some (ru d (nr D))) (I6, J6, Pst b f) = Y → Reader_readRule S0 (some 3) (some (ct d)) (iI (w : Int)) (I, J, Pst b f) = Y := fun Y hY => hpre2 Y (by
          rw [if_neg (by rw [n_1, iI_neg, iI_eq (by omega)]; exact e2), gr3_0, Option.bind_some, c1, Option.bind_some]
          exact hY)
        cases e3 : isW T 6 (adv T (adv T (adv T t)))
        · rw [if_neg (by decide)]
          refine ⟨iI 0, I6, J6, hpre3 _ ?_, fr6.pF hnr, rfl, C6.1.2.1.1⟩
          unfold rlB
          rw [gl3, hkc, Option.bind_some, u1 e3, Option.bind_some, if_pos (by rfl)]
          rfl
        · rw [if_pos rfl]
          obtain ⟨I7, J7, d1, d2, d3⟩ := u2 e3
          have C7 : crR T D d (adv T (adv T (adv T (adv T t)))) I7 J7 := C6.rF h0.2 h0.1 (rF.tx d2) d3
          have fr7 : rF d (nr D) I J I7 J7 := fr6.trans (rF.tx d2)
          have hin := cl_isN (b := b) (f := f) (lo := 1) (hi := 9) C7.1.2 ht (by omega)
          have hin' : Text_isNumber S0 (some 1) 1 9 (I7, J7, Pst b f) = some (bI (isN T 1 9 (adv T (adv T (adv T (adv T t)))))) := hin
          cases e4 : isN T 1 9 (adv T (adv T (adv T (adv T t))))
          · rw [if_neg (by decide)]
            refine ⟨iI 0, I7, J7, hpre3 _ ?_, fr7.pF hnr, rfl, C7.1.2.1.1⟩
            unfold rlB
            rw [gl3, hkc, Option.bind_some, d1, Option.bind_some, if_neg (show ¬ iI 1 = 0 by decide), gr3_0, Option.bind_some, hin', e4, Option.bind_some, if_pos (by rfl)]
            rfl
          · rw [if_pos rfl]
            have hcdr := e4
            simp only [isN, decide_eq_true_eq] at hcdr
            have C8 : crR T D d (adv T (adv T (adv T (adv T t)))) (hup I7 (ru d (nr D)) 3 (iI (cd T (adv T (adv T (adv T (adv T t))))))) J7 := C7.wr h0.2 h0.1
            obtain ⟨I9, J9, g1, g2, C9⟩ := C8.adv (b := b) (f := f) h0.2 h0.1 ht
            have fr9 : rF d (nr D) I J I9 J9 := fr7.wr.trans (rF.tx g2)
            have R9 : ∀ k, I9 (ru d (nr D)) k = hup I7 (ru d (nr D)) 3 (iI (cd T (adv T (adv T (adv T (adv T t)))))) (ru d (nr D)) k := fun k => g2.1 _ _ (by omega)
            have R7 : ∀ k, I7 (ru d (nr D)) k = hup I4 (ru d (nr D)) 2 (iI c) (ru d (nr D)) k := fun k => (d2.1 _ _ (by omega)).trans (c2.1 _ _ (by omega))
            have R4 : ∀ k, I4 (ru d (nr D)) k = hup I2 (ru d (nr D)) 1 (iI a) (ru d (nr D)) k := fun k => b2.1 _ _ (by omega)
            have R2 : ∀ k, I2 (ru d (nr D)) k = hup I (ru d (nr D)) 0 (iI (w : Int)) (ru d (nr D)) k := fun k => a2.1 _ _ (by omega)
            obtain ⟨q, I', J', t1, t2, t3⟩ := cl_rlTail (b := b) (f := f) (wt := cd T (adv T (adv T (adv T (adv T t))))) C9 dv ht (by omega) hw tw1 tw2 (by rw [R9, hup_ix _ _ _ (by omega), R7, hup_ix _ _ _ (by omega), R4, hup_ix _ _ _ (by omega), R2, hup_same]) (by rw [R9, hup_ix _ _ _ (by omega), R7, hup_ix _ _ _ (by omega), R4, hup_same]) (by rw [R9, hup_ix _ _ _ (by omega), R7, hup_same]) (by rw [R9, hup_same])
            refine ⟨q, I', J', hpre3 _ ?_, (fr9.pF hnr).trans t2, t3⟩
            unfold rlB
            rw [gl3, hkc, Option.bind_some, d1, Option.bind_some, if_neg (show ¬ iI 1 = 0 by decide), gr3_0, Option.bind_some, hin', e4, Option.bind_some, if_neg (by decide), Option.bind_some, gl1, C7.1.2.2.1, Option.bind_some, lI_i32 (by omega), piru hnr, Option.bind_some, gr3_0, Option.bind_some, g1, Option.bind_some, t1]
set_option maxRecDepth 20000 in
set_option maxHeartbeats 8000000 in
theorem rzC_01 {r : Rd} (h : rzC T d q I J r) : q = iI 0 ∨ q = iI 1 := by
  unfold rzC at h
  cases r with
  | inl u => exact Or.inl h.1
  | inr z => exact Or.inr h.1
set_option maxRecDepth 20000 in
set_option maxHeartbeats 8000000 in
theorem cl_readLine (C : crR T D d t I J) (dv : dV D) (ht : tvA T) : ∃ q I' J', Reader_readLine S0 (some 3) (some (ct d)) (I, J, Pst b f) = some (q, (I', J', Pst b f)) ∧ pF d I J I' J' ∧ rzC T d q I' J' (rdL T D t) := by
  have W := fun (w : Nat) (hw : w < 9) => cl_isKw (b := b) (f := f) (w := w) C.1.2 ht hw
  have w0 := W 0 (by omega)
  have w1 := W 1 (by omega)
  have w3 := W 3 (by omega)
  have w4 := W 4 (by omega)
  have w5 := W 5 (by omega)
  have j1 : J 3 1 = lI (kc 0) := C.2.1.1 0 (by omega)
  have j2 : J 3 2 = lI (kc 1) := C.2.1.1 1 (by omega)
  have j4 : J 3 4 = lI (kc 3) := C.2.1.1 3 (by omega)
  have j5 : J 3 5 = lI (kc 4) := C.2.1.1 4 (by omega)
  have j6 : J 3 6 = lI (kc 5) := C.2.1.1 5 (by omega)
  have h11 : iI 1 &&& (1 : Int32) = iI 1 := by decide
  have h01 : iI 0 &&& (1 : Int32) = iI 0 := by decide
  unfold rdL Reader_readLine
  rw [rc3, Option.bind_some, gr3_0, Option.bind_some, gl3, j1, Option.bind_some, w0, Option.bind_some]
  cases e0 : isW T 0 t
  · rw [if_pos (show bI false = 0 by rfl), if_neg (show ¬ false = true by decide), Option.bind_some, gl3, j2, Option.bind_some, w1, Option.bind_some]
    cases e1 : isW T 1 t
    · rw [if_pos (show bI false = 0 by rfl), if_neg (show ¬ false = true by decide), Option.bind_some, gl3, j4, Option.bind_some, w3, Option.bind_some]
      cases e3 : isW T 3 t
      · rw [if_pos (show bI false = 0 by rfl), if_neg (show ¬ false = true by decide), Option.bind_some, gl3, j5, Option.bind_some, w4, Option.bind_some]
        cases e4 : isW T 4 t
        · rw [if_pos (show bI false = 0 by rfl), if_neg (show ¬ false = true by decide), Option.bind_some, gl3, j6, Option.bind_some, w5, Option.bind_some]
          cases e5 : isW T 5 t
          · rw [if_pos (show bI false = 0 by rfl), if_neg (show ¬ false = true by decide)]
            exact ⟨iI 0, I, J, rfl, pF.refl, rfl, C.1.2.1.1⟩
          · rw [if_neg (show ¬ bI true = 0 by decide), if_pos (show true = true from rfl)]
            obtain ⟨q, I1, J1, a1, a2, a3⟩ := cl_readRule (b := b) (f := f) (w := 2) C dv ht (by omega)
            have a1' : Reader_readRule S0 (some 3) (some (ct d)) 2 (I, J, Pst b f) = some (q, (I1, J1, Pst b f)) := a1
            refine ⟨q, I1, J1, ?_, a2, a3⟩
            rw [a1', Option.bind_some]
            rcases rzC_01 a3 with z | z
            · rw [z, if_pos (by rfl)]; rfl
            · rw [z, if_neg (show ¬ iI 1 = 0 by decide)]; rfl
        · rw [if_neg (show ¬ bI true = 0 by decide), if_pos (show true = true from rfl)]
          obtain ⟨q, I1, J1, a1, a2, a3⟩ := cl_readRule (b := b) (f := f) (w := 1) C dv ht (by omega)
          have a1' : Reader_readRule S0 (some 3) (some (ct d)) 1 (I, J, Pst b f) = some (q, (I1, J1, Pst b f)) := a1
          refine ⟨q, I1, J1, ?_, a2, a3⟩
          rw [a1', Option.bind_some]
          rcases rzC_01 a3 with z | z
          · rw [z]; exact w01 _
          · rw [z]; exact w11 _
      · rw [if_neg (show ¬ bI true = 0 by decide), if_pos (show true = true from rfl)]
        obtain ⟨q, I1, J1, a1, a2, a3⟩ := cl_readRule (b := b) (f := f) (w := 0) C dv ht (by omega)
        have a1' : Reader_readRule S0 (some 3) (some (ct d)) 0 (I, J, Pst b f) = some (q, (I1, J1, Pst b f)) := a1
        refine ⟨q, I1, J1, ?_, a2, a3⟩
        rw [a1', Option.bind_some]
        rcases rzC_01 a3 with z | z
        · rw [z]; exact w01 _
        · rw [z]; exact w11 _
    · rw [if_neg (show ¬ bI true = 0 by decide), if_pos (show true = true from rfl)]
      obtain ⟨q, I1, J1, a1, a2, a3⟩ := cl_readMark (b := b) (f := f) C dv ht
      refine ⟨q, I1, J1, ?_, a2, a3⟩
      rw [a1, Option.bind_some]
      rcases rzC_01 a3 with z | z
      · rw [z]; exact w01 _
      · rw [z]; exact w11 _
  · rw [if_neg (show ¬ bI true = 0 by decide), if_pos (show true = true from rfl)]
    obtain ⟨q, I1, J1, a1, a2, a3⟩ := cl_readGuest (b := b) (f := f) C dv ht
    refine ⟨q, I1, J1, ?_, a2, a3⟩
    rw [a1, Option.bind_some]
    rcases rzC_01 a3 with z | z
    · rw [z]; exact w01 _
    · rw [z]; exact w11 _
end
