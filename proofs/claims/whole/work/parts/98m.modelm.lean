/-! ===== layer 2: the text: the model reads a mark ===== -/
section
variable {T D D' : Tb} {I I' I'' : Nat → Nat → Int32} {J J' J'' : Nat → Nat → Int64} {b d v : Bool} {f k n i j e t s w M K r y : Nat} {m g h a c o lo hi x wt rm un : Int} {S F G : Nat → Bool} {q : Int32} {z : Nat × Tb}
def mkM (T D : Tb) (b : Bool) (f : Nat) (F : Option (hV ⊕ (Int32 × hV))) (I : Nat → Nat → Int32) (J : Nat → Nat → Int64) (r : Nat ⊕ (Nat × (Nat → Bool))) : Prop := match r with
  | .inl u => ∃ I', F = some (.inr (iI 0, (I', J, Pst b f))) ∧ mF I J I' J ∧ I' 132 4 = iI (u : Int)
  | .inr z => ∃ I', F = some (.inl (I', J, Pst b f)) ∧ mF I J I' J ∧ mrR T D z.1 I' J ∧ I' 142 (nm D) = iI (bt 10 z.2 : Int)
set_option maxRecDepth 20000 in
set_option maxHeartbeats 8000000 in
theorem gOf_m1 (dv : dV D) : gOf D (-1) = -1 := by
  have := mea_neg dv.2.2
  rw [mea_no] at this
  exact this.1
set_option maxRecDepth 20000 in
set_option maxHeartbeats 8000000 in
theorem mOf_m1 (dv : dV D) : mOf D (nm D) (-1) = -1 := by
  have := mea_neg dv.2.2
  rw [mea_no] at this
  exact this.2
set_option maxRecDepth 20000 in
set_option maxHeartbeats 8000000 in
theorem mo_gj (R : mrR T D e I J) (dv : dV D) (ht : tvA T) : ((if (lg_cmp (lI (nmd T t)) (-1)) = 0 then (some (-1)) else ((Mo_guestOf S0 (some 132) (lI (nmd T t)) (I, J, Pst b f)).bind fun x32 => some x32)) : Option Int32) = some (iI (gOf D (nmd T t))) := by
  have h6 := nmd_6 (t := t) ht
  by_cases e1 : nmd T t = -1
  · rw [if_pos (by rw [cmp_m1 h6]; exact e1), e1, gOf_m1 dv, n_1, iI_neg]
  · rw [if_neg (by rw [cmp_m1 h6]; exact e1), mo_guestOf R dv h6, Option.bind_some]
set_option maxRecDepth 20000 in
set_option maxHeartbeats 8000000 in
theorem mo_mj (R : mrR T D e I J) (dv : dV D) (ht : tvA T) : ((if (lg_cmp (lI (nmd T t)) (-1)) = 0 then (some (-1)) else ((Mo_markOf S0 (some 132) (lI (nmd T t)) (I, J, Pst b f)).bind fun x6 => some x6)) : Option Int32) = some (iI (mOf D (nm D) (nmd T t))) := by
  have h6 := nmd_6 (t := t) ht
  by_cases e1 : nmd T t = -1
  · rw [if_pos (by rw [cmp_m1 h6]; exact e1), e1, mOf_m1 dv, n_1, iI_neg]
  · rw [if_neg (by rw [cmp_m1 h6]; exact e1), mo_markOf R dv h6, Option.bind_some]
set_option maxRecDepth 20000 in
set_option maxHeartbeats 8000000 in
theorem mo_marks (ht : tvA T) (dv : dV D) (h5 : nm D < 5) : ∀ (n fu k : Nat) (S : Nat → Bool) (t : Nat) (I : Nat → Nat → Int32), n + k = 11 → n + 1 < fu → mrR T D t I J → I 142 (nm D) = iI (bt 10 S : Int) → cnt 10 S = k → mkM T D b f (jloop (Mo_markRead_L59 S0 (some 132) (iI (nm D : Int))) fu (iI 1, (I, J, Pst b f))) I J (rdS T D n S t)
  | 0, fu, k, S, t, I, hnk, hfu, R, hb, hc => by
    have := cnt_le S 10
    omega
  | n + 1, fu, k, S, t, I, hnk, hfu, R, hb, hc => by
    obtain ⟨fu, rfl⟩ : ∃ z, fu = z + 1 := ⟨fu - 1, by omega⟩
    have h6 := nmd_6 (t := t) ht
    have hgr := gA_gOf10 (x := nmd T t) dv
    have hcl := cnt_le S 10
    have hbl := bt10 S
    have hna := mo_named (J := J) (b := b) (f := f) R.1.1.1 R.1.1.2 ht
    have hgj := mo_gj (t := t) (b := b) (f := f) R dv ht
    have har : ∀ I', aR S0 107 (I', J, Pst b f) (some 140) 1 = some (some 142) := fun I' => ar140_1
    have hj95 : ((if iI (gOf D (nmd T t)) = (-1 : Int32) then (some 0) else ((gR S0 12 8 (I, J, Pst b f) (some 132)).bind fun x29 => (aR S0 107 (I, J, Pst b f) x29 1).bind fun x30 => (aI S0 (I, J, Pst b f) x30 (iI (nm D : Int))).bind fun x31 => if ((shr x31 (iI (gOf D (nmd T t)))) &&& 1) = 0 then (some 1) else (some 0))) : Option Int32) = some (bI (decide (gOf D (nmd T t) ≠ -1) && !S (gOf D (nmd T t)).toNat)) := by
      by_cases e1 : gOf D (nmd T t) = -1
      · rw [if_pos (by rw [e1]; rfl), decide_eq_false (fun q => q e1), Bool.false_and]; rfl
      · have hsh := shrA (bt 10 S) (gOf D (nmd T t)).toNat (by omega) (by omega)
        rw [bt_bit, decide_eq_true (show (gOf D (nmd T t)).toNat < 10 by omega), Bool.true_and, show (((gOf D (nmd T t)).toNat : Nat) : Int) = gOf D (nmd T t) by omega] at hsh
        rw [if_neg (by rw [n_1, iI_neg, iI_eq (by omega)]; exact e1), gr132_8, Option.bind_some, har, Option.bind_some, ld142 (by omega), Int.toNat_natCast, hb, Option.bind_some, n_1, hsh, decide_eq_true (show gOf D (nmd T t) ≠ -1 from e1), Bool.true_and]
        cases S (gOf D (nmd T t)).toNat
        · rw [if_pos (by rfl)]; rfl
        · rw [if_neg (by decide)]; rfl
    have hpre : ∀ Y, ((Mo_passes S0 (some 132) (bI (decide (gOf D (nmd T t) ≠ -1) && !S (gOf D (nmd T t)).toNat)) (I, J, Pst b f)).bind fun w21 => if w21.1 = 0 then (some (.inr (.inr (0, w21.2)))) else ((gR S0 12 8 w21.2 (some 132)).bind fun x23 => (aR S0 107 w21.2 x23 1).bind fun x24 => (aI S0 w21.2 x24 (iI (nm D : Int))).bind fun x25 => (sI S0 w21.2 x24 (iI (nm D : Int)) (x25 ||| (shl 1 (iI (gOf D (nmd T t)))))).bind fun V26 => (Mo_named S0 (some 132) V26).bind fun x27 => if (lg_cmp x27 (-1)) = 0 then (some (.inl ((0 : Int32), V26))) else (some (.inl (1, V26))))) = Y → Mo_markRead_L59 S0 (some 132) (iI (nm D : Int)) (iI 1, (I, J, Pst b f)) = Y := fun Y hY => by
      unfold Mo_markRead_L59
      rw [if_neg (show ¬ iI 1 = 0 by decide), hna, Option.bind_some, hgj, Option.bind_some, hj95, Option.bind_some]
      exact hY
    unfold rdS
    by_cases e1 : gOf D (nmd T t) ≠ -1 ∧ S (gOf D (nmd T t)).toNat = false
    · rw [if_pos e1]
      rw [decide_eq_true e1.1, e1.2, Bool.not_false, Bool.and_self] at hpre
      generalize gOf D (nmd T t) = g at *
      obtain ⟨I1, a1, a2, R1⟩ := R.pass (b := b) (f := f) ht
      have hcs := cnt_sAd (g := g) (by omega) e1.2
      have hb1 : I1 142 (nm D) = iI (bt 10 S : Int) := (a2.1 142 ⟨by omega, trivial⟩ _).trans hb
      have hor : iI (bt 10 S : Int) ||| iI (bt 10 (fun y => decide (y = g.toNat)) : Int) = iI (bt 10 (sAd S g.toNat) : Int) := sI_or _ _ _
      have R2 : mrR T D (adv T t) (hup I1 142 (nm D) (iI (bt 10 (sAd S g.toNat) : Int))) J := R1.row (by omega) (by omega)
      have hna2 := mo_named (J := J) (b := b) (f := f) R2.1.1.1 R2.1.1.2 ht
      have h62 := nmd_6 (t := adv T t) ht
      have fr2 : mF I J (hup I1 142 (nm D) (iI (bt 10 (sAd S g.toNat) : Int))) J := (mF.fr a2).row (by unfold rwS; omega)
      by_cases e2 : nmd T (adv T t) = -1
      · rw [if_pos e2]
        obtain ⟨fu, rfl⟩ : ∃ z, fu = z + 1 := ⟨fu - 1, by omega⟩
        have hstep : Mo_markRead_L59 S0 (some 132) (iI (nm D : Int)) (iI 1, (I, J, Pst b f)) = some (.inl ((0 : Int32), (hup I1 142 (nm D) (iI (bt 10 (sAd S g.toNat) : Int)), J, Pst b f))) := hpre _ (by
          rw [a1, Option.bind_some, if_neg (show ¬ iI 1 = 0 by decide), gr132_8, Option.bind_some, har, Option.bind_some, ld142 (by omega), Int.toNat_natCast, hb1, Option.bind_some, sI_g10 (by omega), hor, st142 (by omega), Int.toNat_natCast, Option.bind_some, hna2, Option.bind_some, if_pos (by rw [cmp_m1 h62]; exact e2)])
        rw [jl_s hstep]
        refine ⟨_, jl_e ?_, fr2, R2, hup_same _ _ _ _⟩
        unfold Mo_markRead_L59
        rw [if_pos rfl]
      · rw [if_neg e2]
        have hstep : Mo_markRead_L59 S0 (some 132) (iI (nm D : Int)) (iI 1, (I, J, Pst b f)) = some (.inl (iI 1, (hup I1 142 (nm D) (iI (bt 10 (sAd S g.toNat) : Int)), J, Pst b f))) := hpre _ (by
          rw [a1, Option.bind_some, if_neg (show ¬ iI 1 = 0 by decide), gr132_8, Option.bind_some, har, Option.bind_some, ld142 (by omega), Int.toNat_natCast, hb1, Option.bind_some, sI_g10 (by omega), hor, st142 (by omega), Int.toNat_natCast, Option.bind_some, hna2, Option.bind_some, if_neg (by rw [cmp_m1 h62]; exact e2)]
          rfl)
        rw [jl_s hstep]
        have ih := mo_marks ht dv h5 n fu (k + 1) (sAd S g.toNat) (adv T t) (hup I1 142 (nm D) (iI (bt 10 (sAd S g.toNat) : Int))) (by omega) (by omega) R2 (hup_same _ _ _ _) (by omega)
        cases er : rdS T D n (sAd S g.toNat) (adv T t) with
        | inl u =>
          rw [er] at ih
          obtain ⟨I3, b1, b2, b3⟩ := ih
          exact ⟨I3, b1, fr2.trans b2, b3⟩
        | inr z =>
          rw [er] at ih
          obtain ⟨I3, b1, b2, b3, b4⟩ := ih
          exact ⟨I3, b1, fr2.trans b2, b3, b4⟩
    · rw [if_neg e1]
      have hd : (decide (gOf D (nmd T t) ≠ -1) && !S (gOf D (nmd T t)).toNat) = false := by
        cases z : (decide (gOf D (nmd T t) ≠ -1) && !S (gOf D (nmd T t)).toNat)
        · rfl
        · simp only [Bool.and_eq_true, decide_eq_true_eq, Bool.not_eq_true'] at z
          exact absurd z e1
      rw [hd] at hpre
      refine ⟨hup I 132 4 (iI (t : Int)), jl_e (hpre _ ?_), mF.refl.fld (by omega), hup_same _ _ _ _⟩
      rw [R.fail, Option.bind_some, if_pos (by rfl)]
      rfl
set_option maxRecDepth 20000 in
set_option maxHeartbeats 8000000 in
theorem mo_markRead (R : mrR T D t I J) (dv : dV D) (ht : tvA T) (h5 : D 0 3 < 5) : ∃ q I' J', Mo_markRead S0 (some 132) (I, J, Pst b f) = some (q, (I', J', Pst b f)) ∧ mF I J I' J' ∧ rzM T q I' J' (if isNw T D t = true then (if isW T 2 (adv T t) = true then (rdS T D 11 (fun _ => false) (adv T (adv T t))).elim (fun u => .inl u) (fun z => if kd T z.1 = 3 then .inr (adv T z.1, mAdd D (nmd T t) z.2) else .inl z.1) else .inl (adv T t)) else .inl t) := by
  have h00 := dv.1.1
  have hngI : (ng D : Int) = D 0 2 := by unfold ng; omega
  have hnmI : (nm D : Int) = D 0 3 := by unfold nm; omega
  have hna := mo_named (J := J) (b := b) (f := f) R.1.1.1 R.1.1.2 ht
  have hnw := mo_isNew (t := t) (b := b) (f := f) R dv ht
  have h162 : ∀ I' J', aI S0 (I', J', Pst b f) (some 162) 1 = some (I' 162 1) := fun I' J' => ld162 (a := 1) (by omega)
  have har7 : ∀ I' J', aR S0 108 (I', J', Pst b f) (some 137) 1 = some (some 139) := fun I' J' => ar137_1
  have har0 : ∀ I' J', aR S0 107 (I', J', Pst b f) (some 140) 1 = some (some 142) := fun I' J' => ar140_1
  have r162 : I 162 1 = iI (nm D : Int) := by rw [R.2.1.2.1, hnmI]
  have hpre : ∀ Y, ((Mo_passes S0 (some 132) (bI (isNw T D t)) (I, J, Pst b f)).bind fun w7 => if w7.1 = 0 then (some (0, w7.2)) else ((Mo_isWord S0 (some 132) 2 w7.2).bind fun x9 => (Mo_passes S0 (some 132) x9 w7.2).bind fun w11 => if w11.1 = 0 then (some (0, w11.2)) else ((gR S0 12 7 w11.2 (some 132)).bind fun x13 => (aR S0 108 w11.2 x13 1).bind fun x14 => (sL S0 w11.2 x14 (iI (nm D : Int)) (lI (nmd T t))).bind fun V15 => (gR S0 12 8 V15 (some 132)).bind fun x16 => (aR S0 107 V15 x16 1).bind fun x17 => (sI S0 V15 x17 (iI (nm D : Int)) 0).bind fun V18 => (jloop (Mo_markRead_L59 S0 (some 132) (iI (nm D : Int))) jN (1, V18)).bind fun t59 => Sum.elim (fun q59 => (gR S0 12 16 q59 (some 132)).bind fun x34 => (aI S0 q59 x34 1).bind fun x35 => (sI S0 q59 x34 1 (x35 + 1)).bind fun V36 => (Mo_closes S0 (some 132) V36).bind fun w37 => some (w37.1 &&& 1, w37.2)) (fun v => some v) t59))) = Y → Mo_markRead S0 (some 132) (I, J, Pst b f) = Y := fun Y hY => by
    unfold Mo_markRead
    rw [rc132, Option.bind_some, hna, Option.bind_some, gr132_16, Option.bind_some, h162, r162, Option.bind_some, hnw, Option.bind_some]
    exact hY
  cases ew : isNw T D t
  · rw [ew] at hpre
    rw [if_neg (by decide)]
    refine ⟨iI 0, hup I 132 4 (iI (t : Int)), J, hpre _ ?_, mF.refl.fld (by omega), rfl, hup_same _ _ _ _⟩
    rw [R.fail, Option.bind_some, if_pos (by rfl)]
    rfl
  · rw [ew] at hpre
    rw [if_pos rfl]
    have hn := isNw_t ew
    obtain ⟨I1, a1, a2, R1⟩ := R.pass (b := b) (f := f) ht
    have hiw := mo_isW (J := J) (b := b) (f := f) (w := 2) R1.1.1.1 R1.1.1.2 ht (by omega)
    have hiw' : Mo_isWord S0 (some 132) 2 (I1, J, Pst b f) = some (bI (isW T 2 (adv T t))) := hiw
    cases e2 : isW T 2 (adv T t)
    · rw [e2] at hiw'
      rw [if_neg (by decide)]
      refine ⟨iI 0, hup I1 132 4 (iI (adv T t : Int)), J, hpre _ ?_, (mF.fr a2).fld (by omega), rfl, hup_same _ _ _ _⟩
      rw [a1, Option.bind_some, if_neg (show ¬ iI 1 = 0 by decide), hiw', Option.bind_some, R1.fail, Option.bind_some, if_pos (by rfl)]
      rfl
    · rw [e2] at hiw'
      rw [if_pos rfl]
      obtain ⟨I2, b1, b2, R2⟩ := R1.pass (b := b) (f := f) ht
      have hsl : ∀ x, sL S0 (I2, J, Pst b f) (some 139) (iI (nm D : Int)) x = some (I2, hup J 139 (nm D) x, Pst b f) := fun x => by
        rw [st139 (by omega), Int.toNat_natCast]
      have hsi : ∀ J' x, sI S0 (I2, J', Pst b f) (some 142) (iI (nm D : Int)) x = some (hup I2 142 (nm D) x, J', Pst b f) := fun J' x => by
        rw [st142 (by omega), Int.toNat_natCast]
      have R3 : mrR T D (adv T (adv T t)) (hup I2 142 (nm D) (iI (bt 10 (fun _ => false) : Int))) (hup J 139 (nm D) (lI (nmd T t))) := (R2.row (by omega) (by omega)).nam (by omega)
      have fr3 : mF I J (hup I2 142 (nm D) (iI (bt 10 (fun _ => false) : Int))) (hup J 139 (nm D) (lI (nmd T t))) := (((mF.fr a2).trans (mF.fr b2)).row (by unfold rwS; omega)).nam (Or.inr rfl)
      have hlo := mo_marks (b := b) (f := f) (J := hup J 139 (nm D) (lI (nmd T t))) ht dv (by omega) 11 jN 0 (fun _ => false) (adv T (adv T t)) _ (by omega) (by unfold jN; omega) R3 (hup_same _ _ _ _) (cnt_0 fun _ _ => rfl)
      have hz0 : iI (bt 10 (fun _ => false) : Int) = (0 : Int32) := by rw [bt_z]; rfl
      have hpre2 : ∀ Y, ((jloop (Mo_markRead_L59 S0 (some 132) (iI (nm D : Int))) jN (iI 1, (hup I2 142 (nm D) (iI (bt 10 (fun _ => false) : Int)), hup J 139 (nm D) (lI (nmd T t)), Pst b f))).bind fun t59 => Sum.elim (fun q59 => (gR S0 12 16 q59 (some 132)).bind fun x34 => (aI S0 q59 x34 1).bind fun x35 => (sI S0 q59 x34 1 (x35 + 1)).bind fun V36 => (Mo_closes S0 (some 132) V36).bind fun w37 => some (w37.1 &&& 1, w37.2)) (fun v => some v) t59) = Y → Mo_markRead S0 (some 132) (I, J, Pst b f) = Y := fun Y hY => hpre Y (by
        rw [a1, Option.bind_some, if_neg (show ¬ iI 1 = 0 by decide), hiw', Option.bind_some, b1, Option.bind_some, if_neg (show ¬ iI 1 = 0 by decide), gr132_7, Option.bind_some, har7, Option.bind_some, hsl, Option.bind_some, gr132_8, Option.bind_some, har0, Option.bind_some, hsi, Option.bind_some, ← hz0]
        exact hY)
      cases er : rdS T D 11 (fun _ => false) (adv T (adv T t)) with
      | inl u =>
        rw [er] at hlo
        obtain ⟨I4, l1, l2, l3⟩ := hlo
        refine ⟨iI 0, I4, _, hpre2 _ ?_, fr3.trans l2, rfl, l3⟩
        rw [l1, Option.bind_some, Sum.elim_inr]
      | inr z =>
        rw [er] at hlo
        obtain ⟨I4, l1, l2, R4, l4⟩ := hlo
        have r4c : I4 162 1 = iI (nm D : Int) := by rw [R4.2.1.2.1, hnmI]
        have hS := rdS_in dv 11 _ _ z (fun y hy => by cases hy) er
        have hk5 : tkM T z.1 (hup I4 162 1 (iI ((nm D : Int) + 1))) := ⟨⟨(hup_obj _ _ _ (by omega)).trans R4.1.1.2.1.1, (hup_obj _ _ _ (by omega)).trans R4.1.1.2.1.2⟩, R4.1.1.2.2⟩
        have R5 : mrR T (mAdd D (nmd T t) z.2) z.1 (hup I4 162 1 (iI ((nm D : Int) + 1))) (hup J 139 (nm D) (lI (nmd T t))) := by
          have hnm := mA_nm (D := D) (x := nmd T t) (S := z.2) h00.2.1.1
          have hng := mA_ng (D := D) (x := nmd T t) (S := z.2)
          have hnr : nr (mAdd D (nmd T t) z.2) = nr D := by unfold nr; rw [mA_0 (by omega)]
          refine ⟨⟨⟨⟨(hup_obj _ _ _ (by omega)).trans R4.1.1.1.1, fun k hk => (hup_obj _ _ _ (by omega)).trans (R4.1.1.1.2 k hk)⟩, hk5⟩, (hup_obj _ _ _ (by omega)).trans R4.1.2⟩, ⟨?_, ?_, ?_⟩, ⟨fun i hi => ?_, fun i hi => ?_⟩, fun i hi => ?_, fun r hr => ?_⟩
          · rw [hup_obj _ _ _ (by omega), mA_0 (by omega)]; exact R4.2.1.1
          · rw [hup_same, mA_3, hnmI]
          · rw [hup_obj _ _ _ (by omega), mA_0 (by omega)]; exact R4.2.1.2.2
          · rw [hng] at hi
            rw [mA_row (by omega) (by omega) (by omega)]; exact R4.2.2.1.1 i hi
          · rw [mA_17]
            by_cases e : i = nm D
            · rw [e, hup_same, if_pos rfl]
            · rw [if_neg e]; exact R4.2.2.1.2 i (by omega)
          · rw [hup_obj _ _ _ (by omega), mA_4]
            by_cases e : i = nm D
            · rw [e, l4, if_pos rfl, Int.toNat_natCast]
            · rw [if_neg e]; exact R4.2.2.2.1 i (by omega)
          · rw [hnr] at hr
            have Q := fun (o : Nat) (h0 : o ≠ 0) (h1 : o ≠ 17) (h2 : o ≠ 4) => mA_row (D := D) (x := nmd T t) (S := z.2) h0 h1 h2 r
            rw [Q 5 (by omega) (by omega) (by omega), Q 6 (by omega) (by omega) (by omega), Q 7 (by omega) (by omega) (by omega), Q 8 (by omega) (by omega) (by omega), Q 9 (by omega) (by omega) (by omega), Q 10 (by omega) (by omega) (by omega), hup_obj _ _ _ (by omega), hup_obj _ _ _ (by omega), hup_obj _ _ _ (by omega), hup_obj _ _ _ (by omega), hup_obj _ _ _ (by omega), hup_obj _ _ _ (by omega)]
            exact R4.2.2.2.2 r hr
        have fr5 : mF I J (hup I4 162 1 (iI ((nm D : Int) + 1))) (hup J 139 (nm D) (lI (nmd T t))) := (fr3.trans l2).cnt (Or.inr (Or.inl rfl))
        have hst : ∀ x, sI S0 (I4, hup J 139 (nm D) (lI (nmd T t)), Pst b f) (some 162) 1 x = some (hup I4 162 1 x, hup J 139 (nm D) (lI (nmd T t)), Pst b f) := fun x => st162 (a := 1) (by omega)
        have hpre3 : ∀ Y, ((Mo_closes S0 (some 132) (hup I4 162 1 (iI ((nm D : Int) + 1)), hup J 139 (nm D) (lI (nmd T t)), Pst b f)).bind fun w37 => some (w37.1 &&& 1, w37.2)) = Y → Mo_markRead S0 (some 132) (I, J, Pst b f) = Y := fun Y hY => hpre2 Y (by
          rw [l1, Option.bind_some, Sum.elim_inl, gr132_16, Option.bind_some, h162, r4c, Option.bind_some, show iI (nm D : Int) + (1 : Int32) = iI ((nm D : Int) + 1) by rw [n_1, iI_add], hst, Option.bind_some]
          exact hY)
        show ∃ q I' J', _ ∧ _ ∧ rzM T q I' J' (if kd T z.1 = 3 then _ else _)
        by_cases es : kd T z.1 = 3
        · rw [if_pos es]
          obtain ⟨I6, c1, c2, c3⟩ := mo_closesT (J := hup J 139 (nm D) (lI (nmd T t))) (b := b) (f := f) R5.1.1.1 R5.1.1.2 ht es
          refine ⟨iI 1, I6, _, hpre3 _ ?_, fr5.trans (mF.fr c2), rfl, R5.fr c2 c3⟩
          rw [c1, Option.bind_some]
          exact w11 _
        · rw [if_neg es]
          refine ⟨iI 0, _, _, hpre3 _ ?_, fr5.fld (k := 4) (q := iI (z.1 : Int)) (by omega), rfl, hup_same _ _ _ _⟩
          rw [mo_closesF R5.1.1.1 R5.1.2 R5.1.1.2 ht es, Option.bind_some]
          exact w01 _
end
