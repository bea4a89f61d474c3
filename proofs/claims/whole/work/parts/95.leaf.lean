/-! ===== layer 2: seatings: what the model keeps of those met ===== -/
section
variable {T : Tb} {I I' I'' I0 : Nat → Nat → Int32} {J : Nat → Nat → Int64} {b : Bool} {f k n i j x y p q r d ob : Nat} {m g w h a o lim mv : Int} {pl : Nat → Nat} {hom u : Nat → Int} {V0 V1 V2 : hV} {st : FdS} {s : FdS × FdS}
def sme (st : FdS) (i : Nat) : Bool := !anyb 8 (fun p => evr st i p && !decide (plc st i = (p : Int)))
def lsM (T : Tb) (s : FdS × FdS) (I : Nat → Nat → Int32) : Prop := ((s.1.1 = s.2.1 ∧ fdB s.1 ∧ fdB s.2) ∧ (s.1.1 = true → ∀ i, i < nK T → (0 ≤ plc s.1 i ∧ plc s.1 i < 8) ∧ evr s.1 i (plc s.1 i).toNat = true)) ∧ (I 132 54 = iI (if s.1.1 = true then s.1.2.1 else -1) ∧ I 132 55 = iI s.1.2.2.2.2.1 ∧ I 132 56 = iI (if s.2.1 = true then s.2.2.2.1 else -1)) ∧ (s.1.1 = true → I 132 57 = iI s.2.2.1 ∧ (∀ i, i < nK T → I 190 i = iI (plc s.1 i) ∧ I 193 i = iI (if sme s.1 i = true then plc s.1 i else -1) ∧ I 191 i = iI (plc s.2 i)) ∧ ∀ p, p < 8 → I 194 p = iI (bt 7 (fun i => decide (i < nK T) && evr s.1 i p) : Int))
def mdM (T : Tb) (st : FdS) (I : Nat → Nat → Int32) : Prop := fdB st ∧ I 132 59 = iI (if st.1 = true then st.2.2.2.1 else -1) ∧ (st.1 = true → ∀ i, i < nK T → I 192 i = iI (plc st i))
set_option maxHeartbeats 8000000 in
theorem lsM.wr {v : Int32} (h : lsM T s I) : lsM T s (hup I 189 i v) := by
  obtain ⟨h1, ⟨h2, h3, h4⟩, h5⟩ := h
  have e : ∀ o k, o ≠ 189 → hup I 189 i v o k = I o k := fun o k ho => hup_obj _ _ _ ho
  refine ⟨h1, ⟨(e _ _ (by omega)).trans h2, (e _ _ (by omega)).trans h3, (e _ _ (by omega)).trans h4⟩, fun q => ?_⟩
  obtain ⟨k1, k2, k3⟩ := h5 q
  exact ⟨(e _ _ (by omega)).trans k1, fun i hi => ⟨(e _ _ (by omega)).trans (k2 i hi).1, (e _ _ (by omega)).trans (k2 i hi).2.1, (e _ _ (by omega)).trans (k2 i hi).2.2⟩, fun p hp => (e _ _ (by omega)).trans (k3 p hp)⟩
set_option maxHeartbeats 8000000 in
theorem mdM.wr {v : Int32} (h : mdM T st I) : mdM T st (hup I 189 i v) := ⟨h.1, (hup_obj _ _ _ (by omega)).trans h.2.1, fun q j hj => (hup_obj _ _ _ (by omega)).trans (h.2.2 q j hj)⟩
set_option maxHeartbeats 8000000 in
theorem lfn0a (h1 : st.1 = false ∨ w < st.2.1) : lfn 0 0 w 0 0 pl st = (true, w, 0, 0, 1, fun i => (pl i : Int), fun i p => decide (p = pl i)) := by
  unfold lfn
  have hw : wrt 0 0 w 0 0 st = true := by
    rw [wrt0]
    rcases h1 with q | q
    · rw [q]; rfl
    · rw [decide_eq_true (show w ≤ st.2.1 by omega), Bool.or_true]
  rw [if_pos hw, if_pos (h1.elim Or.inl fun q => Or.inr (Or.inr q))]
set_option maxHeartbeats 8000000 in
theorem lfn0b (h1 : st.1 = true) (h2 : w = st.2.1) : lfn 0 0 w 0 0 pl st = (st.1, st.2.1, st.2.2.1, st.2.2.2.1, st.2.2.2.2.1 + 1, plc st, fun i p => evr st i p || decide (p = pl i)) := by
  unfold lfn
  have hw : wrt 0 0 w 0 0 st = true := by
    rw [wrt0, decide_eq_true (show w ≤ st.2.1 by omega), Bool.or_true]
  rw [if_pos hw, if_neg (fun q => by
    rcases q with q | q | q
    · rw [h1] at q; cases q
    · exact q rfl
    · omega)]
set_option maxHeartbeats 8000000 in
theorem lfn0c (h1 : st.1 = true) (h2 : st.2.1 < w) : lfn 0 0 w 0 0 pl st = st := wrt_no (by
  rw [wrt0, h1, decide_eq_false (show ¬ w ≤ st.2.1 by omega)]; rfl)
set_option maxHeartbeats 8000000 in
theorem mo_leaf2 (hK : nK T ≤ 7) (h8 : n ≤ 8) (hb : mbM T I0) (h60 : I0 132 60 = bI false) (ha : frM zD sD I0 I) (hs : lsM T s I) (hpl : ∀ j, j < nK T → I 189 j = iI (pl j : Int) ∧ pl j < n) (hw : 0 ≤ w ∧ w ≤ 100000) (hh : 0 ≤ h ∧ h ≤ 1000) : ∃ I', Mo_meets S0 (some 132) (iI w) (iI h) (I, J, Pst b f) = some (I', J, Pst b f) ∧ frM zD sD I0 I' ∧ (∀ j, I' 189 j = I 189 j) ∧ lsM T (lf2 pl w h s) I' := by
  have k60 : I 132 60 = bI false := (ha.2 60 (by omega)).trans h60
  have k43 : I 132 43 = iI (nK T : Int) := (ha.2 43 (by omega)).trans hb.1
  obtain ⟨⟨⟨s1, s2, s3⟩, s4⟩, ⟨t1, t2, t3⟩, t4⟩ := hs
  obtain ⟨I1, a1, a2, a3, a4, a5, a6⟩ := mo_mild (T := T) (J := J) (b := b) (f := f) (st := s.2) (pl := pl) s3 hw hh k43 hK (fun j hj => (hpl j hj).1) t3 (fun q => ⟨(t4 (s1.trans q)).1, fun i hi => ((t4 (s1.trans q)).2.1 i hi).2.2⟩)
  have k43a : I1 132 43 = iI (nK T : Int) := (a2.2 43 (by omega)).trans k43
  have hpla : ∀ j, j < nK T → I1 189 j = iI (pl j : Int) ∧ pl j < 8 := fun j hj => ⟨(a2.1 189 ⟨by omega, by omega⟩ j).trans (hpl j hj).1, by have := (hpl j hj).2; omega⟩
  have k54a : I1 132 54 = iI (if s.1.1 = true then s.1.2.1 else -1) := (a2.2 54 (by omega)).trans t1
  have k55a : I1 132 55 = iI s.1.2.2.2.2.1 := (a2.2 55 (by omega)).trans t2
  have hB2 := lfn_B (g := 1) (lim := 0) (w := w) (h := h) (mv := 0) (pl := pl) s3 hw hh (by omega)
  have hB1 := lfn_B (g := 0) (lim := 0) (w := w) (h := 0) (mv := 0) (pl := pl) s2 hw (by omega) (by omega)
  have fa : frM zD sD I0 I1 := ha.trans (a2.sub (fun k q => by omega) fun o _ q => by omega)
  by_cases hr : s.1.1 = false ∨ w < s.1.2.1
  · obtain ⟨I2, b1, b2, ⟨b3, b4⟩, b5, b6⟩ := mo_reset (T := T) (J := J) (b := b) (f := f) (st := s.1) (pl := pl) hw k43a hK (fun j hj => (hpla j hj).1) k54a s2 hr
    have fb := fa.trans (b2.sub (fun k q => by omega) fun o _ q => by omega)
    have fc : frM zD sD I0 (hup I2 132 55 (iI 1)) := fb.fld (show zD 55 by omega)
    obtain ⟨I3, c1, c2, c3, c4⟩ := mo_same (T := T) (J := J) (b := b) (f := f) (I := hup I2 132 55 (iI 1)) (pl := pl) (u := fun i => (pl i : Int)) (S := fun _ _ => false) (by rw [hup_ix _ _ _ (by omega), b2.2 43 (by omega)]; exact k43a) hK (fun j hj => ⟨by rw [hup_obj _ _ _ (by omega), b2.1 189 ⟨by omega, by omega⟩]; exact (hpla j hj).1, (hpla j hj).2⟩) (fun i hi => ⟨by rw [hup_obj _ _ _ (by omega)]; exact (b5 i hi).2, by have := (hpla i hi).2; omega⟩) (fun p hp => by
      rw [hup_obj _ _ _ (by omega), b6 p hp, show iI 0 = iI (bt 7 (fun _ => false) : Int) by rw [bt_z]; rfl]
      exact sI_ext fun i _ => by simp)
    have hl0 := lfn0a (pl := pl) hr
    refine ⟨I3, ?_, fc.trans (c2.sub (fun k q => q.elim) fun o _ q => by omega), fun j => ?_, ⟨⟨?_, hB1, hB2⟩, fun _ i hi => ?_⟩, ⟨?_, ?_, ?_⟩, fun _ => ⟨?_, fun i hi => ⟨?_, ?_, ?_⟩, fun p hp => ?_⟩⟩
    · rw [meets_eq, rc132, Option.bind_some, gi132, Option.bind_some, k60, if_pos (by rfl), gi132, Option.bind_some, a1, Option.bind_some, gi132, Option.bind_some, b1, Option.bind_some, gi132, Option.bind_some, b3, if_pos (by rw [iI_le (by omega)]; omega), gi132, Option.bind_some, b4, pi132, Option.bind_some, n_0, n_1, iI_add, show (0 : Int) + 1 = 1 from rfl, c1, Option.bind_some]
    · rw [c2.1 189 ⟨by omega, by omega⟩, hup_obj _ _ _ (by omega), b2.1 189 ⟨by omega, by omega⟩, a2.1 189 ⟨by omega, by omega⟩]
    · show (lfn 0 0 w 0 0 pl s.1).1 = (lfn 1 0 w h 0 pl s.2).1
      rw [a4, hl0]
    · show (0 ≤ plc (lfn 0 0 w 0 0 pl s.1) i ∧ plc (lfn 0 0 w 0 0 pl s.1) i < 8) ∧ evr (lfn 0 0 w 0 0 pl s.1) i (plc (lfn 0 0 w 0 0 pl s.1) i).toNat = true
      have := (hpla i hi).2
      rw [hl0]
      refine ⟨by show 0 ≤ (pl i : Int) ∧ (pl i : Int) < 8; omega, decide_eq_true ?_⟩
      show (pl i : Int).toNat = pl i
      omega
    · show I3 132 54 = iI (if (lfn 0 0 w 0 0 pl s.1).1 = true then (lfn 0 0 w 0 0 pl s.1).2.1 else -1)
      rw [hl0, if_pos rfl, c2.2 54 id, hup_ix _ _ _ (by omega), b3]
    · show I3 132 55 = iI (lfn 0 0 w 0 0 pl s.1).2.2.2.2.1
      rw [hl0, c2.2 55 id, hup_same]
    · show I3 132 56 = iI (if (lfn 1 0 w h 0 pl s.2).1 = true then (lfn 1 0 w h 0 pl s.2).2.2.1 else -1)
      rw [if_pos a4, c2.2 56 id, hup_ix _ _ _ (by omega), b2.2 56 (by omega), a3]
    · show I3 132 57 = iI (lfn 1 0 w h 0 pl s.2).2.1
      rw [c2.2 57 id, hup_ix _ _ _ (by omega), b2.2 57 (by omega), a5]
    · show I3 190 i = iI (plc (lfn 0 0 w 0 0 pl s.1) i)
      rw [hl0, c2.1 190 ⟨by omega, by omega⟩, hup_obj _ _ _ (by omega), (b5 i hi).1]
    · show I3 193 i = iI (if sme (lfn 0 0 w 0 0 pl s.1) i = true then plc (lfn 0 0 w 0 0 pl s.1) i else -1)
      have hsm : sme (lfn 0 0 w 0 0 pl s.1) i = true := by
        unfold sme
        rw [hl0]
        have : anyb 8 (fun p => decide (p = pl i) && !decide ((pl i : Int) = (p : Int))) = false := by
          cases e : anyb 8 (fun p => decide (p = pl i) && !decide ((pl i : Int) = (p : Int)))
          · rfl
          · obtain ⟨p, _, h2⟩ := anyb_iff.mp e
            simp only [Bool.and_eq_true, decide_eq_true_eq, Bool.not_eq_true', decide_eq_false_iff_not] at h2
            omega
        show (!anyb 8 (fun p => decide (p = pl i) && !decide ((pl i : Int) = (p : Int)))) = true
        rw [this]; rfl
      rw [if_pos hsm, c3 i hi, hl0, if_pos rfl]
    · show I3 191 i = iI (plc (lfn 1 0 w h 0 pl s.2) i)
      rw [c2.1 191 ⟨by omega, by omega⟩, hup_obj _ _ _ (by omega), b2.1 191 ⟨by omega, by omega⟩, a6 i hi]
    · show I3 194 p = iI (bt 7 (fun i => decide (i < nK T) && evr (lfn 0 0 w 0 0 pl s.1) i p) : Int)
      rw [c4 p hp, hl0]
      exact sI_ext fun i _ => by rw [Bool.false_or]
  · have es : s.1.1 = true := by
      cases q : s.1.1
      · exact absurd (Or.inl q) hr
      · rfl
    have hb0 := s2 es
    have hnw : ¬ w < s.1.2.1 := fun q => hr (Or.inr q)
    rw [if_pos es] at k54a
    have b1 := mo_noReset (J := J) (b := b) (f := f) (st := s.1) hw k54a hb0.1 hnw
    obtain ⟨t5, t6, t7⟩ := t4 es
    have es2 : s.2.1 = true := s1.symm.trans es
    by_cases he : w = s.1.2.1
    · have hl0 := lfn0b (pl := pl) es he
      have fc : frM zD sD I0 (hup I1 132 55 (iI (s.1.2.2.2.2.1 + 1))) := fa.fld (show zD 55 by omega)
      obtain ⟨I3, c1, c2, c3, c4⟩ := mo_same (T := T) (J := J) (b := b) (f := f) (I := hup I1 132 55 (iI (s.1.2.2.2.2.1 + 1))) (pl := pl) (u := fun i => if sme s.1 i = true then plc s.1 i else -1) (S := evr s.1) (by rw [hup_ix _ _ _ (by omega)]; exact k43a) hK (fun j hj => ⟨by rw [hup_obj _ _ _ (by omega)]; exact (hpla j hj).1, (hpla j hj).2⟩) (fun i hi => ⟨by rw [hup_obj _ _ _ (by omega), a2.1 193 ⟨by omega, by omega⟩]; exact (t6 i hi).2.1, by have := (s4 es i hi).1; split <;> omega⟩) (fun p hp => by rw [hup_obj _ _ _ (by omega), a2.1 194 ⟨by omega, by omega⟩]; exact t7 p hp)
      refine ⟨I3, ?_, fc.trans (c2.sub (fun k q => q.elim) fun o _ q => by omega), fun j => ?_, ⟨⟨?_, hB1, hB2⟩, fun _ i hi => ?_⟩, ⟨?_, ?_, ?_⟩, fun _ => ⟨?_, fun i hi => ⟨?_, ?_, ?_⟩, fun p hp => ?_⟩⟩
      · rw [meets_eq, rc132, Option.bind_some, gi132, Option.bind_some, k60, if_pos (by rfl), gi132, Option.bind_some, a1, Option.bind_some, gi132, Option.bind_some, b1, Option.bind_some, gi132, Option.bind_some, k54a, if_pos (by rw [iI_le (by omega)]; omega), gi132, Option.bind_some, k55a, pi132, Option.bind_some, n_0, n_1, iI_add, c1, Option.bind_some]
      · rw [c2.1 189 ⟨by omega, by omega⟩, hup_obj _ _ _ (by omega), a2.1 189 ⟨by omega, by omega⟩]
      · show (lfn 0 0 w 0 0 pl s.1).1 = (lfn 1 0 w h 0 pl s.2).1
        rw [a4, hl0]
        exact es
      · show (0 ≤ plc (lfn 0 0 w 0 0 pl s.1) i ∧ plc (lfn 0 0 w 0 0 pl s.1) i < 8) ∧ evr (lfn 0 0 w 0 0 pl s.1) i (plc (lfn 0 0 w 0 0 pl s.1) i).toNat = true
        rw [hl0]
        have := s4 es i hi
        refine ⟨this.1, ?_⟩
        show (evr s.1 i (plc s.1 i).toNat || _) = true
        rw [this.2, Bool.true_or]
      · show I3 132 54 = iI (if (lfn 0 0 w 0 0 pl s.1).1 = true then (lfn 0 0 w 0 0 pl s.1).2.1 else -1)
        rw [hl0, if_pos es, c2.2 54 id, hup_ix _ _ _ (by omega), k54a]
      · show I3 132 55 = iI (lfn 0 0 w 0 0 pl s.1).2.2.2.2.1
        rw [hl0, c2.2 55 id, hup_same]
      · show I3 132 56 = iI (if (lfn 1 0 w h 0 pl s.2).1 = true then (lfn 1 0 w h 0 pl s.2).2.2.1 else -1)
        rw [if_pos a4, c2.2 56 id, hup_ix _ _ _ (by omega), a3]
      · show I3 132 57 = iI (lfn 1 0 w h 0 pl s.2).2.1
        rw [c2.2 57 id, hup_ix _ _ _ (by omega), a5]
      · show I3 190 i = iI (plc (lfn 0 0 w 0 0 pl s.1) i)
        rw [hl0, c2.1 190 ⟨by omega, by omega⟩, hup_obj _ _ _ (by omega), a2.1 190 ⟨by omega, by omega⟩]
        exact (t6 i hi).1
      · show I3 193 i = iI (if sme (lfn 0 0 w 0 0 pl s.1) i = true then plc (lfn 0 0 w 0 0 pl s.1) i else -1)
        have hsm : sme (lfn 0 0 w 0 0 pl s.1) i = (sme s.1 i && decide (plc s.1 i = (pl i : Int))) := by
          unfold sme
          rw [hl0]
          show (!anyb 8 (fun p => (evr s.1 i p || decide (p = pl i)) && !decide (plc s.1 i = (p : Int)))) = (!anyb 8 (fun p => evr s.1 i p && !decide (plc s.1 i = (p : Int))) && decide (plc s.1 i = (pl i : Int)))
          rw [Bool.eq_iff_iff, Bool.and_eq_true, Bool.not_eq_true', Bool.not_eq_true', decide_eq_true_eq]
          refine ⟨fun q => ⟨?_, ?_⟩, fun q => ?_⟩
          · cases e : anyb 8 (fun p => evr s.1 i p && !decide (plc s.1 i = (p : Int)))
            · rfl
            · obtain ⟨p, h1, h2⟩ := anyb_iff.mp e
              simp only [Bool.and_eq_true] at h2
              rw [anyb_iff.mpr ⟨p, h1, by rw [h2.1, h2.2]; rfl⟩] at q
              cases q
          · apply Classical.byContradiction
            intro e
            rw [anyb_iff.mpr ⟨pl i, (hpla i hi).2, by rw [decide_eq_true rfl, decide_eq_false e, Bool.or_true]; rfl⟩] at q
            cases q
          · cases e : anyb 8 (fun p => (evr s.1 i p || decide (p = pl i)) && !decide (plc s.1 i = (p : Int)))
            · rfl
            · obtain ⟨p, h1, h2⟩ := anyb_iff.mp e
              simp only [Bool.and_eq_true, Bool.or_eq_true, decide_eq_true_eq] at h2
              rcases h2.1 with z | z
              · have := anyb_iff (p := fun p => evr s.1 i p && !decide (plc s.1 i = (p : Int))).mpr ⟨p, h1, by rw [z, h2.2]; rfl⟩
                rw [q.1] at this
                cases this
              · have h3 := h2.2
                rw [z, decide_eq_true q.2] at h3
                cases h3
        rw [hsm, c3 i hi, hl0]
        show iI (if (if sme s.1 i = true then plc s.1 i else -1) = (pl i : Int) then (if sme s.1 i = true then plc s.1 i else -1) else -1) = iI (if (sme s.1 i && decide (plc s.1 i = (pl i : Int))) = true then plc s.1 i else -1)
        cases sme s.1 i
        · simp
        · rw [if_pos rfl, Bool.true_and]
          by_cases e : plc s.1 i = (pl i : Int)
          · rw [if_pos e, decide_eq_true e, if_pos rfl]
          · rw [if_neg e, decide_eq_false e, if_neg (by decide)]
      · show I3 191 i = iI (plc (lfn 1 0 w h 0 pl s.2) i)
        rw [c2.1 191 ⟨by omega, by omega⟩, hup_obj _ _ _ (by omega), a6 i hi]
      · show I3 194 p = iI (bt 7 (fun i => decide (i < nK T) && evr (lfn 0 0 w 0 0 pl s.1) i p) : Int)
        rw [c4 p hp, hl0]
    · have hl0 := lfn0c (pl := pl) es (show s.1.2.1 < w by omega)
      have hle : lf2 pl w h s = (s.1, lfn 1 0 w h 0 pl s.2) := by unfold lf2; rw [hl0]
      rw [hle]
      refine ⟨I1, ?_, fa, fun j => ?_, ⟨⟨es.trans a4.symm, s2, hB2⟩, s4⟩, ⟨?_, k55a, ?_⟩, fun _ => ⟨a5, fun i hi => ⟨?_, ?_, a6 i hi⟩, fun p hp => ?_⟩⟩
      · rw [meets_eq, rc132, Option.bind_some, gi132, Option.bind_some, k60, if_pos (by rfl), gi132, Option.bind_some, a1, Option.bind_some, gi132, Option.bind_some, b1, Option.bind_some, gi132, Option.bind_some, k54a, if_neg (by rw [iI_le (by omega)]; omega)]
      · rw [a2.1 189 ⟨by omega, by omega⟩]
      · rw [if_pos es]; exact k54a
      · show I1 132 56 = iI (if (lfn 1 0 w h 0 pl s.2).1 = true then (lfn 1 0 w h 0 pl s.2).2.2.1 else -1)
        rw [if_pos a4]; exact a3
      · rw [a2.1 190 ⟨by omega, by omega⟩]; exact (t6 i hi).1
      · rw [a2.1 193 ⟨by omega, by omega⟩]; exact (t6 i hi).2.1
      · rw [a2.1 194 ⟨by omega, by omega⟩]; exact t7 p hp
set_option maxHeartbeats 8000000 in
theorem mo_leafE (V : TV T) (E0 : EM T I0) (hK : nK T ≤ 7) (hm : isM T m) (hn : (n : Int) = T 3 m.toNat) (h8 : n ≤ 8) (hb : mbM T I0) (h60 : I0 132 60 = bI true) (h53 : I0 132 53 = iI m) (h58 : I0 132 58 = iI lim) (hl : rg lim) (ha : frM zD sD I0 I) (hs : mdM T st I) (hpl : ∀ j, j < nK T → I 189 j = iI (pl j : Int) ∧ pl j < n) (hw : 0 ≤ w ∧ w ≤ 100000) : ∃ I', Mo_meets S0 (some 132) (iI w) (iI h) (I, J, Pst b f) = some (I', J, Pst b f) ∧ frM zD sD I0 I' ∧ (∀ j, I' 189 j = I 189 j) ∧ mdM T (lfE T (homF T m 2) lim pl w h st) I' := by
  obtain ⟨⟨vA, vB⟩, ⟨vC, vD⟩, vE, vF⟩ := id V
  have hB := vB.1
  have k60 : I 132 60 = bI true := (ha.2 60 (by omega)).trans h60
  have k43 : I 132 43 = iI (nK T : Int) := (ha.2 43 (by omega)).trans hb.1
  have k53 : I 132 53 = iI m := (ha.2 53 (by omega)).trans h53
  have k58 : I 132 58 = iI lim := (ha.2 58 (by omega)).trans h58
  obtain ⟨s1, s2, s3⟩ := hs
  have hmr := mvS_rg (hom := homF T m 2) (pl := pl) (nK T)
  have hcount : jloop (Mo_meets_L12 S0 (some 132) (I, J, Pst b f)) jN (iI 0, iI 0) = some (iI (mvS (homF T m 2) pl (nK T))) := by
    refine jgather (body := Mo_meets_L12 S0 (some 132) (I, J, Pst b f)) (fun k => iI (mvS (homF T m 2) pl k)) (nK T) (fun k hk => ?_) ?_ (by omega)
    · have hlt := mg_lt vC hk
      have vg := (vE _ hlt).2.2
      have hm10 := mg_is hk
      have u1 : I 185 k = iI (mg T k : Int) := (ha.1 185 ⟨by omega, by omega⟩ k).trans (mbM_i hb hk)
      have u14 : I 168 (mg T k) = iI (T 14 (mg T k)) := (ha.1 168 ⟨by omega, by omega⟩ _).trans (E0.2.2 _ hlt).2.2.1
      have u15 : I 169 (mg T k) = iI (T 15 (mg T k)) := (ha.1 169 ⟨by omega, by omega⟩ _).trans (E0.2.2 _ hlt).2.2.2
      have u2 := (hpl k hk).1
      have hp8 := (hpl k hk).2
      have hst : mvS (homF T m 2) pl (k + 1) = mvS (homF T m 2) pl k + mvA (homF T m 2) k (pl k) := rfl
      by_cases e : T 14 (mg T k) = m
      · have hho : homF T m 2 k = T 15 (mg T k) := if_pos ⟨rfl, e⟩
        have h15 : 0 ≤ T 15 (mg T k) ∧ T 15 (mg T k) < 10 := by
          rcases vg with q | q
          · omega
          · have := q.2.1
            rw [e] at this
            omega
        by_cases e2 : T 15 (mg T k) = (pl k : Int)
        · rw [hst, show mvA (homF T m 2) k (pl k) = 0 from if_pos (Or.inr (hho.trans e2))]
          simp (maxSteps := 4000000) (disch := omega) only [Mo_meets_L12, rc132, gi132, gl132, pi132, pl132, pz132, pr132, gr132_0, gr132_6, gr132_7, gr132_8, gr132_9, gr132_10, gr132_11, gr132_12, gr132_13, gr132_14, gr132_15, gr132_16, gr132_17, gr132_18, gr132_19, gr132_20, gr132_21, gr132_22, gr132_23, gr132_24, gr132_25, gr132_27, gr132_28, gr132_29, gr132_30, gr132_32, gr132_33, gr132_34, gr132_35, gr132_36, gr132_37, gr132_38, gr132_39, gr132_40, gr132_41, gr132_42, gr132_44, gr132_45, gr132_46, gr132_47, gr132_48, gr132_49, gr132_50, gr132_51, gr132_61, gr132_62, gr132_63, ar134_0, ar134_1, ar137_0, ar137_1, ar140_0, ar140_1, ar143_0, ar143_1, ar146_0, ar146_1, ar149_0, ar149_1, ar152_0, ar152_1, ar155_0, ar155_1, ar158_0, ar158_1, ar164_0, ar164_1, ar164_2, ar164_3, ar164_4, ar164_5, ar164_6, ar164_7, ar164_8, ld133, st133, an133, an134, ld135, st135, an135, ld136, st136, an136, an137, ld138, st138, an138, ld139, st139, an139, an140, ld141, st141, an141, ld142, st142, an142, an143, ld144, st144, an144, ld145, st145, an145, an146, ld147, st147, an147, ld148, st148, an148, an149, ld150, st150, an150, ld151, st151, an151, an152, ld153, st153, an153, ld154, st154, an154, an155, ld156, st156, an156, ld157, st157, an157, an158, ld159, st159, an159, ld160, st160, an160, ld161, st161, an161, ld162, st162, an162, ld163, st163, an163, an164, ld165, st165, an165, ld166, st166, an166, ld167, st167, an167, ld168, st168, an168, ld169, st169, an169, ld170, st170, an170, ld171, st171, an171, ld172, st172, an172, ld173, st173, an173, ld174, st174, an174, ld175, st175, an175, ld176, st176, an176, ld177, st177, an177, ld178, st178, an178, ld179, st179, an179, ld180, st180, an180, ld181, st181, an181, ld182, st182, an182, ld183, st183, an183, ld184, st184, an184, ld185, st185, an185, ld186, st186, an186, ld187, st187, an187, ld188, st188, an188, ld189, st189, an189, ld190, st190, an190, ld191, st191, an191, ld192, st192, an192, ld193, st193, an193, ld194, st194, an194, ld195, st195, an195, ld196, st196, an196, ld197, st197, an197, Option.bind_some, if_true, if_false, n_0, n_1, iI_add, iI_le, iI_eq, k43, show ¬ (nK T : Int) ≤ (k : Int) by omega, Int.toNat_natCast, u1, u14, k53, eq_true e, u15, u2, eq_true e2]
        · rw [hst, show mvA (homF T m 2) k (pl k) = 1 from if_neg (fun q => by rw [hho] at q; omega)]
          simp (maxSteps := 4000000) (disch := omega) only [Mo_meets_L12, rc132, gi132, gl132, pi132, pl132, pz132, pr132, gr132_0, gr132_6, gr132_7, gr132_8, gr132_9, gr132_10, gr132_11, gr132_12, gr132_13, gr132_14, gr132_15, gr132_16, gr132_17, gr132_18, gr132_19, gr132_20, gr132_21, gr132_22, gr132_23, gr132_24, gr132_25, gr132_27, gr132_28, gr132_29, gr132_30, gr132_32, gr132_33, gr132_34, gr132_35, gr132_36, gr132_37, gr132_38, gr132_39, gr132_40, gr132_41, gr132_42, gr132_44, gr132_45, gr132_46, gr132_47, gr132_48, gr132_49, gr132_50, gr132_51, gr132_61, gr132_62, gr132_63, ar134_0, ar134_1, ar137_0, ar137_1, ar140_0, ar140_1, ar143_0, ar143_1, ar146_0, ar146_1, ar149_0, ar149_1, ar152_0, ar152_1, ar155_0, ar155_1, ar158_0, ar158_1, ar164_0, ar164_1, ar164_2, ar164_3, ar164_4, ar164_5, ar164_6, ar164_7, ar164_8, ld133, st133, an133, an134, ld135, st135, an135, ld136, st136, an136, an137, ld138, st138, an138, ld139, st139, an139, an140, ld141, st141, an141, ld142, st142, an142, an143, ld144, st144, an144, ld145, st145, an145, an146, ld147, st147, an147, ld148, st148, an148, an149, ld150, st150, an150, ld151, st151, an151, an152, ld153, st153, an153, ld154, st154, an154, an155, ld156, st156, an156, ld157, st157, an157, an158, ld159, st159, an159, ld160, st160, an160, ld161, st161, an161, ld162, st162, an162, ld163, st163, an163, an164, ld165, st165, an165, ld166, st166, an166, ld167, st167, an167, ld168, st168, an168, ld169, st169, an169, ld170, st170, an170, ld171, st171, an171, ld172, st172, an172, ld173, st173, an173, ld174, st174, an174, ld175, st175, an175, ld176, st176, an176, ld177, st177, an177, ld178, st178, an178, ld179, st179, an179, ld180, st180, an180, ld181, st181, an181, ld182, st182, an182, ld183, st183, an183, ld184, st184, an184, ld185, st185, an185, ld186, st186, an186, ld187, st187, an187, ld188, st188, an188, ld189, st189, an189, ld190, st190, an190, ld191, st191, an191, ld192, st192, an192, ld193, st193, an193, ld194, st194, an194, ld195, st195, an195, ld196, st196, an196, ld197, st197, an197, Option.bind_some, if_true, if_false, n_0, n_1, iI_add, iI_le, iI_eq, k43, show ¬ (nK T : Int) ≤ (k : Int) by omega, Int.toNat_natCast, u1, u14, k53, eq_true e, u15, u2, eq_false e2]
      · have hho : homF T m 2 k = -1 := if_neg fun q => e q.2
        rw [hst, show mvA (homF T m 2) k (pl k) = 0 from if_pos (Or.inl hho)]
        simp (maxSteps := 4000000) (disch := omega) only [Mo_meets_L12, rc132, gi132, gl132, pi132, pl132, pz132, pr132, gr132_0, gr132_6, gr132_7, gr132_8, gr132_9, gr132_10, gr132_11, gr132_12, gr132_13, gr132_14, gr132_15, gr132_16, gr132_17, gr132_18, gr132_19, gr132_20, gr132_21, gr132_22, gr132_23, gr132_24, gr132_25, gr132_27, gr132_28, gr132_29, gr132_30, gr132_32, gr132_33, gr132_34, gr132_35, gr132_36, gr132_37, gr132_38, gr132_39, gr132_40, gr132_41, gr132_42, gr132_44, gr132_45, gr132_46, gr132_47, gr132_48, gr132_49, gr132_50, gr132_51, gr132_61, gr132_62, gr132_63, ar134_0, ar134_1, ar137_0, ar137_1, ar140_0, ar140_1, ar143_0, ar143_1, ar146_0, ar146_1, ar149_0, ar149_1, ar152_0, ar152_1, ar155_0, ar155_1, ar158_0, ar158_1, ar164_0, ar164_1, ar164_2, ar164_3, ar164_4, ar164_5, ar164_6, ar164_7, ar164_8, ld133, st133, an133, an134, ld135, st135, an135, ld136, st136, an136, an137, ld138, st138, an138, ld139, st139, an139, an140, ld141, st141, an141, ld142, st142, an142, an143, ld144, st144, an144, ld145, st145, an145, an146, ld147, st147, an147, ld148, st148, an148, an149, ld150, st150, an150, ld151, st151, an151, an152, ld153, st153, an153, ld154, st154, an154, an155, ld156, st156, an156, ld157, st157, an157, an158, ld159, st159, an159, ld160, st160, an160, ld161, st161, an161, ld162, st162, an162, ld163, st163, an163, an164, ld165, st165, an165, ld166, st166, an166, ld167, st167, an167, ld168, st168, an168, ld169, st169, an169, ld170, st170, an170, ld171, st171, an171, ld172, st172, an172, ld173, st173, an173, ld174, st174, an174, ld175, st175, an175, ld176, st176, an176, ld177, st177, an177, ld178, st178, an178, ld179, st179, an179, ld180, st180, an180, ld181, st181, an181, ld182, st182, an182, ld183, st183, an183, ld184, st184, an184, ld185, st185, an185, ld186, st186, an186, ld187, st187, an187, ld188, st188, an188, ld189, st189, an189, ld190, st190, an190, ld191, st191, an191, ld192, st192, an192, ld193, st193, an193, ld194, st194, an194, ld195, st195, an195, ld196, st196, an196, ld197, st197, an197, Option.bind_some, if_true, if_false, n_0, n_1, iI_add, iI_le, iI_eq, k43, show ¬ (nK T : Int) ≤ (k : Int) by omega, Int.toNat_natCast, u1, u14, k53, eq_false e]
    · simp (maxSteps := 4000000) (disch := omega) only [Mo_meets_L12, rc132, gi132, gl132, pi132, pl132, pz132, pr132, gr132_0, gr132_6, gr132_7, gr132_8, gr132_9, gr132_10, gr132_11, gr132_12, gr132_13, gr132_14, gr132_15, gr132_16, gr132_17, gr132_18, gr132_19, gr132_20, gr132_21, gr132_22, gr132_23, gr132_24, gr132_25, gr132_27, gr132_28, gr132_29, gr132_30, gr132_32, gr132_33, gr132_34, gr132_35, gr132_36, gr132_37, gr132_38, gr132_39, gr132_40, gr132_41, gr132_42, gr132_44, gr132_45, gr132_46, gr132_47, gr132_48, gr132_49, gr132_50, gr132_51, gr132_61, gr132_62, gr132_63, ar134_0, ar134_1, ar137_0, ar137_1, ar140_0, ar140_1, ar143_0, ar143_1, ar146_0, ar146_1, ar149_0, ar149_1, ar152_0, ar152_1, ar155_0, ar155_1, ar158_0, ar158_1, ar164_0, ar164_1, ar164_2, ar164_3, ar164_4, ar164_5, ar164_6, ar164_7, ar164_8, ld133, st133, an133, an134, ld135, st135, an135, ld136, st136, an136, an137, ld138, st138, an138, ld139, st139, an139, an140, ld141, st141, an141, ld142, st142, an142, an143, ld144, st144, an144, ld145, st145, an145, an146, ld147, st147, an147, ld148, st148, an148, an149, ld150, st150, an150, ld151, st151, an151, an152, ld153, st153, an153, ld154, st154, an154, an155, ld156, st156, an156, ld157, st157, an157, an158, ld159, st159, an159, ld160, st160, an160, ld161, st161, an161, ld162, st162, an162, ld163, st163, an163, an164, ld165, st165, an165, ld166, st166, an166, ld167, st167, an167, ld168, st168, an168, ld169, st169, an169, ld170, st170, an170, ld171, st171, an171, ld172, st172, an172, ld173, st173, an173, ld174, st174, an174, ld175, st175, an175, ld176, st176, an176, ld177, st177, an177, ld178, st178, an178, ld179, st179, an179, ld180, st180, an180, ld181, st181, an181, ld182, st182, an182, ld183, st183, an183, ld184, st184, an184, ld185, st185, an185, ld186, st186, an186, ld187, st187, an187, ld188, st188, an188, ld189, st189, an189, ld190, st190, an190, ld191, st191, an191, ld192, st192, an192, ld193, st193, an193, ld194, st194, an194, ld195, st195, an195, ld196, st196, an196, ld197, st197, an197, Option.bind_some, if_true, if_false, iI_le, k43, show (nK T : Int) ≤ (nK T : Int) by omega]
  have hwr : wrt 2 lim w 0 (mvS (homF T m 2) pl (nK T)) st = (decide (w ≤ lim) && (!st.1 || decide (mvS (homF T m 2) pl (nK T) < st.2.2.2.1))) := by unfold wrt; rw [if_pos rfl]
  have hB' := lfn_B (g := 2) (lim := lim) (w := w) (h := 0) (mv := mvS (homF T m 2) pl (nK T)) (pl := pl) s1 hw (by omega) (by omega)
  have hpre : ∀ Y, bkC (iI w) (iI (mvS (homF T m 2) pl (nK T))) (I, J, Pst b f) = Y → Mo_meets S0 (some 132) (iI w) (iI h) (I, J, Pst b f) = Y := fun Y hY => by
    have hcount' : jloop (Mo_meets_L12 S0 (some 132) (I, J, Pst b f)) jN (0, 0) = some (iI (mvS (homF T m 2) pl (nK T))) := hcount
    rw [meets_eq, rc132, Option.bind_some, gi132, Option.bind_some, k60, if_neg (by decide), hcount', Option.bind_some, hY]
  have hgo : ∃ I', bkC (iI w) (iI (mvS (homF T m 2) pl (nK T))) (I, J, Pst b f) = some (I', J, Pst b f) ∧ frM zD sD I0 I' ∧ (∀ j, I' 189 j = I 189 j) ∧ mdM T (lfn 2 lim w 0 (mvS (homF T m 2) pl (nK T)) pl st) I' := by
    clear hcount hpre
    generalize mvS (homF T m 2) pl (nK T) = mv at *
    cases e : wrt 2 lim w 0 mv st
    · rw [wrt_no e]
      rw [hwr] at e
      refine ⟨I, ?_, ha, fun _ => rfl, s1, s2, s3⟩
      unfold bkC
      rw [gi132, Option.bind_some, k58]
      by_cases e1 : w ≤ lim
      · rw [decide_eq_true e1, Bool.true_and] at e
        have es : st.1 = true := by
          cases q : st.1
          · rw [q] at e; cases e
          · rfl
        have hb0 := s1 es
        rw [es, Bool.not_true, Bool.false_or, decide_eq_false_iff_not] at e
        rw [if_pos es] at s2
        rw [if_neg (by rw [iI_lt (by omega)]; omega), gi132, Option.bind_some, s2, if_neg (by rw [n_1, iI_neg, iI_eq (by omega)]; omega), Option.bind_some, if_neg (by rw [iI_lt (by omega)]; omega), Option.bind_some, Sum.elim_inr]
      · rw [if_pos (by rw [iI_lt (by omega)]; omega)]
    · have hl0 : lfn 2 lim w 0 mv pl st = (true, w, 0, mv, 1, fun i => (pl i : Int), fun i p => decide (p = pl i)) := by
        unfold lfn
        rw [if_pos e, if_pos (Or.inr (Or.inl (by decide)))]
      rw [hwr] at e
      simp only [Bool.and_eq_true, decide_eq_true_eq] at e
      obtain ⟨e1, e2⟩ := e
      have k43' : hup I 132 59 (iI mv) 132 43 = iI (nK T : Int) := by rw [hup_ix _ _ _ (by omega)]; exact k43
      obtain ⟨I1, a1, a2, a3⟩ := mo_keeps (T := T) (J := J) (b := b) (f := f) (I := hup I 132 59 (iI mv)) (ob := 192) (pl := pl) (by omega) (fun a I x ha => st192 ha) k43' hK (fun j hj => by rw [hup_obj _ _ _ (by omega)]; exact (hpl j hj).1)
      have hin : ((if I 132 59 = (-1 : Int32) then (some (.inl ())) else ((some (I 132 59)).bind fun x58 => if iI mv < x58 then (some (.inl ())) else (some (.inr (I, J, Pst b f))))) : Option (Unit ⊕ hV)) = some (.inl ()) := by
        cases es : st.1
        · rw [es] at s2
          rw [if_pos (by rw [s2]; rfl)]
        · have hb0 := s1 es
          rw [if_pos es] at s2
          rw [es, Bool.not_true, Bool.false_or, decide_eq_true_eq] at e2
          rw [s2, if_neg (by rw [n_1, iI_neg, iI_eq (by omega)]; omega), Option.bind_some, if_pos (by rw [iI_lt (by omega)]; exact e2)]
      refine ⟨I1, ?_, (ha.fld (show zD 59 by omega)).trans (a2.sub (fun k q => q.elim) fun o _ q => by omega), fun j => ?_, hB', ?_, fun _ => ?_⟩
      · unfold bkC
        rw [gi132, Option.bind_some, k58, if_neg (by rw [iI_lt (by omega)]; omega), gi132, Option.bind_some, hin, Option.bind_some, Sum.elim_inl, pi132, Option.bind_some, gr132_49, Option.bind_some, a1, Option.bind_some]
      · rw [a2.1 189 ⟨by omega, by omega⟩, hup_obj _ _ _ (by omega)]
      · rw [hl0, if_pos rfl, a2.2 59 id, hup_same]
      · rw [hl0]; exact a3
  obtain ⟨I1, a1, a2, a3, a4⟩ := hgo
  exact ⟨I1, hpre _ a1, a2, a3, a4⟩
end
