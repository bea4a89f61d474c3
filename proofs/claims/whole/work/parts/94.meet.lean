/-! ===== layer 2: seatings: the model meets one ===== -/
section
variable {T : Tb} {I I' I'' I0 : Nat → Nat → Int32} {J : Nat → Nat → Int64} {b : Bool} {f k n i j x y p q r d ob : Nat} {m g w h a o lim mv : Int} {pl : Nat → Nat} {hom u : Nat → Int} {V0 V1 V2 : hV} {st : FdS} {S : Nat → Nat → Bool}
abbrev plc (st : FdS) : Nat → Int := st.2.2.2.2.2.1
abbrev evr (st : FdS) : Nat → Nat → Bool := st.2.2.2.2.2.2
set_option maxHeartbeats 8000000 in
theorem mo_keeps (hob : 190 ≤ ob ∧ ob ≤ 192) (hst : ∀ (a : Int) (I : Nat → Nat → Int32) (x : Int32), 0 ≤ a ∧ a < 10 → sI S0 (I, J, Pst b f) (some ob) (iI a) x = some (hup I ob a.toNat x, J, Pst b f)) (h43 : I 132 43 = iI (nK T : Int)) (hK : nK T ≤ 7) (hpl : ∀ j, j < nK T → I 189 j = iI (pl j : Int)) : ∃ I', Mo_keepsIn S0 (some 132) (some ob) (I, J, Pst b f) = some (I', J, Pst b f) ∧ frM zN (fun o => o ≠ ob) I I' ∧ ∀ j, j < nK T → I' ob j = iI (pl j : Int) := by
  have key := jheap (J := J) (P := Pst b f) (I := I) (body := Mo_keepsIn_L2 S0 (some 132) (some ob)) (fun k I' => frM zN (fun o => o ≠ ob) I I' ∧ ∀ j, j < k → I' ob j = iI (pl j : Int)) 0 (nK T) ⟨frM.refl _ _ _, fun j hj => by omega⟩ (by omega) (by omega) (fun k I1 _ hk q1 => ?_) (fun I1 q1 => ?_)
  · obtain ⟨I2, e1, e2, e3⟩ := key
    have e1 : jloop (Mo_keepsIn_L2 S0 (some 132) (some ob)) jN (iI 0, (I, J, Pst b f)) = some (I2, J, Pst b f) := e1
    refine ⟨I2, ?_, e2, e3⟩
    unfold Mo_keepsIn
    rw [rc132, Option.bind_some, n_0, e1, Option.bind_some]
  · have h43' : I1 132 43 = iI (nK T : Int) := (q1.1.2 43 id).trans h43
    have h1 : I1 189 k = iI (pl k : Int) := (q1.1.1 189 ⟨by omega, by omega⟩ k).trans (hpl k hk)
    refine ⟨hup I1 ob k (iI (pl k : Int)), ?_, q1.1.wr (by omega) (by omega), fun j hj => ?_⟩
    · simp (maxSteps := 4000000) (disch := omega) only [Mo_keepsIn_L2, rc132, gi132, gl132, pi132, pl132, pz132, pr132, gr132_0, gr132_6, gr132_7, gr132_8, gr132_9, gr132_10, gr132_11, gr132_12, gr132_13, gr132_14, gr132_15, gr132_16, gr132_17, gr132_18, gr132_19, gr132_20, gr132_21, gr132_22, gr132_23, gr132_24, gr132_25, gr132_27, gr132_28, gr132_29, gr132_30, gr132_32, gr132_33, gr132_34, gr132_35, gr132_36, gr132_37, gr132_38, gr132_39, gr132_40, gr132_41, gr132_42, gr132_44, gr132_45, gr132_46, gr132_47, gr132_48, gr132_49, gr132_50, gr132_51, gr132_61, gr132_62, gr132_63, ar134_0, ar134_1, ar137_0, ar137_1, ar140_0, ar140_1, ar143_0, ar143_1, ar146_0, ar146_1, ar149_0, ar149_1, ar152_0, ar152_1, ar155_0, ar155_1, ar158_0, ar158_1, ar164_0, ar164_1, ar164_2, ar164_3, ar164_4, ar164_5, ar164_6, ar164_7, ar164_8, ld133, st133, an133, an134, ld135, st135, an135, ld136, st136, an136, an137, ld138, st138, an138, ld139, st139, an139, an140, ld141, st141, an141, ld142, st142, an142, an143, ld144, st144, an144, ld145, st145, an145, an146, ld147, st147, an147, ld148, st148, an148, an149, ld150, st150, an150, ld151, st151, an151, an152, ld153, st153, an153, ld154, st154, an154, an155, ld156, st156, an156, ld157, st157, an157, an158, ld159, st159, an159, ld160, st160, an160, ld161, st161, an161, ld162, st162, an162, ld163, st163, an163, an164, ld165, st165, an165, ld166, st166, an166, ld167, st167, an167, ld168, st168, an168, ld169, st169, an169, ld170, st170, an170, ld171, st171, an171, ld172, st172, an172, ld173, st173, an173, ld174, st174, an174, ld175, st175, an175, ld176, st176, an176, ld177, st177, an177, ld178, st178, an178, ld179, st179, an179, ld180, st180, an180, ld181, st181, an181, ld182, st182, an182, ld183, st183, an183, ld184, st184, an184, ld185, st185, an185, ld186, st186, an186, ld187, st187, an187, ld188, st188, an188, ld189, st189, an189, ld190, st190, an190, ld191, st191, an191, ld192, st192, an192, ld193, st193, an193, ld194, st194, an194, ld195, st195, an195, ld196, st196, an196, ld197, st197, an197, Option.bind_some, if_true, if_false, n_1, iI_add, iI_le, h43', show ¬ (nK T : Int) ≤ (k : Int) by omega, Int.toNat_natCast, h1, hst]
    · by_cases e : j = k
      · subst e; rw [hup_same]
      · rw [hup_ix _ _ _ e]; exact q1.2 j (by omega)
  · have h43' : I1 132 43 = iI (nK T : Int) := (q1.1.2 43 id).trans h43
    simp (maxSteps := 4000000) (disch := omega) only [Mo_keepsIn_L2, rc132, gi132, gl132, pi132, pl132, pz132, pr132, gr132_0, gr132_6, gr132_7, gr132_8, gr132_9, gr132_10, gr132_11, gr132_12, gr132_13, gr132_14, gr132_15, gr132_16, gr132_17, gr132_18, gr132_19, gr132_20, gr132_21, gr132_22, gr132_23, gr132_24, gr132_25, gr132_27, gr132_28, gr132_29, gr132_30, gr132_32, gr132_33, gr132_34, gr132_35, gr132_36, gr132_37, gr132_38, gr132_39, gr132_40, gr132_41, gr132_42, gr132_44, gr132_45, gr132_46, gr132_47, gr132_48, gr132_49, gr132_50, gr132_51, gr132_61, gr132_62, gr132_63, ar134_0, ar134_1, ar137_0, ar137_1, ar140_0, ar140_1, ar143_0, ar143_1, ar146_0, ar146_1, ar149_0, ar149_1, ar152_0, ar152_1, ar155_0, ar155_1, ar158_0, ar158_1, ar164_0, ar164_1, ar164_2, ar164_3, ar164_4, ar164_5, ar164_6, ar164_7, ar164_8, ld133, st133, an133, an134, ld135, st135, an135, ld136, st136, an136, an137, ld138, st138, an138, ld139, st139, an139, an140, ld141, st141, an141, ld142, st142, an142, an143, ld144, st144, an144, ld145, st145, an145, an146, ld147, st147, an147, ld148, st148, an148, an149, ld150, st150, an150, ld151, st151, an151, an152, ld153, st153, an153, ld154, st154, an154, an155, ld156, st156, an156, ld157, st157, an157, an158, ld159, st159, an159, ld160, st160, an160, ld161, st161, an161, ld162, st162, an162, ld163, st163, an163, an164, ld165, st165, an165, ld166, st166, an166, ld167, st167, an167, ld168, st168, an168, ld169, st169, an169, ld170, st170, an170, ld171, st171, an171, ld172, st172, an172, ld173, st173, an173, ld174, st174, an174, ld175, st175, an175, ld176, st176, an176, ld177, st177, an177, ld178, st178, an178, ld179, st179, an179, ld180, st180, an180, ld181, st181, an181, ld182, st182, an182, ld183, st183, an183, ld184, st184, an184, ld185, st185, an185, ld186, st186, an186, ld187, st187, an187, ld188, st188, an188, ld189, st189, an189, ld190, st190, an190, ld191, st191, an191, ld192, st192, an192, ld193, st193, an193, ld194, st194, an194, ld195, st195, an195, ld196, st196, an196, ld197, st197, an197, Option.bind_some, if_true, if_false, iI_le, h43', show (nK T : Int) ≤ (nK T : Int) by omega]
def bkA (v1 v2 x2 : Int32) (V : hV) : Option hV := ((((if x2 = (-1) then (some (.inl ())) else ((gI S0 12 56 V (some 132)).bind fun x37 => if v2 < x37 then (some (.inl ())) else ((gI S0 12 56 V (some 132)).bind fun x38 => if v2 = x38 then ((gI S0 12 57 V (some 132)).bind fun x39 => if x39 ≤ v1 then (some (.inr V)) else (some (.inl ()))) else (some (.inr V))))) : Option (Unit ⊕ hV)).bind fun k120 => Sum.elim (fun e120 => (pI S0 12 56 V (some 132) v2).bind fun V32 => (pI S0 12 57 V32 (some 132) v1).bind fun V33 => (gR S0 12 48 V33 (some 132)).bind fun x34 => (Mo_keepsIn S0 (some 132) x34 V33).bind fun V35 => some V35) (fun v => some v) k120) : Option hV)
def bkB (v1 x3 : Int32) (j120 : hV) : Option hV := ((((if x3 = (-1) then (some (.inl ())) else ((gI S0 12 54 j120 (some 132)).bind fun x31 => if x31 ≤ v1 then (some (.inr j120)) else (some (.inl ())))) : Option (Unit ⊕ hV)).bind fun k170 => Sum.elim (fun e170 => (pI S0 12 54 j120 (some 132) v1).bind fun V19 => (pI S0 12 55 V19 (some 132) 0).bind fun V20 => (gR S0 12 47 V20 (some 132)).bind fun x21 => (Mo_keepsIn S0 (some 132) x21 V20).bind fun V22 => (jloop (Mo_meets_L201 S0 (some 132)) jN (0, V22)).bind fun q201 => (jloop (Mo_meets_L229 S0 (some 132)) jN (0, q201)).bind fun q229 => some q229) (fun v => some v) k170) : Option hV)
def bkC (v1 q12 : Int32) (V : hV) : Option hV := (gI S0 12 58 V (some 132)).bind fun x52 => if x52 < v1 then (some V) else ((gI S0 12 59 V (some 132)).bind fun x53 => ((if x53 = (-1) then (some (.inl ())) else ((gI S0 12 59 V (some 132)).bind fun x58 => if q12 < x58 then (some (.inl ())) else (some (.inr V)))) : Option (Unit ⊕ hV)).bind fun k89 => Sum.elim (fun e89 => (pI S0 12 59 V (some 132) q12).bind fun V54 => (gR S0 12 49 V54 (some 132)).bind fun x55 => (Mo_keepsIn S0 (some 132) x55 V54).bind fun V56 => some V56) (fun v => some v) k89)
set_option maxHeartbeats 8000000 in
theorem meets_eq (v1 v2 : Int32) (V : hV) : Mo_meets S0 (some 132) v1 v2 V = (rc S0 12 (some 132)).bind fun _ => (gI S0 12 60 V (some 132)).bind fun x1 => if x1 = 0 then ((gI S0 12 56 V (some 132)).bind fun x2 => (bkA v1 v2 x2 V).bind fun j120 => (gI S0 12 54 j120 (some 132)).bind fun x3 => (bkB v1 x3 j120).bind fun j170 => (gI S0 12 54 j170 (some 132)).bind fun x4 => if v1 ≤ x4 then ((gI S0 12 55 j170 (some 132)).bind fun x5 => (pI S0 12 55 j170 (some 132) (x5 + 1)).bind fun V6 => (jloop (Mo_meets_L269 S0 (some 132)) jN (0, V6)).bind fun q269 => some q269) else (some j170)) else ((jloop (Mo_meets_L12 S0 (some 132) V) jN (0, 0)).bind fun q12 => bkC v1 q12 V) := rfl
set_option maxHeartbeats 8000000 in
theorem lfn1 (h1 : wrt 1 0 w h 0 st = true) : lfn 1 0 w h 0 pl st = (true, w, h, 0, 1, fun i => (pl i : Int), fun i p => decide (p = pl i)) := by
  unfold lfn
  rw [if_pos h1, if_pos (Or.inr (Or.inl (by decide)))]
set_option maxHeartbeats 8000000 in
theorem wrt1 : wrt 1 0 w h 0 st = (!st.1 || (decide (h < st.2.2.1) || (decide (h = st.2.2.1) && decide (w < st.2.1)))) := by
  unfold wrt
  rw [if_neg (by decide), if_neg (by decide)]
set_option maxHeartbeats 8000000 in
theorem wrt0 : wrt 0 0 w h 0 st = (!st.1 || decide (w ≤ st.2.1)) := by
  unfold wrt
  rw [if_neg (by decide), if_pos rfl]
set_option maxHeartbeats 8000000 in
theorem mo_mild (hB : fdB st) (hw : 0 ≤ w ∧ w ≤ 100000) (hh : 0 ≤ h ∧ h ≤ 1000) (h43 : I 132 43 = iI (nK T : Int)) (hK : nK T ≤ 7) (hpl : ∀ j, j < nK T → I 189 j = iI (pl j : Int)) (h56 : I 132 56 = iI (if st.1 = true then st.2.2.1 else -1)) (h57 : st.1 = true → I 132 57 = iI st.2.1 ∧ ∀ i, i < nK T → I 191 i = iI (plc st i)) : ∃ I', bkA (iI w) (iI h) (I 132 56) (I, J, Pst b f) = some (I', J, Pst b f) ∧ frM (fun k => k = 56 ∨ k = 57) (fun o => o ≠ 191) I I' ∧ I' 132 56 = iI (lfn 1 0 w h 0 pl st).2.2.1 ∧ (lfn 1 0 w h 0 pl st).1 = true ∧ I' 132 57 = iI (lfn 1 0 w h 0 pl st).2.1 ∧ ∀ i, i < nK T → I' 191 i = iI (plc (lfn 1 0 w h 0 pl st) i) := by
  cases e : wrt 1 0 w h 0 st
  · rw [wrt_no e]
    rw [wrt1] at e
    have es : st.1 = true := by
      cases q : st.1
      · rw [q] at e; simp at e
      · rfl
    have hb := hB es
    rw [es] at e
    simp only [Bool.not_true, Bool.false_or, Bool.or_eq_false_iff, Bool.and_eq_false_iff, decide_eq_false_iff_not] at e
    rw [if_pos es] at h56
    refine ⟨I, ?_, frM.refl _ _ _, h56, es, (h57 es).1, (h57 es).2⟩
    by_cases e1 : h = st.2.2.1
    · have e2 : st.2.1 ≤ w := by omega
      unfold bkA
      rw [gi132, gi132, h56, if_neg (by rw [n_1, iI_neg, iI_eq (by omega)]; omega), Option.bind_some, if_neg (by rw [iI_lt (by omega)]; omega), Option.bind_some, if_pos (by rw [iI_eq (by omega)]; exact e1), Option.bind_some, (h57 es).1, if_pos (by rw [iI_le (by omega)]; omega), Option.bind_some, Sum.elim_inr]
    · unfold bkA
      rw [gi132, gi132, h56, if_neg (by rw [n_1, iI_neg, iI_eq (by omega)]; omega), Option.bind_some, if_neg (by rw [iI_lt (by omega)]; omega), Option.bind_some, if_neg (by rw [iI_eq (by omega)]; exact e1), Option.bind_some, Sum.elim_inr]
  · rw [lfn1 e]
    rw [wrt1] at e
    have h43' : hup (hup I 132 56 (iI h)) 132 57 (iI w) 132 43 = iI (nK T : Int) := by rw [hup_ix _ _ _ (by omega), hup_ix _ _ _ (by omega)]; exact h43
    obtain ⟨I1, a1, a2, a3⟩ := mo_keeps (T := T) (J := J) (b := b) (f := f) (I := hup (hup I 132 56 (iI h)) 132 57 (iI w)) (ob := 191) (pl := pl) (by omega) (fun a I x ha => st191 ha) h43' hK (fun j hj => by rw [hup_obj _ _ _ (by omega), hup_obj _ _ _ (by omega)]; exact hpl j hj)
    have hin : ((if I 132 56 = (-1 : Int32) then (some (.inl ())) else ((gI S0 12 56 (I, J, Pst b f) (some 132)).bind fun x37 => if iI h < x37 then (some (.inl ())) else ((gI S0 12 56 (I, J, Pst b f) (some 132)).bind fun x38 => if iI h = x38 then ((gI S0 12 57 (I, J, Pst b f) (some 132)).bind fun x39 => if x39 ≤ iI w then (some (.inr (I, J, Pst b f))) else (some (.inl ()))) else (some (.inr (I, J, Pst b f)))))) : Option (Unit ⊕ hV)) = some (.inl ()) := by
      rw [gi132, gi132]
      cases es : st.1
      · rw [es] at h56
        rw [if_pos (by rw [h56]; rfl)]
      · have hb := hB es
        rw [es] at e
        rw [if_pos es] at h56
        obtain ⟨k57, _⟩ := h57 es
        simp only [Bool.not_true, Bool.false_or, Bool.or_eq_true, Bool.and_eq_true, decide_eq_true_eq] at e
        rw [if_neg (by rw [h56, n_1, iI_neg, iI_eq (by omega)]; omega), Option.bind_some, h56]
        by_cases e1 : h < st.2.2.1
        · rw [if_pos (by rw [iI_lt (by omega)]; exact e1)]
        · rw [if_neg (by rw [iI_lt (by omega)]; exact e1), Option.bind_some, if_pos (by rw [iI_eq (by omega)]; omega), Option.bind_some, k57, if_neg (by rw [iI_le (by omega)]; omega)]
    refine ⟨I1, ?_, (((frM.refl _ _ I).fld (show (56 : Nat) = 56 ∨ (56 : Nat) = 57 by omega)).fld (show (57 : Nat) = 56 ∨ (57 : Nat) = 57 by omega)).trans (a2.sub (fun k q => q.elim) fun o _ q => q), ?_, rfl, ?_, a3⟩
    · unfold bkA
      rw [hin, Option.bind_some, Sum.elim_inl, pi132, Option.bind_some, pi132, Option.bind_some, gr132_48, Option.bind_some, a1, Option.bind_some]
    · rw [a2.2 56 id, hup_ix _ _ _ (by omega), hup_same]
    · rw [a2.2 57 id, hup_same]
set_option maxHeartbeats 8000000 in
theorem mo_reset (hw : 0 ≤ w ∧ w ≤ 100000) (h43 : I 132 43 = iI (nK T : Int)) (hK : nK T ≤ 7) (hpl : ∀ j, j < nK T → I 189 j = iI (pl j : Int)) (h54 : I 132 54 = iI (if st.1 = true then st.2.1 else -1)) (hB : fdB st) (hr : st.1 = false ∨ w < st.2.1) : ∃ I', bkB (iI w) (I 132 54) (I, J, Pst b f) = some (I', J, Pst b f) ∧ frM (fun k => k = 54 ∨ k = 55) (fun o => o ≠ 190 ∧ o ≠ 193 ∧ o ≠ 194) I I' ∧ (I' 132 54 = iI w ∧ I' 132 55 = iI 0) ∧ (∀ i, i < nK T → I' 190 i = iI (pl i : Int) ∧ I' 193 i = iI (pl i : Int)) ∧ ∀ p, p < 8 → I' 194 p = iI 0 := by
  have hin : ((if I 132 54 = (-1 : Int32) then (some (.inl ())) else ((gI S0 12 54 (I, J, Pst b f) (some 132)).bind fun x31 => if x31 ≤ iI w then (some (.inr (I, J, Pst b f))) else (some (.inl ())))) : Option (Unit ⊕ hV)) = some (.inl ()) := by
    cases es : st.1
    · rw [es] at h54
      rw [if_pos (by rw [h54]; rfl)]
    · have hb := hB es
      rw [if_pos es] at h54
      have hlt : w < st.2.1 := hr.resolve_left (by rw [es]; decide)
      rw [gi132, h54, if_neg (by rw [n_1, iI_neg, iI_eq (by omega)]; omega), Option.bind_some, if_neg (by rw [iI_le (by omega)]; omega)]
  have h43' : hup (hup I 132 54 (iI w)) 132 55 (iI 0) 132 43 = iI (nK T : Int) := by rw [hup_ix _ _ _ (by omega), hup_ix _ _ _ (by omega)]; exact h43
  obtain ⟨I1, a1, a2, a3⟩ := mo_keeps (T := T) (J := J) (b := b) (f := f) (I := hup (hup I 132 54 (iI w)) 132 55 (iI 0)) (ob := 190) (pl := pl) (by omega) (fun a I x ha => st190 ha) h43' hK (fun j hj => by rw [hup_obj _ _ _ (by omega), hup_obj _ _ _ (by omega)]; exact hpl j hj)
  have h43a : I1 132 43 = iI (nK T : Int) := (a2.2 43 id).trans h43'
  have h189a : ∀ j, j < nK T → I1 189 j = iI (pl j : Int) := fun j hj => by rw [a2.1 189 ⟨by omega, by omega⟩, hup_obj _ _ _ (by omega), hup_obj _ _ _ (by omega)]; exact hpl j hj
  have k1 := jheap (J := J) (P := Pst b f) (I := I1) (body := Mo_meets_L201 S0 (some 132)) (fun k I' => frM zN (fun o => o ≠ 193) I1 I' ∧ ∀ j, j < k → I' 193 j = iI (pl j : Int)) 0 (nK T) ⟨frM.refl _ _ _, fun j hj => by omega⟩ (by omega) (by omega) (fun k I2 _ hk q1 => ?_) (fun I2 q1 => ?_)
  · obtain ⟨I2, b1, b2, b3⟩ := k1
    have k2 := jheap (J := J) (P := Pst b f) (I := I2) (body := Mo_meets_L229 S0 (some 132)) (fun k I' => frM zN (fun o => o ≠ 194) I2 I' ∧ ∀ p, p < k → I' 194 p = iI 0) 0 8 ⟨frM.refl _ _ _, fun j hj => by omega⟩ (by omega) (by omega) (fun k I3 _ hk q1 => ?_) (fun I3 q1 => ?_)
    · obtain ⟨I3, c1, c2, c3⟩ := k2
      have b1 : jloop (Mo_meets_L201 S0 (some 132)) jN (iI 0, (I1, J, Pst b f)) = some (I2, J, Pst b f) := b1
      have c1 : jloop (Mo_meets_L229 S0 (some 132)) jN (iI 0, (I2, J, Pst b f)) = some (I3, J, Pst b f) := c1
      refine ⟨I3, ?_, ((((frM.refl _ _ I).fld (show (54 : Nat) = 54 ∨ (54 : Nat) = 55 by omega)).fld (show (55 : Nat) = 54 ∨ (55 : Nat) = 55 by omega)).trans (a2.sub (fun k q => q.elim) fun o _ q => by omega)).trans ((b2.sub (fun k q => q.elim) fun o _ q => by omega).trans (c2.sub (fun k q => q.elim) fun o _ q => by omega)), ⟨?_, ?_⟩, fun i hi => ⟨?_, ?_⟩, c3⟩
      · unfold bkB
        rw [hin, Option.bind_some, Sum.elim_inl, pi132, Option.bind_some, n_0, pi132, Option.bind_some, gr132_47, Option.bind_some, a1, Option.bind_some, b1, Option.bind_some, c1, Option.bind_some]
      · rw [c2.2 54 id, b2.2 54 id, a2.2 54 id, hup_ix _ _ _ (by omega), hup_same]
      · rw [c2.2 55 id, b2.2 55 id, a2.2 55 id, hup_same]
      · rw [c2.1 190 ⟨by omega, by omega⟩, b2.1 190 ⟨by omega, by omega⟩]; exact a3 i hi
      · rw [c2.1 193 ⟨by omega, by omega⟩]; exact b3 i hi
    · refine ⟨hup I3 194 k (iI 0), ?_, q1.1.wr (by omega) (by omega), fun p hp => ?_⟩
      · simp (maxSteps := 4000000) (disch := omega) only [Mo_meets_L229, rc132, gi132, gl132, pi132, pl132, pz132, pr132, gr132_0, gr132_6, gr132_7, gr132_8, gr132_9, gr132_10, gr132_11, gr132_12, gr132_13, gr132_14, gr132_15, gr132_16, gr132_17, gr132_18, gr132_19, gr132_20, gr132_21, gr132_22, gr132_23, gr132_24, gr132_25, gr132_27, gr132_28, gr132_29, gr132_30, gr132_32, gr132_33, gr132_34, gr132_35, gr132_36, gr132_37, gr132_38, gr132_39, gr132_40, gr132_41, gr132_42, gr132_44, gr132_45, gr132_46, gr132_47, gr132_48, gr132_49, gr132_50, gr132_51, gr132_61, gr132_62, gr132_63, ar134_0, ar134_1, ar137_0, ar137_1, ar140_0, ar140_1, ar143_0, ar143_1, ar146_0, ar146_1, ar149_0, ar149_1, ar152_0, ar152_1, ar155_0, ar155_1, ar158_0, ar158_1, ar164_0, ar164_1, ar164_2, ar164_3, ar164_4, ar164_5, ar164_6, ar164_7, ar164_8, ld133, st133, an133, an134, ld135, st135, an135, ld136, st136, an136, an137, ld138, st138, an138, ld139, st139, an139, an140, ld141, st141, an141, ld142, st142, an142, an143, ld144, st144, an144, ld145, st145, an145, an146, ld147, st147, an147, ld148, st148, an148, an149, ld150, st150, an150, ld151, st151, an151, an152, ld153, st153, an153, ld154, st154, an154, an155, ld156, st156, an156, ld157, st157, an157, an158, ld159, st159, an159, ld160, st160, an160, ld161, st161, an161, ld162, st162, an162, ld163, st163, an163, an164, ld165, st165, an165, ld166, st166, an166, ld167, st167, an167, ld168, st168, an168, ld169, st169, an169, ld170, st170, an170, ld171, st171, an171, ld172, st172, an172, ld173, st173, an173, ld174, st174, an174, ld175, st175, an175, ld176, st176, an176, ld177, st177, an177, ld178, st178, an178, ld179, st179, an179, ld180, st180, an180, ld181, st181, an181, ld182, st182, an182, ld183, st183, an183, ld184, st184, an184, ld185, st185, an185, ld186, st186, an186, ld187, st187, an187, ld188, st188, an188, ld189, st189, an189, ld190, st190, an190, ld191, st191, an191, ld192, st192, an192, ld193, st193, an193, ld194, st194, an194, ld195, st195, an195, ld196, st196, an196, ld197, st197, an197, Option.bind_some, if_true, if_false, n_0, n_1, n_8, iI_add, iI_le, show ¬ (8 : Int) ≤ (k : Int) by omega, Int.toNat_natCast]
      · by_cases e : p = k
        · subst e; rw [hup_same]
        · rw [hup_ix _ _ _ e]; exact q1.2 p (by omega)
    · simp (maxSteps := 4000000) (disch := omega) only [Mo_meets_L229, Option.bind_some, if_true, if_false, n_8, iI_le, show (8 : Int) ≤ ((8 : Nat) : Int) by omega]
  · have h43' : I2 132 43 = iI (nK T : Int) := (q1.1.2 43 id).trans h43a
    have h1 : I2 189 k = iI (pl k : Int) := (q1.1.1 189 ⟨by omega, by omega⟩ k).trans (h189a k hk)
    refine ⟨hup I2 193 k (iI (pl k : Int)), ?_, q1.1.wr (by omega) (by omega), fun j hj => ?_⟩
    · simp (maxSteps := 4000000) (disch := omega) only [Mo_meets_L201, rc132, gi132, gl132, pi132, pl132, pz132, pr132, gr132_0, gr132_6, gr132_7, gr132_8, gr132_9, gr132_10, gr132_11, gr132_12, gr132_13, gr132_14, gr132_15, gr132_16, gr132_17, gr132_18, gr132_19, gr132_20, gr132_21, gr132_22, gr132_23, gr132_24, gr132_25, gr132_27, gr132_28, gr132_29, gr132_30, gr132_32, gr132_33, gr132_34, gr132_35, gr132_36, gr132_37, gr132_38, gr132_39, gr132_40, gr132_41, gr132_42, gr132_44, gr132_45, gr132_46, gr132_47, gr132_48, gr132_49, gr132_50, gr132_51, gr132_61, gr132_62, gr132_63, ar134_0, ar134_1, ar137_0, ar137_1, ar140_0, ar140_1, ar143_0, ar143_1, ar146_0, ar146_1, ar149_0, ar149_1, ar152_0, ar152_1, ar155_0, ar155_1, ar158_0, ar158_1, ar164_0, ar164_1, ar164_2, ar164_3, ar164_4, ar164_5, ar164_6, ar164_7, ar164_8, ld133, st133, an133, an134, ld135, st135, an135, ld136, st136, an136, an137, ld138, st138, an138, ld139, st139, an139, an140, ld141, st141, an141, ld142, st142, an142, an143, ld144, st144, an144, ld145, st145, an145, an146, ld147, st147, an147, ld148, st148, an148, an149, ld150, st150, an150, ld151, st151, an151, an152, ld153, st153, an153, ld154, st154, an154, an155, ld156, st156, an156, ld157, st157, an157, an158, ld159, st159, an159, ld160, st160, an160, ld161, st161, an161, ld162, st162, an162, ld163, st163, an163, an164, ld165, st165, an165, ld166, st166, an166, ld167, st167, an167, ld168, st168, an168, ld169, st169, an169, ld170, st170, an170, ld171, st171, an171, ld172, st172, an172, ld173, st173, an173, ld174, st174, an174, ld175, st175, an175, ld176, st176, an176, ld177, st177, an177, ld178, st178, an178, ld179, st179, an179, ld180, st180, an180, ld181, st181, an181, ld182, st182, an182, ld183, st183, an183, ld184, st184, an184, ld185, st185, an185, ld186, st186, an186, ld187, st187, an187, ld188, st188, an188, ld189, st189, an189, ld190, st190, an190, ld191, st191, an191, ld192, st192, an192, ld193, st193, an193, ld194, st194, an194, ld195, st195, an195, ld196, st196, an196, ld197, st197, an197, Option.bind_some, if_true, if_false, n_1, iI_add, iI_le, h43', show ¬ (nK T : Int) ≤ (k : Int) by omega, Int.toNat_natCast, h1]
    · by_cases e : j = k
      · subst e; rw [hup_same]
      · rw [hup_ix _ _ _ e]; exact q1.2 j (by omega)
  · have h43' : I2 132 43 = iI (nK T : Int) := (q1.1.2 43 id).trans h43a
    simp (maxSteps := 4000000) (disch := omega) only [Mo_meets_L201, rc132, gi132, gl132, pi132, pl132, pz132, pr132, gr132_0, gr132_6, gr132_7, gr132_8, gr132_9, gr132_10, gr132_11, gr132_12, gr132_13, gr132_14, gr132_15, gr132_16, gr132_17, gr132_18, gr132_19, gr132_20, gr132_21, gr132_22, gr132_23, gr132_24, gr132_25, gr132_27, gr132_28, gr132_29, gr132_30, gr132_32, gr132_33, gr132_34, gr132_35, gr132_36, gr132_37, gr132_38, gr132_39, gr132_40, gr132_41, gr132_42, gr132_44, gr132_45, gr132_46, gr132_47, gr132_48, gr132_49, gr132_50, gr132_51, gr132_61, gr132_62, gr132_63, ar134_0, ar134_1, ar137_0, ar137_1, ar140_0, ar140_1, ar143_0, ar143_1, ar146_0, ar146_1, ar149_0, ar149_1, ar152_0, ar152_1, ar155_0, ar155_1, ar158_0, ar158_1, ar164_0, ar164_1, ar164_2, ar164_3, ar164_4, ar164_5, ar164_6, ar164_7, ar164_8, ld133, st133, an133, an134, ld135, st135, an135, ld136, st136, an136, an137, ld138, st138, an138, ld139, st139, an139, an140, ld141, st141, an141, ld142, st142, an142, an143, ld144, st144, an144, ld145, st145, an145, an146, ld147, st147, an147, ld148, st148, an148, an149, ld150, st150, an150, ld151, st151, an151, an152, ld153, st153, an153, ld154, st154, an154, an155, ld156, st156, an156, ld157, st157, an157, an158, ld159, st159, an159, ld160, st160, an160, ld161, st161, an161, ld162, st162, an162, ld163, st163, an163, an164, ld165, st165, an165, ld166, st166, an166, ld167, st167, an167, ld168, st168, an168, ld169, st169, an169, ld170, st170, an170, ld171, st171, an171, ld172, st172, an172, ld173, st173, an173, ld174, st174, an174, ld175, st175, an175, ld176, st176, an176, ld177, st177, an177, ld178, st178, an178, ld179, st179, an179, ld180, st180, an180, ld181, st181, an181, ld182, st182, an182, ld183, st183, an183, ld184, st184, an184, ld185, st185, an185, ld186, st186, an186, ld187, st187, an187, ld188, st188, an188, ld189, st189, an189, ld190, st190, an190, ld191, st191, an191, ld192, st192, an192, ld193, st193, an193, ld194, st194, an194, ld195, st195, an195, ld196, st196, an196, ld197, st197, an197, Option.bind_some, if_true, if_false, iI_le, h43', show (nK T : Int) ≤ (nK T : Int) by omega]
set_option maxHeartbeats 8000000 in
theorem mo_noReset (hw : 0 ≤ w ∧ w ≤ 100000) (h54 : I 132 54 = iI st.2.1) (hb : 0 ≤ st.2.1 ∧ st.2.1 ≤ 100000) (hr : ¬ w < st.2.1) : bkB (iI w) (I 132 54) (I, J, Pst b f) = some (I, J, Pst b f) := by
  unfold bkB
  rw [gi132, h54, if_neg (by rw [n_1, iI_neg, iI_eq (by omega)]; omega), Option.bind_some, if_pos (by rw [iI_le (by omega)]; omega), Option.bind_some, Sum.elim_inr]
set_option maxHeartbeats 8000000 in
theorem mo_same (h43 : I 132 43 = iI (nK T : Int)) (hK : nK T ≤ 7) (hpl : ∀ j, j < nK T → I 189 j = iI (pl j : Int) ∧ pl j < 8) (hu : ∀ i, i < nK T → I 193 i = iI (u i) ∧ -1 ≤ u i ∧ u i < 8) (hS : ∀ p, p < 8 → I 194 p = iI (bt 7 (fun i => decide (i < nK T) && S i p) : Int)) : ∃ I', jloop (Mo_meets_L269 S0 (some 132)) jN (iI 0, (I, J, Pst b f)) = some (I', J, Pst b f) ∧ frM zN (fun o => o ≠ 193 ∧ o ≠ 194) I I' ∧ (∀ i, i < nK T → I' 193 i = iI (if u i = (pl i : Int) then u i else -1)) ∧ ∀ p, p < 8 → I' 194 p = iI (bt 7 (fun i => decide (i < nK T) && (S i p || decide (p = pl i))) : Int) := by
  have key := jheap (J := J) (P := Pst b f) (I := I) (body := Mo_meets_L269 S0 (some 132)) (fun k I' => frM zN (fun o => o ≠ 193 ∧ o ≠ 194) I I' ∧ (∀ i, i < nK T → I' 193 i = iI (if i < k then (if u i = (pl i : Int) then u i else -1) else u i)) ∧ ∀ p, p < 8 → I' 194 p = iI (bt 7 (fun i => decide (i < nK T) && (S i p || (decide (i < k) && decide (p = pl i)))) : Int)) 0 (nK T) ⟨frM.refl _ _ _, fun i hi => ?_, fun p hp => ?_⟩ (by omega) (by omega) (fun k I1 _ hk q1 => ?_) (fun I1 q1 => ?_)
  · obtain ⟨I2, e1, e2, e3, e4⟩ := key
    refine ⟨I2, e1, e2, fun i hi => ?_, fun p hp => ?_⟩
    · rw [e3 i hi, if_pos hi]
    · rw [e4 p hp]
      refine sI_ext fun i _ => ?_
      by_cases e : i < nK T
      · rw [decide_eq_true e, Bool.true_and, Bool.true_and, Bool.true_and]
      · rw [decide_eq_false e, Bool.false_and, Bool.false_and]
  · rw [if_neg (by omega)]; exact (hu i hi).1
  · rw [hS p hp]
    exact sI_ext fun i _ => by simp
  · have h43' : I1 132 43 = iI (nK T : Int) := (q1.1.2 43 id).trans h43
    have h1 : I1 189 k = iI (pl k : Int) := (q1.1.1 189 ⟨by omega, by omega⟩ k).trans (hpl k hk).1
    have hp8 := (hpl k hk).2
    have hu1 : I1 193 k = iI (u k) := by rw [q1.2.1 k hk, if_neg (by omega)]
    have hur := (hu k hk).2
    have h194 := q1.2.2 (pl k) hp8
    have hor : iI (bt 7 (fun i => decide (i < nK T) && (S i (pl k) || (decide (i < k) && decide (pl k = pl i)))) : Int) ||| iI (bt 7 (fun y => decide (y = k)) : Int) = iI (bt 7 (fun i => decide (i < nK T) && (S i (pl k) || (decide (i < k + 1) && decide (pl k = pl i)))) : Int) := by
      rw [sI_or]
      refine sI_ext fun i _ => ?_
      by_cases e : i = k
      · rw [e, decide_eq_true hk, decide_eq_true (show k < k + 1 by omega), decide_eq_true (show pl k = pl k from rfl)]; simp
      · rw [decide_eq_false e, Bool.or_false]; simp only [lt_sk i k e]
    have hother : ∀ p, p < 8 → p ≠ pl k → bt 7 (fun i => decide (i < nK T) && (S i p || (decide (i < k) && decide (p = pl i)))) = bt 7 (fun i => decide (i < nK T) && (S i p || (decide (i < k + 1) && decide (p = pl i)))) := fun p _ hne => bt_ext fun i _ => by
      by_cases e : i = k
      · rw [e, decide_eq_false (show ¬ k < k by omega), decide_eq_false hne, Bool.and_false, Bool.and_false]
      · simp only [lt_sk i k e]
    by_cases eu : u k = (pl k : Int)
    · refine ⟨hup I1 194 (pl k) (iI (bt 7 (fun i => decide (i < nK T) && (S i (pl k) || (decide (i < k + 1) && decide (pl k = pl i)))) : Int)), ?_, q1.1.wr (by omega) (by omega), fun i hi => ?_, fun p hp => ?_⟩
      · simp (maxSteps := 4000000) (disch := omega) only [Mo_meets_L269, rc132, gi132, gl132, pi132, pl132, pz132, pr132, gr132_0, gr132_6, gr132_7, gr132_8, gr132_9, gr132_10, gr132_11, gr132_12, gr132_13, gr132_14, gr132_15, gr132_16, gr132_17, gr132_18, gr132_19, gr132_20, gr132_21, gr132_22, gr132_23, gr132_24, gr132_25, gr132_27, gr132_28, gr132_29, gr132_30, gr132_32, gr132_33, gr132_34, gr132_35, gr132_36, gr132_37, gr132_38, gr132_39, gr132_40, gr132_41, gr132_42, gr132_44, gr132_45, gr132_46, gr132_47, gr132_48, gr132_49, gr132_50, gr132_51, gr132_61, gr132_62, gr132_63, ar134_0, ar134_1, ar137_0, ar137_1, ar140_0, ar140_1, ar143_0, ar143_1, ar146_0, ar146_1, ar149_0, ar149_1, ar152_0, ar152_1, ar155_0, ar155_1, ar158_0, ar158_1, ar164_0, ar164_1, ar164_2, ar164_3, ar164_4, ar164_5, ar164_6, ar164_7, ar164_8, ld133, st133, an133, an134, ld135, st135, an135, ld136, st136, an136, an137, ld138, st138, an138, ld139, st139, an139, an140, ld141, st141, an141, ld142, st142, an142, an143, ld144, st144, an144, ld145, st145, an145, an146, ld147, st147, an147, ld148, st148, an148, an149, ld150, st150, an150, ld151, st151, an151, an152, ld153, st153, an153, ld154, st154, an154, an155, ld156, st156, an156, ld157, st157, an157, an158, ld159, st159, an159, ld160, st160, an160, ld161, st161, an161, ld162, st162, an162, ld163, st163, an163, an164, ld165, st165, an165, ld166, st166, an166, ld167, st167, an167, ld168, st168, an168, ld169, st169, an169, ld170, st170, an170, ld171, st171, an171, ld172, st172, an172, ld173, st173, an173, ld174, st174, an174, ld175, st175, an175, ld176, st176, an176, ld177, st177, an177, ld178, st178, an178, ld179, st179, an179, ld180, st180, an180, ld181, st181, an181, ld182, st182, an182, ld183, st183, an183, ld184, st184, an184, ld185, st185, an185, ld186, st186, an186, ld187, st187, an187, ld188, st188, an188, ld189, st189, an189, ld190, st190, an190, ld191, st191, an191, ld192, st192, an192, ld193, st193, an193, ld194, st194, an194, ld195, st195, an195, ld196, st196, an196, ld197, st197, an197, Option.bind_some, if_true, if_false, n_1, iI_add, iI_le, iI_eq, h43', show ¬ (nK T : Int) ≤ (k : Int) by omega, Int.toNat_natCast, h1, hu1, show (u k = (pl k : Int)) = True from eq_true eu, h194, sI_one7 (show k < 7 by omega), hor]
      · rw [hup_obj _ _ _ (by omega), q1.2.1 i hi]
        by_cases e : i = k
        · rw [e, if_neg (by omega), if_pos (by omega), if_pos eu]
        · simp only [lt_sk i k e]
      · by_cases e : p = pl k
        · rw [e, hup_same]
        · rw [hup_ix _ _ _ e, q1.2.2 p hp, hother p hp e]
    · refine ⟨hup (hup I1 193 k (iI (-1))) 194 (pl k) (iI (bt 7 (fun i => decide (i < nK T) && (S i (pl k) || (decide (i < k + 1) && decide (pl k = pl i)))) : Int)), ?_, (q1.1.wr (by omega) (by omega)).wr (by omega) (by omega), fun i hi => ?_, fun p hp => ?_⟩
      · have h1' : hup I1 193 k (iI (-1)) 189 k = iI (pl k : Int) := by rw [hup_obj _ _ _ (by omega)]; exact h1
        have h194' : hup I1 193 k (iI (-1)) 194 (pl k) = iI (bt 7 (fun i => decide (i < nK T) && (S i (pl k) || (decide (i < k) && decide (pl k = pl i)))) : Int) := by rw [hup_obj _ _ _ (by omega)]; exact h194
        simp (maxSteps := 4000000) (disch := omega) only [Mo_meets_L269, rc132, gi132, gl132, pi132, pl132, pz132, pr132, gr132_0, gr132_6, gr132_7, gr132_8, gr132_9, gr132_10, gr132_11, gr132_12, gr132_13, gr132_14, gr132_15, gr132_16, gr132_17, gr132_18, gr132_19, gr132_20, gr132_21, gr132_22, gr132_23, gr132_24, gr132_25, gr132_27, gr132_28, gr132_29, gr132_30, gr132_32, gr132_33, gr132_34, gr132_35, gr132_36, gr132_37, gr132_38, gr132_39, gr132_40, gr132_41, gr132_42, gr132_44, gr132_45, gr132_46, gr132_47, gr132_48, gr132_49, gr132_50, gr132_51, gr132_61, gr132_62, gr132_63, ar134_0, ar134_1, ar137_0, ar137_1, ar140_0, ar140_1, ar143_0, ar143_1, ar146_0, ar146_1, ar149_0, ar149_1, ar152_0, ar152_1, ar155_0, ar155_1, ar158_0, ar158_1, ar164_0, ar164_1, ar164_2, ar164_3, ar164_4, ar164_5, ar164_6, ar164_7, ar164_8, ld133, st133, an133, an134, ld135, st135, an135, ld136, st136, an136, an137, ld138, st138, an138, ld139, st139, an139, an140, ld141, st141, an141, ld142, st142, an142, an143, ld144, st144, an144, ld145, st145, an145, an146, ld147, st147, an147, ld148, st148, an148, an149, ld150, st150, an150, ld151, st151, an151, an152, ld153, st153, an153, ld154, st154, an154, an155, ld156, st156, an156, ld157, st157, an157, an158, ld159, st159, an159, ld160, st160, an160, ld161, st161, an161, ld162, st162, an162, ld163, st163, an163, an164, ld165, st165, an165, ld166, st166, an166, ld167, st167, an167, ld168, st168, an168, ld169, st169, an169, ld170, st170, an170, ld171, st171, an171, ld172, st172, an172, ld173, st173, an173, ld174, st174, an174, ld175, st175, an175, ld176, st176, an176, ld177, st177, an177, ld178, st178, an178, ld179, st179, an179, ld180, st180, an180, ld181, st181, an181, ld182, st182, an182, ld183, st183, an183, ld184, st184, an184, ld185, st185, an185, ld186, st186, an186, ld187, st187, an187, ld188, st188, an188, ld189, st189, an189, ld190, st190, an190, ld191, st191, an191, ld192, st192, an192, ld193, st193, an193, ld194, st194, an194, ld195, st195, an195, ld196, st196, an196, ld197, st197, an197, Option.bind_some, if_true, if_false, n_1, iI_neg, iI_add, iI_le, iI_eq, h43', show ¬ (nK T : Int) ≤ (k : Int) by omega, Int.toNat_natCast, h1, hu1, show (u k = (pl k : Int)) = False from eq_false eu, h1', h194', sI_one7 (show k < 7 by omega), hor]
      · rw [hup_obj _ _ _ (by omega)]
        by_cases e : i = k
        · rw [e, hup_same, if_pos (by omega), if_neg eu]
        · rw [hup_ix _ _ _ e, q1.2.1 i hi]; simp only [lt_sk i k e]
      · by_cases e : p = pl k
        · rw [e, hup_same]
        · rw [hup_ix _ _ _ e, hup_obj _ _ _ (by omega), q1.2.2 p hp, hother p hp e]
  · have h43' : I1 132 43 = iI (nK T : Int) := (q1.1.2 43 id).trans h43
    simp (maxSteps := 4000000) (disch := omega) only [Mo_meets_L269, rc132, gi132, gl132, pi132, pl132, pz132, pr132, gr132_0, gr132_6, gr132_7, gr132_8, gr132_9, gr132_10, gr132_11, gr132_12, gr132_13, gr132_14, gr132_15, gr132_16, gr132_17, gr132_18, gr132_19, gr132_20, gr132_21, gr132_22, gr132_23, gr132_24, gr132_25, gr132_27, gr132_28, gr132_29, gr132_30, gr132_32, gr132_33, gr132_34, gr132_35, gr132_36, gr132_37, gr132_38, gr132_39, gr132_40, gr132_41, gr132_42, gr132_44, gr132_45, gr132_46, gr132_47, gr132_48, gr132_49, gr132_50, gr132_51, gr132_61, gr132_62, gr132_63, ar134_0, ar134_1, ar137_0, ar137_1, ar140_0, ar140_1, ar143_0, ar143_1, ar146_0, ar146_1, ar149_0, ar149_1, ar152_0, ar152_1, ar155_0, ar155_1, ar158_0, ar158_1, ar164_0, ar164_1, ar164_2, ar164_3, ar164_4, ar164_5, ar164_6, ar164_7, ar164_8, ld133, st133, an133, an134, ld135, st135, an135, ld136, st136, an136, an137, ld138, st138, an138, ld139, st139, an139, an140, ld141, st141, an141, ld142, st142, an142, an143, ld144, st144, an144, ld145, st145, an145, an146, ld147, st147, an147, ld148, st148, an148, an149, ld150, st150, an150, ld151, st151, an151, an152, ld153, st153, an153, ld154, st154, an154, an155, ld156, st156, an156, ld157, st157, an157, an158, ld159, st159, an159, ld160, st160, an160, ld161, st161, an161, ld162, st162, an162, ld163, st163, an163, an164, ld165, st165, an165, ld166, st166, an166, ld167, st167, an167, ld168, st168, an168, ld169, st169, an169, ld170, st170, an170, ld171, st171, an171, ld172, st172, an172, ld173, st173, an173, ld174, st174, an174, ld175, st175, an175, ld176, st176, an176, ld177, st177, an177, ld178, st178, an178, ld179, st179, an179, ld180, st180, an180, ld181, st181, an181, ld182, st182, an182, ld183, st183, an183, ld184, st184, an184, ld185, st185, an185, ld186, st186, an186, ld187, st187, an187, ld188, st188, an188, ld189, st189, an189, ld190, st190, an190, ld191, st191, an191, ld192, st192, an192, ld193, st193, an193, ld194, st194, an194, ld195, st195, an195, ld196, st196, an196, ld197, st197, an197, Option.bind_some, if_true, if_false, iI_le, h43', show (nK T : Int) ≤ (nK T : Int) by omega]
end
