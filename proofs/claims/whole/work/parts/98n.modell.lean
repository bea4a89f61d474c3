/-! ===== layer 2: the text: the model reads a rule, a line ===== -/
section
variable {T D D' : Tb} {I I' I'' : Nat → Nat → Int32} {J J' J'' : Nat → Nat → Int64} {b d v : Bool} {f k n i j e t s w M K r y : Nat} {m g h a c o lo hi x wt rm un : Int} {S F G : Nat → Bool} {q : Int32} {z : Nat × Tb}
abbrev zP (k : Nat) : Prop := 2 ≤ k ∧ k ≤ 5
set_option maxRecDepth 20000 in
set_option maxHeartbeats 8000000 in
theorem mF.fp (h : frM zP sA I I') : mF I J I' J := ⟨fun o k a1 a2 a3 => by
  by_cases e : o = 132
  · subst e; exact h.2 k (by omega)
  · exact h.1 o ⟨e, trivial⟩ k, fun _ _ _ _ => rfl⟩
set_option maxRecDepth 20000 in
set_option maxHeartbeats 8000000 in
theorem mrR.next (R : mrR T D t I J) (ht : tvA T) : ∃ I', Mo_next S0 (some 132) (I, J, Pst b f) = some (I', J, Pst b f) ∧ frM zT sA I I' ∧ mrR T D (adv T t) I' J := by
  obtain ⟨I1, a1, a2, a3⟩ := mo_tok (J := J) (b := b) (f := f) R.1.1.1 ht R.1.1.2.1.2 (tEn_le R.1.1.2.2).2
  exact ⟨I1, a1, a2, R.fr a2 a3⟩
set_option maxRecDepth 20000 in
set_option maxHeartbeats 8000000 in
theorem mo_someone (R : mrR T D t I J) (dv : dV D) (ht : tvA T) : (mea D (nm D) (nmd T t) = -1 → ∃ I', Mo_someone S0 (some 132) (I, J, Pst b f) = some (iI 0, (I', J, Pst b f)) ∧ mF I J I' J ∧ I' 132 4 = iI (t : Int)) ∧ (mea D (nm D) (nmd T t) ≠ -1 → ∃ I', Mo_someone S0 (some 132) (I, J, Pst b f) = some (iI 1, (I', J, Pst b f)) ∧ frM zP sA I I' ∧ mrR T D (adv T t) I' J ∧ I' 132 5 = iI (mea D (nm D) (nmd T t))) := by
  have h00 := dv.1.1
  have hnmI : (nm D : Int) = D 0 3 := by unfold nm; omega
  have hna := mo_named (J := J) (b := b) (f := f) R.1.1.1 R.1.1.2 ht
  have hgj := mo_gj (t := t) (b := b) (f := f) R dv ht
  have hmj := mo_mj (t := t) (b := b) (f := f) R dv ht
  have hgr := gA_gOf10 (x := nmd T t) dv
  have hmr := mOf_rg (D := D) (M := nm D) (x := nmd T t)
  have hj45 : ((if iI (gOf D (nmd T t)) = (-1 : Int32) then (some (100 + iI (mOf D (nm D) (nmd T t)))) else (some (iI (gOf D (nmd T t))))) : Option Int32) = some (iI (if gOf D (nmd T t) = -1 then 100 + mOf D (nm D) (nmd T t) else gOf D (nmd T t))) := by
    by_cases e1 : gOf D (nmd T t) = -1
    · rw [if_pos (by rw [e1]; rfl), if_pos e1, n_100, iI_add]
    · rw [if_neg (by rw [n_1, iI_neg, iI_eq (by omega)]; exact e1), if_neg e1]
  have hj63 : ((if iI (gOf D (nmd T t)) = (-1 : Int32) then (if iI (mOf D (nm D) (nmd T t)) = (-1 : Int32) then (some 0) else (some 1)) else (some 1)) : Option Int32) = some (bI (decide (mea D (nm D) (nmd T t) ≠ -1))) := by
    by_cases e1 : gOf D (nmd T t) = -1
    · rw [if_pos (by rw [e1]; rfl)]
      by_cases e2 : mOf D (nm D) (nmd T t) = -1
      · rw [if_pos (by rw [e2]; rfl), decide_eq_false (fun q => q (by rw [mea_no]; exact ⟨e1, e2⟩))]; rfl
      · rw [if_neg (by rw [n_1, iI_neg, iI_eq (by omega)]; exact e2), decide_eq_true (by rw [ne_eq, mea_no]; exact fun q => e2 q.2)]; rfl
    · rw [if_neg (by rw [n_1, iI_neg, iI_eq (by omega)]; exact e1), decide_eq_true (by rw [ne_eq, mea_no]; exact fun q => e1 q.1)]; rfl
  obtain ⟨v0, hv0⟩ : ∃ v0, v0 = (if gOf D (nmd T t) = -1 then 100 + mOf D (nm D) (nmd T t) else gOf D (nmd T t)) := ⟨_, rfl⟩
  rw [← hv0] at hj45
  have R1 : mrR T D t (hup I 132 5 (iI v0)) J := R.val
  have hpre : ∀ Y, ((Mo_passes S0 (some 132) (bI (decide (mea D (nm D) (nmd T t) ≠ -1))) (hup I 132 5 (iI v0), J, Pst b f)).bind fun w4 => some (w4.1 &&& 1, w4.2)) = Y → Mo_someone S0 (some 132) (I, J, Pst b f) = Y := fun Y hY => by
    unfold Mo_someone
    rw [rc132, Option.bind_some, hna, Option.bind_some, hgj, Option.bind_some, hmj, Option.bind_some, hj45, Option.bind_some, pi132, Option.bind_some, hj63, Option.bind_some]
    exact hY
  refine ⟨fun e => ?_, fun e => ?_⟩
  · rw [decide_eq_false (fun q => q e)] at hpre
    refine ⟨_, hpre _ ?_, (mF.refl.fld (k := 5) (q := iI v0) (by omega)).fld (k := 4) (q := iI (t : Int)) (by omega), hup_same _ _ _ _⟩
    rw [R1.fail, Option.bind_some]
    exact w01 _
  · rw [decide_eq_true e] at hpre
    obtain ⟨I2, a1, a2, R2⟩ := R1.pass (b := b) (f := f) ht
    refine ⟨I2, hpre _ ?_, ((frM.refl zP sA I).fld (show zP 5 by omega)).trans (a2.sub (fun k q => by omega) fun o _ q => q), R2, ?_⟩
    · rw [a1, Option.bind_some]
      exact w11 _
    · rw [a2.2 5 (by omega), hup_same, hv0]
      unfold mea
      by_cases e1 : gOf D (nmd T t) = -1
      · rw [if_pos e1, if_pos e1, if_neg (fun q => e (by rw [mea_no]; exact ⟨e1, q⟩))]
      · rw [if_neg e1, if_neg e1]
set_option maxRecDepth 20000 in
set_option maxHeartbeats 8000000 in
theorem mo_numR (R : mrR T D t I J) (ht : tvA T) (hl : 0 ≤ lo ∧ lo ≤ hi ∧ hi ≤ 9) : (isN T lo hi t = false → ∃ I', Mo_number S0 (some 132) (iI lo) (iI hi) (I, J, Pst b f) = some (iI 0, (I', J, Pst b f)) ∧ mF I J I' J ∧ I' 132 4 = iI (t : Int)) ∧ (isN T lo hi t = true → ∃ I', Mo_number S0 (some 132) (iI lo) (iI hi) (I, J, Pst b f) = some (iI 1, (I', J, Pst b f)) ∧ frM zP sA I I' ∧ mrR T D (adv T t) I' J ∧ I' 132 5 = iI (cd T t)) := by
  obtain ⟨v0, h1, h2⟩ := mo_number (J := J) (b := b) (f := f) R.1.1.1 R.1.1.2 ht hl
  have R1 : mrR T D t (hup I 132 5 (iI v0)) J := R.val
  refine ⟨fun e => ?_, fun e => ?_⟩
  · rw [e] at h1
    refine ⟨_, ?_, (mF.refl.fld (k := 5) (q := iI v0) (by omega)).fld (k := 4) (q := iI (t : Int)) (by omega), hup_same _ _ _ _⟩
    rw [h1, R1.fail, Option.bind_some]
    exact w01 _
  · rw [e] at h1
    obtain ⟨I2, a1, a2, R2⟩ := R1.pass (b := b) (f := f) ht
    refine ⟨I2, ?_, ((frM.refl zP sA I).fld (show zP 5 by omega)).trans (a2.sub (fun k q => by omega) fun o _ q => q), R2, ?_⟩
    · rw [h1, a1, Option.bind_some]
      exact w11 _
    · rw [a2.2 5 (by omega), hup_same, h2 e]
def mrD (x2 : Int32) (e119 : hV) : Option (Int32 × hV) := (Mo_isWord S0 (some 132) 8 e119).bind fun x36 => ((if x36 = 0 then (some (.inl e119)) else ((Mo_next S0 (some 132) e119).bind fun V43 => (Mo_named S0 (some 132) V43).bind fun x45 => ((if (lg_cmp x45 (-1)) = 0 then (some (-1)) else ((Mo_markOf S0 (some 132) x45 V43).bind fun x52 => some x52)) : Option Int32).bind fun j172 => ((if j172 = (-1) then (some 0) else (some 1)) : Option Int32).bind fun j190 => (Mo_passes S0 (some 132) j190 V43).bind fun w47 => if w47.1 = 0 then (some (.inr (0, w47.2))) else ((gR S0 12 14 w47.2 (some 132)).bind fun x49 => (aR S0 107 w47.2 x49 1).bind fun x50 => (sI S0 w47.2 x50 x2 j172).bind fun V51 => some (.inl V51)))) : Option (hV ⊕ (Int32 × hV))).bind fun k155 => Sum.elim (fun e155 => (gR S0 12 17 e155 (some 132)).bind fun x38 => (aI S0 e155 x38 1).bind fun x39 => (sI S0 e155 x38 1 (x39 + 1)).bind fun V40 => (Mo_closes S0 (some 132) V40).bind fun w41 => some (w41.1 &&& 1, w41.2)) (fun v => some v) k155
def mrC (x2 : Int32) (V33 : hV) : Option (Int32 × hV) := (Mo_isWord S0 (some 132) 7 V33).bind fun x34 => ((if x34 = 0 then (some (.inl V33)) else ((Mo_next S0 (some 132) V33).bind fun V54 => (Mo_number S0 (some 132) 0 3 V54).bind fun w56 => if w56.1 = 0 then (some (.inr (0, w56.2))) else ((gR S0 12 13 w56.2 (some 132)).bind fun x58 => (aR S0 107 w56.2 x58 1).bind fun x59 => (gI S0 12 5 w56.2 (some 132)).bind fun x60 => (sI S0 w56.2 x59 x2 x60).bind fun V61 => some (.inl V61)))) : Option (hV ⊕ (Int32 × hV))).bind fun k119 => Sum.elim (fun e119 => mrD x2 e119) (fun v => some v) k119
set_option maxRecDepth 20000 in
set_option maxHeartbeats 8000000 in
theorem ruleRead_eq (v1 : Int32) (V : hV) : Mo_ruleRead S0 (some 132) v1 V = (rc S0 12 (some 132)).bind fun _ => (gR S0 12 17 V (some 132)).bind fun x1 => (aI S0 V x1 1).bind fun x2 => (gR S0 12 9 V (some 132)).bind fun x3 => (aR S0 107 V x3 1).bind fun x4 => (sI S0 V x4 x2 v1).bind fun V5 => (Mo_someone S0 (some 132) V5).bind fun w6 => if w6.1 = 0 then (some (0, w6.2)) else ((gR S0 12 10 w6.2 (some 132)).bind fun x8 => (aR S0 107 w6.2 x8 1).bind fun x9 => (gI S0 12 5 w6.2 (some 132)).bind fun x10 => (sI S0 w6.2 x9 x2 x10).bind fun V11 => (Mo_someone S0 (some 132) V11).bind fun w12 => if w12.1 = 0 then (some (0, w12.2)) else ((gR S0 12 11 w12.2 (some 132)).bind fun x14 => (aR S0 107 w12.2 x14 1).bind fun x15 => (gI S0 12 5 w12.2 (some 132)).bind fun x16 => (sI S0 w12.2 x15 x2 x16).bind fun V17 => (Mo_isWord S0 (some 132) 6 V17).bind fun x18 => (Mo_passes S0 (some 132) x18 V17).bind fun w20 => if w20.1 = 0 then (some (0, w20.2)) else ((Mo_number S0 (some 132) 1 9 w20.2).bind fun w22 => if w22.1 = 0 then (some (0, w22.2)) else ((gR S0 12 12 w22.2 (some 132)).bind fun x24 => (aR S0 107 w22.2 x24 1).bind fun x25 => (gI S0 12 5 w22.2 (some 132)).bind fun x26 => (sI S0 w22.2 x25 x2 x26).bind fun V27 => (gR S0 12 13 V27 (some 132)).bind fun x28 => (aR S0 107 V27 x28 1).bind fun x29 => (sI S0 V27 x29 x2 (-1)).bind fun V30 => (gR S0 12 14 V30 (some 132)).bind fun x31 => (aR S0 107 V30 x31 1).bind fun x32 => (sI S0 V30 x32 x2 (-1)).bind fun V33 => mrC x2 V33)))) := rfl
/-- the new rule's fields, but for the last -/
def nfM (D : Tb) (w : Nat) (a c wt rm : Int) (I : Nat → Nat → Int32) : Prop := I 145 (nr D) = iI (w : Int) ∧ I 148 (nr D) = iI a ∧ I 151 (nr D) = iI c ∧ I 154 (nr D) = iI wt ∧ I 157 (nr D) = iI rm
set_option maxRecDepth 20000 in
set_option maxHeartbeats 8000000 in
theorem nfM.fr {zz : Nat → Prop} (h : nfM D w a c wt rm I) (ha : frM zz sA I I') : nfM D w a c wt rm I' := by
  have A : ∀ o k, o ≠ 132 → I' o k = I o k := fun o k ho => ha.1 o ⟨ho, trivial⟩ k
  exact ⟨(A _ _ (by omega)).trans h.1, (A _ _ (by omega)).trans h.2.1, (A _ _ (by omega)).trans h.2.2.1, (A _ _ (by omega)).trans h.2.2.2.1, (A _ _ (by omega)).trans h.2.2.2.2⟩
set_option maxRecDepth 20000 in
set_option maxHeartbeats 8000000 in
theorem mo_ruleEnd (R : mrR T D t I J) (dv : dV D) (ht : tvA T) (hr : D 0 4 < 12) (hf : nfM D w a c wt rm I) (h160 : I 160 (nr D) = iI un) : ∃ q I' J', ((gR S0 12 17 (I, J, Pst b f) (some 132)).bind fun x38 => (aI S0 (I, J, Pst b f) x38 1).bind fun x39 => (sI S0 (I, J, Pst b f) x38 1 (x39 + 1)).bind fun V40 => (Mo_closes S0 (some 132) V40).bind fun w41 => some (w41.1 &&& 1, w41.2)) = some (q, (I', J', Pst b f)) ∧ mF I J I' J' ∧ rzM T q I' J' (if kd T t = 3 then .inr (adv T t, rAdd D w a c wt rm un) else .inl t) := by
  have h00 := dv.1.1
  have hnrI : (nr D : Int) = D 0 4 := by unfold nr; omega
  have h163 : aI S0 (I, J, Pst b f) (some 163) 1 = some (I 163 1) := ld163 (a := 1) (by omega)
  have hst : ∀ x, sI S0 (I, J, Pst b f) (some 163) 1 x = some (hup I 163 1 x, J, Pst b f) := fun x => st163 (a := 1) (by omega)
  have hk5 : tkM T t (hup I 163 1 (iI (D 0 4 + 1))) := ⟨⟨(hup_obj _ _ _ (by omega)).trans R.1.1.2.1.1, (hup_obj _ _ _ (by omega)).trans R.1.1.2.1.2⟩, R.1.1.2.2⟩
  have R5 : mrR T (rAdd D w a c wt rm un) t (hup I 163 1 (iI (D 0 4 + 1))) J := by
    have hnm := rA_nm (D := D) (w := w) (a := a) (c := c) (wt := wt) (rm := rm) (un := un)
    have hng := rA_ng (D := D) (w := w) (a := a) (c := c) (wt := wt) (rm := rm) (un := un)
    have hnr := rA_nr (w := w) (a := a) (c := c) (wt := wt) (rm := rm) (un := un) h00.2.2.1
    refine ⟨⟨⟨⟨(hup_obj _ _ _ (by omega)).trans R.1.1.1.1, fun k hk => (hup_obj _ _ _ (by omega)).trans (R.1.1.1.2 k hk)⟩, hk5⟩, (hup_obj _ _ _ (by omega)).trans R.1.2⟩, ⟨?_, ?_, ?_⟩, ⟨fun i hi => ?_, fun i hi => ?_⟩, fun i hi => ?_, fun r hr => ?_⟩
    · rw [hup_obj _ _ _ (by omega), rA_0 (by omega)]; exact R.2.1.1
    · rw [hup_obj _ _ _ (by omega), rA_0 (by omega)]; exact R.2.1.2.1
    · rw [hup_same, rA_4]
    · rw [hng] at hi
      rw [rA_row (by omega) (by omega)]; exact R.2.2.1.1 i hi
    · rw [hnm] at hi
      rw [rA_row (by omega) (by omega)]; exact R.2.2.1.2 i hi
    · rw [hnm] at hi
      rw [hup_obj _ _ _ (by omega), rA_row (by omega) (by omega)]; exact R.2.2.2.1 i hi
    · rw [hup_obj _ _ _ (by omega), hup_obj _ _ _ (by omega), hup_obj _ _ _ (by omega), hup_obj _ _ _ (by omega), hup_obj _ _ _ (by omega), hup_obj _ _ _ (by omega)]
      by_cases e : r = nr D
      · subst e
        obtain ⟨k5, k6, k7, k8, k9, k10, k11⟩ := rA_new (D := D) (w := w) (a := a) (c := c) (wt := wt) (rm := rm) (un := un)
        rw [k5, k6, k7, k8, k9, k10]
        exact ⟨hf.1, hf.2.1, hf.2.2.1, hf.2.2.2.1, hf.2.2.2.2, h160⟩
      · have Q := fun (o : Nat) (ho : o ≠ 0) => rA_old (D := D) (w := w) (a := a) (c := c) (wt := wt) (rm := rm) (un := un) o e ho
        rw [Q 5 (by omega), Q 6 (by omega), Q 7 (by omega), Q 8 (by omega), Q 9 (by omega), Q 10 (by omega)]
        exact R.2.2.2.2 r (by omega)
  have fr5 : mF I J (hup I 163 1 (iI (D 0 4 + 1))) J := mF.refl.cnt (Or.inr (Or.inr rfl))
  have hpre : ∀ Y, ((Mo_closes S0 (some 132) (hup I 163 1 (iI (D 0 4 + 1)), J, Pst b f)).bind fun w41 => some (w41.1 &&& 1, w41.2)) = Y → ((gR S0 12 17 (I, J, Pst b f) (some 132)).bind fun x38 => (aI S0 (I, J, Pst b f) x38 1).bind fun x39 => (sI S0 (I, J, Pst b f) x38 1 (x39 + 1)).bind fun V40 => (Mo_closes S0 (some 132) V40).bind fun w41 => some (w41.1 &&& 1, w41.2)) = Y := fun Y hY => by
    rw [gr132_17, Option.bind_some, h163, R.2.1.2.2, Option.bind_some, show iI (D 0 4) + (1 : Int32) = iI (D 0 4 + 1) by rw [n_1, iI_add], hst, Option.bind_some]
    exact hY
  by_cases es : kd T t = 3
  · rw [if_pos es]
    obtain ⟨I6, c1, c2, c3⟩ := mo_closesT (J := J) (b := b) (f := f) R5.1.1.1 R5.1.1.2 ht es
    refine ⟨iI 1, I6, J, hpre _ ?_, fr5.trans (mF.fr c2), rfl, R5.fr c2 c3⟩
    rw [c1, Option.bind_some]
    exact w11 _
  · rw [if_neg es]
    refine ⟨iI 0, _, J, hpre _ ?_, fr5.fld (k := 4) (q := iI (t : Int)) (by omega), rfl, hup_same _ _ _ _⟩
    rw [mo_closesF R5.1.1.1 R5.1.2 R5.1.1.2 ht es, Option.bind_some]
    exact w01 _
set_option maxRecDepth 20000 in
set_option maxHeartbeats 8000000 in
theorem mo_ruleD (R : mrR T D t I J) (dv : dV D) (ht : tvA T) (hr : D 0 4 < 12) (hf : nfM D w a c wt rm I) (h160 : I 160 (nr D) = iI (-1)) : ∃ q I' J', mrD (iI (D 0 4)) (I, J, Pst b f) = some (q, (I', J', Pst b f)) ∧ mF I J I' J' ∧ rzM T q I' J' ((rdUn T D t).elim (fun u => .inl u) (fun y => if kd T y.1 = 3 then .inr (adv T y.1, rAdd D w a c wt rm y.2) else .inl y.1)) := by
  have h00 := dv.1.1
  have hnrI : (nr D : Int) = D 0 4 := by unfold nr; omega
  have hnmI : (nm D : Int) = D 0 3 := by unfold nm; omega
  have hiw := mo_isW (J := J) (b := b) (f := f) (w := 8) R.1.1.1 R.1.1.2 ht (by omega)
  have hiw' : Mo_isWord S0 (some 132) 8 (I, J, Pst b f) = some (bI (isW T 8 t)) := hiw
  unfold rdUn
  cases e1 : isW T 8 t
  · rw [e1] at hiw'
    rw [if_neg (by decide)]
    obtain ⟨q, I1, J1, a1, a2, a3⟩ := mo_ruleEnd (b := b) (f := f) R dv ht hr hf h160
    refine ⟨q, I1, J1, ?_, a2, a3⟩
    unfold mrD
    rw [hiw', Option.bind_some, if_pos (by rfl), Option.bind_some, Sum.elim_inl]
    exact a1
  · rw [e1] at hiw'
    rw [if_pos rfl]
    obtain ⟨I1, a1, a2, R1⟩ := R.next (b := b) (f := f) ht
    have hna := mo_named (J := J) (b := b) (f := f) R1.1.1.1 R1.1.1.2 ht
    have hmj := mo_mj (t := adv T t) (b := b) (f := f) R1 dv ht
    have hmr := mOf_rg (D := D) (M := nm D) (x := nmd T (adv T t))
    by_cases e2 : mOf D (nm D) (nmd T (adv T t)) = -1
    · rw [if_pos e2]
      refine ⟨iI 0, hup I1 132 4 (iI (adv T t : Int)), J, ?_, (mF.fr a2).fld (by omega), rfl, hup_same _ _ _ _⟩
      have hf1 : Mo_passes S0 (some 132) (0 : Int32) (I1, J, Pst b f) = some (iI 0, (hup I1 132 4 (iI (adv T t : Int)), J, Pst b f)) := R1.fail
      unfold mrD
      rw [hiw', Option.bind_some, if_neg (show ¬ bI true = 0 by decide), a1, Option.bind_some, hna, Option.bind_some, hmj, Option.bind_some, e2, if_pos (show iI (-1) = -1 from rfl), Option.bind_some, hf1, Option.bind_some, if_pos (by rfl), Option.bind_some, Sum.elim_inr]
      rfl
    · rw [if_neg e2]
      obtain ⟨I2, b1, b2, R2⟩ := R1.pass (b := b) (f := f) ht
      have b1' : Mo_passes S0 (some 132) (1 : Int32) (I1, J, Pst b f) = some (iI 1, (I2, J, Pst b f)) := b1
      have har : aR S0 107 (I2, J, Pst b f) (some 158) 1 = some (some 160) := ar158_1
      have hst : sI S0 (I2, J, Pst b f) (some 160) (iI (D 0 4)) (iI (mOf D (nm D) (nmd T (adv T t)))) = some (hup I2 160 (nr D) (iI (mOf D (nm D) (nmd T (adv T t)))), J, Pst b f) := by
        rw [st160 (by omega)]; rfl
      have R3 : mrR T D (adv T (adv T t)) (hup I2 160 (nr D) (iI (mOf D (nm D) (nmd T (adv T t))))) J := R2.row (by omega) (by omega)
      have hf2 := (hf.fr a2).fr b2
      have hf3 : nfM D w a c wt rm (hup I2 160 (nr D) (iI (mOf D (nm D) (nmd T (adv T t))))) := ⟨(hup_obj _ _ _ (by omega)).trans hf2.1, (hup_obj _ _ _ (by omega)).trans hf2.2.1, (hup_obj _ _ _ (by omega)).trans hf2.2.2.1, (hup_obj _ _ _ (by omega)).trans hf2.2.2.2.1, (hup_obj _ _ _ (by omega)).trans hf2.2.2.2.2⟩
      obtain ⟨q, I4, J4, c1, c2, c3⟩ := mo_ruleEnd (b := b) (f := f) (un := mOf D (nm D) (nmd T (adv T t))) R3 dv ht hr hf3 (hup_same _ _ _ _)
      refine ⟨q, I4, J4, ?_, (((mF.fr a2).trans (mF.fr b2)).row (by unfold rwS; omega)).trans c2, c3⟩
      unfold mrD
      rw [hiw', Option.bind_some, if_neg (show ¬ bI true = 0 by decide), a1, Option.bind_some, hna, Option.bind_some, hmj, Option.bind_some, if_neg (by rw [n_1, iI_neg, iI_eq (by omega)]; exact e2), Option.bind_some, b1', Option.bind_some, if_neg (show ¬ iI 1 = 0 by decide), gr132_14, Option.bind_some, har, Option.bind_some, hst, Option.bind_some, Option.bind_some, Sum.elim_inl]
      exact c1
set_option maxRecDepth 20000 in
set_option maxHeartbeats 8000000 in
theorem mo_ruleC (R : mrR T D t I J) (dv : dV D) (ht : tvA T) (hr : D 0 4 < 12) (hf : nfM D w a c wt (-1) I) (h160 : I 160 (nr D) = iI (-1)) : ∃ q I' J', mrC (iI (D 0 4)) (I, J, Pst b f) = some (q, (I', J', Pst b f)) ∧ mF I J I' J' ∧ rzM T q I' J' (rdR2 T D w a c wt t) := by
  have h00 := dv.1.1
  have hnrI : (nr D : Int) = D 0 4 := by unfold nr; omega
  have hiw := mo_isW (J := J) (b := b) (f := f) (w := 7) R.1.1.1 R.1.1.2 ht (by omega)
  have hiw' : Mo_isWord S0 (some 132) 7 (I, J, Pst b f) = some (bI (isW T 7 t)) := hiw
  unfold rdR2 rdRm
  cases e1 : isW T 7 t
  · rw [e1] at hiw'
    rw [if_neg (by decide)]
    obtain ⟨q, I1, J1, a1, a2, a3⟩ := mo_ruleD (b := b) (f := f) R dv ht hr hf h160
    refine ⟨q, I1, J1, ?_, a2, a3⟩
    unfold mrC
    rw [hiw', Option.bind_some, if_pos (by rfl), Option.bind_some, Sum.elim_inl]
    exact a1
  · rw [e1] at hiw'
    rw [if_pos rfl]
    obtain ⟨I1, a1, a2, R1⟩ := R.next (b := b) (f := f) ht
    obtain ⟨n1, n2⟩ := mo_numR (b := b) (f := f) (lo := 0) (hi := 3) R1 ht (by omega)
    cases e2 : isN T 0 3 (adv T t)
    · rw [if_neg (by decide)]
      obtain ⟨I2, b1, b2, b3⟩ := n1 e2
      have b1' : Mo_number S0 (some 132) 0 3 (I1, J, Pst b f) = some (iI 0, (I2, J, Pst b f)) := b1
      refine ⟨iI 0, I2, J, ?_, (mF.fr a2).trans b2, rfl, b3⟩
      unfold mrC
      rw [hiw', Option.bind_some, if_neg (show ¬ bI true = 0 by decide), a1, Option.bind_some, b1', Option.bind_some, if_pos (by rfl), Option.bind_some, Sum.elim_inr]
      rfl
    · rw [if_pos rfl]
      obtain ⟨I2, b1, b2, R2, b4⟩ := n2 e2
      have b1' : Mo_number S0 (some 132) 0 3 (I1, J, Pst b f) = some (iI 1, (I2, J, Pst b f)) := b1
      have har : aR S0 107 (I2, J, Pst b f) (some 155) 1 = some (some 157) := ar155_1
      have hst : sI S0 (I2, J, Pst b f) (some 157) (iI (D 0 4)) (iI (cd T (adv T t))) = some (hup I2 157 (nr D) (iI (cd T (adv T t))), J, Pst b f) := by
        rw [st157 (by omega)]; rfl
      have R3 : mrR T D (adv T (adv T t)) (hup I2 157 (nr D) (iI (cd T (adv T t)))) J := R2.row (by omega) (by omega)
      have hf2 := (hf.fr a2).fr b2
      have hf3 : nfM D w a c wt (cd T (adv T t)) (hup I2 157 (nr D) (iI (cd T (adv T t)))) := ⟨(hup_obj _ _ _ (by omega)).trans hf2.1, (hup_obj _ _ _ (by omega)).trans hf2.2.1, (hup_obj _ _ _ (by omega)).trans hf2.2.2.1, (hup_obj _ _ _ (by omega)).trans hf2.2.2.2.1, hup_same _ _ _ _⟩
      have h160' : hup I2 157 (nr D) (iI (cd T (adv T t))) 160 (nr D) = iI (-1) := by rw [hup_obj _ _ _ (by omega), b2.1 160 ⟨by omega, trivial⟩, a2.1 160 ⟨by omega, trivial⟩]; exact h160
      obtain ⟨q, I4, J4, c1, c2, c3⟩ := mo_ruleD (b := b) (f := f) R3 dv ht hr hf3 h160'
      refine ⟨q, I4, J4, ?_, (((mF.fr a2).trans (mF.fp b2)).row (by unfold rwS; omega)).trans c2, c3⟩
      unfold mrC
      rw [hiw', Option.bind_some, if_neg (show ¬ bI true = 0 by decide), a1, Option.bind_some, b1', Option.bind_some, if_neg (show ¬ iI 1 = 0 by decide), gr132_13, Option.bind_some, har, Option.bind_some, gi132, b4, Option.bind_some, hst, Option.bind_some, Option.bind_some, Sum.elim_inl]
      exact c1
def rdRi (T D : Tb) (w t : Nat) : Rd := if mea D (nm D) (nmd T t) = -1 then .inl t else if mea D (nm D) (nmd T (adv T t)) = -1 then .inl (adv T t) else if isW T 6 (adv T (adv T t)) = true then (if isN T 1 9 (adv T (adv T (adv T t))) = true then rdR2 T D w (mea D (nm D) (nmd T t)) (mea D (nm D) (nmd T (adv T t))) (cd T (adv T (adv T (adv T t)))) (adv T (adv T (adv T (adv T t)))) else .inl (adv T (adv T (adv T t)))) else .inl (adv T (adv T t))
set_option maxRecDepth 20000 in
set_option maxHeartbeats 8000000 in
theorem rdRu_i : rdRu T D w t = if 12 ≤ D 0 4 then .inl t else rdRi T D w (adv T t) := rfl
set_option maxRecDepth 20000 in
set_option maxHeartbeats 8000000 in
theorem mo_ruleRead (R : mrR T D t I J) (dv : dV D) (ht : tvA T) (hr : D 0 4 < 12) : ∃ q I' J', Mo_ruleRead S0 (some 132) (iI (w : Int)) (I, J, Pst b f) = some (q, (I', J', Pst b f)) ∧ mF I J I' J' ∧ rzM T q I' J' (rdRi T D w t) := by
  have h00 := dv.1.1
  have hnrI : (nr D : Int) = D 0 4 := by unfold nr; omega
  have h163 : aI S0 (I, J, Pst b f) (some 163) 1 = some (I 163 1) := ld163 (a := 1) (by omega)
  have ar3 : ∀ I', aR S0 107 (I', J, Pst b f) (some 143) 1 = some (some 145) := fun I' => ar143_1
  have ar6 : ∀ I', aR S0 107 (I', J, Pst b f) (some 146) 1 = some (some 148) := fun I' => ar146_1
  have ar9 : ∀ I', aR S0 107 (I', J, Pst b f) (some 149) 1 = some (some 151) := fun I' => ar149_1
  have ar2 : ∀ I', aR S0 107 (I', J, Pst b f) (some 152) 1 = some (some 154) := fun I' => ar152_1
  have ar5 : ∀ I', aR S0 107 (I', J, Pst b f) (some 155) 1 = some (some 157) := fun I' => ar155_1
  have ar8 : ∀ I', aR S0 107 (I', J, Pst b f) (some 158) 1 = some (some 160) := fun I' => ar158_1
  have s145 : ∀ I' x, sI S0 (I', J, Pst b f) (some 145) (iI (D 0 4)) x = some (hup I' 145 (nr D) x, J, Pst b f) := fun I' x => by rw [st145 (by omega)]; rfl
  have s148 : ∀ I' x, sI S0 (I', J, Pst b f) (some 148) (iI (D 0 4)) x = some (hup I' 148 (nr D) x, J, Pst b f) := fun I' x => by rw [st148 (by omega)]; rfl
  have s151 : ∀ I' x, sI S0 (I', J, Pst b f) (some 151) (iI (D 0 4)) x = some (hup I' 151 (nr D) x, J, Pst b f) := fun I' x => by rw [st151 (by omega)]; rfl
  have s154 : ∀ I' x, sI S0 (I', J, Pst b f) (some 154) (iI (D 0 4)) x = some (hup I' 154 (nr D) x, J, Pst b f) := fun I' x => by rw [st154 (by omega)]; rfl
  have s157 : ∀ I' x, sI S0 (I', J, Pst b f) (some 157) (iI (D 0 4)) x = some (hup I' 157 (nr D) x, J, Pst b f) := fun I' x => by rw [st157 (by omega)]; rfl
  have s160 : ∀ I' x, sI S0 (I', J, Pst b f) (some 160) (iI (D 0 4)) x = some (hup I' 160 (nr D) x, J, Pst b f) := fun I' x => by rw [st160 (by omega)]; rfl
  have R1 : mrR T D t (hup I 145 (nr D) (iI (w : Int))) J := R.row (by omega) (by omega)
  have fr1 : mF I J (hup I 145 (nr D) (iI (w : Int))) J := mF.refl.row (by unfold rwS; omega)
  obtain ⟨p1, p2⟩ := mo_someone (b := b) (f := f) R1 dv ht
  unfold rdRi
  by_cases e1 : mea D (nm D) (nmd T t) = -1
  · rw [if_pos e1]
    obtain ⟨I2, a1, a2, a3⟩ := p1 e1
    refine ⟨iI 0, I2, J, ?_, fr1.trans a2, rfl, a3⟩
    rw [ruleRead_eq, rc132, Option.bind_some, gr132_17, Option.bind_some, h163, R.2.1.2.2, Option.bind_some, gr132_9, Option.bind_some, ar3, Option.bind_some, s145, Option.bind_some, a1, Option.bind_some, if_pos (by rfl)]
    rfl
  · rw [if_neg e1]
    obtain ⟨I2, a1, a2, R2, a4⟩ := p2 e1
    generalize mea D (nm D) (nmd T t) = a at *
    have R3 : mrR T D (adv T t) (hup I2 148 (nr D) (iI a)) J := R2.row (by omega) (by omega)
    have fr3 : mF I J (hup I2 148 (nr D) (iI a)) J := (fr1.trans (mF.fp a2)).row (by unfold rwS; omega)
    obtain ⟨q1, q2⟩ := mo_someone (b := b) (f := f) R3 dv ht
    by_cases e2 : mea D (nm D) (nmd T (adv T t)) = -1
    · rw [if_pos e2]
      obtain ⟨I4, b1, b2, b3⟩ := q1 e2
      refine ⟨iI 0, I4, J, ?_, fr3.trans b2, rfl, b3⟩
      rw [ruleRead_eq, rc132, Option.bind_some, gr132_17, Option.bind_some, h163, R.2.1.2.2, Option.bind_some, gr132_9, Option.bind_some, ar3, Option.bind_some, s145, Option.bind_some, a1, Option.bind_some, if_neg (show ¬ iI 1 = 0 by decide), gr132_10, Option.bind_some, ar6, Option.bind_some, gi132, a4, Option.bind_some, s148, Option.bind_some, b1, Option.bind_some, if_pos (by rfl)]
      rfl
    · rw [if_neg e2]
      obtain ⟨I4, b1, b2, R4, b4⟩ := q2 e2
      generalize mea D (nm D) (nmd T (adv T t)) = c at *
      have R5 : mrR T D (adv T (adv T t)) (hup I4 151 (nr D) (iI c)) J := R4.row (by omega) (by omega)
      have fr5 : mF I J (hup I4 151 (nr D) (iI c)) J := (fr3.trans (mF.fp b2)).row (by unfold rwS; omega)
      have hiw := mo_isW (J := J) (b := b) (f := f) (w := 6) R5.1.1.1 R5.1.1.2 ht (by omega)
      have hiw' : Mo_isWord S0 (some 132) 6 (hup I4 151 (nr D) (iI c), J, Pst b f) = some (bI (isW T 6 (adv T (adv T t)))) := hiw
      cases e3 : isW T 6 (adv T (adv T t))
      · rw [e3] at hiw'
        rw [if_neg (by decide)]
        refine ⟨iI 0, _, J, ?_, fr5.fld (k := 4) (q := iI (adv T (adv T t) : Int)) (by omega), rfl, hup_same _ _ _ _⟩
        rw [ruleRead_eq, rc132, Option.bind_some, gr132_17, Option.bind_some, h163, R.2.1.2.2, Option.bind_some, gr132_9, Option.bind_some, ar3, Option.bind_some, s145, Option.bind_some, a1, Option.bind_some, if_neg (show ¬ iI 1 = 0 by decide), gr132_10, Option.bind_some, ar6, Option.bind_some, gi132, a4, Option.bind_some, s148, Option.bind_some, b1, Option.bind_some, if_neg (show ¬ iI 1 = 0 by decide), gr132_11, Option.bind_some, ar9, Option.bind_some, gi132, b4, Option.bind_some, s151, Option.bind_some, hiw', Option.bind_some, R5.fail, Option.bind_some, if_pos (by rfl)]
        rfl
      · rw [e3] at hiw'
        rw [if_pos rfl]
        obtain ⟨I6, c1, c2, R6⟩ := R5.pass (b := b) (f := f) ht
        obtain ⟨n1, n2⟩ := mo_numR (b := b) (f := f) (lo := 1) (hi := 9) R6 ht (by omega)
        cases e4 : isN T 1 9 (adv T (adv T (adv T t)))
        · rw [if_neg (by decide)]
          obtain ⟨I7, d1, d2, d3⟩ := n1 e4
          have d1' : Mo_number S0 (some 132) 1 9 (I6, J, Pst b f) = some (iI 0, (I7, J, Pst b f)) := d1
          refine ⟨iI 0, I7, J, ?_, (fr5.trans (mF.fr c2)).trans d2, rfl, d3⟩
          rw [ruleRead_eq, rc132, Option.bind_some, gr132_17, Option.bind_some, h163, R.2.1.2.2, Option.bind_some, gr132_9, Option.bind_some, ar3, Option.bind_some, s145, Option.bind_some, a1, Option.bind_some, if_neg (show ¬ iI 1 = 0 by decide), gr132_10, Option.bind_some, ar6, Option.bind_some, gi132, a4, Option.bind_some, s148, Option.bind_some, b1, Option.bind_some, if_neg (show ¬ iI 1 = 0 by decide), gr132_11, Option.bind_some, ar9, Option.bind_some, gi132, b4, Option.bind_some, s151, Option.bind_some, hiw', Option.bind_some, c1, Option.bind_some, if_neg (show ¬ iI 1 = 0 by decide), d1', Option.bind_some, if_pos (by rfl)]
          rfl
        · rw [if_pos rfl]
          obtain ⟨I7, d1, d2, R7, d4⟩ := n2 e4
          have d1' : Mo_number S0 (some 132) 1 9 (I6, J, Pst b f) = some (iI 1, (I7, J, Pst b f)) := d1
          generalize hwt : cd T (adv T (adv T (adv T t))) = wt at *
          have R8 : mrR T D (adv T (adv T (adv T (adv T t)))) (hup (hup (hup I7 154 (nr D) (iI wt)) 157 (nr D) (iI (-1))) 160 (nr D) (iI (-1))) J := ((R7.row (by omega) (by omega)).row (by omega) (by omega)).row (by omega) (by omega)
          have fr8 : mF I J (hup (hup (hup I7 154 (nr D) (iI wt)) 157 (nr D) (iI (-1))) 160 (nr D) (iI (-1))) J := ((((fr5.trans (mF.fr c2)).trans (mF.fp d2)).row (by unfold rwS; omega)).row (by unfold rwS; omega)).row (by unfold rwS; omega)
          have A76 : ∀ o k, o ≠ 132 → I7 o k = hup I4 151 (nr D) (iI c) o k := fun o k ho => (d2.1 o ⟨ho, trivial⟩ k).trans (c2.1 o ⟨ho, trivial⟩ k)
          have A42 : ∀ o k, o ≠ 132 → I4 o k = hup I2 148 (nr D) (iI a) o k := fun o k ho => b2.1 o ⟨ho, trivial⟩ k
          have A21 : ∀ o k, o ≠ 132 → I2 o k = hup I 145 (nr D) (iI (w : Int)) o k := fun o k ho => a2.1 o ⟨ho, trivial⟩ k
          have hf8 : nfM D w a c wt (-1) (hup (hup (hup I7 154 (nr D) (iI wt)) 157 (nr D) (iI (-1))) 160 (nr D) (iI (-1))) := by
            refine ⟨?_, ?_, ?_, ?_, ?_⟩
            · rw [hup_obj _ _ _ (by omega), hup_obj _ _ _ (by omega), hup_obj _ _ _ (by omega), A76 _ _ (by omega), hup_obj _ _ _ (by omega), A42 _ _ (by omega), hup_obj _ _ _ (by omega), A21 _ _ (by omega), hup_same]
            · rw [hup_obj _ _ _ (by omega), hup_obj _ _ _ (by omega), hup_obj _ _ _ (by omega), A76 _ _ (by omega), hup_obj _ _ _ (by omega), A42 _ _ (by omega), hup_same]
            · rw [hup_obj _ _ _ (by omega), hup_obj _ _ _ (by omega), hup_obj _ _ _ (by omega), A76 _ _ (by omega), hup_same]
            · rw [hup_obj _ _ _ (by omega), hup_obj _ _ _ (by omega), hup_same]
            · rw [hup_obj _ _ _ (by omega), hup_same]
          obtain ⟨q, I9, J9, g1, g2, g3⟩ := mo_ruleC (b := b) (f := f) R8 dv ht hr hf8 (hup_same _ _ _ _)
          refine ⟨q, I9, J9, ?_, fr8.trans g2, g3⟩
          have h1m : (-1 : Int32) = iI (-1) := rfl
          rw [ruleRead_eq, rc132, Option.bind_some, gr132_17, Option.bind_some, h163, R.2.1.2.2, Option.bind_some, gr132_9, Option.bind_some, ar3, Option.bind_some, s145, Option.bind_some, a1, Option.bind_some, if_neg (show ¬ iI 1 = 0 by decide), gr132_10, Option.bind_some, ar6, Option.bind_some, gi132, a4, Option.bind_some, s148, Option.bind_some, b1, Option.bind_some, if_neg (show ¬ iI 1 = 0 by decide), gr132_11, Option.bind_some, ar9, Option.bind_some, gi132, b4, Option.bind_some, s151, Option.bind_some, hiw', Option.bind_some, c1, Option.bind_some, if_neg (show ¬ iI 1 = 0 by decide), d1', Option.bind_some, if_neg (show ¬ iI 1 = 0 by decide), gr132_12, Option.bind_some, ar2, Option.bind_some, gi132, d4, Option.bind_some, s154, Option.bind_some, gr132_13, Option.bind_some, ar5, Option.bind_some, h1m, s157, Option.bind_some, gr132_14, Option.bind_some, ar8, Option.bind_some, s160, Option.bind_some]
          exact g1
end
