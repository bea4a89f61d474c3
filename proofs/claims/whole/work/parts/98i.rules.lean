/-! ===== layer 2: the text: the class reads a rule and a line ===== -/
section
variable {T D D' : Tb} {I I' I'' : Nat → Nat → Int32} {J J' J'' : Nat → Nat → Int64} {b d v : Bool} {f k n i j e t s w M K r y z : Nat} {m g h a c o lo hi x wt rm un : Int} {S F G : Nat → Bool} {q : Int32}
set_option maxRecDepth 20000 in
set_option maxHeartbeats 8000000 in
theorem lI_i32 (h : 0 ≤ c ∧ c ≤ 9) : (lI c).toInt32 = iI c := by
  obtain ⟨n, rfl⟩ := nN c h.1
  have : ∀ n : Nat, n < 10 → (lI (n : Int)).toInt32 = iI (n : Int) := by decide +kernel
  exact this n (by omega)
set_option maxRecDepth 20000 in
set_option maxHeartbeats 8000000 in
theorem rdRm_rg (ht : tvA T) {z : Nat × Int} (h : rdRm T t = .inr z) : -1 ≤ z.2 ∧ z.2 ≤ 3 := by
  unfold rdRm at h
  by_cases e1 : isW T 7 t = true
  · rw [if_pos e1] at h
    by_cases e2 : isN T 0 3 (adv T t) = true
    · rw [if_pos e2] at h
      cases h
      have := e2
      simp only [isN, decide_eq_true_eq] at this
      show -1 ≤ cd T (adv T t) ∧ cd T (adv T t) ≤ 3
      omega
    · rw [if_neg e2] at h; cases h
  · rw [if_neg e1] at h
    cases h
    show -1 ≤ (-1 : Int) ∧ (-1 : Int) ≤ 3
    omega
set_option maxRecDepth 20000 in
set_option maxHeartbeats 8000000 in
theorem rdUn_rg {z : Nat × Int} (h : rdUn T D t = .inr z) : -1 ≤ z.2 ∧ z.2 < nm D := by
  have hm := mOf_rg (D := D) (M := nm D) (x := nmd T (adv T t))
  unfold rdUn at h
  by_cases e1 : isW T 8 t = true
  · rw [if_pos e1] at h
    by_cases e2 : mOf D (nm D) (nmd T (adv T t)) = -1
    · rw [if_pos e2] at h; cases h
    · rw [if_neg e2] at h
      cases h
      exact hm
  · rw [if_neg e1] at h
    cases h
    show -1 ≤ (-1 : Int) ∧ (-1 : Int) < (nm D : Int)
    omega
/-- what becomes of the room, the unless -/
def roC (T D : Tb) (d : Bool) (b : Bool) (f kx : Nat) (vl : Int → Int) (F : Option (Int32 × hV)) (I : Nat → Nat → Int32) (J : Nat → Nat → Int64) (r : Nat ⊕ (Nat × Int)) : Prop := match r with
  | .inl u => ∃ I' J', F = some (iI 0, (I', J', Pst b f)) ∧ rF d (nr D) I J I' J' ∧ I' 1 3 = iI (u : Int)
  | .inr z => ∃ I' J', F = some (iI 1, (I', J', Pst b f)) ∧ rF d (nr D) I J I' J' ∧ crR T D d z.1 I' J' ∧ I' (ru d (nr D)) kx = iI (vl z.2) ∧ ∀ k, k ≠ kx → I' (ru d (nr D)) k = I (ru d (nr D)) k
set_option maxRecDepth 20000 in
set_option maxHeartbeats 8000000 in
theorem cl_readRoom (C : crR T D d t I J) (dv : dV D) (ht : tvA T) (hr : nr D < 12) : roC T D d b f 4 id (Reader_readRoom S0 (some 3) (some (ru d (nr D))) (I, J, Pst b f)) I J (rdRm T t) := by
  have h0 := dv.1.1.2.2
  have hcd := ct_or d
  have hru : ru d (nr D) = ct d + 5 + 2 * nr D := rfl
  have C1 : crR T D d t (hup I (ru d (nr D)) 4 (iI (-1))) J := C.wr h0.2 h0.1
  have hkw := cl_isKw (b := b) (f := f) (w := 7) C1.1.2 ht (by omega)
  have hkc : J 3 8 = lI (kc 7) := C.2.1.1 7 (by omega)
  unfold rdRm
  cases e1 : isW T 7 t
  · rw [if_neg (by decide)]
    refine ⟨hup I (ru d (nr D)) 4 (iI (-1)), J, ?_, rF.refl.wr, C1, hup_same _ _ _ _, fun k hk => hup_ix _ _ _ hk⟩
    unfold Reader_readRoom
    rw [rc3, Option.bind_some, n_1, iI_neg, piru hr, Option.bind_some, gr3_0, Option.bind_some, gl3, hkc, Option.bind_some, hkw, e1, Option.bind_some, if_pos (by rfl)]
  · rw [if_pos rfl]
    obtain ⟨I2, J2, a1, a2, C2⟩ := C1.adv (b := b) (f := f) h0.2 h0.1 ht
    have hin := cl_isN (b := b) (f := f) (lo := 0) (hi := 3) C2.1.2 ht (by omega)
    have hin' : Text_isNumber S0 (some 1) 0 3 (I2, J2, Pst b f) = some (bI (isN T 0 3 (adv T t))) := hin
    have h2ru : ∀ k, I2 (ru d (nr D)) k = hup I (ru d (nr D)) 4 (iI (-1)) (ru d (nr D)) k := fun k => a2.1 _ _ (by omega)
    have fr2 : rF d (nr D) I J I2 J2 := rF.refl.wr.trans (rF.tx a2)
    cases e2 : isN T 0 3 (adv T t)
    · rw [if_neg (by decide)]
      refine ⟨I2, J2, ?_, fr2, C2.1.2.1.1⟩
      unfold Reader_readRoom
      rw [rc3, Option.bind_some, n_1, iI_neg, piru hr, Option.bind_some, gr3_0, Option.bind_some, gl3, hkc, Option.bind_some, hkw, e1, Option.bind_some, if_neg (by decide), Option.bind_some, a1, Option.bind_some, gr3_0, Option.bind_some, hin', e2, Option.bind_some, if_pos (by rfl)]
      rfl
    · rw [if_pos rfl]
      have hcdr := e2
      simp only [isN, decide_eq_true_eq] at hcdr
      have C3 : crR T D d (adv T t) (hup I2 (ru d (nr D)) 4 (iI (cd T (adv T t)))) J2 := C2.wr h0.2 h0.1
      obtain ⟨I4, J4, b1, b2, C4⟩ := C3.adv (b := b) (f := f) h0.2 h0.1 ht
      have h4ru : ∀ k, I4 (ru d (nr D)) k = hup I2 (ru d (nr D)) 4 (iI (cd T (adv T t))) (ru d (nr D)) k := fun k => b2.1 _ _ (by omega)
      refine ⟨I4, J4, ?_, (fr2.wr).trans (rF.tx b2), C4, ?_, fun k hk => ?_⟩
      · unfold Reader_readRoom
        rw [rc3, Option.bind_some, n_1, iI_neg, piru hr, Option.bind_some, gr3_0, Option.bind_some, gl3, hkc, Option.bind_some, hkw, e1, Option.bind_some, if_neg (by decide), Option.bind_some, a1, Option.bind_some, gr3_0, Option.bind_some, hin', e2, Option.bind_some, if_neg (by decide), Option.bind_some, gl1, C2.1.2.2.1, Option.bind_some, lI_i32 (by omega), piru hr, Option.bind_some, gr3_0, Option.bind_some, b1, Option.bind_some]
      · rw [h4ru, hup_same]; rfl
      · rw [h4ru, hup_ix _ _ _ hk, h2ru, hup_ix _ _ _ hk]
set_option maxRecDepth 20000 in
set_option maxHeartbeats 8000000 in
theorem cl_readUnless (C : crR T D d t I J) (dv : dV D) (ht : tvA T) (hr : nr D < 12) : roC T D d b f 5 (fun u => if u = -1 then -1 else 100 + u) (Reader_readUnless S0 (some 3) (some (ru d (nr D))) (I, J, Pst b f)) I J (rdUn T D t) := by
  have h0 := dv.1.1.2.2
  have h00 := dv.1.1
  have hcd := ct_or d
  have hru : ru d (nr D) = ct d + 5 + 2 * nr D := rfl
  have C1 : crR T D d t (hup I (ru d (nr D)) 5 (iI (-1))) J := C.wr h0.2 h0.1
  have hkw := cl_isKw (b := b) (f := f) (w := 8) C1.1.2 ht (by omega)
  have hkc : J 3 9 = lI (kc 8) := C.2.1.1 8 (by omega)
  unfold rdUn
  cases e1 : isW T 8 t
  · rw [if_neg (by decide)]
    refine ⟨hup I (ru d (nr D)) 5 (iI (-1)), J, ?_, rF.refl.wr, C1, ?_, fun k hk => hup_ix _ _ _ hk⟩
    · unfold Reader_readUnless
      rw [rc3, Option.bind_some, n_1, iI_neg, piru hr, Option.bind_some, gr3_0, Option.bind_some, gl3, hkc, Option.bind_some, hkw, e1, Option.bind_some, if_pos (by rfl)]
    · rw [hup_same]; rfl
  · rw [if_pos rfl]
    obtain ⟨I2, J2, a1, a2, C2⟩ := C1.adv (b := b) (f := f) h0.2 h0.1 ht
    have hme := C2.mean (b := b) (f := f) dv ht
    have h2ru : ∀ k, I2 (ru d (nr D)) k = hup I (ru d (nr D)) 5 (iI (-1)) (ru d (nr D)) k := fun k => a2.1 _ _ (by omega)
    have fr2 : rF d (nr D) I J I2 J2 := rF.refl.wr.trans (rF.tx a2)
    have hmr := mOf_rg (D := D) (M := nm D) (x := nmd T (adv T t))
    have hgr := gA_gOf10 (x := nmd T (adv T t)) dv
    have hnm5 : nm D ≤ 5 := by unfold nm; omega
    by_cases e2 : mOf D (nm D) (nmd T (adv T t)) = -1
    · rw [if_pos e2]
      have hlt : mea D (nm D) (nmd T (adv T t)) < 100 ∧ -1 ≤ mea D (nm D) (nmd T (adv T t)) := by
        unfold mea
        rw [if_pos e2]
        split <;> omega
      refine ⟨I2, J2, ?_, fr2, C2.1.2.1.1⟩
      unfold Reader_readUnless
      rw [rc3, Option.bind_some, n_1, iI_neg, piru hr, Option.bind_some, gr3_0, Option.bind_some, gl3, hkc, Option.bind_some, hkw, e1, Option.bind_some, if_neg (by decide), Option.bind_some, a1, Option.bind_some, hme, Option.bind_some, if_neg (by rw [n_100, iI_le (by omega)]; omega)]
      rfl
    · rw [if_neg e2]
      have hin := mOf_in e2
      have hgk := gOf_mk dv.2.2 hin.1
      rw [hin.2] at hgk
      have hmv : mea D (nm D) (nmd T (adv T t)) = 100 + mOf D (nm D) (nmd T (adv T t)) := by
        unfold mea
        rw [if_pos hgk, if_neg e2]
      rw [hmv] at hme
      have C3 : crR T D d (adv T t) (hup I2 (ru d (nr D)) 5 (iI (100 + mOf D (nm D) (nmd T (adv T t))))) J2 := C2.wr h0.2 h0.1
      obtain ⟨I4, J4, b1, b2, C4⟩ := C3.adv (b := b) (f := f) h0.2 h0.1 ht
      have h4ru : ∀ k, I4 (ru d (nr D)) k = hup I2 (ru d (nr D)) 5 (iI (100 + mOf D (nm D) (nmd T (adv T t)))) (ru d (nr D)) k := fun k => b2.1 _ _ (by omega)
      refine ⟨I4, J4, ?_, (fr2.wr).trans (rF.tx b2), C4, ?_, fun k hk => ?_⟩
      · unfold Reader_readUnless
        rw [rc3, Option.bind_some, n_1, iI_neg, piru hr, Option.bind_some, gr3_0, Option.bind_some, gl3, hkc, Option.bind_some, hkw, e1, Option.bind_some, if_neg (by decide), Option.bind_some, a1, Option.bind_some, hme, Option.bind_some, if_pos (by rw [n_100, iI_le (by omega)]; omega), piru hr, Option.bind_some, gr3_0, Option.bind_some, b1, Option.bind_some]
      · rw [h4ru, hup_same]
        show _ = iI (if mOf D (nm D) (nmd T (adv T t)) = -1 then -1 else 100 + mOf D (nm D) (nmd T (adv T t)))
        rw [if_neg e2]
      · rw [h4ru, hup_ix _ _ _ hk, h2ru, hup_ix _ _ _ hk]
/-! the new rule's couples -/
def unC (un : Int) : Int := if un = -1 then -1 else 100 + un
set_option maxRecDepth 20000 in
set_option maxHeartbeats 8000000 in
theorem isOf_rA (u : Int) (y : Nat) : isOf (rAdd D w a c wt rm un) u y = isOf D u y := by
  unfold isOf mem
  rw [rA_row (by omega) (by omega)]
set_option maxRecDepth 20000 in
set_option maxHeartbeats 8000000 in
theorem cpl_new {x y : Nat} (hun : -1 ≤ un) : cpl (rAdd D w a c wt rm un) (nr D) x y = cpQ w (isOf D a) (fun y => isOf D c y && !isOf D (unC un) y) (fun _ _ => true) x y := by
  obtain ⟨k5, k6, k7, k8, k9, k10, k11⟩ := rA_new (D := D) (w := w) (a := a) (c := c) (wt := wt) (rm := rm) (un := un)
  have hU : ∀ y : Nat, (decide (un = -1) || !mem (rAdd D w a c wt rm un) un.toNat y) = !isOf D (unC un) y := fun y => by
    unfold unC
    by_cases e : un = -1
    · rw [decide_eq_true e, Bool.true_or, if_pos e]
      unfold isOf
      rw [if_pos (by omega), decide_eq_false (by omega)]
      rfl
    · rw [decide_eq_false e, Bool.false_or, if_neg e]
      unfold isOf mem
      rw [if_neg (by omega), rA_row (by omega) (by omega), show 100 + un - 100 = un by omega]
  have hcup : ∀ x y : Nat, cup (rAdd D w a c wt rm un) (nr D) x y = (decide (x ≠ y) && (isOf D a x && (isOf D c y && !isOf D (unC un) y))) := fun x y => by
    unfold cup
    rw [k6, k7, k10, isOf_rA, isOf_rA, hU]
  unfold cpl hcu cpQ
  rw [k5, hcup, hcup]
  by_cases ew : w = 0
  · rw [if_pos ew, decide_eq_true (show (w : Int) = 0 by omega), decide_eq_false (show ¬ (w : Int) ≠ 0 by omega), Bool.false_and, Bool.or_false, Bool.true_or, Bool.and_true, Bool.true_and]
  · rw [if_neg ew, decide_eq_false (show ¬ (w : Int) = 0 by omega), decide_eq_true (show (w : Int) ≠ 0 by omega), Bool.true_and, Bool.false_or, Bool.true_and, Bool.true_and]
    by_cases e : x < y
    · rw [decide_eq_true e, Bool.and_true, Bool.true_and, decide_eq_true (show x ≠ y by omega), decide_eq_true (show y ≠ x by omega), Bool.true_and, Bool.true_and]
    · rw [decide_eq_false e, Bool.and_false, Bool.false_and]
def rlTail (v1 x5 : Option Nat) (V34 : hV) : Option (Int32 × hV) := (Reader_readRoom S0 (some 3) x5 V34).bind fun w36 => if w36.1 = 0 then (some (0, w36.2)) else ((Reader_readUnless S0 (some 3) x5 w36.2).bind fun w38 => if w38.1 = 0 then (some (0, w38.2)) else ((gI S0 7 1 w38.2 x5).bind fun x40 => (Court_guestsOf S0 v1 x40 w38.2).bind fun x41 => (gI S0 7 2 w38.2 x5).bind fun x43 => (Court_guestsOf S0 v1 x43 w38.2).bind fun x44 => (gI S0 7 5 w38.2 x5).bind fun x46 => (Court_guestsOf S0 v1 x46 w38.2).bind fun x47 => (Rule_pairUp S0 x5 x41 (x44 &&& (x47 ^^^ (-1))) w38.2).bind fun V49 => (gI S0 0 6 V49 v1).bind fun x51 => (pI S0 0 6 V49 v1 (x51 + 1)).bind fun V52 => (Reader_readStop S0 (some 3) V52).bind fun w53 => some (w53.1 &&& 1, w53.2)))
def rlB (v1 x5 : Option Nat) (V22 : hV) : Option (Int32 × hV) := (gL S0 5 7 V22 (some 3)).bind fun x24 => (Reader_readWord S0 (some 3) x24 V22).bind fun w25 => if w25.1 = 0 then (some (0, w25.2)) else ((gR S0 5 0 w25.2 (some 3)).bind fun x27 => (Text_isNumber S0 x27 1 9 w25.2).bind fun x28 => if x28 = 0 then (some (0, w25.2)) else ((gR S0 5 0 w25.2 (some 3)).bind fun x30 => (gL S0 10 5 w25.2 x30).bind fun x31 => (pI S0 7 3 w25.2 x5 ((x31 : Int64).toInt32)).bind fun V32 => (gR S0 5 0 V32 (some 3)).bind fun x33 => (Text_advance S0 x33 V32).bind fun V34 => rlTail v1 x5 V34))
set_option maxRecDepth 20000 in
set_option maxHeartbeats 8000000 in
theorem readRule_eq (v1 : Option Nat) (v2 : Int32) (V : hV) : Reader_readRule S0 (some 3) v1 v2 V = (rc S0 5 (some 3)).bind fun _ => (gI S0 0 6 V v1).bind fun x1 => if x1 < 0 then (some (0, V)) else ((gI S0 0 6 V v1).bind fun x2 => if x2 < 12 then ((gR S0 0 1 V v1).bind fun x3 => (gI S0 0 6 V v1).bind fun x4 => (aR S0 105 V x3 x4).bind fun x5 => (pI S0 7 0 V x5 v2).bind fun V6 => (gR S0 5 0 V6 (some 3)).bind fun x7 => (Text_advance S0 x7 V6).bind fun V8 => (Reader_meaning S0 (some 3) V8).bind fun x10 => (pI S0 7 1 V8 x5 x10).bind fun V12 => (gI S0 7 1 V12 x5).bind fun x13 => if x13 = (-1) then (some (0, V12)) else ((gR S0 5 0 V12 (some 3)).bind fun x14 => (Text_advance S0 x14 V12).bind fun V15 => (Reader_meaning S0 (some 3) V15).bind fun x17 => (pI S0 7 2 V15 x5 x17).bind fun V19 => (gI S0 7 2 V19 x5).bind fun x20 => if x20 = (-1) then (some (0, V19)) else ((gR S0 5 0 V19 (some 3)).bind fun x21 => (Text_advance S0 x21 V19).bind fun V22 => rlB v1 x5 V22))) else (some (0, V))) := rfl
end
