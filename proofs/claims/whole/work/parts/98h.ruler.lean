/-! ===== layer 2: the text: the class reads a rule ===== -/
section
variable {T D D' : Tb} {I I' I'' : Nat → Nat → Int32} {J J' J'' : Nat → Nat → Int64} {b d v : Bool} {f k n i j e t s w M K r y z : Nat} {m g h a c o lo hi x wt rm un : Int} {S F G : Nat → Bool} {q : Int32} {Q : Nat → Nat → Bool} {V0 : hV}
def rF (d : Bool) (r : Nat) (I : Nat → Nat → Int32) (J : Nat → Nat → Int64) (I' : Nat → Nat → Int32) (J' : Nat → Nat → Int64) : Prop := (∀ o k, o ≠ ru d r → o ≠ cu d r → ¬ (o = 1 ∧ 2 ≤ k) → I' o k = I o k) ∧ ∀ o k, o ≠ 1 → J' o k = J o k
set_option maxRecDepth 20000 in
set_option maxHeartbeats 8000000 in
theorem rF.refl : rF d r I J I J := ⟨fun _ _ _ _ _ => rfl, fun _ _ _ => rfl⟩
set_option maxRecDepth 20000 in
set_option maxHeartbeats 8000000 in
theorem rF.trans (h : rF d r I J I' J') (h' : rF d r I' J' I'' J'') : rF d r I J I'' J'' := ⟨fun o k a1 a2 a3 => (h'.1 o k a1 a2 a3).trans (h.1 o k a1 a2 a3), fun o k a1 => (h'.2 o k a1).trans (h.2 o k a1)⟩
set_option maxRecDepth 20000 in
set_option maxHeartbeats 8000000 in
theorem rF.tx (h : txF I J I' J') : rF d r I J I' J' := ⟨fun o k _ _ a => h.1 o k a, fun o k a => h.2 o k a⟩
set_option maxRecDepth 20000 in
set_option maxHeartbeats 8000000 in
theorem rF.wr (h : rF d r I J I' J') : rF d r I J (hup I' (ru d r) k q) J' := ⟨fun o j a1 a2 a3 => by rw [hup_obj _ _ _ a1]; exact h.1 o j a1 a2 a3, h.2⟩
set_option maxRecDepth 20000 in
set_option maxHeartbeats 8000000 in
theorem rF.wc (h : rF d r I J I' J') : rF d r I J (hup I' (cu d r) k q) J' := ⟨fun o j a1 a2 a3 => by rw [hup_obj _ _ _ a2]; exact h.1 o j a1 a2 a3, h.2⟩
set_option maxRecDepth 20000 in
set_option maxHeartbeats 8000000 in
theorem rF.pF (h : rF d r I J I' J') (hr : r < 12) : pF d I J I' J' := ⟨fun o k a1 a2 a3 a4 => h.1 o k (by unfold ru; omega) (by unfold cu; omega) a1, fun o k a1 _ => h.2 o k a1⟩
set_option maxRecDepth 20000 in
set_option maxHeartbeats 8000000 in
theorem crR.rF (C : crR T D d t I J) (hT : D 0 4 ≤ 12) (h0 : 0 ≤ D 0 4) (h : rF d (nr D) I J I' J') (hk : tkC T e I' J') : crR T D d e I' J' := by
  obtain ⟨⟨hA, _⟩, ⟨hq, n1, c, u, n2, n3⟩, hC, hD⟩ := C
  have hcd := ct_or d
  have hru : ru d (nr D) = ct d + 5 + 2 * nr D := rfl
  have hcu : cu d (nr D) = ct d + 6 + 2 * nr D := rfl
  have hnr : (nr D : Int) = D 0 4 := by unfold nr; omega
  have ha : ∀ o k, o ≠ ru d (nr D) → o ≠ cu d (nr D) → ¬ (o = 1 ∧ 2 ≤ k) → I' o k = I o k := h.1
  refine ⟨⟨⟨(ha 1 1 (by omega) (by omega) (by omega)).trans hA.1, fun k hk => (ha 2 k (by omega) (by omega) (by omega)).trans (hA.2 k hk)⟩, hk⟩, ⟨fun w hw => (h.2 3 _ (by omega)).trans (hq w hw), (ha 3 12 (by omega) (by omega) (by omega)).trans n1, c, u, fun k hk => ⟨(h.2 4 k (by omega)).trans (n2 k hk).1, (ha 5 k (by omega) (by omega) (by omega)).trans (n2 k hk).2⟩, n3⟩, ⟨⟨(ha _ _ (by omega) (by omega) (by omega)).trans hC.1.1, (ha _ _ (by omega) (by omega) (by omega)).trans hC.1.2.1, (ha _ _ (by omega) (by omega) (by omega)).trans hC.1.2.2⟩, fun m hm => (ha _ _ (by omega) (by omega) (by omega)).trans (hC.2 m hm)⟩, fun r hr => ?_⟩
  obtain ⟨⟨h1, h2, h3, h4, h5, h6⟩, h7⟩ := hD r hr
  have q1 : ru d r = ct d + 5 + 2 * r := rfl
  have q2 : cu d r = ct d + 6 + 2 * r := rfl
  have R := fun k => ha (ru d r) k (by omega) (by omega) (by omega)
  exact ⟨⟨(R 0).trans h1, (R 1).trans h2, (R 2).trans h3, (R 3).trans h4, (R 4).trans h5, (R 5).trans h6⟩, fun x hx => (ha (cu d r) x (by omega) (by omega) (by omega)).trans (h7 x hx)⟩
set_option maxRecDepth 20000 in
set_option maxHeartbeats 8000000 in
theorem crR.wr (C : crR T D d t I J) (hT : D 0 4 ≤ 12) (h0 : 0 ≤ D 0 4) : crR T D d t (hup I (ru d (nr D)) k q) J := by
  have hcd := ct_or d
  have hru : ru d (nr D) = ct d + 5 + 2 * nr D := rfl
  exact C.rF hT h0 rF.refl.wr ⟨⟨(hup_obj _ _ _ (by omega)).trans C.1.2.1.1, (hup_obj _ _ _ (by omega)).trans C.1.2.1.2.1, (hup_obj _ _ _ (by omega)).trans C.1.2.1.2.2⟩, C.1.2.2⟩
set_option maxRecDepth 20000 in
set_option maxHeartbeats 8000000 in
theorem crR.adv (C : crR T D d t I J) (hT : D 0 4 ≤ 12) (h0 : 0 ≤ D 0 4) (ht : tvA T) : ∃ I' J', Text_advance S0 (some 1) (I, J, Pst b f) = some (I', J', Pst b f) ∧ txF I J I' J' ∧ crR T D d (adv T t) I' J' := by
  obtain ⟨I1, J1, a1, a2, a3⟩ := cl_adv (b := b) (f := f) C.1.1 C.1.2 ht
  exact ⟨I1, J1, a1, a2, C.rF hT h0 (rF.tx a2) a3⟩
set_option maxRecDepth 20000 in
set_option maxHeartbeats 8000000 in
theorem crR.mean (C : crR T D d t I J) (dv : dV D) (ht : tvA T) : Reader_meaning S0 (some 3) (I, J, Pst b f) = some (iI (mea D (nm D) (nmd T t))) := by
  have h := dv.1.1
  exact cl_meaning C.1.2 ht C.2.1.2 dv.2.2 (by unfold ng nm; omega)
/-- whom a name stands for -/
theorem cl_guestsOf (hC : cC D d I) (dv : dV D) (ha : tvW D a ∨ a = -1) : Court_guestsOf S0 (some (ct d)) (iI a) (I, J, Pst b f) = some (iI (bt 10 (isOf D a) : Int)) := by
  obtain ⟨⟨c1, c2⟩, c3, c4⟩ := id dv
  have hng := pow_ng ⟨c1, c2⟩
  have har : -1 ≤ a ∧ a < 200 := by unfold tvW at ha; omega
  have hgs := cl_hasGuest (J := J) (P := Pst b f) hC ⟨c1, c2⟩ (g := a) (by omega)
  by_cases e : a < 100
  · have hset : ∀ y : Nat, isOf D a y = decide (a = (y : Int)) := fun y => by unfold isOf; rw [if_pos e]
    by_cases e1 : 0 ≤ a ∧ a < D 0 2
    · have hbo : iI (bt 10 (isOf D a) : Int) = iI (bt 10 (fun y => decide (y = a.toNat)) : Int) := sI_ext fun y _ => by
        rw [hset]
        exact decide_eq_decide.mpr ⟨fun q => by omega, fun q => by omega⟩
      rw [decide_eq_true e1] at hgs
      unfold Court_guestsOf
      rw [rcct, Option.bind_some, if_pos (by rw [n_100, iI_sub, n_0, iI_lt (by omega)]; omega), hgs, Option.bind_some, if_neg (by decide), sI_g10 (by omega), hbo]
    · have hbo : iI (bt 10 (isOf D a) : Int) = iI 0 := by
        rw [show iI 0 = iI (bt 10 (fun _ => false) : Int) by rw [bt_z]; rfl]
        refine sI_ext fun y _ => ?_
        rw [hset]
        exact decide_eq_false (by unfold tvW at ha; omega)
      rw [decide_eq_false e1] at hgs
      unfold Court_guestsOf
      rw [rcct, Option.bind_some, if_pos (by rw [n_100, iI_sub, n_0, iI_lt (by omega)]; omega), hgs, Option.bind_some, if_pos (by rfl), hbo]
      rfl
  · have hm : 0 ≤ a - 100 ∧ a - 100 < D 0 3 := by unfold tvW at ha; omega
    have hmem := hC.2 (a - 100).toNat (by omega)
    have hl := (c2 (a - 100).toNat (by omega)).2
    have hbo : iI (bt 10 (isOf D a) : Int) = iI ((D 4 (a - 100).toNat).toNat : Int) := by
      have h1 := bt_of (A := (D 4 (a - 100).toNat).toNat) (n := 10) (by omega)
      rw [h1]
      refine sI_ext fun y _ => ?_
      unfold isOf mem
      rw [if_neg e]
    unfold Court_guestsOf
    rw [rcct, Option.bind_some, if_neg (by rw [n_100, iI_sub, n_0, iI_lt (by omega)]; omega), gict, hC.1.2.1, Option.bind_some, if_neg (by rw [n_100, iI_sub, iI_le (by omega)]; omega), if_neg (by rw [n_100, n_5, iI_sub, iI_le (by omega)]; omega), grct_0, Option.bind_some, n_100, iI_sub, ldctm (by omega), Option.bind_some, hmem, hbo]
/-- the couples of those gone through -/
def cpQ (w : Nat) (F G : Nat → Bool) (Q : Nat → Nat → Bool) (x y : Nat) : Bool := if w = 0 then Q x y && (decide (x ≠ y) && (F x && G y)) else decide (x < y) && ((Q x y && (F x && G y)) || (Q y x && (F y && G x)))
set_option maxRecDepth 20000 in
set_option maxHeartbeats 8000000 in
theorem cpQ_same {x y z u : Nat} (hno : ¬ (x ≠ y ∧ F x = true ∧ G y = true)) : cpQ w F G (prC x (y + 1)) z u = cpQ w F G (prC x y) z u := by
  unfold cpQ
  by_cases e1 : z = x ∧ u = y
  · obtain ⟨rfl, rfl⟩ := e1
    by_cases ew : w = 0
    · rw [if_pos ew, if_pos ew]
      have : (decide (z ≠ u) && (F z && G u)) = false := by
        cases q : (decide (z ≠ u) && (F z && G u))
        · rfl
        · simp only [Bool.and_eq_true, decide_eq_true_eq] at q
          exact absurd q hno
      rw [this, Bool.and_false, Bool.and_false]
    · rw [if_neg ew, if_neg ew]
      by_cases e2 : z = u
      · subst e2
        rw [decide_eq_false (show ¬ z < z by omega), Bool.false_and, Bool.false_and]
      · have : (F z && G u) = false := by
          cases q : (F z && G u)
          · rfl
          · simp only [Bool.and_eq_true] at q
            exact absurd ⟨e2, q⟩ hno
        rw [this, Bool.and_false, Bool.and_false, prC_s (i := u) (j := z) (by omega)]
  · rw [prC_s e1]
    by_cases ew : w = 0
    · rw [if_pos ew, if_pos ew]
    · rw [if_neg ew, if_neg ew]
      by_cases e2 : u = x ∧ z = y
      · obtain ⟨rfl, rfl⟩ := e2
        by_cases e3 : z = u
        · subst e3
          rw [decide_eq_false (show ¬ z < z by omega), Bool.false_and, Bool.false_and]
        · have : (F u && G z) = false := by
            cases q : (F u && G z)
            · rfl
            · simp only [Bool.and_eq_true] at q
              exact absurd ⟨fun q => e3 q.symm, q⟩ hno
          rw [this, Bool.and_false, Bool.and_false]
      · rw [prC_s e2]
set_option maxRecDepth 20000 in
set_option maxHeartbeats 8000000 in
theorem cl_pair1 {x : Nat} (hr : r < 12) (hx : x < 10) (hw : w ≤ 2) (h0 : I (ru d r) 0 = iI (w : Int)) (hQ : row (cu d r) (cpQ w F G (prC x 0)) I) : ∃ I', jloop (Rule_pairUp_L19 S0 (some (ru d r)) (iI (bt 10 F : Int)) (iI (bt 10 G : Int)) (iI (x : Int), V0)) jN (iI 0, (I, J, Pst b f)) = some (I', J, Pst b f) ∧ Agr (fun o => o ≠ cu d r) I I' ∧ row (cu d r) (cpQ w F G (prC (x + 1) 0)) I' := by
  have hne : ru d r ≠ cu d r := by unfold ru cu; omega
  have key := jheap (J := J) (P := Pst b f) (I := I) (body := Rule_pairUp_L19 S0 (some (ru d r)) (iI (bt 10 F : Int)) (iI (bt 10 G : Int)) (iI (x : Int), V0)) (fun y I' => Agr (fun o => o ≠ cu d r) I I' ∧ row (cu d r) (cpQ w F G (prC x y)) I') 0 10 ⟨Agr.refl _ _, hQ⟩ (by omega) (by omega) (fun y I1 _ hy q1 => ?_) (fun I1 q1 => ?_)
  · obtain ⟨I2, e1, e2, e3⟩ := key
    refine ⟨I2, e1, e2, e3.ext fun z u hz hu => ?_⟩
    have hp : ∀ i j, j < 10 → prC x 10 i j = prC (x + 1) 0 i j := fun i j hj => by rw [Bool.eq_iff_iff, prC_t, prC_t]; omega
    unfold cpQ
    rw [hp z u hu, hp u z hz]
  · have hf := bt10_has (p := F) hx
    have hg := bt10_has (p := G) hy
    have h01 : I1 (ru d r) 0 = iI (w : Int) := (q1.1 _ hne 0).trans h0
    have c10 : ¬ (10 : Int) ≤ (y : Int) := by omega
    by_cases hyes : x ≠ y ∧ F x = true ∧ G y = true
    · obtain ⟨h1, h2, h3⟩ := hyes
      rw [h2] at hf
      rw [h3] at hg
      have hnxy : ¬ (x : Int) = (y : Int) := by omega
      by_cases ht : w ≠ 0 ∧ y < x
      · have hw0 : ¬ (w : Int) = 0 := by omega
        have hrow := q1.2 y hy
        have hor : iI (bt 10 (cpQ w F G (prC x y) y) : Int) ||| iI (bt 10 (fun u => decide (u = x)) : Int) = iI (bt 10 (cpQ w F G (prC x (y + 1)) y) : Int) := by
          rw [sI_or]
          refine sI_ext fun u hu => ?_
          unfold cpQ
          rw [if_neg ht.1, if_neg ht.1]
          by_cases e : u = x
          · subst e
            rw [decide_eq_true (show u = u from rfl), Bool.or_true, decide_eq_true ht.2, Bool.true_and, prC_t.mpr (show u < u ∨ (u = u ∧ y < y + 1) by omega), h2, h3]; simp
          · rw [decide_eq_false e, Bool.or_false, prC_s (i := y) (j := u) (by omega), prC_s (i := u) (j := y) (by omega)]
        refine ⟨hup I1 (cu d r) y (iI (bt 10 (cpQ w F G (prC x (y + 1)) y) : Int)), ?_, q1.1.hup (by omega), q1.2.up fun z u hz hz1 hu => ?_⟩
        · have hj : ((if iI (w : Int) = (0 : Int32) then (some 0) else (if iI (x : Int) ≤ iI (y : Int) then (some 0) else (some 1))) : Option Int32) = some (iI 1) := by
            rw [if_neg (by rw [n_0, iI_eq (by omega)]; exact hw0), if_neg (by rw [iI_le (by omega)]; omega)]; rfl
          unfold Rule_pairUp_L19
          rw [if_neg (by rw [n_10, iI_le (by omega)]; exact c10), if_neg (by rw [iI_eq (by omega)]; exact hnxy), hf, if_neg (by decide), hg, if_neg (by decide), giru hr, Option.bind_some, h01, hj, Option.bind_some, grru_7 hr, Option.bind_some, if_neg (by decide), Option.bind_some, ldcu hr (by omega), Option.bind_some, Int.toNat_natCast, hrow, if_neg (by decide), Option.bind_some, n_1, sI_one hx, hor, stcu hr (by omega), Int.toNat_natCast, Option.bind_some, iI_add]
        · unfold cpQ
          rw [if_neg ht.1, if_neg ht.1]
          by_cases e : z = x ∧ u = y
          · rw [decide_eq_false (show ¬ z < u by omega), Bool.false_and, Bool.false_and]
          · rw [prC_s e, prC_s (i := u) (j := z) (by omega)]
      · have hj : ((if iI (w : Int) = (0 : Int32) then (some 0) else (if iI (x : Int) ≤ iI (y : Int) then (some 0) else (some 1))) : Option Int32) = some (iI 0) := by
          by_cases e : (w : Int) = 0
          · rw [if_pos (by rw [e]; rfl)]; rfl
          · rw [if_neg (by rw [n_0, iI_eq (by omega)]; exact e), if_pos (by rw [iI_le (by omega)]; omega)]; rfl
        have hrow := q1.2 x hx
        have hlt : w = 0 ∨ x < y := by omega
        have hor : iI (bt 10 (cpQ w F G (prC x y) x) : Int) ||| iI (bt 10 (fun u => decide (u = y)) : Int) = iI (bt 10 (cpQ w F G (prC x (y + 1)) x) : Int) := by
          rw [sI_or]
          refine sI_ext fun u hu => ?_
          unfold cpQ
          by_cases e : u = y
          · subst e
            rw [decide_eq_true (show u = u from rfl), Bool.or_true, prC_t.mpr (show x < x ∨ (x = x ∧ u < u + 1) by omega), h2, h3]
            by_cases ew : w = 0
            · rw [if_pos ew, decide_eq_true h1]; rfl
            · rw [if_neg ew, decide_eq_true (show x < u by omega)]; rfl
          · rw [decide_eq_false e, Bool.or_false]
            by_cases ew : w = 0
            · rw [if_pos ew, if_pos ew, prC_s (i := x) (j := u) (by omega)]
            · rw [if_neg ew, if_neg ew, prC_s (i := x) (j := u) (by omega)]
              by_cases e5 : x < u
              · rw [prC_s (i := u) (j := x) (by omega)]
              · rw [decide_eq_false e5, Bool.false_and, Bool.false_and]
        refine ⟨hup I1 (cu d r) x (iI (bt 10 (cpQ w F G (prC x (y + 1)) x) : Int)), ?_, q1.1.hup (by omega), q1.2.up fun z u hz hz1 hu => ?_⟩
        · unfold Rule_pairUp_L19
          rw [if_neg (by rw [n_10, iI_le (by omega)]; exact c10), if_neg (by rw [iI_eq (by omega)]; exact hnxy), hf, if_neg (by decide), hg, if_neg (by decide), giru hr, Option.bind_some, h01, hj, Option.bind_some, grru_7 hr, Option.bind_some, if_pos (by rfl), Option.bind_some, ldcu hr (by omega), Option.bind_some, Int.toNat_natCast, hrow, if_pos (by rfl), Option.bind_some, n_1, sI_one hy, hor, stcu hr (by omega), Int.toNat_natCast, Option.bind_some, iI_add]
        · unfold cpQ
          by_cases ew : w = 0
          · rw [if_pos ew, if_pos ew, prC_s (i := z) (j := u) (by omega)]
          · rw [if_neg ew, if_neg ew, prC_s (i := z) (j := u) (by omega)]
            by_cases e5 : z < u
            · rw [prC_s (i := u) (j := z) (by omega)]
            · rw [decide_eq_false e5, Bool.false_and, Bool.false_and]
    · refine ⟨I1, ?_, q1.1, q1.2.ext fun z u _ _ => (cpQ_same hyes).symm⟩
      by_cases e1 : x = y
      · simp (maxSteps := 4000000) (disch := omega) only [Rule_pairUp_L19, Option.bind_some, if_true, if_false, n_1, n_10, iI_add, iI_lt, iI_le, iI_eq, c10, show ((x : Int) = (y : Int)) = True from eq_true (by omega)]
      · cases e2 : F x
        · rw [e2] at hf
          simp (maxSteps := 4000000) (disch := omega) only [Rule_pairUp_L19, Option.bind_some, if_true, if_false, n_0, n_1, n_10, iI_add, iI_lt, iI_le, iI_eq, c10, show ((x : Int) = (y : Int)) = False from eq_false (by omega), hf, bI_0]
        · cases e3 : G y
          · rw [e2] at hf
            rw [e3] at hg
            simp (maxSteps := 4000000) (disch := omega) only [Rule_pairUp_L19, Option.bind_some, if_true, if_false, n_0, n_1, n_10, iI_add, iI_lt, iI_le, iI_eq, c10, show ((x : Int) = (y : Int)) = False from eq_false (by omega), hf, hg, bI_0, Bool.true_eq_false]
          · exact absurd ⟨e1, e2, e3⟩ hyes
  · simp (maxSteps := 4000000) (disch := omega) only [Rule_pairUp_L19, Option.bind_some, if_true, if_false, n_10, iI_lt, iI_le, iI_eq, show (10 : Int) ≤ ((10 : Nat) : Int) by omega]
set_option maxRecDepth 20000 in
set_option maxHeartbeats 8000000 in
theorem cl_pairUp (hr : r < 12) (hw : w ≤ 2) (h0 : I (ru d r) 0 = iI (w : Int)) : ∃ I', Rule_pairUp S0 (some (ru d r)) (iI (bt 10 F : Int)) (iI (bt 10 G : Int)) (I, J, Pst b f) = some (I', J, Pst b f) ∧ Agr (fun o => o ≠ cu d r) I I' ∧ row (cu d r) (cpQ w F G (fun _ _ => true)) I' := by
  have hne : ru d r ≠ cu d r := by unfold ru cu; omega
  obtain ⟨I1, f1, f2, f3⟩ := fillI (J := J) (P := Pst b f) (I := I) (N := 10) (ob := cu d r) (vl := iI 0) (by omega) (ancu hr) (fun a I ha => stcu hr (by omega))
  have key := jheap (J := J) (P := Pst b f) (I := I1) (body := Rule_pairUp_L10 S0 (some (ru d r)) (iI (bt 10 F : Int)) (iI (bt 10 G : Int))) (fun x I' => Agr (fun o => o ≠ cu d r) I I' ∧ row (cu d r) (cpQ w F G (prC x 0)) I') 0 10 ⟨f2, fun x hx => ?_⟩ (by omega) (by omega) (fun x I2 _ hx q1 => ?_) (fun I2 q1 => ?_)
  · obtain ⟨I2, e1, e2, e3⟩ := key
    have e1 : jloop (Rule_pairUp_L10 S0 (some (ru d r)) (iI (bt 10 F : Int)) (iI (bt 10 G : Int))) jN (iI 0, (I1, J, Pst b f)) = some (I2, J, Pst b f) := e1
    refine ⟨I2, ?_, e2, e3.ext fun z u hz hu => ?_⟩
    · unfold Rule_pairUp
      rw [rcru hr, Option.bind_some, grru_7 hr, Option.bind_some, n_0, f1, Option.bind_some, e1, Option.bind_some]
    · unfold cpQ
      rw [prC_t.mpr (show z < 10 ∨ (z = 10 ∧ u < 0) by omega), prC_t.mpr (show u < 10 ∨ (u = 10 ∧ z < 0) by omega)]
  · rw [f3 x hx, show iI 0 = iI (bt 10 (fun _ => false) : Int) by rw [bt_z]; rfl]
    refine sI_ext fun y _ => ?_
    unfold cpQ
    rw [prC_f.mpr (show ¬ (x < 0 ∨ (x = 0 ∧ y < 0)) by omega), prC_f.mpr (show ¬ (y < 0 ∨ (y = 0 ∧ x < 0)) by omega)]
    simp
  · obtain ⟨I3, a1, a2, a3⟩ := cl_pair1 (J := J) (b := b) (f := f) (V0 := (I2, J, Pst b f)) hr hx hw ((q1.1 _ hne 0).trans h0) q1.2
    refine ⟨I3, ?_, q1.1.trans a2, a3⟩
    simp (maxSteps := 4000000) (disch := omega) only [Rule_pairUp_L10, Option.bind_some, if_true, if_false, n_0, n_1, n_10, iI_add, iI_lt, iI_le, iI_eq, show ¬ (10 : Int) ≤ (x : Int) by omega, a1]
  · simp (maxSteps := 4000000) (disch := omega) only [Rule_pairUp_L10, Option.bind_some, if_true, if_false, n_10, iI_lt, iI_le, iI_eq, show (10 : Int) ≤ ((10 : Nat) : Int) by omega]
end
