/-! ===== layer 2: the text: a guest, a mark, a rule more ===== -/
section
variable {T D D' : Tb} {I I' I'' : Nat → Nat → Int32} {J J' J'' : Nat → Nat → Int64} {b d v : Bool} {f k n i j e t s w M K r y z : Nat} {m g h a c o lo hi x wt rm un : Int} {S : Nat → Bool}
set_option maxHeartbeats 8000000 in
theorem hup_row {α : Type} {F : Nat → Nat → α} {o o' k : Nat} {v : α} (h : o' ≠ o) : hup F o k v o' = F o' := by
  funext j
  exact hup_obj _ _ _ h
/-- what was read so far holds together -/
def dV (D : Tb) : Prop := tvC D ∧ tvD D ∧ nmV D (nm D)
set_option maxHeartbeats 8000000 in
theorem dV_D0 : dV (D0 T) := by
  have h2 : D0 T 0 2 = 0 := by simp [D0, hup]
  have h3 : D0 T 0 3 = 0 := by simp [D0, hup]
  have h4 : D0 T 0 4 = 0 := by simp [D0, hup]
  have hn : ng (D0 T) = 0 := by unfold ng; rw [h2]; rfl
  have hm : nm (D0 T) = 0 := by unfold nm; rw [h3]; rfl
  refine ⟨⟨by omega, fun m hm' => by omega⟩, fun r hr => by omega, ⟨fun i hi => by omega, fun i hi => by omega⟩, fun i j hi => by omega, fun i j hi => by omega, fun i j hi => by omega⟩
set_option maxHeartbeats 8000000 in
theorem okN_nmd (ht : tvA T) (h : nmd T t ≠ -1) : okN (nmd T t) := by
  have hr := cd_rg (t := t) ht
  unfold nmd at h ⊢
  by_cases q : kd T t = 1 ∧ cd T t < HUG ∧ isKy (cd T t) = false
  · rw [if_pos q]; exact ⟨hr.1, q.2.1, q.2.2⟩
  · rw [if_neg q] at h; exact absurd rfl h
set_option maxHeartbeats 8000000 in
theorem isNw_t (h : isNw T D t = true) : nmd T t ≠ -1 ∧ gOf D (nmd T t) = -1 ∧ mOf D (nm D) (nmd T t) = -1 := by
  unfold isNw at h
  simp only [Bool.and_eq_true, decide_eq_true_eq] at h
  have := h.2
  rw [mea_no] at this
  exact ⟨h.1, this⟩
set_option maxHeartbeats 8000000 in
theorem cpl_cong (hd : tvD D) (ht : tvC D) (hr : (r : Int) < D 0 4) (h1 : ∀ o, 5 ≤ o → o ≤ 10 → D' o r = D o r) (h2 : ∀ m, m < nm D → D' 4 m = D 4 m) (p q : Nat) : cpl D' r p q = cpl D r p q := by
  obtain ⟨v1, v2, v3, v4, v5, v6, v7⟩ := hd r hr
  have h3 := ht.1
  have hnm : (nm D : Int) = D 0 3 := by unfold nm; omega
  have e5 := h1 5 (by omega) (by omega)
  have e6 := h1 6 (by omega) (by omega)
  have e7 := h1 7 (by omega) (by omega)
  have e10 := h1 10 (by omega) (by omega)
  have hmem : ∀ (u : Int) y, 0 ≤ u → u < nm D → mem D' u.toNat y = mem D u.toNat y := fun u y a1 a2 => by unfold mem; rw [h2 _ (by omega)]
  have hof : ∀ (u : Int) y, tvW D u → isOf D' u y = isOf D u y := fun u y hu => by
    unfold isOf
    by_cases e : u < 100
    · rw [if_pos e, if_pos e]
    · rw [if_neg e, if_neg e]
      exact hmem (u - 100) y (by omega) (by unfold tvW at hu; omega)
  have hun : ∀ y, (decide (D 10 r = -1) || !mem D' (D 10 r).toNat y) = (decide (D 10 r = -1) || !mem D (D 10 r).toNat y) := fun y => by
    by_cases e : D 10 r = -1
    · rw [decide_eq_true e, Bool.true_or, Bool.true_or]
    · rw [hmem (D 10 r) y (by omega) (by omega)]
  unfold cpl hcu cup
  rw [e5, e6, e7, e10, hof _ p v2, hof _ q v3, hof _ q v2, hof _ p v3, hun, hun]
set_option maxHeartbeats 8000000 in
theorem tvW_mono (h : tvW D a) (h1 : D 0 2 ≤ D' 0 2) (h2 : D 0 3 ≤ D' 0 3) : tvW D' a := by unfold tvW at *; omega
/-! a guest -/
set_option maxHeartbeats 8000000 in
theorem gA_row {o : Nat} (h0 : o ≠ 0) (h1 : o ≠ 16) (k : Nat) : gAdd D x o k = D o k := by
  unfold gAdd
  rw [hup_obj _ _ _ h0, hup_obj _ _ _ h1]
set_option maxHeartbeats 8000000 in
theorem gA_0 (h : k ≠ 2) : gAdd D x 0 k = D 0 k := by
  unfold gAdd
  rw [hup_ix _ _ _ h, hup_obj _ _ _ (by omega)]
set_option maxHeartbeats 8000000 in
theorem gA_2 : gAdd D x 0 2 = D 0 2 + 1 := hup_same _ _ _ _
set_option maxHeartbeats 8000000 in
theorem gA_ng (h : 0 ≤ D 0 2) : ng (gAdd D x) = ng D + 1 := by unfold ng; rw [gA_2]; omega
set_option maxHeartbeats 8000000 in
theorem gA_nm : nm (gAdd D x) = nm D := by unfold nm; rw [gA_0 (by omega)]
set_option maxHeartbeats 8000000 in
theorem gA_16 (i : Nat) : gAdd D x 16 i = if i = ng D then x else D 16 i := by
  unfold gAdd
  rw [hup_obj _ _ _ (by omega)]
  unfold hup
  by_cases e : i = ng D
  · rw [if_pos ⟨rfl, e⟩, if_pos e]
  · rw [if_neg (fun q => e q.2), if_neg e]
set_option maxHeartbeats 8000000 in
theorem gA_dV (hv : dV D) (h10 : D 0 2 < 10) (hx : okN x) (h1 : gOf D x = -1) (h2 : mOf D (nm D) x = -1) : dV (gAdd D x) := by
  obtain ⟨⟨c1, c2⟩, c3, c4⟩ := hv
  have hng := gA_ng (x := x) c1.1.1
  have hnm := gA_nm (D := D) (x := x)
  have hngI : (ng D : Int) = D 0 2 := by unfold ng; omega
  refine ⟨⟨by rw [gA_2, gA_0 (by omega), gA_0 (by omega)]; omega, fun m hm => ?_⟩, fun r hr => ?_, ⟨fun i hi => ?_, fun i hi => ?_⟩, fun i j hi hj e => ?_, fun i j hi hj e => ?_, fun i j hi hj e => ?_⟩
  · rw [gA_0 (by omega)] at hm
    have := c2 m hm
    rw [gA_row (by omega) (by omega), hng, Nat.pow_succ]
    omega
  · rw [gA_0 (by omega)] at hr
    obtain ⟨v1, v2, v3, v4, v5, v6, v7⟩ := c3 r hr
    have R := fun (o : Nat) (h0 : o ≠ 0) (h1 : o ≠ 16) => gA_row (D := D) (x := x) h0 h1 r
    rw [R 5 (by omega) (by omega), R 6 (by omega) (by omega), R 7 (by omega) (by omega), R 8 (by omega) (by omega), R 9 (by omega) (by omega), R 10 (by omega) (by omega), R 11 (by omega) (by omega)]
    exact ⟨v1, tvW_mono v2 (by rw [gA_2]; omega) (by rw [gA_0 (by omega)]; omega), tvW_mono v3 (by rw [gA_2]; omega) (by rw [gA_0 (by omega)]; omega), v4, v5, by rw [gA_0 (by omega)]; exact v6, v7⟩
  · rw [gA_16]
    by_cases e : i = ng D
    · rw [if_pos e]; exact hx
    · rw [if_neg e]; exact c4.1.1 i (by omega)
  · rw [hnm] at hi
    rw [gA_row (by omega) (by omega)]
    exact c4.1.2 i hi
  · rw [gA_16, gA_16] at e
    by_cases e1 : i = ng D
    · by_cases e2 : j = ng D
      · omega
      · rw [if_pos e1, if_neg e2] at e
        exact absurd e.symm (gOf_no h1 (by omega))
    · by_cases e2 : j = ng D
      · rw [if_neg e1, if_pos e2] at e
        exact absurd e (gOf_no h1 (by omega))
      · rw [if_neg e1, if_neg e2] at e
        exact c4.2.1 i j (by omega) (by omega) e
  · rw [hnm] at hi hj
    rw [gA_row (by omega) (by omega), gA_row (by omega) (by omega)] at e
    exact c4.2.2.1 i j hi hj e
  · rw [hnm] at hj
    rw [gA_16, gA_row (by omega) (by omega)] at e
    by_cases e1 : i = ng D
    · rw [if_pos e1] at e
      exact absurd e.symm (mOf_no h2 hj)
    · rw [if_neg e1] at e
      exact c4.2.2.2 i j (by omega) hj e
/-! a mark -/
set_option maxHeartbeats 8000000 in
theorem mA_row {o : Nat} (h0 : o ≠ 0) (h1 : o ≠ 17) (h2 : o ≠ 4) (k : Nat) : mAdd D x S o k = D o k := by
  unfold mAdd
  rw [hup_obj _ _ _ h0, hup_obj _ _ _ h2, hup_obj _ _ _ h1]
set_option maxHeartbeats 8000000 in
theorem mA_0 (h : k ≠ 3) : mAdd D x S 0 k = D 0 k := by
  unfold mAdd
  rw [hup_ix _ _ _ h, hup_obj _ _ _ (by omega), hup_obj _ _ _ (by omega)]
set_option maxHeartbeats 8000000 in
theorem mA_3 : mAdd D x S 0 3 = D 0 3 + 1 := hup_same _ _ _ _
set_option maxHeartbeats 8000000 in
theorem mA_nm (h : 0 ≤ D 0 3) : nm (mAdd D x S) = nm D + 1 := by unfold nm; rw [mA_3]; omega
set_option maxHeartbeats 8000000 in
theorem mA_ng : ng (mAdd D x S) = ng D := by unfold ng; rw [mA_0 (by omega)]
set_option maxHeartbeats 8000000 in
theorem mA_17 (i : Nat) : mAdd D x S 17 i = if i = nm D then x else D 17 i := by
  unfold mAdd
  rw [hup_obj _ _ _ (by omega), hup_obj _ _ _ (by omega)]
  unfold hup
  by_cases e : i = nm D
  · rw [if_pos ⟨rfl, e⟩, if_pos e]
  · rw [if_neg (fun q => e q.2), if_neg e]
set_option maxHeartbeats 8000000 in
theorem mA_4 (i : Nat) : mAdd D x S 4 i = if i = nm D then (bt 10 S : Int) else D 4 i := by
  unfold mAdd
  rw [hup_obj _ _ _ (by omega)]
  unfold hup
  by_cases e : i = nm D
  · rw [if_pos ⟨rfl, e⟩, if_pos e]
  · rw [if_neg (fun q => e q.2), if_neg (by omega), if_neg e]
set_option maxHeartbeats 8000000 in
theorem bt_ng (hS : ∀ y, S y = true → y < n) (hn : n ≤ 10) : bt 10 S < 2 ^ n := by
  have h1 : bt 10 S = bt n S := by
    apply Nat.eq_of_testBit_eq
    intro k
    rw [bt_bit, bt_bit]
    by_cases q : k < n
    · rw [decide_eq_true q, decide_eq_true (show k < 10 by omega)]
    · have : S k = false := by
        cases z : S k
        · rfl
        · exact absurd (hS k z) q
      rw [this, Bool.and_false, Bool.and_false]
  rw [h1]; exact bt_lt _ _
set_option maxHeartbeats 8000000 in
theorem mA_dV (hv : dV D) (h5 : D 0 3 < 5) (hx : okN x) (h1 : gOf D x = -1) (h2 : mOf D (nm D) x = -1) (hS : ∀ y, S y = true → y < ng D) : dV (mAdd D x S) := by
  obtain ⟨⟨c1, c2⟩, c3, c4⟩ := hv
  have hnm := mA_nm (x := x) (S := S) c1.2.1.1
  have hng := mA_ng (D := D) (x := x) (S := S)
  have hngI : (ng D : Int) = D 0 2 := by unfold ng; omega
  have hnmI : (nm D : Int) = D 0 3 := by unfold nm; omega
  refine ⟨⟨by rw [mA_3, mA_0 (by omega), mA_0 (by omega)]; omega, fun m hm => ?_⟩, fun r hr => ?_, ⟨fun i hi => ?_, fun i hi => ?_⟩, fun i j hi hj e => ?_, fun i j hi hj e => ?_, fun i j hi hj e => ?_⟩
  · rw [mA_3] at hm
    rw [mA_4, hng]
    by_cases e : m = nm D
    · rw [if_pos e, Int.toNat_natCast]
      exact ⟨by omega, bt_ng hS (by omega)⟩
    · rw [if_neg e]; exact c2 m (by omega)
  · rw [mA_0 (by omega)] at hr
    obtain ⟨v1, v2, v3, v4, v5, v6, v7⟩ := c3 r hr
    have R := fun (o : Nat) (h0 : o ≠ 0) (h1 : o ≠ 17) (h2 : o ≠ 4) => mA_row (D := D) (x := x) (S := S) h0 h1 h2 r
    rw [R 5 (by omega) (by omega) (by omega), R 6 (by omega) (by omega) (by omega), R 7 (by omega) (by omega) (by omega), R 8 (by omega) (by omega) (by omega), R 9 (by omega) (by omega) (by omega), R 10 (by omega) (by omega) (by omega), R 11 (by omega) (by omega) (by omega)]
    exact ⟨v1, tvW_mono v2 (by rw [mA_0 (by omega)]; omega) (by rw [mA_3]; omega), tvW_mono v3 (by rw [mA_0 (by omega)]; omega) (by rw [mA_3]; omega), v4, v5, by rw [mA_3]; omega, v7⟩
  · rw [hng] at hi
    rw [mA_row (by omega) (by omega) (by omega)]
    exact c4.1.1 i hi
  · rw [mA_17]
    by_cases e : i = nm D
    · rw [if_pos e]; exact hx
    · rw [if_neg e]; exact c4.1.2 i (by omega)
  · rw [hng] at hi hj
    rw [mA_row (by omega) (by omega) (by omega), mA_row (by omega) (by omega) (by omega)] at e
    exact c4.2.1 i j hi hj e
  · rw [mA_17, mA_17] at e
    by_cases e1 : i = nm D
    · by_cases e2 : j = nm D
      · omega
      · rw [if_pos e1, if_neg e2] at e
        exact absurd e.symm (mOf_no h2 (by omega))
    · by_cases e2 : j = nm D
      · rw [if_neg e1, if_pos e2] at e
        exact absurd e (mOf_no h2 (by omega))
      · rw [if_neg e1, if_neg e2] at e
        exact c4.2.2.1 i j (by omega) (by omega) e
  · rw [hng] at hi
    rw [mA_17, mA_row (by omega) (by omega) (by omega)] at e
    by_cases e1 : j = nm D
    · rw [if_pos e1] at e
      exact absurd e (gOf_no h1 hi)
    · rw [if_neg e1] at e
      exact c4.2.2.2 i j hi (by omega) e
/-! a rule -/
set_option maxHeartbeats 8000000 in
theorem rA_row {o : Nat} (h0 : o ≠ 0) (h1 : o < 5 ∨ 11 < o) (k : Nat) : rAdd D w a c wt rm un o k = D o k := by
  unfold rAdd
  rw [hup_obj _ _ _ h0, hup_obj _ _ _ (by omega), hup_obj _ _ _ (by omega), hup_obj _ _ _ (by omega), hup_obj _ _ _ (by omega), hup_obj _ _ _ (by omega), hup_obj _ _ _ (by omega), hup_obj _ _ _ (by omega)]
set_option maxHeartbeats 8000000 in
theorem rA_0 (h : k ≠ 4) : rAdd D w a c wt rm un 0 k = D 0 k := by
  unfold rAdd
  rw [hup_ix _ _ _ h, hup_obj _ _ _ (by omega), hup_obj _ _ _ (by omega), hup_obj _ _ _ (by omega), hup_obj _ _ _ (by omega), hup_obj _ _ _ (by omega), hup_obj _ _ _ (by omega), hup_obj _ _ _ (by omega)]
set_option maxHeartbeats 8000000 in
theorem rA_4 : rAdd D w a c wt rm un 0 4 = D 0 4 + 1 := hup_same _ _ _ _
set_option maxHeartbeats 8000000 in
theorem rA_old (o : Nat) (h : k ≠ nr D) (ho : o ≠ 0) : rAdd D w a c wt rm un o k = D o k := by
  unfold rAdd
  rw [hup_obj _ _ _ ho]
  simp only [hup, h, and_false, if_false]
set_option maxHeartbeats 8000000 in
theorem rA_new : rAdd D w a c wt rm un 5 (nr D) = (w : Int) ∧ rAdd D w a c wt rm un 6 (nr D) = a ∧ rAdd D w a c wt rm un 7 (nr D) = c ∧ rAdd D w a c wt rm un 8 (nr D) = wt ∧ rAdd D w a c wt rm un 9 (nr D) = rm ∧ rAdd D w a c wt rm un 10 (nr D) = un ∧ rAdd D w a c wt rm un 11 (nr D) = 0 := by
  unfold rAdd
  simp [hup]
set_option maxHeartbeats 8000000 in
theorem rA_ng : ng (rAdd D w a c wt rm un) = ng D := by unfold ng; rw [rA_0 (by omega)]
set_option maxHeartbeats 8000000 in
theorem rA_nm : nm (rAdd D w a c wt rm un) = nm D := by unfold nm; rw [rA_0 (by omega)]
set_option maxHeartbeats 8000000 in
theorem rA_nr (h : 0 ≤ D 0 4) : nr (rAdd D w a c wt rm un) = nr D + 1 := by unfold nr; rw [rA_4]; omega
set_option maxHeartbeats 8000000 in
theorem rA_dV (hv : dV D) (h12 : D 0 4 < 12) (hw : w ≤ 2) (ha : tvW D a) (hc : tvW D c) (hwt : 1 ≤ wt ∧ wt ≤ 9) (hrm : -1 ≤ rm ∧ rm ≤ 3) (hun : -1 ≤ un ∧ un < D 0 3) : dV (rAdd D w a c wt rm un) := by
  obtain ⟨⟨c1, c2⟩, c3, c4⟩ := hv
  have hng := rA_ng (D := D) (w := w) (a := a) (c := c) (wt := wt) (rm := rm) (un := un)
  have hnm := rA_nm (D := D) (w := w) (a := a) (c := c) (wt := wt) (rm := rm) (un := un)
  have hnr : (nr D : Int) = D 0 4 := by unfold nr; omega
  refine ⟨⟨by rw [rA_4, rA_0 (by omega), rA_0 (by omega)]; omega, fun m hm => ?_⟩, fun r hr => ?_, ⟨fun i hi => ?_, fun i hi => ?_⟩, fun i j hi hj e => ?_, fun i j hi hj e => ?_, fun i j hi hj e => ?_⟩
  · rw [rA_0 (by omega)] at hm
    rw [rA_row (by omega) (by omega), hng]
    exact c2 m hm
  · rw [rA_4] at hr
    have hW : ∀ u, tvW D u → tvW (rAdd D w a c wt rm un) u := fun u hu => tvW_mono hu (by rw [rA_0 (by omega)]; omega) (by rw [rA_0 (by omega)]; omega)
    by_cases e : r = nr D
    · rw [e]
      obtain ⟨k5, k6, k7, k8, k9, k10, k11⟩ := rA_new (D := D) (w := w) (a := a) (c := c) (wt := wt) (rm := rm) (un := un)
      rw [k5, k6, k7, k8, k9, k10, k11, rA_0 (by omega)]
      exact ⟨by omega, hW _ ha, hW _ hc, hwt, hrm, hun, Or.inl rfl⟩
    · obtain ⟨v1, v2, v3, v4, v5, v6, v7⟩ := c3 r (by omega)
      have R := fun (o : Nat) (ho : o ≠ 0) => rA_old (w := w) (a := a) (c := c) (wt := wt) (rm := rm) (un := un) o e ho
      rw [R 5 (by omega), R 6 (by omega), R 7 (by omega), R 8 (by omega), R 9 (by omega), R 10 (by omega), R 11 (by omega), rA_0 (by omega)]
      exact ⟨v1, hW _ v2, hW _ v3, v4, v5, v6, v7⟩
  · rw [hng] at hi
    rw [rA_row (by omega) (by omega)]
    exact c4.1.1 i hi
  · rw [hnm] at hi
    rw [rA_row (by omega) (by omega)]
    exact c4.1.2 i hi
  · rw [hng] at hi hj
    rw [rA_row (by omega) (by omega), rA_row (by omega) (by omega)] at e
    exact c4.2.1 i j hi hj e
  · rw [hnm] at hi hj
    rw [rA_row (by omega) (by omega), rA_row (by omega) (by omega)] at e
    exact c4.2.2.1 i j hi hj e
  · rw [hng] at hi
    rw [hnm] at hj
    rw [rA_row (by omega) (by omega), rA_row (by omega) (by omega)] at e
    exact c4.2.2.2 i j hi hj e
end
