/-! ===== layer 2: the text: the model reads a guest ===== -/
section
variable {T D D' : Tb} {I I' I'' : Nat → Nat → Int32} {J J' J'' : Nat → Nat → Int64} {b d v : Bool} {f k n i j e t s w M K r y : Nat} {m g h a c o lo hi x wt rm un : Int} {S F G : Nat → Bool} {q : Int32} {z : Nat × Tb}
/-- the model reads: what was read, where it stands -/
def mrR (T D : Tb) (t : Nat) (I : Nat → Nat → Int32) (J : Nat → Nat → Int64) : Prop := ((mA T I ∧ tkM T t I) ∧ I 132 4 = iI (-1)) ∧ (I 161 1 = iI (D 0 2) ∧ I 162 1 = iI (D 0 3) ∧ I 163 1 = iI (D 0 4)) ∧ ((∀ i, i < ng D → J 136 i = lI (D 16 i)) ∧ ∀ i, i < nm D → J 139 i = lI (D 17 i)) ∧ (∀ i, i < nm D → I 142 i = iI ((D 4 i).toNat : Int)) ∧ ∀ r, r < nr D → I 145 r = iI (D 5 r) ∧ I 148 r = iI (D 6 r) ∧ I 151 r = iI (D 7 r) ∧ I 154 r = iI (D 8 r) ∧ I 157 r = iI (D 9 r) ∧ I 160 r = iI (D 10 r)
def rwS (o : Nat) : Prop := o = 142 ∨ o = 145 ∨ o = 148 ∨ o = 151 ∨ o = 154 ∨ o = 157 ∨ o = 160
/-- what the model's reading leaves as it was -/
def mF (I : Nat → Nat → Int32) (J : Nat → Nat → Int64) (I' : Nat → Nat → Int32) (J' : Nat → Nat → Int64) : Prop := (∀ o k, ¬ (o = 132 ∧ 2 ≤ k ∧ k ≤ 5) → ¬ rwS o → ¬ ((o = 161 ∨ o = 162 ∨ o = 163) ∧ k = 1) → I' o k = I o k) ∧ ∀ o k, o ≠ 136 → o ≠ 139 → J' o k = J o k
set_option maxRecDepth 20000 in
set_option maxHeartbeats 8000000 in
theorem mF.refl : mF I J I J := ⟨fun _ _ _ _ _ => rfl, fun _ _ _ _ => rfl⟩
set_option maxRecDepth 20000 in
set_option maxHeartbeats 8000000 in
theorem mF.trans (h : mF I J I' J') (h' : mF I' J' I'' J'') : mF I J I'' J'' := ⟨fun o k a1 a2 a3 => (h'.1 o k a1 a2 a3).trans (h.1 o k a1 a2 a3), fun o k a1 a2 => (h'.2 o k a1 a2).trans (h.2 o k a1 a2)⟩
set_option maxRecDepth 20000 in
set_option maxHeartbeats 8000000 in
theorem mF.fr (h : frM zT sA I I') : mF I J I' J := ⟨fun o k a1 a2 a3 => by
  by_cases e : o = 132
  · subst e; exact h.2 k (by omega)
  · exact h.1 o ⟨e, trivial⟩ k, fun _ _ _ _ => rfl⟩
set_option maxRecDepth 20000 in
set_option maxHeartbeats 8000000 in
theorem mF.fld (h : mF I J I' J') (hk : 2 ≤ k ∧ k ≤ 5) : mF I J (hup I' 132 k q) J' := ⟨fun o j a1 a2 a3 => by
  unfold hup
  rw [if_neg (by omega)]; exact h.1 o j a1 a2 a3, h.2⟩
set_option maxRecDepth 20000 in
set_option maxHeartbeats 8000000 in
theorem mF.row (h : mF I J I' J') {o : Nat} (ho : rwS o) : mF I J (hup I' o k q) J' := ⟨fun p j a1 a2 a3 => by
  rw [hup_obj _ _ _ (fun e : p = o => a2 (by rw [e]; exact ho))]; exact h.1 p j a1 a2 a3, h.2⟩
set_option maxRecDepth 20000 in
set_option maxHeartbeats 8000000 in
theorem mF.cnt (h : mF I J I' J') {o : Nat} (ho : o = 161 ∨ o = 162 ∨ o = 163) : mF I J (hup I' o 1 q) J' := ⟨fun p j a1 a2 a3 => by
  unfold hup
  rw [if_neg (by omega)]; exact h.1 p j a1 a2 a3, h.2⟩
set_option maxRecDepth 20000 in
set_option maxHeartbeats 8000000 in
theorem mF.nam (h : mF I J I' J') {o : Nat} {v : Int64} (ho : o = 136 ∨ o = 139) : mF I J I' (hup J' o k v) := ⟨h.1, fun p j a1 a2 => by
  rw [hup_obj _ _ _ (by omega)]; exact h.2 p j a1 a2⟩
set_option maxRecDepth 20000 in
set_option maxHeartbeats 8000000 in
theorem rw_no {o : Nat} (h : o ≠ 142 ∧ o ≠ 145 ∧ o ≠ 148 ∧ o ≠ 151 ∧ o ≠ 154 ∧ o ≠ 157 ∧ o ≠ 160) : ¬ rwS o := by unfold rwS; omega
set_option maxRecDepth 20000 in
set_option maxHeartbeats 8000000 in
theorem EM.mF (E : EM T I) (h : mF I J I' J') : EM T I' := by
  obtain ⟨⟨eA, eB⟩, ⟨eC, eD⟩, eE⟩ := E
  have a := h.1
  have A := fun (o k : Nat) (h1 : ¬ (o = 132 ∧ 2 ≤ k ∧ k ≤ 5)) (h2 : o ≠ 142 ∧ o ≠ 145 ∧ o ≠ 148 ∧ o ≠ 151 ∧ o ≠ 154 ∧ o ≠ 157 ∧ o ≠ 160) (h3 : ¬ ((o = 161 ∨ o = 162 ∨ o = 163) ∧ k = 1)) => a o k h1 (rw_no h2) h3
  refine ⟨⟨⟨(A 132 1 (by omega) (by omega) (by omega)).trans eA.1, fun k hk => (A 133 k (by omega) (by omega) (by omega)).trans (eA.2 k hk)⟩, ⟨(A 132 26 (by omega) (by omega) (by omega)).trans eB.1, fun k hk => ⟨(A 170 k (by omega) (by omega) (by omega)).trans (eB.2 k hk).1, (A 171 k (by omega) (by omega) (by omega)).trans (eB.2 k hk).2⟩⟩⟩, ⟨⟨⟨(A 161 0 (by omega) (by omega) (by omega)).trans eC.1.1, (A 162 0 (by omega) (by omega) (by omega)).trans eC.1.2.1, (A 163 0 (by omega) (by omega) (by omega)).trans eC.1.2.2⟩, fun m hm => (A 141 m (by omega) (by omega) (by omega)).trans (eC.2 m hm)⟩, fun r hr => ?_⟩, fun g hg => ?_⟩
  · obtain ⟨h1, h2, h3, h4, h5, h6, h7⟩ := eD r hr
    exact ⟨(A 144 r (by omega) (by omega) (by omega)).trans h1, (A 147 r (by omega) (by omega) (by omega)).trans h2, (A 150 r (by omega) (by omega) (by omega)).trans h3, (A 153 r (by omega) (by omega) (by omega)).trans h4, (A 156 r (by omega) (by omega) (by omega)).trans h5, (A 159 r (by omega) (by omega) (by omega)).trans h6, (A 165 r (by omega) (by omega) (by omega)).trans h7⟩
  · obtain ⟨h1, h2, h3, h4⟩ := eE g hg
    exact ⟨(A 166 g (by omega) (by omega) (by omega)).trans h1, (A 167 g (by omega) (by omega) (by omega)).trans h2, (A 168 g (by omega) (by omega) (by omega)).trans h3, (A 169 g (by omega) (by omega) (by omega)).trans h4⟩
/-- a change that reading makes: only where the next thing comes -/
theorem mrR.go (R : mrR T D t I J) (hA : mA T I') (hk : tkM T e I') (h4 : I' 132 4 = iI (-1)) (h1 : I' 161 1 = I 161 1 ∧ I' 162 1 = I 162 1 ∧ I' 163 1 = I 163 1) (h2 : (∀ i, i < ng D → J' 136 i = J 136 i) ∧ ∀ i, i < nm D → J' 139 i = J 139 i) (h3 : ∀ i, i < nm D → I' 142 i = I 142 i) (h5 : ∀ r o, r < nr D → (o = 145 ∨ o = 148 ∨ o = 151 ∨ o = 154 ∨ o = 157 ∨ o = 160) → I' o r = I o r) : mrR T D e I' J' := by
  obtain ⟨_, ⟨r1, r2, r3⟩, ⟨r4, r5⟩, r6, r7⟩ := R
  refine ⟨⟨⟨hA, hk⟩, h4⟩, ⟨h1.1.trans r1, h1.2.1.trans r2, h1.2.2.trans r3⟩, ⟨fun i hi => (h2.1 i hi).trans (r4 i hi), fun i hi => (h2.2 i hi).trans (r5 i hi)⟩, fun i hi => (h3 i hi).trans (r6 i hi), fun r hr => ?_⟩
  obtain ⟨k1, k2, k3, k4, k5, k6⟩ := r7 r hr
  exact ⟨(h5 r 145 hr (by omega)).trans k1, (h5 r 148 hr (by omega)).trans k2, (h5 r 151 hr (by omega)).trans k3, (h5 r 154 hr (by omega)).trans k4, (h5 r 157 hr (by omega)).trans k5, (h5 r 160 hr (by omega)).trans k6⟩
set_option maxRecDepth 20000 in
set_option maxHeartbeats 8000000 in
theorem mrR.fr (R : mrR T D t I J) (ha : frM zT sA I I') (hk : tkM T e I') : mrR T D e I' J := by
  have a : ∀ o k, o ≠ 132 → I' o k = I o k := fun o k ho => ha.1 o ⟨ho, trivial⟩ k
  exact R.go (R.1.1.1.frT ha) hk ((ha.2 4 (by omega)).trans R.1.2) ⟨a _ _ (by omega), a _ _ (by omega), a _ _ (by omega)⟩ ⟨fun _ _ => rfl, fun _ _ => rfl⟩ (fun i _ => a _ _ (by omega)) (fun r o _ ho => a _ _ (by omega))
set_option maxRecDepth 20000 in
set_option maxHeartbeats 8000000 in
theorem mrR.val (R : mrR T D t I J) : mrR T D t (hup I 132 5 q) J := R.go ⟨by rw [hup_ix _ _ _ (by omega)]; exact R.1.1.1.1, fun k hk => (hup_obj _ _ _ (by omega)).trans (R.1.1.1.2 k hk)⟩ ⟨⟨(hup_ix _ _ _ (by omega)).trans R.1.1.2.1.1, (hup_ix _ _ _ (by omega)).trans R.1.1.2.1.2⟩, R.1.1.2.2⟩ ((hup_ix _ _ _ (by omega)).trans R.1.2) ⟨hup_obj _ _ _ (by omega), hup_obj _ _ _ (by omega), hup_obj _ _ _ (by omega)⟩ ⟨fun _ _ => rfl, fun _ _ => rfl⟩ (fun i _ => hup_obj _ _ _ (by omega)) (fun r o _ ho => hup_obj _ _ _ (by omega))
set_option maxRecDepth 20000 in
set_option maxHeartbeats 8000000 in
theorem mrR.row (R : mrR T D t I J) {o : Nat} (ho : o ≠ 132 ∧ o ≠ 133 ∧ o ≠ 161 ∧ o ≠ 162 ∧ o ≠ 163) (hk : (o = 142 → nm D ≤ k) ∧ (o ≠ 142 → nr D ≤ k)) : mrR T D t (hup I o k q) J := R.go ⟨by rw [hup_obj _ _ _ (by omega)]; exact R.1.1.1.1, fun k hk => (hup_obj _ _ _ (by omega)).trans (R.1.1.1.2 k hk)⟩ ⟨⟨(hup_obj _ _ _ (by omega)).trans R.1.1.2.1.1, (hup_obj _ _ _ (by omega)).trans R.1.1.2.1.2⟩, R.1.1.2.2⟩ ((hup_obj _ _ _ (by omega)).trans R.1.2) ⟨hup_obj _ _ _ (by omega), hup_obj _ _ _ (by omega), hup_obj _ _ _ (by omega)⟩ ⟨fun _ _ => rfl, fun _ _ => rfl⟩ (fun i hi => by
  by_cases e : o = 142
  · rw [hup_ix _ _ _ (by have := hk.1 e; omega)]
  · exact hup_obj _ _ _ (by omega)) (fun r p hr hp => by
  by_cases e : o = 142
  · exact hup_obj _ _ _ (by omega)
  · rw [hup_ix _ _ _ (by have := hk.2 e; omega)])
set_option maxRecDepth 20000 in
set_option maxHeartbeats 8000000 in
theorem mrR.nam (R : mrR T D t I J) {o : Nat} {v : Int64} (hk : (o = 136 → ng D ≤ k) ∧ (o ≠ 136 → nm D ≤ k)) : mrR T D t I (hup J o k v) := R.go R.1.1.1 R.1.1.2 R.1.2 ⟨rfl, rfl, rfl⟩ ⟨fun i hi => by
  by_cases e : o = 136
  · rw [hup_ix _ _ _ (by have := hk.1 e; omega)]
  · exact hup_obj _ _ _ (by omega), fun i hi => by
  by_cases e : o = 136
  · exact hup_obj _ _ _ (by omega)
  · rw [hup_ix _ _ _ (by have := hk.2 e; omega)]⟩ (fun _ _ => rfl) (fun _ _ _ _ => rfl)
set_option maxRecDepth 20000 in
set_option maxHeartbeats 8000000 in
theorem mrR.pass (R : mrR T D t I J) (ht : tvA T) : ∃ I', Mo_passes S0 (some 132) (bI true) (I, J, Pst b f) = some (iI 1, (I', J, Pst b f)) ∧ frM zT sA I I' ∧ mrR T D (adv T t) I' J := by
  obtain ⟨I1, a1, a2, a3⟩ := mo_passT (J := J) (b := b) (f := f) R.1.1.1 R.1.1.2 ht
  exact ⟨I1, a1, a2, R.fr a2 a3⟩
set_option maxRecDepth 20000 in
set_option maxHeartbeats 8000000 in
theorem mrR.fail (R : mrR T D t I J) : Mo_passes S0 (some 132) (bI false) (I, J, Pst b f) = some (iI 0, (hup I 132 4 (iI (t : Int)), J, Pst b f)) := mo_passF R.1.2 R.1.1.2
/-- the answer of a reading -/
def rzM (T : Tb) (q : Int32) (I : Nat → Nat → Int32) (J : Nat → Nat → Int64) (r : Rd) : Prop := match r with
  | .inl u => q = iI 0 ∧ I 132 4 = iI (u : Int)
  | .inr z => q = iI 1 ∧ mrR T z.2 z.1 I J
set_option maxRecDepth 20000 in
set_option maxHeartbeats 8000000 in
theorem okN_rg (h : okN c) : rg6 c ∧ -1 < c := by
  have h1 := h.1
  have h2 := h.2.1
  unfold HUG at h2
  unfold rg6
  omega
set_option maxRecDepth 20000 in
set_option maxHeartbeats 8000000 in
theorem mo_guestOf (R : mrR T D t I J) (dv : dV D) (hx : rg6 x) : Mo_guestOf S0 (some 132) (lI x) (I, J, Pst b f) = some (iI (gOf D x)) := by
  have h00 := dv.1.1
  have hngI : (ng D : Int) = D 0 2 := by unfold ng; omega
  have hse := jsearch (body := Mo_guestOf_L2 S0 (some 132) (lI x) (I, J, Pst b f)) (ng D) (fun k => decide (D 16 k = x)) (fun k => iI (k : Int)) (fun k hk => ?_) ?_ (by omega)
  · have hse' : jloop (Mo_guestOf_L2 S0 (some 132) (lI x) (I, J, Pst b f)) jN 0 = some (if fst_ (ng D) (fun k => decide (D 16 k = x)) < ng D then .inr (iI (fst_ (ng D) (fun k => decide (D 16 k = x)) : Int)) else .inl ()) := hse
    unfold Mo_guestOf
    rw [rc132, Option.bind_some, hse', Option.bind_some]
    unfold gOf
    by_cases q : fst_ (ng D) (fun k => decide (D 16 k = x)) < ng D
    · rw [if_pos q, if_pos q, Sum.elim_inr]
    · rw [if_neg q, if_neg q, Sum.elim_inl, n_1, iI_neg]
  · have hj := R.2.2.1.1 k hk
    have hok := okN_rg (dv.2.2.1.1 k hk)
    have h161 : aI S0 (I, J, Pst b f) (some 161) 1 = some (I 161 1) := ld161 (a := 1) (by omega)
    have har : aR S0 108 (I, J, Pst b f) (some 134) 1 = some (some 136) := ar134_1
    unfold Mo_guestOf_L2
    rw [gr132_15, Option.bind_some, h161, R.2.1.1, Option.bind_some, if_neg (by rw [iI_le (by omega)]; omega), gr132_6, Option.bind_some, har, Option.bind_some, ld136 (by omega), Int.toNat_natCast, hj, Option.bind_some, cmpI ⟨hok.1, hx⟩]
    by_cases z : D 16 k = x
    · rw [if_neg (show ¬ D 16 k < x by omega), if_pos z, if_pos (by rfl), decide_eq_true z]; rfl
    · rw [decide_eq_false z]
      by_cases z2 : D 16 k < x
      · rw [if_pos z2, if_neg (by decide), n_1, iI_add]; rfl
      · rw [if_neg z2, if_neg z, if_neg (by decide), n_1, iI_add]; rfl
  · have h161 : aI S0 (I, J, Pst b f) (some 161) 1 = some (I 161 1) := ld161 (a := 1) (by omega)
    unfold Mo_guestOf_L2
    rw [gr132_15, Option.bind_some, h161, R.2.1.1, Option.bind_some, if_pos (by rw [iI_le (by omega)]; omega)]
set_option maxRecDepth 20000 in
set_option maxHeartbeats 8000000 in
theorem mo_markOf (R : mrR T D t I J) (dv : dV D) (hx : rg6 x) : Mo_markOf S0 (some 132) (lI x) (I, J, Pst b f) = some (iI (mOf D (nm D) x)) := by
  have h00 := dv.1.1
  have hnmI : (nm D : Int) = D 0 3 := by unfold nm; omega
  have hse := jsearch (body := Mo_markOf_L2 S0 (some 132) (lI x) (I, J, Pst b f)) (nm D) (fun k => decide (D 17 k = x)) (fun k => iI (k : Int)) (fun k hk => ?_) ?_ (by omega)
  · have hse' : jloop (Mo_markOf_L2 S0 (some 132) (lI x) (I, J, Pst b f)) jN 0 = some (if fst_ (nm D) (fun k => decide (D 17 k = x)) < nm D then .inr (iI (fst_ (nm D) (fun k => decide (D 17 k = x)) : Int)) else .inl ()) := hse
    unfold Mo_markOf
    rw [rc132, Option.bind_some, hse', Option.bind_some]
    unfold mOf
    by_cases q : fst_ (nm D) (fun k => decide (D 17 k = x)) < nm D
    · rw [if_pos q, if_pos q, Sum.elim_inr]
    · rw [if_neg q, if_neg q, Sum.elim_inl, n_1, iI_neg]
  · have hj := R.2.2.1.2 k hk
    have hok := okN_rg (dv.2.2.1.2 k hk)
    have h162 : aI S0 (I, J, Pst b f) (some 162) 1 = some (I 162 1) := ld162 (a := 1) (by omega)
    have har : aR S0 108 (I, J, Pst b f) (some 137) 1 = some (some 139) := ar137_1
    unfold Mo_markOf_L2
    rw [gr132_16, Option.bind_some, h162, R.2.1.2.1, Option.bind_some, if_neg (by rw [iI_le (by omega)]; omega), gr132_7, Option.bind_some, har, Option.bind_some, ld139 (by omega), Int.toNat_natCast, hj, Option.bind_some, cmpI ⟨hok.1, hx⟩]
    by_cases z : D 17 k = x
    · rw [if_neg (show ¬ D 17 k < x by omega), if_pos z, if_pos (by rfl), decide_eq_true z]; rfl
    · rw [decide_eq_false z]
      by_cases z2 : D 17 k < x
      · rw [if_pos z2, if_neg (by decide), n_1, iI_add]; rfl
      · rw [if_neg z2, if_neg z, if_neg (by decide), n_1, iI_add]; rfl
  · have h162 : aI S0 (I, J, Pst b f) (some 162) 1 = some (I 162 1) := ld162 (a := 1) (by omega)
    unfold Mo_markOf_L2
    rw [gr132_16, Option.bind_some, h162, R.2.1.2.1, Option.bind_some, if_pos (by rw [iI_le (by omega)]; omega)]
set_option maxRecDepth 20000 in
set_option maxHeartbeats 8000000 in
theorem cmp_m1 (hx : rg6 x) : (lg_cmp (lI x) (-1) = 0) = (x = -1) := by
  rw [l_1, lI_neg, cmpI ⟨hx, by unfold rg6; omega⟩]
  by_cases e : x = -1
  · rw [if_neg (by omega), if_pos e]; exact propext ⟨fun _ => e, fun _ => rfl⟩
  · by_cases e2 : x < -1
    · rw [if_pos e2]; exact propext ⟨fun q => absurd q (by decide), fun q => absurd q e⟩
    · rw [if_neg e2, if_neg e]; exact propext ⟨fun q => absurd q (by decide), fun q => absurd q e⟩
set_option maxRecDepth 20000 in
set_option maxHeartbeats 8000000 in
theorem nmd_6 (ht : tvA T) : rg6 (nmd T t) := by
  have := nmd_rg (t := t) ht
  unfold HUG at this
  unfold rg6
  omega
set_option maxRecDepth 20000 in
set_option maxHeartbeats 8000000 in
theorem mo_isNew (R : mrR T D e I J) (dv : dV D) (ht : tvA T) : Mo_isNew S0 (some 132) (lI (nmd T t)) (I, J, Pst b f) = some (bI (isNw T D t)) := by
  have h6 := nmd_6 (t := t) ht
  have hg := gOf_rg (D := D) (x := nmd T t)
  have hm := mOf_rg (D := D) (M := nm D) (x := nmd T t)
  have h00 := dv.1.1
  have hngI : (ng D : Int) = D 0 2 := by unfold ng; omega
  have hnmI : (nm D : Int) = D 0 3 := by unfold nm; omega
  unfold Mo_isNew isNw
  rw [rc132, Option.bind_some]
  by_cases e1 : nmd T t = -1
  · rw [if_pos (by rw [cmp_m1 h6]; exact e1), decide_eq_false (fun q => q e1), Bool.false_and]; rfl
  · rw [if_neg (by rw [cmp_m1 h6]; exact e1), decide_eq_true (show nmd T t ≠ -1 from e1), Bool.true_and, mo_guestOf R dv h6, Option.bind_some]
    by_cases e2 : gOf D (nmd T t) = -1
    · rw [if_pos (by rw [e2]; rfl), mo_markOf R dv h6, Option.bind_some]
      by_cases e3 : mOf D (nm D) (nmd T t) = -1
      · rw [if_pos (by rw [e3]; rfl), decide_eq_true (by rw [mea_no]; exact ⟨e2, e3⟩)]; rfl
      · rw [if_neg (by rw [n_1, iI_neg, iI_eq (by omega)]; exact e3), decide_eq_false (by rw [mea_no]; exact fun q => e3 q.2)]; rfl
    · rw [if_neg (by rw [n_1, iI_neg, iI_eq (by omega)]; exact e2), decide_eq_false (by rw [mea_no]; exact fun q => e2 q.1)]; rfl
set_option maxRecDepth 20000 in
set_option maxHeartbeats 8000000 in
theorem mo_guestRead (R : mrR T D t I J) (dv : dV D) (ht : tvA T) (h10 : D 0 2 < 10) : ∃ q I' J', Mo_guestRead S0 (some 132) (I, J, Pst b f) = some (q, (I', J', Pst b f)) ∧ mF I J I' J' ∧ rzM T q I' J' (if isNw T D t = true then (if kd T (adv T t) = 3 then .inr (adv T (adv T t), gAdd D (nmd T t)) else .inl (adv T t)) else .inl t) := by
  have h00 := dv.1.1
  have hngI : (ng D : Int) = D 0 2 := by unfold ng; omega
  have hna := mo_named (J := J) (b := b) (f := f) R.1.1.1 R.1.1.2 ht
  have hnw := mo_isNew (t := t) (b := b) (f := f) R dv ht
  have hpre : ∀ Y, ((Mo_passes S0 (some 132) (bI (isNw T D t)) (I, J, Pst b f)).bind fun w5 => if w5.1 = 0 then (some (0, w5.2)) else ((gR S0 12 6 w5.2 (some 132)).bind fun x7 => (aR S0 108 w5.2 x7 1).bind fun x8 => (gR S0 12 15 w5.2 (some 132)).bind fun x9 => (aI S0 w5.2 x9 1).bind fun x10 => (sL S0 w5.2 x8 x10 (lI (nmd T t))).bind fun V11 => (gR S0 12 15 V11 (some 132)).bind fun x12 => (aI S0 V11 x12 1).bind fun x13 => (sI S0 V11 x12 1 (x13 + 1)).bind fun V14 => (Mo_closes S0 (some 132) V14).bind fun w15 => some (w15.1 &&& 1, w15.2))) = Y → Mo_guestRead S0 (some 132) (I, J, Pst b f) = Y := fun Y hY => by
    unfold Mo_guestRead
    rw [rc132, Option.bind_some, hna, Option.bind_some, hnw, Option.bind_some]
    exact hY
  cases ew : isNw T D t
  · rw [ew] at hpre
    rw [if_neg (by decide)]
    refine ⟨iI 0, hup I 132 4 (iI (t : Int)), J, hpre _ ?_, mF.refl.fld (by omega), rfl, hup_same _ _ _ _⟩
    rw [R.fail, Option.bind_some, if_pos (by rfl)]
    rfl
  · rw [ew] at hpre
    rw [if_pos rfl]
    have hn := isNw_t ew
    obtain ⟨I1, a1, a2, R1⟩ := R.pass (b := b) (f := f) ht
    have h161 : ∀ J', aI S0 (I1, J', Pst b f) (some 161) 1 = some (iI (D 0 2)) := fun J' => (ld161 (a := 1) (by omega)).trans (congrArg some R1.2.1.1)
    have har : aR S0 108 (I1, J, Pst b f) (some 134) 1 = some (some 136) := ar134_1
    have hst : ∀ J', sI S0 (I1, J', Pst b f) (some 161) 1 (iI (D 0 2 + 1)) = some (hup I1 161 1 (iI (D 0 2 + 1)), J', Pst b f) := fun J' => st161 (a := 1) (by omega)
    have hsl : sL S0 (I1, J, Pst b f) (some 136) (iI (D 0 2)) (lI (nmd T t)) = some (I1, hup J 136 (ng D) (lI (nmd T t)), Pst b f) := by
      rw [st136 (by omega)]; rfl
    have hk2 : tkM T (adv T t) (hup I1 161 1 (iI (D 0 2 + 1))) := ⟨⟨(hup_obj _ _ _ (by omega)).trans R1.1.1.2.1.1, (hup_obj _ _ _ (by omega)).trans R1.1.1.2.1.2⟩, R1.1.1.2.2⟩
    have R2 : mrR T (gAdd D (nmd T t)) (adv T t) (hup I1 161 1 (iI (D 0 2 + 1))) (hup J 136 (ng D) (lI (nmd T t))) := by
      have hng := gA_ng (D := D) (x := nmd T t) h00.1.1
      have hnm := gA_nm (D := D) (x := nmd T t)
      have hnr : nr (gAdd D (nmd T t)) = nr D := by unfold nr; rw [gA_0 (by omega)]
      refine ⟨⟨⟨⟨(hup_obj _ _ _ (by omega)).trans R1.1.1.1.1, fun k hk => (hup_obj _ _ _ (by omega)).trans (R1.1.1.1.2 k hk)⟩, hk2⟩, (hup_obj _ _ _ (by omega)).trans R1.1.2⟩, ⟨?_, ?_, ?_⟩, ⟨fun i hi => ?_, fun i hi => ?_⟩, fun i hi => ?_, fun r hr => ?_⟩
      · rw [hup_same, gA_2]
      · rw [hup_obj _ _ _ (by omega), gA_0 (by omega)]; exact R1.2.1.2.1
      · rw [hup_obj _ _ _ (by omega), gA_0 (by omega)]; exact R1.2.1.2.2
      · rw [gA_16]
        by_cases e : i = ng D
        · rw [e, hup_same, if_pos rfl]
        · rw [hup_ix _ _ _ e, if_neg e]; exact R1.2.2.1.1 i (by omega)
      · rw [hnm] at hi
        rw [hup_obj _ _ _ (by omega), gA_row (by omega) (by omega)]; exact R1.2.2.1.2 i hi
      · rw [hnm] at hi
        rw [hup_obj _ _ _ (by omega), gA_row (by omega) (by omega)]; exact R1.2.2.2.1 i hi
      · rw [hnr] at hr
        have Q := fun (o : Nat) (h0 : o ≠ 0) (h1 : o ≠ 16) => gA_row (D := D) (x := nmd T t) h0 h1 r
        rw [Q 5 (by omega) (by omega), Q 6 (by omega) (by omega), Q 7 (by omega) (by omega), Q 8 (by omega) (by omega), Q 9 (by omega) (by omega), Q 10 (by omega) (by omega), hup_obj _ _ _ (by omega), hup_obj _ _ _ (by omega), hup_obj _ _ _ (by omega), hup_obj _ _ _ (by omega), hup_obj _ _ _ (by omega), hup_obj _ _ _ (by omega)]
        exact R1.2.2.2.2 r hr
    have fr2 : mF I J (hup I1 161 1 (iI (D 0 2 + 1))) (hup J 136 (ng D) (lI (nmd T t))) := ((mF.fr a2).cnt (Or.inl rfl)).nam (Or.inl rfl)
    have hpre2 : ∀ Y, ((Mo_closes S0 (some 132) (hup I1 161 1 (iI (D 0 2 + 1)), hup J 136 (ng D) (lI (nmd T t)), Pst b f)).bind fun w15 => some (w15.1 &&& 1, w15.2)) = Y → Mo_guestRead S0 (some 132) (I, J, Pst b f) = Y := fun Y hY => hpre Y (by
      rw [a1, Option.bind_some, if_neg (show ¬ iI 1 = 0 by decide), gr132_6, Option.bind_some, har, Option.bind_some, gr132_15, Option.bind_some, h161, Option.bind_some, hsl, Option.bind_some, gr132_15, Option.bind_some, h161, Option.bind_some, show iI (D 0 2) + (1 : Int32) = iI (D 0 2 + 1) by rw [n_1, iI_add], hst, Option.bind_some]
      exact hY)
    by_cases es : kd T (adv T t) = 3
    · rw [if_pos es]
      obtain ⟨I3, c1, c2, c3⟩ := mo_closesT (J := hup J 136 (ng D) (lI (nmd T t))) (b := b) (f := f) R2.1.1.1 R2.1.1.2 ht es
      refine ⟨iI 1, I3, _, hpre2 _ ?_, fr2.trans (mF.fr c2), rfl, R2.fr c2 c3⟩
      rw [c1, Option.bind_some]
      exact w11 _
    · rw [if_neg es]
      refine ⟨iI 0, _, _, hpre2 _ ?_, fr2.fld (k := 4) (q := iI ((adv T t : Nat) : Int)) (by omega), rfl, hup_same _ _ _ _⟩
      rw [mo_closesF R2.1.1.1 R2.1.2 R2.1.1.2 ht es, Option.bind_some]
      exact w01 _
end
