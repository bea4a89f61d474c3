/-! ===== layer 2: the text: the class reads a mark ===== -/
section
variable {T D D' : Tb} {I I' I'' : Nat → Nat → Int32} {J J' J'' : Nat → Nat → Int64} {b d v : Bool} {f k n i j e t s w M K r y z : Nat} {m g h a c o lo hi x wt rm un : Int} {S : Nat → Bool} {q : Int32}
set_option maxRecDepth 20000 in
set_option maxHeartbeats 8000000 in
theorem cl_readWord (hA : cA T I) (hk : tkC T t I J) (ht : tvA T) (hw : w < 9) : (isW T w t = false → Reader_readWord S0 (some 3) (lI (kc w)) (I, J, Pst b f) = some (iI 0, (I, J, Pst b f))) ∧ (isW T w t = true → ∃ I' J', Reader_readWord S0 (some 3) (lI (kc w)) (I, J, Pst b f) = some (iI 1, (I', J', Pst b f)) ∧ txF I J I' J' ∧ tkC T (adv T t) I' J') := by
  have hkw := cl_isKw (b := b) (f := f) hk ht hw
  refine ⟨fun e => ?_, fun e => ?_⟩
  · unfold Reader_readWord
    rw [rc3, Option.bind_some, gr3_0, Option.bind_some, hkw, e, Option.bind_some, if_pos (by rfl)]
    rfl
  · obtain ⟨I1, J1, a1, a2, a3⟩ := cl_adv (b := b) (f := f) hA hk ht
    refine ⟨I1, J1, ?_, a2, a3⟩
    unfold Reader_readWord
    rw [rc3, Option.bind_some, gr3_0, Option.bind_some, hkw, e, Option.bind_some, if_neg (by decide), Option.bind_some, a1, Option.bind_some]
    rfl
set_option maxRecDepth 20000 in
set_option maxHeartbeats 8000000 in
theorem gOf_cg (h1 : ng D' = ng D) (h2 : ∀ i, i < ng D → D' 16 i = D 16 i) : gOf D' x = gOf D x := by
  unfold gOf
  rw [h1]
  have : fst_ (ng D) (fun i => decide (D' 16 i = x)) = fst_ (ng D) (fun i => decide (D 16 i = x)) := fst_ext fun i hi => by rw [h2 i hi]
  rw [this]
set_option maxRecDepth 20000 in
set_option maxHeartbeats 8000000 in
theorem mA_gOf : gOf (mAdd D a S) x = gOf D x := gOf_cg mA_ng fun i _ => mA_row (by omega) (by omega) (by omega) i
set_option maxRecDepth 20000 in
set_option maxHeartbeats 8000000 in
theorem gA_gOf10 (dv : dV D) : -1 ≤ gOf D x ∧ gOf D x < 10 := by
  have h1 := gOf_rg (D := D) (x := x)
  have h2 := dv.1.1.1
  have hngI : (ng D : Int) = D 0 2 := by unfold ng; omega
  omega
set_option maxRecDepth 20000 in
set_option maxHeartbeats 8000000 in
theorem nmC_cg (h : nmC D M I J) (h1 : ng D' = ng D) (h2 : ∀ i, D' 16 i = D 16 i) (h3 : ∀ i, D' 17 i = D 17 i) : nmC D' M I J := by
  obtain ⟨n1, c, u, n2, n3, n4, n5⟩ := h
  unfold nmC
  simp only [h1, h2, h3]
  exact ⟨n1, c, u, n2, n3, n4, n5⟩
set_option maxRecDepth 20000 in
set_option maxHeartbeats 8000000 in
theorem mea_g (h : gOf D x ≠ -1) : mea D M x = gOf D x := if_neg h
set_option maxRecDepth 20000 in
set_option maxHeartbeats 8000000 in
theorem mea_m (h : gOf D x = -1) : mea D M x = -1 ∨ 100 ≤ mea D M x := by
  have h2 := mOf_rg (D := D) (M := M) (x := x)
  unfold mea
  rw [if_pos h]
  split <;> omega
set_option maxRecDepth 20000 in
set_option maxHeartbeats 8000000 in
theorem cnt_sAd (hg : g.toNat < 10) (hs : S g.toNat = false) : cnt 10 (sAd S g.toNat) = cnt 10 S + 1 := by
  have h := cnt_del (p := sAd S g.toNat) hg (by simp [sAd])
  have h2 : cnt 10 (fun y => sAd S g.toNat y && !decide (y = g.toNat)) = cnt 10 S := cnt_ext fun y _ => by
    by_cases e : y = g.toNat
    · rw [e, hs]; simp
    · simp [sAd, e]
  omega
set_option maxRecDepth 20000 in
set_option maxHeartbeats 8000000 in
theorem sI_g10 (hg : 0 ≤ g ∧ g < 10) : shl 1 (iI g) = iI (bt 10 (fun y => decide (y = g.toNat)) : Int) := by
  rw [n_1, oneI' g (by omega), bt_one (show g.toNat < 10 by omega)]
def mkR (T : Tb) (b : Bool) (f : Nat) (F : Option ((Int32 × hV) ⊕ (Int32 × hV))) (I : Nat → Nat → Int32) (J : Nat → Nat → Int64) (r : Nat ⊕ (Nat × (Nat → Bool))) : Prop := match r with
  | .inl u => ∃ I' J', F = some (.inr (iI 0, (I', J', Pst b f))) ∧ txF I J I' J' ∧ I' 1 3 = iI (u : Int)
  | .inr z => if kd T z.1 = 3 then (∃ I' J', F = some (.inl (iI (bt 10 z.2 : Int), (I', J', Pst b f))) ∧ txF I J I' J' ∧ tkC T z.1 I' J') else ∃ I' J', F = some (.inr (iI 0, (I', J', Pst b f))) ∧ txF I J I' J' ∧ I' 1 3 = iI (z.1 : Int)
/-- the class's loop over the guests of a mark -/
theorem cl_marks (ht : tvA T) (dv : dV D) (dp : dV D') (hg : ∀ x, gOf D' x = gOf D x) (hN : ng D' + nm D' ≤ 15) : ∀ (n fu k : Nat) (S : Nat → Bool) (t : Nat) (I : Nat → Nat → Int32) (J : Nat → Nat → Int64), n + k = 11 → n + 1 < fu → cA T I → tkC T t I J → nmC D' (nm D') I J → cnt 10 S = k → (k = 0 ∨ kd T t ≠ 3) → mkR T b f (jloop (Reader_readMark_L55 S0 (some 3)) fu (iI (bt 10 S : Int), iI (k : Int), (I, J, Pst b f))) I J (rdS T D n S t)
  | 0, fu, k, S, t, I, J, hnk, hfu, hA, hk, hn, hc, hz => by
    have := cnt_le S 10
    omega
  | n + 1, fu, k, S, t, I, J, hnk, hfu, hA, hk, hn, hc, hz => by
    obtain ⟨fu, rfl⟩ : ∃ z, fu = z + 1 := ⟨fu - 1, by omega⟩
    have hkr := kd_rg (T := T) (t := t)
    have hme := cl_meaning (b := b) (f := f) hk ht hn dp.2.2 hN
    have hgr := gA_gOf10 (x := nmd T t) dv
    have hcl := cnt_le S 10
    have hmr := mea_rg (D := D') (M := nm D') (x := nmd T t)
    have hpre : ∀ Y, ((Reader_meaning S0 (some 3) (I, J, Pst b f)).bind fun x12 => if x12 = (-1) then (some (.inr (.inr (0, (I, J, Pst b f))))) else (if 10 ≤ x12 then (some (.inr (.inr (0, (I, J, Pst b f))))) else (if (Fi_has (iI (bt 10 S : Int)) x12) = 0 then ((gR S0 5 0 (I, J, Pst b f) (some 3)).bind fun x14 => (Text_advance S0 x14 (I, J, Pst b f)).bind fun V15 => some (.inl (iI (bt 10 S : Int) ||| (shl 1 x12), iI (k : Int) + 1, V15))) else (some (.inr (.inr (0, (I, J, Pst b f)))))))) = Y → Reader_readMark_L55 S0 (some 3) (iI (bt 10 S : Int), iI (k : Int), (I, J, Pst b f)) = Y := fun Y hY => by
      unfold Reader_readMark_L55
      rw [if_neg (by rw [n_10, iI_lt (by omega)]; omega)]
      by_cases ek : k = 0
      · rw [if_pos (by rw [ek]; rfl), Option.bind_some, Sum.elim_inl]; exact hY
      · have h3 := hz.resolve_left ek
        rw [if_neg (by rw [n_0, iI_eq (by omega)]; omega), gr3_0, Option.bind_some, gi1, hk.1.2.2, Option.bind_some, if_neg (by rw [n_3, iI_eq (by omega)]; exact h3), Option.bind_some, Sum.elim_inl]
        rw [gr3_0] at hY
        exact hY
    unfold rdS
    by_cases e1 : gOf D (nmd T t) ≠ -1 ∧ S (gOf D (nmd T t)).toNat = false
    · rw [if_pos e1]
      have hmg : mea D' (nm D') (nmd T t) = gOf D (nmd T t) := by rw [mea_g (by rw [hg]; exact e1.1), hg]
      rw [hmg] at hme
      generalize gOf D (nmd T t) = g at *
      obtain ⟨I1, J1, a1, a2, a3⟩ := cl_adv (b := b) (f := f) hA hk ht
      have hcs := cnt_sAd (g := g) (by omega) e1.2
      have hcl2 := cnt_le (sAd S g.toNat) 10
      have hhas := bt10_has (p := S) (y := g.toNat) (by omega)
      rw [show ((g.toNat : Nat) : Int) = g by omega, e1.2] at hhas
      have hor : iI (bt 10 S : Int) ||| iI (bt 10 (fun y => decide (y = g.toNat)) : Int) = iI (bt 10 (sAd S g.toNat) : Int) := sI_or _ _ _
      have hstep : Reader_readMark_L55 S0 (some 3) (iI (bt 10 S : Int), iI (k : Int), (I, J, Pst b f)) = some (.inl (iI (bt 10 (sAd S g.toNat) : Int), iI ((k + 1 : Nat) : Int), (I1, J1, Pst b f))) := hpre _ (by
        rw [hme, Option.bind_some, if_neg (by rw [n_1, iI_neg, iI_eq (by omega)]; exact e1.1), if_neg (by rw [n_10, iI_le (by omega)]; omega), hhas, if_pos (by rfl), gr3_0, Option.bind_some, a1, Option.bind_some, sI_g10 (by omega), hor, n_1, iI_add]
        rfl)
      rw [jl_s hstep]
      have hn1 := hn.tx a2
      have hA1 := a2.cA hA
      by_cases e2 : nmd T (adv T t) = -1
      · rw [if_pos e2]
        show (if kd T (adv T t) = 3 then _ else _)
        obtain ⟨fu, rfl⟩ : ∃ z, fu = z + 1 := ⟨fu - 1, by omega⟩
        have hkr1 := kd_rg (T := T) (t := adv T t)
        by_cases e3 : kd T (adv T t) = 3
        · rw [if_pos e3]
          refine ⟨I1, J1, ?_, a2, a3⟩
          refine jl_e ?_
          unfold Reader_readMark_L55
          rw [if_neg (by rw [n_10, iI_lt (by omega)]; omega), if_neg (by rw [n_0, iI_eq (by omega)]; omega), gr3_0, Option.bind_some, gi1, a3.1.2.2, Option.bind_some, if_pos (by rw [e3]; rfl), Option.bind_some, Sum.elim_inr]
        · rw [if_neg e3]
          refine ⟨I1, J1, ?_, a2, a3.1.1⟩
          refine jl_e ?_
          have hme1 := cl_meaning (b := b) (f := f) a3 ht hn1 dp.2.2 hN
          rw [e2, mea_neg dp.2.2] at hme1
          unfold Reader_readMark_L55
          rw [if_neg (by rw [n_10, iI_lt (by omega)]; omega), if_neg (by rw [n_0, iI_eq (by omega)]; omega), gr3_0, Option.bind_some, gi1, a3.1.2.2, Option.bind_some, if_neg (by rw [n_3, iI_eq (by omega)]; exact e3), Option.bind_some, Sum.elim_inl, hme1, Option.bind_some, if_pos (by rfl)]
          rfl
      · rw [if_neg e2]
        have h13 : kd T (adv T t) ≠ 3 := fun q => by
          apply e2
          unfold nmd
          rw [if_neg (fun y => by have := y.1; omega)]
        have ih := cl_marks ht dv dp hg hN n fu (k + 1) (sAd S g.toNat) (adv T t) I1 J1 (by omega) (by omega) hA1 a3 hn1 (by omega) (Or.inr h13)
        cases er : rdS T D n (sAd S g.toNat) (adv T t) with
        | inl u =>
          rw [er] at ih
          obtain ⟨I2, J2, b1, b2, b3⟩ := ih
          exact ⟨I2, J2, b1, a2.trans b2, b3⟩
        | inr z =>
          rw [er] at ih
          show (if kd T z.1 = 3 then _ else _)
          have ih' : (if kd T z.1 = 3 then _ else _) := ih
          by_cases e3 : kd T z.1 = 3
          · rw [if_pos e3] at ih' ⊢
            obtain ⟨I2, J2, b1, b2, b3⟩ := ih'
            exact ⟨I2, J2, b1, a2.trans b2, b3⟩
          · rw [if_neg e3] at ih' ⊢
            obtain ⟨I2, J2, b1, b2, b3⟩ := ih'
            exact ⟨I2, J2, b1, a2.trans b2, b3⟩
    · rw [if_neg e1]
      refine ⟨I, J, jl_e (hpre _ ?_), txF.refl, hk.1.1⟩
      rw [hme, Option.bind_some]
      by_cases e2 : gOf D (nmd T t) = -1
      · rcases mea_m (D := D') (M := nm D') (x := nmd T t) (by rw [hg]; exact e2) with z | z
        · rw [z, if_pos (by rfl)]; rfl
        · have hnm15 : nm D' ≤ 15 := by omega
          rw [if_neg (by rw [n_1, iI_neg, iI_eq (by omega)]; omega), if_pos (by rw [n_10, iI_le (by omega)]; omega)]; rfl
      · have hmg : mea D' (nm D') (nmd T t) = gOf D (nmd T t) := by rw [mea_g (by rw [hg]; exact e2), hg]
        have hS : S (gOf D (nmd T t)).toNat = true := by
          cases z : S (gOf D (nmd T t)).toNat
          · exact absurd ⟨e2, z⟩ e1
          · rfl
        rw [hmg]
        generalize gOf D (nmd T t) = g at *
        have hhas := bt10_has (p := S) (y := g.toNat) (by omega)
        rw [show ((g.toNat : Nat) : Int) = g by omega, hS] at hhas
        rw [if_neg (by rw [n_1, iI_neg, iI_eq (by omega)]; exact e2), if_neg (by rw [n_10, iI_le (by omega)]; omega), hhas, if_neg (by decide)]
        rfl
end
