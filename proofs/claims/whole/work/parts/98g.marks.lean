/-! ===== layer 2: the text: the class reads a mark ===== -/
section
variable {T D D' : Tb} {I I' I'' : Nat → Nat → Int32} {J J' J'' : Nat → Nat → Int64} {b d v : Bool} {f k n i j e t s w M K r y z : Nat} {m g h a c o lo hi x wt rm un : Int} {S : Nat → Bool} {q : Int32}
set_option maxRecDepth 20000 in
set_option maxHeartbeats 8000000 in
theorem cl_readWord (hA : cA T I) (hk : tkC T t I J) (ht : tvA T) (hw : w < 9) : (isW T w t = false → Reader_readWord S0 (some 3) (lI (kc w)) (I, J, Pst b f) = some (iI 0, (I, J, Pst b f))) ∧ (isW T w t = true → ∃ I' J', Reader_readWord S0 (some 3) (lI (kc w)) (I, J, Pst b f) = some (iI 1, (I', J', Pst b f)) ∧ txF I J I' J' ∧ tkC T (adv T t) I' J') := by
  have hkw := cl_isKw (b := b) (f := f) hk ht hw
  refine ⟨fun e => ?_, fun e => ?_⟩
  · unfold Reader_readWord
    rw [rc3, Option.bind_some, gr3_0, Option.bind_some, hkw, e, Option.bind_some, if_pos (by rfl)]
    rfl
  · obtain ⟨I1, J1, a1, a2, a3⟩ := cl_adv (b := b) (f := f) hA hk ht
    refine ⟨I1, J1, ?_, a2, a3⟩
    unfold Reader_readWord
    rw [rc3, Option.bind_some, gr3_0, Option.bind_some, hkw, e, Option.bind_some, if_neg (by decide), Option.bind_some, a1, Option.bind_some]
    rfl
set_option maxRecDepth 20000 in
set_option maxHeartbeats 8000000 in
theorem gOf_cg (h1 : ng D' = ng D) (h2 : ∀ i, i < ng D → D' 16 i = D 16 i) : gOf D' x = gOf D x := by
  unfold gOf
  rw [h1]
  have : fst_ (ng D) (fun i => decide (D' 16 i = x)) = fst_ (ng D) (fun i => decide (D 16 i = x)) := fst_ext fun i hi => by rw [h2 i hi]
  rw [this]
set_option maxRecDepth 20000 in
set_option maxHeartbeats 8000000 in
theorem mA_gOf : gOf (mAdd D a S) x = gOf D x := gOf_cg mA_ng fun i _ => mA_row (by omega) (by omega) (by omega) i
set_option maxRecDepth 20000 in
set_option maxHeartbeats 8000000 in
theorem gA_gOf10 (dv : dV D) : -1 ≤ gOf D x ∧ gOf D x < 10 := by
  have h1 := gOf_rg (D := D) (x := x)
  have h2 := dv.1.1.1
  have hngI : (ng D : Int) = D 0 2 := by unfold ng; omega
  omega
set_option maxRecDepth 20000 in
set_option maxHeartbeats 8000000 in
theorem nmC_cg (h : nmC D M I J) (h1 : ng D' = ng D) (h2 : ∀ i, D' 16 i = D 16 i) (h3 : ∀ i, D' 17 i = D 17 i) : nmC D' M I J := by
  obtain ⟨n1, c, u, n2, n3, n4, n5⟩ := h
  unfold nmC
  simp only [h1, h2, h3]
  exact ⟨n1, c, u, n2, n3, n4, n5⟩
set_option maxRecDepth 20000 in
set_option maxHeartbeats 8000000 in
theorem mea_g (h : gOf D x ≠ -1) : mea D M x = gOf D x := if_neg h
set_option maxRecDepth 20000 in
set_option maxHeartbeats 8000000 in
theorem mea_m (h : gOf D x = -1) : mea D M x = -1 ∨ 100 ≤ mea D M x := by
  have h2 := mOf_rg (D := D) (M := M) (x := x)
  unfold mea
  rw [if_pos h]
  split <;> omega
set_option maxRecDepth 20000 in
set_option maxHeartbeats 8000000 in
theorem cnt_sAd (hg : g.toNat < 10) (hs : S g.toNat = false) : cnt 10 (sAd S g.toNat) = cnt 10 S + 1 := by
  have h := cnt_del (p := sAd S g.toNat) hg (by simp [sAd])
  have h2 : cnt 10 (fun y => sAd S g.toNat y && !decide (y = g.toNat)) = cnt 10 S := cnt_ext fun y _ => by
    by_cases e : y = g.toNat
    · rw [e, hs]; simp
    · simp [sAd, e]
  omega
set_option maxRecDepth 20000 in
set_option maxHeartbeats 8000000 in
theorem sI_g10 (hg : 0 ≤ g ∧ g < 10) : shl 1 (iI g) = iI (bt 10 (fun y => decide (y = g.toNat)) : Int) := by
  rw [n_1, oneI' g (by omega), bt_one (show g.toNat < 10 by omega)]
def mkR (T : Tb) (b : Bool) (f : Nat) (F : Option ((Int32 × hV) ⊕ (Int32 × hV))) (I : Nat → Nat → Int32) (J : Nat → Nat → Int64) (r : Nat ⊕ (Nat × (Nat → Bool))) : Prop := match r with
  | .inl u => ∃ I' J', F = some (.inr (iI 0, (I', J', Pst b f))) ∧ txF I J I' J' ∧ I' 1 3 = iI (u : Int)
  | .inr z => if kd T z.1 = 3 then (∃ I' J', F = some (.inl (iI (bt 10 z.2 : Int), (I', J', Pst b f))) ∧ txF I J I' J' ∧ tkC T z.1 I' J') else ∃ I' J', F = some (.inr (iI 0, (I', J', Pst b f))) ∧ txF I J I' J' ∧ I' 1 3 = iI (z.1 : Int)
/-- the class's loop over the guests of a mark -/
theorem cl_marks (ht : tvA T) (dv : dV D) (dp : dV D') (hg : ∀ x, gOf D' x = gOf D x) (hN : ng D' + nm D' ≤ 15) : ∀ (n fu k : Nat) (S : Nat → Bool) (t : Nat) (I : Nat → Nat → Int32) (J : Nat → Nat → Int64), n + k = 11 → n + 1 < fu → cA T I → tkC T t I J → nmC D' (nm D') I J → cnt 10 S = k → (k = 0 ∨ kd T t ≠ 3) → mkR T b f (jloop (Reader_readMark_L55 S0 (some 3)) fu (iI (bt 10 S : Int), iI (k : Int), (I, J, Pst b f))) I J (rdS T D n S t)
  | 0, fu, k, S, t, I, J, hnk, hfu, hA, hk, hn, hc, hz => by
    have := cnt_le S 10
    omega
  | n + 1, fu, k, S, t, I, J, hnk, hfu, hA, hk, hn, hc, hz => by
    obtain ⟨fu, rfl⟩ : ∃ z, fu = z + 1 := ⟨fu - 1, by omega⟩
    have hkr := kd_rg (T := T) (t := t)
    have hme := cl_meaning (b := b) (f := f) hk ht hn dp.2.2 hN
    have hgr := gA_gOf10 (x := nmd T t) dv
    have hcl := cnt_le S 10
    have hmr := mea_rg (D := D') (M := nm D') (x := nmd T t)
    have hpre : ∀ Y, ((Reader_meaning S0 (some 3) (I, J, Pst b f)).bind fun x12 => if x12 = (-1) then (some (.inr (.inr (0, (I, J, Pst b f))))) else (if 10 ≤ x12 then (some (.inr (.inr (0, (I, J, Pst b f))))) else (if (Fi_has (iI (bt 10 S : Int)) x12) = 0 then ((gR S0 5 0 (I, J, Pst b f) (some 3)).bind fun x14 => (Text_advance S0 x14 (I, J, Pst b f)).bind fun V15 => some (.inl (iI (bt 10 S : Int) ||| (shl 1 x12), iI (k : Int) + 1, V15))) else (some (.inr (.inr (0, (I, J, Pst b f)))))))) = Y → Reader_readMark_L55 S0 (some 3) (iI (bt 10 S : Int), iI (k : Int), (I, J, Pst b f)) = Y := fun Y hY => by
      unfold Reader_readMark_L55
      rw [if_neg (by rw [n_10, iI_lt (by omega)]; omega)]
      by_cases ek : k = 0
      · rw [if_pos (by rw [ek]; rfl), Option.bind_some, Sum.elim_inl]; exact hY
      · have h3 := hz.resolve_left ek
        rw [if_neg (by rw [n_0, iI_eq (by omega)]; omega), gr3_0, Option.bind_some, gi1, hk.1.2.2, Option.bind_some, if_neg (by rw [n_3, iI_eq (by omega)]; exact h3), Option.bind_some, Sum.elim_inl]
        rw [gr3_0] at hY
        exact hY
    unfold rdS
    by_cases e1 : gOf D (nmd T t) ≠ -1 ∧ S (gOf D (nmd T t)).toNat = false
    · rw [if_pos e1]
      have hmg : mea D' (nm D') (nmd T t) = gOf D (nmd T t) := by rw [mea_g (by rw [hg]; exact e1.1), hg]
      rw [hmg] at hme
      generalize gOf D (nmd T t) = g at *
      obtain ⟨I1, J1, a1, a2, a3⟩ := cl_adv (b := b) (f := f) hA hk ht
      have hcs := cnt_sAd (g := g) (by omega) e1.2
      have hcl2 := cnt_le (sAd S g.toNat) 10
      have hhas := bt10_has (p := S) (y := g.toNat) (by omega)
      rw [show ((g.toNat : Nat) : Int) = g by omega, e1.2] at hhas
      have hor : iI (bt 10 S : Int) ||| iI (bt 10 (fun y => decide (y = g.toNat)) : Int) = iI (bt 10 (sAd S g.toNat) : Int) := sI_or _ _ _
      have hstep : Reader_readMark_L55 S0 (some 3) (iI (bt 10 S : Int), iI (k : Int), (I, J, Pst b f)) = some (.inl (iI (bt 10 (sAd S g.toNat) : Int), iI ((k + 1 : Nat) : Int), (I1, J1, Pst b f))) := hpre _ (by
        rw [hme, Option.bind_some, if_neg (by rw [n_1, iI_neg, iI_eq (by omega)]; exact e1.1), if_neg (by rw [n_10, iI_le (by omega)]; omega), hhas, if_pos (by rfl), gr3_0, Option.bind_some, a1, Option.bind_some, sI_g10 (by omega), hor, n_1, iI_add]
        rfl)
      rw [jl_s hstep]
      have hn1 := hn.tx a2
      have hA1 := a2.cA hA
      by_cases e2 : nmd T (adv T t) = -1
      · rw [if_pos e2]
        show (if kd T (adv T t) = 3 then _ else _)
        obtain ⟨fu, rfl⟩ : ∃ z, fu = z + 1 := ⟨fu - 1, by omega⟩
        have hkr1 := kd_rg (T := T) (t := adv T t)
        by_cases e3 : kd T (adv T t) = 3
        · rw [if_pos e3]
          refine ⟨I1, J1, ?_, a2, a3⟩
          refine jl_e ?_
          unfold Reader_readMark_L55
          rw [if_neg (by rw [n_10, iI_lt (by omega)]; omega), if_neg (by rw [n_0, iI_eq (by omega)]; omega), gr3_0, Option.bind_some, gi1, a3.1.2.2, Option.bind_some, if_pos (by rw [e3]; rfl), Option.bind_some, Sum.elim_inr]
        · rw [if_neg e3]
          refine ⟨I1, J1, ?_, a2, a3.1.1⟩
          refine jl_e ?_
          have hme1 := cl_meaning (b := b) (f := f) a3 ht hn1 dp.2.2 hN
          rw [e2, mea_neg dp.2.2] at hme1
          unfold Reader_readMark_L55
          rw [if_neg (by rw [n_10, iI_lt (by omega)]; omega), if_neg (by rw [n_0, iI_eq (by omega)]; omega), gr3_0, Option.bind_some, gi1, a3.1.2.2, Option.bind_some, if_neg (by rw [n_3, iI_eq (by omega)]; exact e3), Option.bind_some, Sum.elim_inl, hme1, Option.bind_some, if_pos (by rfl)]
          rfl
      · rw [if_neg e2]
        have h13 : kd T (adv T t) ≠ 3 := fun q => by
          apply e2
          unfold nmd
          rw [if_neg (fun y => by have := y.1; omega)]
        have ih := cl_marks ht dv dp hg hN n fu (k + 1) (sAd S g.toNat) (adv T t) I1 J1 (by omega) (by omega) hA1 a3 hn1 (by omega) (Or.inr h13)
        cases er : rdS T D n (sAd S g.toNat) (adv T t) with
        | inl u =>
          rw [er] at ih
          obtain ⟨I2, J2, b1, b2, b3⟩ := ih
          exact ⟨I2, J2, b1, a2.trans b2, b3⟩
        | inr z =>
          rw [er] at ih
          show (if kd T z.1 = 3 then _ else _)
          have ih' : (if kd T z.1 = 3 then _ else _) := ih
          by_cases e3 : kd T z.1 = 3
          · rw [if_pos e3] at ih' ⊢
            obtain ⟨I2, J2, b1, b2, b3⟩ := ih'
            exact ⟨I2, J2, b1, a2.trans b2, b3⟩
          · rw [if_neg e3] at ih' ⊢
            obtain ⟨I2, J2, b1, b2, b3⟩ := ih'
            exact ⟨I2, J2, b1, a2.trans b2, b3⟩
    · rw [if_neg e1]
      refine ⟨I, J, jl_e (hpre _ ?_), txF.refl, hk.1.1⟩
      rw [hme, Option.bind_some]
      by_cases e2 : gOf D (nmd T t) = -1
      · rcases mea_m (D := D') (M := nm D') (x := nmd T t) (by rw [hg]; exact e2) with z | z
        · rw [z, if_pos (by rfl)]; rfl
        · have hnm15 : nm D' ≤ 15 := by omega
          rw [if_neg (by rw [n_1, iI_neg, iI_eq (by omega)]; omega), if_pos (by rw [n_10, iI_le (by omega)]; omega)]; rfl
      · have hmg : mea D' (nm D') (nmd T t) = gOf D (nmd T t) := by rw [mea_g (by rw [hg]; exact e2), hg]
        have hS : S (gOf D (nmd T t)).toNat = true := by
          cases z : S (gOf D (nmd T t)).toNat
          · exact absurd ⟨e2, z⟩ e1
          · rfl
        rw [hmg]
        generalize gOf D (nmd T t) = g at *
        have hhas := bt10_has (p := S) (y := g.toNat) (by omega)
        rw [show ((g.toNat : Nat) : Int) = g by omega, hS] at hhas
        rw [if_neg (by rw [n_1, iI_neg, iI_eq (by omega)]; exact e2), if_neg (by rw [n_10, iI_le (by omega)]; omega), hhas, if_neg (by decide)]
        rfl
set_option maxRecDepth 20000 in
set_option maxHeartbeats 8000000 in
theorem rdS_in (dv : dV D) : ∀ (n : Nat) (S : Nat → Bool) (t : Nat) (z : Nat × (Nat → Bool)), (∀ y, S y = true → y < ng D) → rdS T D n S t = .inr z → ∀ y, z.2 y = true → y < ng D
  | 0, S, t, z, hS, e => by
    unfold rdS at e
    cases e
  | n + 1, S, t, z, hS, e => by
    unfold rdS at e
    by_cases e1 : gOf D (nmd T t) ≠ -1 ∧ S (gOf D (nmd T t)).toNat = false
    · rw [if_pos e1] at e
      have hS' : ∀ y, sAd S (gOf D (nmd T t)).toNat y = true → y < ng D := fun y hy => by
        rcases (show S y = true ∨ y = (gOf D (nmd T t)).toNat by simpa [sAd] using hy) with q | q
        · exact hS y q
        · rw [q]; exact (gOf_in e1.1).1
      by_cases e2 : nmd T (adv T t) = -1
      · rw [if_pos e2] at e
        cases e
        exact hS'
      · rw [if_neg e2] at e
        exact rdS_in dv n _ _ z hS' e
    · rw [if_neg e1] at e
      cases e
set_option maxRecDepth 20000 in
set_option maxHeartbeats 8000000 in
theorem rdS_le : ∀ (n : Nat) (S : Nat → Bool) (t : Nat) (z : Nat × (Nat → Bool)), t ≤ tN T → rdS T D n S t = .inr z → t ≤ z.1 ∧ z.1 ≤ tN T
  | 0, S, t, z, h, e => by
    unfold rdS at e
    cases e
  | n + 1, S, t, z, h, e => by
    unfold rdS at e
    have ha := adv_le h
    by_cases e1 : gOf D (nmd T t) ≠ -1 ∧ S (gOf D (nmd T t)).toNat = false
    · rw [if_pos e1] at e
      by_cases e2 : nmd T (adv T t) = -1
      · rw [if_pos e2] at e
        cases e
        exact ha
      · rw [if_neg e2] at e
        have := rdS_le n _ _ z ha.2 e
        omega
    · rw [if_neg e1] at e
      cases e
set_option maxRecDepth 20000 in
set_option maxHeartbeats 8000000 in
theorem cl_readMark (C : crR T D d t I J) (dv : dV D) (ht : tvA T) : ∃ q I' J', Reader_readMark S0 (some 3) (some (ct d)) (I, J, Pst b f) = some (q, (I', J', Pst b f)) ∧ pF d I J I' J' ∧ rzC T d q I' J' (rdM T D t) := by
  obtain ⟨⟨hA, hk⟩, ⟨hq, hn⟩, hC, hD⟩ := C
  obtain ⟨⟨c1, c2⟩, c3, c4⟩ := id dv
  have hcd := ct_or d
  have hngI : (ng D : Int) = D 0 2 := by unfold ng; omega
  have hnmI : (nm D : Int) = D 0 3 := by unfold nm; omega
  unfold rdM
  by_cases e0 : 5 ≤ D 0 3
  · rw [if_pos e0]
    refine ⟨iI 0, I, J, ?_, pF.refl, rfl, hk.1.1⟩
    unfold Reader_readMark
    rw [rc3, Option.bind_some, gict, hC.1.2.1, Option.bind_some, if_neg (by rw [n_0, iI_lt (by omega)]; omega), Option.bind_some, if_neg (by rw [n_5, iI_lt (by omega)]; omega)]
    rfl
  · rw [if_neg e0]
    obtain ⟨I1, J1, a1, a2, a3⟩ := cl_adv (b := b) (f := f) hA hk ht
    have hA1 := a2.cA hA
    have hq1 := hq.tx a2
    have hn1 := hn.tx a2
    have hC1 := hC.tx a2
    have hD1 := hD.tx (by omega) a2
    obtain ⟨w1, w2⟩ := cl_newName (b := b) (f := f) (x := 100 + D 0 3) hA1 a3 ht hq1 hn1 c4 (by omega) (by omega)
    have hpre : ∀ Y, ((Reader_readNewName S0 (some 3) (iI (100 + D 0 3)) (I1, J1, Pst b f)).bind fun w7 => if w7.1 = 0 then (some (0, w7.2)) else ((gL S0 5 3 w7.2 (some 3)).bind fun x9 => (Reader_readWord S0 (some 3) x9 w7.2).bind fun w10 => if w10.1 = 0 then (some (0, w10.2)) else ((jloop (Reader_readMark_L55 S0 (some 3)) jN (0, 0, w10.2)).bind fun t55 => Sum.elim (fun q55 => (gR S0 0 0 q55.2 (some (ct d))).bind fun x19 => (gI S0 0 5 q55.2 (some (ct d))).bind fun x20 => (sI S0 q55.2 x19 x20 q55.1).bind fun V21 => (gI S0 0 5 V21 (some (ct d))).bind fun x22 => (pI S0 0 5 V21 (some (ct d)) (x22 + 1)).bind fun V23 => (Reader_readStop S0 (some 3) V23).bind fun w24 => some (w24.1 &&& 1, w24.2)) (fun v => some v) t55))) = Y → Reader_readMark S0 (some 3) (some (ct d)) (I, J, Pst b f) = Y := fun Y hY => by
      unfold Reader_readMark
      rw [rc3, Option.bind_some, gict, hC.1.2.1, Option.bind_some, if_neg (by rw [n_0, iI_lt (by omega)]; omega), Option.bind_some, if_pos (by rw [n_5, iI_lt (by omega)]; omega), gr3_0, Option.bind_some, a1, Option.bind_some, gict, hC1.1.2.1, Option.bind_some, n_100, iI_add]
      exact hY
    cases ew : isNw T D (adv T t)
    · rw [if_neg (by decide)]
      refine ⟨iI 0, I1, J1, hpre _ ?_, pF.tx a2, rfl, a3.1.1⟩
      rw [w1 ew, Option.bind_some, if_pos (by rfl)]
      rfl
    · rw [if_pos rfl]
      obtain ⟨I2, J2, b1, b2, b3⟩ := w2 ew
      have hnw := isNw_t ew
      have hon := okN_nmd ht hnw.1
      have hA2 : cA T I2 := b2.cA ⟨(nwI_o (by omega) (by omega)).trans hA1.1, fun k hk => (nwI_o (by omega) (by omega)).trans (hA1.2 k hk)⟩
      have hq2 : kwC J2 := fun w hw => (b2.2 3 _ (by omega)).trans ((hup_obj _ _ _ (by omega)).trans (hq1 w hw))
      have hkc : J2 3 3 = lI (kc 2) := hq2 2 (by omega)
      obtain ⟨u1, u2⟩ := cl_readWord (b := b) (f := f) (w := 2) hA2 b3 ht (by omega)
      have fr2 : pF d I J I2 J2 := (pF.tx a2).trans ((pF.wl ((pF.refl.wr (by omega)).wr (by omega))).trans (pF.tx b2))
      cases eu : isW T 2 (adv T (adv T t))
      · rw [if_neg (by decide)]
        refine ⟨iI 0, I2, J2, hpre _ ?_, fr2, rfl, b3.1.1⟩
        rw [b1, Option.bind_some, if_neg (show ¬ iI 1 = 0 by decide), gl3, hkc, Option.bind_some, u1 eu, Option.bind_some, if_pos (by rfl)]
        rfl
      · rw [if_pos rfl]
        obtain ⟨I3, J3, s1, s2, s3⟩ := u2 eu
        have b23 := b2.trans s2
        have hA3 := s2.cA hA2
        have dp : dV (mAdd D (nmd T (adv T t)) (fun _ => false)) := mA_dV dv (by omega) hon hnw.2.1 hnw.2.2 (fun y hy => by cases hy)
        have hnmp : nm (mAdd D (nmd T (adv T t)) (fun _ => false)) = nm D + 1 := mA_nm c1.2.1.1
        have hn3 : nmC (mAdd D (nmd T (adv T t)) (fun _ => false)) (nm D + 1) I3 J3 := nmC_m hn1 (by rw [b23.1 3 12 (by omega)]; exact hup_same _ _ _ _) (fun k hk => ⟨by rw [b23.2 4 k (by omega), hup_ix _ _ _ (by omega)], by rw [b23.1 5 k (by omega), nwI_5, if_neg (by omega)]⟩) ⟨by rw [b23.2 4 _ (by omega), hup_same], by rw [b23.1 5 _ (by omega), nwI_5, if_pos rfl, hnmI]⟩ (fun i _ => mA_row (by omega) (by omega) (by omega) i) mA_ng (fun i => mA_17 i)
        have hlo := cl_marks (b := b) (f := f) ht dv dp (fun x => mA_gOf) (by rw [hnmp, mA_ng]; omega) 11 jN 0 (fun _ => false) (adv T (adv T (adv T t))) I3 J3 (by omega) (by unfold jN; omega) hA3 s3 (by rw [hnmp]; exact hn3) (cnt_0 fun _ _ => rfl) (Or.inl rfl)
        have hz0 : iI (bt 10 (fun _ => false) : Int) = (0 : Int32) := by rw [bt_z]; rfl
        rw [hz0] at hlo
        have hpre2 : ∀ Y, ((jloop (Reader_readMark_L55 S0 (some 3)) jN ((0 : Int32), iI ((0 : Nat) : Int), (I3, J3, Pst b f))).bind fun t55 => Sum.elim (fun q55 => (gR S0 0 0 q55.2 (some (ct d))).bind fun x19 => (gI S0 0 5 q55.2 (some (ct d))).bind fun x20 => (sI S0 q55.2 x19 x20 q55.1).bind fun V21 => (gI S0 0 5 V21 (some (ct d))).bind fun x22 => (pI S0 0 5 V21 (some (ct d)) (x22 + 1)).bind fun V23 => (Reader_readStop S0 (some 3) V23).bind fun w24 => some (w24.1 &&& 1, w24.2)) (fun v => some v) t55) = Y → Reader_readMark S0 (some 3) (some (ct d)) (I, J, Pst b f) = Y := fun Y hY => hpre Y (by
          rw [b1, Option.bind_some, if_neg (show ¬ iI 1 = 0 by decide), gl3, hkc, Option.bind_some, s1, Option.bind_some, if_neg (show ¬ iI 1 = 0 by decide)]
          exact hY)
        have fr3 : pF d I J I3 J3 := fr2.trans (pF.tx s2)
        cases er : rdS T D 11 (fun _ => false) (adv T (adv T (adv T t))) with
        | inl u =>
          rw [er] at hlo
          obtain ⟨I4, J4, l1, l2, l3⟩ := hlo
          refine ⟨iI 0, I4, J4, hpre2 _ ?_, fr3.trans (pF.tx l2), rfl, l3⟩
          rw [l1, Option.bind_some, Sum.elim_inr]
        | inr z =>
          rw [er] at hlo
          have hlo' : if kd T z.1 = 3 then (∃ I' J', jloop (Reader_readMark_L55 S0 (some 3)) jN ((0 : Int32), iI ((0 : Nat) : Int), (I3, J3, Pst b f)) = some (.inl (iI (bt 10 z.2 : Int), (I', J', Pst b f))) ∧ txF I3 J3 I' J' ∧ tkC T z.1 I' J') else ∃ I' J', jloop (Reader_readMark_L55 S0 (some 3)) jN ((0 : Int32), iI ((0 : Nat) : Int), (I3, J3, Pst b f)) = some (.inr (iI 0, (I', J', Pst b f))) ∧ txF I3 J3 I' J' ∧ I' 1 3 = iI (z.1 : Int) := hlo
          show ∃ q I' J', _ ∧ _ ∧ rzC T d q I' J' (if kd T z.1 = 3 then _ else _)
          by_cases e3 : kd T z.1 = 3
          · rw [if_pos e3] at hlo' ⊢
            obtain ⟨I4, J4, l1, l2, l3⟩ := hlo'
            have hS := rdS_in dv 11 _ _ z (fun y hy => by cases hy) er
            have b24 := b23.trans l2
            have hA4 := l2.cA hA3
            have hbl := bt10 z.2
            obtain ⟨I5, hI5⟩ : ∃ I5, I5 = hup (hup I4 (ct d + 1) (nm D) (iI (bt 10 z.2 : Int))) (ct d) 5 (iI (D 0 3 + 1)) := ⟨_, rfl⟩
            have ho5 : ∀ o k, o < 74 → I5 o k = I4 o k := fun o k ho => by rw [hI5, hup_obj _ _ _ (by omega), hup_obj _ _ _ (by omega)]
            have hA5 : cA T I5 := ⟨(ho5 _ _ (by omega)).trans hA4.1, fun k hk => (ho5 _ _ (by omega)).trans (hA4.2 k hk)⟩
            have hk5 : tkC T z.1 I5 J4 := ⟨⟨(ho5 _ _ (by omega)).trans l3.1.1, (ho5 _ _ (by omega)).trans l3.1.2.1, (ho5 _ _ (by omega)).trans l3.1.2.2⟩, l3.2⟩
            obtain ⟨I6, J6, p1, p2, p3⟩ := cl_stopT (b := b) (f := f) hA5 hk5 ht e3
            have fr6 : pF d I J I6 J6 := (fr3.trans (pF.tx l2)).trans (by
              rw [hI5] at p2
              exact (((pF.refl.wr (by omega)).wr (by omega)).trans (pF.tx p2)))
            have g4 : ∀ o k, 74 ≤ o → I4 o k = I1 o k := fun o k ho => by rw [b24.1 o k (by omega), nwI_o (by omega) (by omega)]
            have hg5 : I4 (ct d) 5 = iI (D 0 3) := (g4 _ _ (by omega)).trans hC1.1.2.1
            have hcr : crR T (mAdd D (nmd T (adv T t)) z.2) d (adv T z.1) I6 J6 := by
              refine ⟨⟨p2.cA hA5, p3⟩, ⟨?_, ?_⟩, ⟨⟨?_, ?_, ?_⟩, fun m hm => ?_⟩, ?_⟩
              · exact fun w hw => (p2.2 3 _ (by omega)).trans ((l2.2 3 _ (by omega)).trans ((s2.2 3 _ (by omega)).trans (hq2 w hw)))
              · rw [mA_nm c1.2.1.1]
                have h1 := (hn3.tx l2)
                have h2 : nmC (mAdd D (nmd T (adv T t)) z.2) (nm D + 1) I4 J4 := nmC_cg h1 (by rw [mA_ng, mA_ng]) (fun i => by rw [mA_row (by omega) (by omega) (by omega), mA_row (by omega) (by omega) (by omega)]) (fun i => by rw [mA_17, mA_17])
                obtain ⟨n1, c, u, n2, n3⟩ := h2
                exact ⟨(p2.1 3 12 (by omega)).trans ((ho5 _ _ (by omega)).trans n1), c, u, fun k hk => ⟨(p2.2 4 k (by omega)).trans (n2 k hk).1, (p2.1 5 k (by omega)).trans ((ho5 _ _ (by omega)).trans (n2 k hk).2)⟩, n3⟩
              · rw [p2.1 _ _ (by omega), hI5, hup_ix _ _ _ (by omega), hup_obj _ _ _ (by omega), g4 _ _ (by omega), mA_0 (by omega)]; exact hC1.1.1
              · rw [p2.1 _ _ (by omega), hI5, hup_same, mA_3]
              · rw [p2.1 _ _ (by omega), hI5, hup_ix _ _ _ (by omega), hup_obj _ _ _ (by omega), g4 _ _ (by omega), mA_0 (by omega)]; exact hC1.1.2.2
              · rw [mA_3] at hm
                rw [p2.1 _ _ (by omega), hI5, hup_obj _ _ _ (by omega), mA_4]
                by_cases em : m = nm D
                · rw [em, hup_same, if_pos rfl, Int.toNat_natCast]
                · rw [hup_ix _ _ _ em, if_neg em, g4 _ _ (by omega)]; exact hC1.2 m (by omega)
              · have hDx : cDp D d I6 := hD1.agr (by omega) fun o k q1 q2 => by rw [p2.1 _ _ (by omega), hI5, hup_obj _ _ _ (by omega), hup_obj _ _ _ (by omega), g4 _ _ (by omega)]
                intro r hr
                rw [mA_0 (by omega)] at hr
                have R := fun (o : Nat) (h0 : o ≠ 0) (h1 : o ≠ 17) (h2 : o ≠ 4) => mA_row (D := D) (x := nmd T (adv T t)) (S := z.2) h0 h1 h2 r
                rw [R 5 (by omega) (by omega) (by omega), R 6 (by omega) (by omega) (by omega), R 7 (by omega) (by omega) (by omega), R 8 (by omega) (by omega) (by omega), R 9 (by omega) (by omega) (by omega), R 10 (by omega) (by omega) (by omega)]
                refine ⟨(hDx r hr).1, fun x hx => ?_⟩
                rw [(hDx r hr).2 x hx]
                exact sI_ext fun y _ => (cpl_cong c3 ⟨c1, c2⟩ hr (fun o h5 h10 => R o (by omega) (by omega) (by omega)) (fun m hm => by rw [mA_4, if_neg (by omega)]) x y).symm
            refine ⟨iI 1, I6, J6, hpre2 _ ?_, fr6, rfl, hcr⟩
            have hg5' : hup I4 (ct d + 1) (nm D) (iI (bt 10 z.2 : Int)) (ct d) 5 = iI (D 0 3) := by rw [hup_obj _ _ _ (by omega)]; exact hg5
            have hst : sI S0 (I4, J4, Pst b f) (some (ct d + 1)) (iI (D 0 3)) (iI (bt 10 z.2 : Int)) = some (hup I4 (ct d + 1) (nm D) (iI (bt 10 z.2 : Int)), J4, Pst b f) := by
              rw [stctm (by omega)]; rfl
            rw [l1, Option.bind_some, Sum.elim_inl, grct_0, Option.bind_some, gict, hg5, Option.bind_some, hst, Option.bind_some, gict, hg5', Option.bind_some, n_1, iI_add, pict, Option.bind_some, ← hI5, p1, Option.bind_some]
            exact w11 _
          · rw [if_neg e3] at hlo' ⊢
            obtain ⟨I4, J4, l1, l2, l3⟩ := hlo'
            refine ⟨iI 0, I4, J4, hpre2 _ ?_, fr3.trans (pF.tx l2), rfl, l3⟩
            rw [l1, Option.bind_some, Sum.elim_inr]
end
