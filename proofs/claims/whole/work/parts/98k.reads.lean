/-! ===== layer 2: the text: the class reads it all ===== -/
section
variable {T D D' : Tb} {I I' I'' : Nat → Nat → Int32} {J J' J'' : Nat → Nat → Int64} {b d v : Bool} {f k n i j e t s w M K r y : Nat} {m g h a c o lo hi x wt rm un : Int} {S F G : Nat → Bool} {q : Int32} {z : Nat × Tb}
/-- rooms and text stay -/
def kpD (D D' : Tb) : Prop := (D' 0 0 = D 0 0 ∧ D' 0 1 = D 0 1) ∧ D' 1 = D 1 ∧ D' 2 = D 2 ∧ D' 3 = D 3
set_option maxRecDepth 20000 in
set_option maxHeartbeats 8000000 in
theorem kpD.refl : kpD D D := ⟨⟨rfl, rfl⟩, rfl, rfl, rfl⟩
set_option maxRecDepth 20000 in
set_option maxHeartbeats 8000000 in
theorem kpD.trans {D'' : Tb} (h : kpD D D') (h' : kpD D' D'') : kpD D D'' := ⟨⟨h'.1.1.trans h.1.1, h'.1.2.trans h.1.2⟩, h'.2.1.trans h.2.1, h'.2.2.1.trans h.2.2.1, h'.2.2.2.trans h.2.2.2⟩
set_option maxRecDepth 20000 in
set_option maxHeartbeats 8000000 in
theorem gA_kp : kpD D (gAdd D x) := ⟨⟨gA_0 (by omega), gA_0 (by omega)⟩, funext fun k => gA_row (by omega) (by omega) k, funext fun k => gA_row (by omega) (by omega) k, funext fun k => gA_row (by omega) (by omega) k⟩
set_option maxRecDepth 20000 in
set_option maxHeartbeats 8000000 in
theorem mA_kp : kpD D (mAdd D x S) := ⟨⟨mA_0 (by omega), mA_0 (by omega)⟩, funext fun k => mA_row (by omega) (by omega) (by omega) k, funext fun k => mA_row (by omega) (by omega) (by omega) k, funext fun k => mA_row (by omega) (by omega) (by omega) k⟩
set_option maxRecDepth 20000 in
set_option maxHeartbeats 8000000 in
theorem rA_kp : kpD D (rAdd D w a c wt rm un) := ⟨⟨rA_0 (by omega), rA_0 (by omega)⟩, funext fun k => rA_row (by omega) (by omega) k, funext fun k => rA_row (by omega) (by omega) k, funext fun k => rA_row (by omega) (by omega) k⟩
def okZ (T D : Tb) (t : Nat) (z : Nat × Tb) : Prop := dV z.2 ∧ (t < z.1 ∧ z.1 ≤ tN T) ∧ kpD D z.2
set_option maxRecDepth 20000 in
set_option maxHeartbeats 8000000 in
theorem rdG_ok (dv : dV D) (ht : tvA T) (hl : t < tN T) (h : rdG T D t = .inr z) : okZ T D t z := by
  have l1 := adv_lt hl
  have l2 := adv_le l1.2
  have l3 := adv_le l2.2
  unfold rdG at h
  by_cases e0 : 10 ≤ D 0 2
  · rw [if_pos e0] at h; cases h
  · rw [if_neg e0] at h
    by_cases e1 : isNw T D (adv T t) = true
    · rw [if_pos e1] at h
      have hnw := isNw_t e1
      by_cases e2 : kd T (adv T (adv T t)) = 3
      · rw [if_pos e2] at h
        cases h
        exact ⟨gA_dV dv (by omega) (okN_nmd ht hnw.1) hnw.2.1 hnw.2.2, ⟨by show t < adv T (adv T (adv T t)); omega, l3.2⟩, gA_kp⟩
      · rw [if_neg e2] at h; cases h
    · rw [if_neg e1] at h; cases h
set_option maxRecDepth 20000 in
set_option maxHeartbeats 8000000 in
theorem rdM_ok (dv : dV D) (ht : tvA T) (hl : t < tN T) (h : rdM T D t = .inr z) : okZ T D t z := by
  have l1 := adv_lt hl
  have l2 := adv_le l1.2
  have l3 := adv_le l2.2
  unfold rdM at h
  by_cases e0 : 5 ≤ D 0 3
  · rw [if_pos e0] at h; cases h
  · rw [if_neg e0] at h
    by_cases e1 : isNw T D (adv T t) = true
    · rw [if_pos e1] at h
      have hnw := isNw_t e1
      by_cases e2 : isW T 2 (adv T (adv T t)) = true
      · rw [if_pos e2] at h
        cases er : rdS T D 11 (fun _ => false) (adv T (adv T (adv T t))) with
        | inl u => rw [er] at h; cases h
        | inr y =>
          rw [er] at h
          have h' : (if kd T y.1 = 3 then (.inr (adv T y.1, mAdd D (nmd T (adv T t)) y.2) : Rd) else .inl y.1) = .inr z := h
          have ly := rdS_le 11 _ _ y l3.2 er
          have l4 := adv_le ly.2
          by_cases e3 : kd T y.1 = 3
          · rw [if_pos e3] at h'
            cases h'
            exact ⟨mA_dV dv (by omega) (okN_nmd ht hnw.1) hnw.2.1 hnw.2.2 (rdS_in dv 11 _ _ y (fun y hy => by cases hy) er), ⟨by show t < adv T y.1; omega, l4.2⟩, mA_kp⟩
          · rw [if_neg e3] at h'; cases h'
      · rw [if_neg e2] at h; cases h
    · rw [if_neg e1] at h; cases h
set_option maxRecDepth 20000 in
set_option maxHeartbeats 8000000 in
theorem rdRm_le (hl : t ≤ tN T) {y : Nat × Int} (h : rdRm T t = .inr y) : t ≤ y.1 ∧ y.1 ≤ tN T := by
  have l1 := adv_le hl
  have l2 := adv_le l1.2
  unfold rdRm at h
  by_cases e1 : isW T 7 t = true
  · rw [if_pos e1] at h
    by_cases e2 : isN T 0 3 (adv T t) = true
    · rw [if_pos e2] at h
      cases h
      show t ≤ adv T (adv T t) ∧ adv T (adv T t) ≤ tN T
      omega
    · rw [if_neg e2] at h; cases h
  · rw [if_neg e1] at h
    cases h
    exact ⟨Nat.le_refl _, hl⟩
set_option maxRecDepth 20000 in
set_option maxHeartbeats 8000000 in
theorem rdUn_le (hl : t ≤ tN T) {y : Nat × Int} (h : rdUn T D t = .inr y) : t ≤ y.1 ∧ y.1 ≤ tN T := by
  have l1 := adv_le hl
  have l2 := adv_le l1.2
  unfold rdUn at h
  by_cases e1 : isW T 8 t = true
  · rw [if_pos e1] at h
    by_cases e2 : mOf D (nm D) (nmd T (adv T t)) = -1
    · rw [if_pos e2] at h; cases h
    · rw [if_neg e2] at h
      cases h
      show t ≤ adv T (adv T t) ∧ adv T (adv T t) ≤ tN T
      omega
  · rw [if_neg e1] at h
    cases h
    exact ⟨Nat.le_refl _, hl⟩
set_option maxRecDepth 20000 in
set_option maxHeartbeats 8000000 in
theorem rdR_ok (dv : dV D) (ht : tvA T) (hw : w ≤ 2) (hl : t < tN T) (h : rdRu T D w t = .inr z) : okZ T D t z := by
  have h00 := dv.1.1
  have hngI : (ng D : Int) = D 0 2 := by unfold ng; omega
  have hnmI : (nm D : Int) = D 0 3 := by unfold nm; omega
  have l1 := adv_lt hl
  have l2 := adv_le l1.2
  have l3 := adv_le l2.2
  have l4 := adv_le l3.2
  have l5 := adv_le l4.2
  have m1 := mea_rg (D := D) (M := nm D) (x := nmd T (adv T t))
  have m2 := mea_rg (D := D) (M := nm D) (x := nmd T (adv T (adv T t)))
  unfold rdRu at h
  by_cases e0 : 12 ≤ D 0 4
  · rw [if_pos e0] at h; cases h
  · rw [if_neg e0] at h
    by_cases e1 : mea D (nm D) (nmd T (adv T t)) = -1
    · rw [if_pos e1] at h; cases h
    · rw [if_neg e1] at h
      by_cases e2 : mea D (nm D) (nmd T (adv T (adv T t))) = -1
      · rw [if_pos e2] at h; cases h
      · rw [if_neg e2] at h
        by_cases e3 : isW T 6 (adv T (adv T (adv T t))) = true
        · rw [if_pos e3] at h
          by_cases e4 : isN T 1 9 (adv T (adv T (adv T (adv T t)))) = true
          · rw [if_pos e4] at h
            have e4' := e4
            simp only [isN, decide_eq_true_eq] at e4'
            unfold rdR2 at h
            cases er : rdRm T (adv T (adv T (adv T (adv T (adv T t))))) with
            | inl u => rw [er] at h; cases h
            | inr y =>
              rw [er] at h
              have ly := rdRm_le l5.2 er
              have ry := rdRm_rg ht er
              have h' : ((rdUn T D y.1).elim (fun u => (.inl u : Rd)) (fun x => if kd T x.1 = 3 then .inr (adv T x.1, rAdd D w (mea D (nm D) (nmd T (adv T t))) (mea D (nm D) (nmd T (adv T (adv T t)))) (cd T (adv T (adv T (adv T (adv T t))))) y.2 x.2) else .inl x.1)) = .inr z := h
              cases eu : rdUn T D y.1 with
              | inl u => rw [eu] at h'; cases h'
              | inr x =>
                rw [eu] at h'
                have lx := rdUn_le ly.2 eu
                have rx := rdUn_rg eu
                have lz := adv_le lx.2
                have h2 : (if kd T x.1 = 3 then (.inr (adv T x.1, rAdd D w (mea D (nm D) (nmd T (adv T t))) (mea D (nm D) (nmd T (adv T (adv T t)))) (cd T (adv T (adv T (adv T (adv T t))))) y.2 x.2) : Rd) else .inl x.1) = .inr z := h'
                by_cases e5 : kd T x.1 = 3
                · rw [if_pos e5] at h2
                  cases h2
                  exact ⟨rA_dV dv (by omega) hw (by unfold tvW; omega) (by unfold tvW; omega) (by omega) ry (by omega), ⟨by show t < adv T x.1; omega, lz.2⟩, rA_kp⟩
                · rw [if_neg e5] at h2; cases h2
          · rw [if_neg e4] at h; cases h
        · rw [if_neg e3] at h; cases h
set_option maxRecDepth 20000 in
set_option maxHeartbeats 8000000 in
theorem rdL_ok (dv : dV D) (ht : tvA T) (hl : t < tN T) (h : rdL T D t = .inr z) : okZ T D t z := by
  unfold rdL at h
  by_cases e0 : isW T 0 t = true
  · rw [if_pos e0] at h; exact rdG_ok dv ht hl h
  · rw [if_neg e0] at h
    by_cases e1 : isW T 1 t = true
    · rw [if_pos e1] at h; exact rdM_ok dv ht hl h
    · rw [if_neg e1] at h
      by_cases e3 : isW T 3 t = true
      · rw [if_pos e3] at h; exact rdR_ok dv ht (by omega) hl h
      · rw [if_neg e3] at h
        by_cases e4 : isW T 4 t = true
        · rw [if_pos e4] at h; exact rdR_ok dv ht (by omega) hl h
        · rw [if_neg e4] at h
          by_cases e5 : isW T 5 t = true
          · rw [if_pos e5] at h; exact rdR_ok dv ht (by omega) hl h
          · rw [if_neg e5] at h; cases h
/-- line by line to the end -/
def rdB (T : Tb) : Nat → Nat → Tb → Rd
  | 0, t, _ => .inl t
  | n + 1, t, D => if tN T ≤ t then .inr (t, D) else (rdL T D t).elim (fun u => .inl u) (fun z => rdB T n z.1 z.2)
def rdE (r : Rd) : Nat ⊕ Tb := r.elim (fun u => .inl u) (fun z => if z.2 0 2 = 0 then .inl z.1 else .inr z.2)
set_option maxRecDepth 20000 in
set_option maxHeartbeats 8000000 in
theorem rdA_B : ∀ (n t : Nat) (D : Tb), rdA T n t D = rdE (rdB T n t D)
  | 0, t, D => rfl
  | n + 1, t, D => by
    unfold rdA rdB
    by_cases e : tN T ≤ t
    · rw [if_pos e, if_pos e]; rfl
    · rw [if_neg e, if_neg e]
      cases er : rdL T D t with
      | inl u => rfl
      | inr z => exact rdA_B n z.1 z.2
def lpC (T D : Tb) (d b : Bool) (f : Nat) (F : Option (hV ⊕ (Int32 × hV))) (I : Nat → Nat → Int32) (J : Nat → Nat → Int64) (r : Rd) : Prop := match r with
  | .inl u => ∃ I' J', F = some (.inr (iI (u : Int), (I', J', Pst b f))) ∧ pF d I J I' J'
  | .inr z => ∃ I' J', F = some (.inl (I', J', Pst b f)) ∧ pF d I J I' J' ∧ crR T z.2 d z.1 I' J' ∧ dV z.2 ∧ kpD D z.2
set_option maxRecDepth 20000 in
set_option maxHeartbeats 8000000 in
theorem kd_0 : (kd T t = 0) = (tN T ≤ t) := by
  refine propext ⟨fun h => ?_, fun h => if_pos h⟩
  apply Classical.byContradiction
  intro q
  unfold kd at h
  rw [if_neg q] at h
  (repeat' split at h) <;> omega
set_option maxRecDepth 20000 in
set_option maxHeartbeats 8000000 in
theorem cl_lines (ht : tvA T) : ∀ (n fu k t : Nat) (D : Tb) (I : Nat → Nat → Int32) (J : Nat → Nat → Int64), n + k = 701 → n < fu → k ≤ t → crR T D d t I J → dV D → lpC T D d b f (jloop (Reader_readInto_L18 S0 (some 3) (some (ct d))) fu (iI (k : Int), (I, J, Pst b f))) I J (rdB T n t D)
  | 0, fu, k, t, D, I, J, hn, hf, hk, C, dv => by
    have h1 := C.1.2.2.2
    have h2 := tN_le ht
    omega
  | n + 1, fu, k, t, D, I, J, hn, hf, hk, C, dv => by
    obtain ⟨fu, rfl⟩ : ∃ z, fu = z + 1 := ⟨fu - 1, by omega⟩
    have h1 := C.1.2.2.2
    have h2 := tN_le ht
    have hkr := kd_rg (T := T) (t := t)
    unfold rdB
    by_cases e : tN T ≤ t
    · rw [if_pos e]
      refine ⟨I, J, jl_e ?_, pF.refl, C, dv, kpD.refl⟩
      unfold Reader_readInto_L18
      by_cases e2 : 700 ≤ k
      · rw [if_pos (by rw [n_700, iI_le (by omega)]; omega)]
      · rw [if_neg (by rw [n_700, iI_le (by omega)]; omega), gr3_0, Option.bind_some, gi1, C.1.2.1.2.2, Option.bind_some, if_pos (by rw [kd_0.mpr e]; rfl)]
    · rw [if_neg e]
      have hkd : ¬ kd T t = 0 := fun q => e (kd_0.mp q)
      obtain ⟨q, I1, J1, a1, a2, a3⟩ := cl_readLine (b := b) (f := f) C dv ht
      cases er : rdL T D t with
      | inl u =>
        rw [er] at a3
        have a3' : q = iI 0 ∧ I1 1 3 = iI (u : Int) := a3
        refine ⟨I1, J1, jl_e ?_, a2⟩
        unfold Reader_readInto_L18
        rw [if_neg (by rw [n_700, iI_le (by omega)]; omega), gr3_0, Option.bind_some, gi1, C.1.2.1.2.2, Option.bind_some, if_neg (by rw [n_0, iI_eq (by omega)]; exact hkd), a1, a3'.1, Option.bind_some, if_pos (by rfl), gr3_0, Option.bind_some, gi1, a3'.2, Option.bind_some]
      | inr z =>
        rw [er] at a3
        have a3' : q = iI 1 ∧ crR T z.2 d z.1 I1 J1 := a3
        obtain ⟨o1, o2, o3⟩ := rdL_ok dv ht (by omega) er
        have hstep : Reader_readInto_L18 S0 (some 3) (some (ct d)) (iI (k : Int), (I, J, Pst b f)) = some (.inl (iI ((k + 1 : Nat) : Int), (I1, J1, Pst b f))) := by
          unfold Reader_readInto_L18
          rw [if_neg (by rw [n_700, iI_le (by omega)]; omega), gr3_0, Option.bind_some, gi1, C.1.2.1.2.2, Option.bind_some, if_neg (by rw [n_0, iI_eq (by omega)]; exact hkd), a1, a3'.1, Option.bind_some, if_neg (show ¬ iI 1 = 0 by decide), n_1, iI_add]
          rfl
        rw [jl_s hstep]
        have ih := cl_lines ht n fu (k + 1) z.1 z.2 I1 J1 (by omega) (by omega) (by omega) a3'.2 o1
        show lpC T D d b f _ I J (rdB T n z.1 z.2)
        cases eb : rdB T n z.1 z.2 with
        | inl u =>
          rw [eb] at ih
          obtain ⟨I2, J2, b1, b2⟩ := ih
          exact ⟨I2, J2, b1, a2.trans b2⟩
        | inr y =>
          rw [eb] at ih
          obtain ⟨I2, J2, b1, b2, b3, b4, b5⟩ := ih
          exact ⟨I2, J2, b1, a2.trans b2, b3, b4, o3.trans b5⟩
def rdFa (T : Tb) : Int := (rdT T).elim (fun u : Nat => (u : Int)) (fun _ => -1)
set_option maxRecDepth 20000 in
set_option maxHeartbeats 8000000 in
theorem cl_readInto (hA : cA T I) (hq : kwC J) (ht : tvA T) : ∃ I' J', Reader_readInto S0 (some 3) (some (ct d)) (I, J, Pst b f) = some (iI (rdFa T), (I', J', Pst b f)) ∧ pF d I J I' J' ∧ ∀ D, rdT T = .inr D → ∃ t, crR T D d t I' J' ∧ dV D ∧ kpD T D ∧ 0 < D 0 2 := by
  have hcd := ct_or d
  obtain ⟨I1, hI1⟩ : ∃ I1, I1 = hup (hup (hup (hup (hup I 3 12 (iI 0)) (ct d) 4 (iI 0)) (ct d) 5 (iI 0)) (ct d) 6 (iI 0)) 1 4 (iI 0) := ⟨_, rfl⟩
  have fr1 : pF d I J I1 J := ⟨fun o k a1 a2 a3 a4 => by
    rw [hI1]
    unfold hup
    rw [if_neg (by omega), if_neg (by omega), if_neg (by omega), if_neg (by omega), if_neg (by omega)], fun _ _ _ _ => rfl⟩
  have hA1 : cA T I1 := ⟨by rw [hI1]; simp [hup, show ¬ (1 = ct d) by omega]; exact hA.1, fun k hk => by rw [hI1]; simp [hup, show ¬ (2 = ct d) by omega]; exact hA.2 k hk⟩
  have h14 : I1 1 4 = iI ((0 : Nat) : Int) := by rw [hI1]; exact hup_same _ _ _ _
  obtain ⟨I2, J2, a1, a2, a3⟩ := cl_advance (b := b) (f := f) hA1 ht h14 (Nat.zero_le _)
  have d2 : D0 T 0 2 = 0 := by simp [D0, hup]
  have d3 : D0 T 0 3 = 0 := by simp [D0, hup]
  have d4 : D0 T 0 4 = 0 := by simp [D0, hup]
  have hng : ng (D0 T) = 0 := by unfold ng; rw [d2]; rfl
  have hnm : nm (D0 T) = 0 := by unfold nm; rw [d3]; rfl
  have C : crR T (D0 T) d (skp T 0) I2 J2 := by
    refine ⟨⟨a2.cA hA1, a3⟩, ⟨fun w hw => (a2.2 3 _ (by omega)).trans (hq w hw), ?_⟩, ⟨⟨?_, ?_, ?_⟩, fun m hm => by omega⟩, fun r hr => by omega⟩
    · refine ⟨?_, fun _ => 0, fun _ => 0, fun k hk => by omega, fun k hk => by omega, fun i hi => by omega, fun i hi => by omega⟩
      rw [a2.1 3 12 (by omega), hI1, hng, hnm]; simp [hup, show ¬ (3 = ct d) by omega]
    · rw [a2.1 _ _ (by omega), hI1, d2]; simp [hup, show ¬ (ct d = 1) by omega]
    · rw [a2.1 _ _ (by omega), hI1, d3]; simp [hup, show ¬ (ct d = 1) by omega]
    · rw [a2.1 _ _ (by omega), hI1, d4]; simp [hup, show ¬ (ct d = 1) by omega]
  have hlo := cl_lines (b := b) (f := f) ht 701 jN 0 (skp T 0) (D0 T) I2 J2 (by omega) (by unfold jN; omega) (Nat.zero_le _) C dV_D0
  have hrd : rdT T = rdE (rdB T 701 (skp T 0) (D0 T)) := rdA_B 701 (skp T 0) (D0 T)
  have kp0 : kpD T (D0 T) := ⟨⟨by simp [D0, hup], by simp [D0, hup]⟩, by unfold D0; rw [hup_row (by omega), hup_row (by omega), hup_row (by omega)], by unfold D0; rw [hup_row (by omega), hup_row (by omega), hup_row (by omega)], by unfold D0; rw [hup_row (by omega), hup_row (by omega), hup_row (by omega)]⟩
  have hpre : ∀ Y, ((jloop (Reader_readInto_L18 S0 (some 3) (some (ct d))) jN (iI ((0 : Nat) : Int), (I2, J2, Pst b f))).bind fun t18 => Sum.elim (fun q18 => (gI S0 0 4 q18 (some (ct d))).bind fun x13 => if x13 = 0 then ((gR S0 5 0 q18 (some 3)).bind fun x14 => (gI S0 10 3 q18 x14).bind fun x15 => some (x15, q18)) else (some ((-1), q18))) (fun v => some v) t18) = Y → Reader_readInto S0 (some 3) (some (ct d)) (I, J, Pst b f) = Y := fun Y hY => by
    unfold Reader_readInto Court_empty Text_begin
    rw [rc3, Option.bind_some, n_0, pi3, Option.bind_some, rcct, Option.bind_some, pict, Option.bind_some, pict, Option.bind_some, pict, Option.bind_some, Option.bind_some, gr3_0, Option.bind_some, rc1, Option.bind_some, pi1, Option.bind_some, ← hI1, a1, Option.bind_some, Option.bind_some]
    exact hY
  cases eb : rdB T 701 (skp T 0) (D0 T) with
  | inl u =>
    rw [eb] at hlo
    obtain ⟨I3, J3, b1, b2⟩ := hlo
    have hv : rdFa T = (u : Int) := by unfold rdFa; rw [hrd, eb]; rfl
    refine ⟨I3, J3, hpre _ ?_, (fr1.trans (pF.tx a2)).trans b2, fun D hD => ?_⟩
    · rw [b1, Option.bind_some, Sum.elim_inr, hv]
    · rw [hrd, eb] at hD
      cases hD
  | inr z =>
    rw [eb] at hlo
    obtain ⟨I3, J3, b1, b2, b3, b4, b5⟩ := hlo
    have h02 := b4.1.1.1
    by_cases ez : z.2 0 2 = 0
    · have hv : rdFa T = (z.1 : Int) := by
        unfold rdFa; rw [hrd, eb]
        show ((if z.2 0 2 = 0 then (.inl z.1 : Nat ⊕ Tb) else .inr z.2).elim (fun u : Nat => (u : Int)) (fun _ => -1)) = _
        rw [if_pos ez]; rfl
      refine ⟨I3, J3, hpre _ ?_, (fr1.trans (pF.tx a2)).trans b2, fun D hD => ?_⟩
      · rw [b1, Option.bind_some, Sum.elim_inl, gict, b3.2.2.1.1.1, Option.bind_some, if_pos (by rw [ez]; rfl), gr3_0, Option.bind_some, gi1, b3.1.2.1.1, Option.bind_some, hv]
      · rw [hrd, eb] at hD
        have hD' : (if z.2 0 2 = 0 then (.inl z.1 : Nat ⊕ Tb) else .inr z.2) = .inr D := hD
        rw [if_pos ez] at hD'
        cases hD'
    · have hv : rdFa T = -1 := by
        unfold rdFa; rw [hrd, eb]
        show ((if z.2 0 2 = 0 then (.inl z.1 : Nat ⊕ Tb) else .inr z.2).elim (fun u : Nat => (u : Int)) (fun _ => -1)) = _
        rw [if_neg ez]; rfl
      refine ⟨I3, J3, hpre _ ?_, (fr1.trans (pF.tx a2)).trans b2, fun D hD => ?_⟩
      · rw [b1, Option.bind_some, Sum.elim_inl, gict, b3.2.2.1.1.1, Option.bind_some, if_neg (by rw [n_0, iI_eq (by omega)]; exact ez), hv, n_1, iI_neg]
      · rw [hrd, eb] at hD
        have hD' : (if z.2 0 2 = 0 then (.inl z.1 : Nat ⊕ Tb) else .inr z.2) = .inr D := hD
        rw [if_neg ez] at hD'
        cases hD'
        exact ⟨z.1, b3, b4, kp0.trans b5, by omega⟩
end
