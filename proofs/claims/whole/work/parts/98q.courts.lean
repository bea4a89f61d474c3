/-! ===== layer 2: court on both sides ===== -/
section
variable {T D D' : Tb} {I I' I'' : Nat → Nat → Int32} {J J' J'' : Nat → Nat → Int64} {b d v : Bool} {f k n i j e t s w M K r y : Nat} {m g h a c o lo hi x wt rm un c1 c2 : Int} {S F G : Nat → Bool} {q : Int32} {z : Nat × Tb}
set_option maxRecDepth 20000 in
set_option maxHeartbeats 8000000 in
theorem rdFa_m1 : (rdFa T = -1) = (∃ D, rdT T = .inr D) := by
  refine propext ⟨fun h => ?_, fun ⟨D, h⟩ => ?_⟩
  · unfold rdFa at h
    cases e : rdT T with
    | inl u =>
      rw [e] at h
      have h' : (u : Int) = -1 := h
      omega
    | inr D => exact ⟨D, rfl⟩
  · unfold rdFa
    rw [h]; rfl
set_option maxRecDepth 20000 in
set_option maxHeartbeats 8000000 in
theorem rdFa_rg : -1 ≤ rdFa T := by
  unfold rdFa
  cases rdT T with
  | inl u => show -1 ≤ (u : Int); omega
  | inr D => exact Int.le_refl _
set_option maxRecDepth 20000 in
set_option maxHeartbeats 8000000 in
theorem opC_cpl (dv : dV D) (hr : (r : Int) < D 0 4) (x y : Nat) : cpl (opC D) r x y = cpl D r x y := cpl_cong dv.2.1 dv.1 hr (fun o h5 h10 => opC_o (by omega) (by omega) r) (fun m _ => opC_o (by omega) (by omega) m) x y
set_option maxRecDepth 20000 in
set_option maxHeartbeats 8000000 in
theorem cl_court (E : EC T b I) (V : TV T) (hK : cK c1 c2 b I) (hq : kwC J) (hfb : rg (rdFa T)) : ∃ I' J' b', Fi_court S0 (some 0) (I, J, Pst b f) = some (iI (coR T), (I', J', Pst b' f)) ∧ (TV (coT T) ∧ EC (coT T) b' I' ∧ cK (c1 + coI T) (c2 + coI T) b' I' ∧ kwC J') ∧ ∀ o k, (5 < o ∧ o < 74) ∨ 132 ≤ o ∨ o = 0 → I' o k = I o k := by
  have hcb := ct_or b
  have hcn := ct_not b
  have hcd := ct_or (!b)
  obtain ⟨I1, J1, a1, a2, a3⟩ := cl_readInto (d := !b) (b := b) (f := f) E.1.1 hq V.1.1
  have hq1 := hq.pF a2
  cases er : rdT T with
  | inl u =>
    have hne : ¬ rdFa T = -1 := fun q => by
      rw [rdFa_m1, er] at q
      obtain ⟨D, hD⟩ := q
      cases hD
    have e1 : coR T = -1 := by unfold coR; rw [er]; rfl
    have e2 : coT T = T := by unfold coT; rw [er]; rfl
    have e3 : coI T = 0 := by unfold coI; rw [er]; rfl
    refine ⟨I1, J1, b, ?_, ⟨?_, ?_, ?_, hq1⟩, fun o k ho => a2.1 o k (by omega) (by omega) (by omega) (by omega)⟩
    · rw [e1]
      unfold Fi_court
      rw [rc0, Option.bind_some, gr0_1, Option.bind_some, gr0_8, Option.bind_some, a1, Option.bind_some, if_neg (by rw [n_1, iI_neg, iI_eq ⟨hfb, by unfold rg; omega⟩]; exact hne), n_1, iI_neg]
    · rw [e2]; exact V
    · rw [e2]; exact E.pF V a2
    · rw [e3, Int.add_zero, Int.add_zero]
      exact ⟨(a2.1 _ _ (by omega) (by omega) (by omega) (by omega)).trans hK.1, (a2.1 _ _ (by omega) (by omega) (by omega) (by omega)).trans hK.2⟩
  | inr D =>
    obtain ⟨t, C, dv, kp, hpos⟩ := a3 D er
    have hfm : rdFa T = -1 := by rw [rdFa_m1]; exact ⟨D, er⟩
    have e1 : coR T = D 0 2 := by unfold coR; rw [er]; rfl
    have e2 : coT T = opC D := by unfold coT; rw [er]; rfl
    have e3 : coI T = 1 := by unfold coI; rw [er]; rfl
    have hd := dv.1.1
    have hngI : (ng D : Int) = D 0 2 := by unfold ng; omega
    have h4 : I1 (ct (!b)) 4 = iI (ng D : Int) := by rw [hngI]; exact C.2.2.1.1.1
    obtain ⟨I2, b1, b2, ⟨b3, b4, b5, b6⟩, b7, b8⟩ := cl_opens (J := J1) (b := !b) (f := f) (c1 := c1) (c2 := c2) h4 (by omega) (show I1 (ct b) 9 = iI c1 from (a2.1 _ _ (by omega) (by omega) (by omega) (by omega)).trans hK.1) (show I1 (ct b) 10 = iI c2 from (a2.1 _ _ (by omega) (by omega) (by omega) (by omega)).trans hK.2) (by rw [Bool.not_not])
    have B2 : ∀ o k, o < 74 ∨ 132 ≤ o ∨ (o = ct (!b) ∧ k < 7) ∨ o = ct (!b) + 1 → I2 o k = I1 o k := fun o k ho => b2 o k (by omega) (by omega) (by omega) (by
      rintro ⟨⟨r, r1, r2⟩, r3⟩
      have : ru (!b) r = ct (!b) + 5 + 2 * r := rfl
      omega)
    have htx : cA T I2 := ⟨(B2 1 1 (by omega)).trans C.1.1.1, fun k hk => (B2 2 k (by omega)).trans (C.1.1.2 k hk)⟩
    have hvA := V.1.1
    have hcut : Text_cutTo S0 (some 1) 0 (I2, J1, Pst (!b) f) = some (1, (hup I2 1 1 (iI 0), J1, Pst (!b) f)) := by
      have h0 := hvA.1
      unfold Text_cutTo
      rw [rc1, Option.bind_some, if_neg (by decide), gi1, htx.1, Option.bind_some, n_0, if_pos (by rw [iI_le (by omega)]; omega), pi1, Option.bind_some]
    have hP : ∀ o k, o ≠ 1 → hup I2 1 1 (iI 0) o k = I2 o k := fun o k ho => hup_obj _ _ _ ho
    refine ⟨hup I2 1 1 (iI 0), J1, !b, ?_, ⟨?_, ?_, ?_, hq1⟩, fun o k ho => ?_⟩
    · rw [e1]
      unfold Fi_court
      rw [rc0, Option.bind_some, gr0_1, Option.bind_some, gr0_8, Option.bind_some, a1, Option.bind_some, hfm, if_pos (by rfl), gr0_7, Option.bind_some, gr0_8, Option.bind_some, pr0, Option.bind_some, pr0, Pst_c, Option.bind_some, gr0_7, Option.bind_some, b1, Option.bind_some, gr0_0, Option.bind_some, hcut, Option.bind_some, gr0_7, Option.bind_some, gict, hP _ _ (by omega), B2 _ _ (by omega), h4, Option.bind_some, hngI]
    · rw [e2]; exact opC_TV V dv kp
    · rw [e2]
      obtain ⟨⟨h00, h01⟩, k1, k2, k3⟩ := kp
      refine ⟨⟨⟨hup_same _ _ _ _, fun k hk => ?_⟩, ⟨?_, fun k hk => ?_⟩⟩, ⟨⟨⟨?_, ?_, ?_⟩, fun m hm => ?_⟩, fun r hr => ?_⟩, ⟨⟨?_, ?_⟩, fun g hg => ?_⟩⟩
      · rw [hP _ _ (by omega), htx.2 k hk, opC_o (by omega) (by omega), k1]
      · rw [hP _ _ (by omega), B2 _ _ (by omega), a2.1 _ _ (by omega) (by omega) (by omega) (by omega), opC_0 (by omega), h01]; exact E.1.2.1
      · have hro := ro_is k
        have hE := E.1.2.2 k hk
        have A : ∀ j, hup I2 1 1 (iI 0) (ro k) j = I (ro k) j := fun j => by rw [hP _ _ (by omega), B2 _ _ (by omega), a2.1 _ _ (by omega) (by omega) (by omega) (by omega)]
        rw [A, A, A, opC_0 (by omega), h01, opC_o (by omega) (by omega), opC_o (by omega) (by omega), k2, k3]
        exact hE
      · rw [hP _ _ (by omega), B2 _ _ (by omega), opC_0 (by omega)]; exact C.2.2.1.1.1
      · rw [hP _ _ (by omega), B2 _ _ (by omega), opC_0 (by omega)]; exact C.2.2.1.1.2.1
      · rw [hP _ _ (by omega), B2 _ _ (by omega), opC_0 (by omega)]; exact C.2.2.1.1.2.2
      · rw [opC_0 (by omega)] at hm
        rw [hP _ _ (by omega), B2 _ _ (by omega), opC_o (by omega) (by omega)]; exact C.2.2.1.2 m hm
      · rw [opC_0 (by omega)] at hr
        have hru : ru (!b) r = ct (!b) + 5 + 2 * r := rfl
        have hcu : cu (!b) r = ct (!b) + 6 + 2 * r := rfl
        obtain ⟨⟨q1, q2, q3, q4, q5, q6⟩, q7⟩ := C.2.2.2 r hr
        have A : ∀ k, k ≠ 6 → hup I2 1 1 (iI 0) (ru (!b) r) k = I1 (ru (!b) r) k := fun k hk => by
          rw [hP _ _ (by omega)]
          exact b2 _ k (by omega) (by omega) (by omega) (fun q => hk q.2)
        have A2 : ∀ k, hup I2 1 1 (iI 0) (cu (!b) r) k = I1 (cu (!b) r) k := fun k => by
          rw [hP _ _ (by omega)]
          refine b2 _ k (by omega) (by omega) (by omega) ?_
          rintro ⟨⟨r', r1, r2⟩, r3⟩
          have : ru (!b) r' = ct (!b) + 5 + 2 * r' := rfl
          omega
        have Q := fun (o : Nat) (h1 : o ≠ 0) (h2 : o < 11 ∨ 15 < o) => opC_o (D := D) h1 h2 r
        rw [Q 5 (by omega) (by omega), Q 6 (by omega) (by omega), Q 7 (by omega) (by omega), Q 8 (by omega) (by omega), Q 9 (by omega) (by omega), Q 10 (by omega) (by omega), A 0 (by omega), A 1 (by omega), A 2 (by omega), A 3 (by omega), A 4 (by omega), A 5 (by omega), hP _ _ (by omega)]
        refine ⟨q1, q2, q3, q4, q5, q6, b8 r (by omega), fun x hx => ?_⟩
        rw [A2, q7 x hx]
        exact sI_ext fun y _ => (opC_cpl dv hr x y).symm
      · rw [hP _ _ (by omega), b3, bcom_opC]
        congr 1
        have := Nat.one_le_two_pow (n := ng D)
        omega
      · rw [hP _ _ (by omega), b4, bsit_opC]; rfl
      · rw [opC_0 (by omega)] at hg
        rw [hP _ _ (by omega), hP _ _ (by omega)]
        exact b7 g (by omega)
    · rw [e3]
      exact ⟨(hP _ _ (by omega)).trans b5, (hP _ _ (by omega)).trans b6⟩
    · rw [hP _ _ (by omega), B2 _ _ (by omega), a2.1 _ _ (by omega) (by omega) (by omega) (by omega)]
/-! the model -/
set_option maxRecDepth 20000 in
set_option maxHeartbeats 8000000 in
theorem mo_fault (E : EM T I) (V : TV T) : ∃ I' J', Mo_fault S0 (some 132) (I, J, Pst b f) = some (iI (rdFa T), (I', J', Pst b f)) ∧ mF I J I' J' := by
  obtain ⟨I1, J1, a1, a2, a3, a4⟩ := mo_reads (J := J) (b := b) (f := f) E.1.1 V.1.1
  refine ⟨I1, J1, ?_, a2⟩
  unfold Mo_fault
  rw [rc132, Option.bind_some, a1, Option.bind_some, gi132, a3, Option.bind_some]
set_option maxRecDepth 20000 in
set_option maxHeartbeats 8000000 in
theorem mo_copy1 : ∃ I', jloop (Mo_court_L52 S0 (some 132)) jN (iI 0, (I, J, Pst b f)) = some (I', J, Pst b f) ∧ (∀ o k, o ≠ 141 → I' o k = I o k) ∧ ∀ k, k < 5 → I' 141 k = I 142 k := by
  refine jheap (J := J) (P := Pst b f) (I := I) (fun k I' => (∀ o j, o ≠ 141 → I' o j = I o j) ∧ ∀ j, j < k → I' 141 j = I 142 j) 0 5 ⟨fun _ _ _ => rfl, fun j hj => by omega⟩ (by omega) (by omega) (fun k I1 _ hk q1 => ?_) (fun I1 q1 => ?_)
  · have r0 : aR S0 107 (I1, J, Pst b f) (some 140) 0 = some (some 141) := ar140_0
    have r1 : aR S0 107 (I1, J, Pst b f) (some 140) 1 = some (some 142) := ar140_1
    refine ⟨hup I1 141 k (I 142 k), ?_, fun o j ho => by rw [hup_obj _ _ _ ho]; exact q1.1 o j ho, fun j hj => ?_⟩
    · unfold Mo_court_L52
      rw [if_neg (by rw [n_5, iI_le (by omega)]; omega), gr132_8, Option.bind_some, r0, Option.bind_some, Option.bind_some, r1, Option.bind_some, ld142 (by omega), Option.bind_some, Int.toNat_natCast, q1.1 142 k (by omega), st141 (by omega), Int.toNat_natCast, Option.bind_some, n_1, iI_add]
    · by_cases e : j = k
      · rw [e, hup_same]
      · rw [hup_ix _ _ _ e]; exact q1.2 j (by omega)
  · unfold Mo_court_L52
    rw [if_pos (by rw [n_5, iI_le (by omega)]; omega)]
def cpO (o : Nat) : Prop := o = 144 ∨ o = 147 ∨ o = 150 ∨ o = 153 ∨ o = 156 ∨ o = 159 ∨ o = 165
set_option maxRecDepth 20000 in
set_option maxHeartbeats 8000000 in
theorem mo_copy2 : ∃ I', jloop (Mo_court_L81 S0 (some 132)) jN (iI 0, (I, J, Pst b f)) = some (I', J, Pst b f) ∧ (∀ o k, ¬ cpO o → I' o k = I o k) ∧ ∀ k, k < 12 → (I' 144 k = I 145 k ∧ I' 147 k = I 148 k ∧ I' 150 k = I 151 k ∧ I' 153 k = I 154 k ∧ I' 156 k = I 157 k ∧ I' 159 k = I 160 k) ∧ I' 165 k = iI 0 := by
  refine jheap (J := J) (P := Pst b f) (I := I) (fun k I' => (∀ o k, ¬ cpO o → I' o k = I o k) ∧ ∀ j, j < k → (I' 144 j = I 145 j ∧ I' 147 j = I 148 j ∧ I' 150 j = I 151 j ∧ I' 153 j = I 154 j ∧ I' 156 j = I 157 j ∧ I' 159 j = I 160 j) ∧ I' 165 j = iI 0) 0 12 ⟨fun _ _ _ => rfl, fun j hj => by omega⟩ (by omega) (by omega) (fun k I1 _ hk q1 => ?_) (fun I1 q1 => ?_)
  · have r30 : ∀ I', aR S0 107 (I', J, Pst b f) (some 143) 0 = some (some 144) := fun I' => ar143_0
    have r31 : ∀ I', aR S0 107 (I', J, Pst b f) (some 143) 1 = some (some 145) := fun I' => ar143_1
    have r60 : ∀ I', aR S0 107 (I', J, Pst b f) (some 146) 0 = some (some 147) := fun I' => ar146_0
    have r61 : ∀ I', aR S0 107 (I', J, Pst b f) (some 146) 1 = some (some 148) := fun I' => ar146_1
    have r90 : ∀ I', aR S0 107 (I', J, Pst b f) (some 149) 0 = some (some 150) := fun I' => ar149_0
    have r91 : ∀ I', aR S0 107 (I', J, Pst b f) (some 149) 1 = some (some 151) := fun I' => ar149_1
    have r20 : ∀ I', aR S0 107 (I', J, Pst b f) (some 152) 0 = some (some 153) := fun I' => ar152_0
    have r21 : ∀ I', aR S0 107 (I', J, Pst b f) (some 152) 1 = some (some 154) := fun I' => ar152_1
    have r50 : ∀ I', aR S0 107 (I', J, Pst b f) (some 155) 0 = some (some 156) := fun I' => ar155_0
    have r51 : ∀ I', aR S0 107 (I', J, Pst b f) (some 155) 1 = some (some 157) := fun I' => ar155_1
    have r80 : ∀ I', aR S0 107 (I', J, Pst b f) (some 158) 0 = some (some 159) := fun I' => ar158_0
    have r81 : ∀ I', aR S0 107 (I', J, Pst b f) (some 158) 1 = some (some 160) := fun I' => ar158_1
    have sz : ∀ I', sZ S0 (I', J, Pst b f) (some 165) (iI (k : Int)) (iI 0) = some (hup I' 165 k (iI 0), J, Pst b f) := fun I' => by
      have := st165 (b := false) (I := I') (J := J) (P := Pst b f) (a := (k : Int)) (by omega)
      rw [Int.toNat_natCast] at this
      exact this
    have no : ∀ o, o = 145 ∨ o = 148 ∨ o = 151 ∨ o = 154 ∨ o = 157 ∨ o = 160 → ¬ cpO o := fun o ho => by unfold cpO; omega
    refine ⟨hup (hup (hup (hup (hup (hup (hup I1 144 k (I 145 k)) 147 k (I 148 k)) 150 k (I 151 k)) 153 k (I 154 k)) 156 k (I 157 k)) 159 k (I 160 k)) 165 k (iI 0), ?_, fun o j ho => ?_, fun j hj => ?_⟩
    · unfold Mo_court_L81
      rw [if_neg (by rw [n_12, iI_le (by omega)]; omega), gr132_9, Option.bind_some, r30, Option.bind_some, Option.bind_some, r31, Option.bind_some, ld145 (by omega), Option.bind_some, Int.toNat_natCast, q1.1 145 k (no _ (by omega)), st144 (by omega), Int.toNat_natCast, Option.bind_some, gr132_10, Option.bind_some, r60, Option.bind_some, Option.bind_some, r61, Option.bind_some, ld148 (by omega), Option.bind_some, Int.toNat_natCast, hup_obj _ _ _ (show (148 : Nat) ≠ 144 by omega), q1.1 148 k (no _ (by omega)), st147 (by omega), Int.toNat_natCast, Option.bind_some, gr132_11, Option.bind_some, r90, Option.bind_some, Option.bind_some, r91, Option.bind_some, ld151 (by omega), Option.bind_some, Int.toNat_natCast, hup_obj _ _ _ (show (151 : Nat) ≠ 147 by omega), hup_obj _ _ _ (show (151 : Nat) ≠ 144 by omega), q1.1 151 k (no _ (by omega)), st150 (by omega), Int.toNat_natCast, Option.bind_some, gr132_12, Option.bind_some, r20, Option.bind_some, Option.bind_some, r21, Option.bind_some, ld154 (by omega), Option.bind_some, Int.toNat_natCast, hup_obj _ _ _ (show (154 : Nat) ≠ 150 by omega), hup_obj _ _ _ (show (154 : Nat) ≠ 147 by omega), hup_obj _ _ _ (show (154 : Nat) ≠ 144 by omega), q1.1 154 k (no _ (by omega)), st153 (by omega), Int.toNat_natCast, Option.bind_some, gr132_13, Option.bind_some, r50, Option.bind_some, Option.bind_some, r51, Option.bind_some, ld157 (by omega), Option.bind_some, Int.toNat_natCast, hup_obj _ _ _ (show (157 : Nat) ≠ 153 by omega), hup_obj _ _ _ (show (157 : Nat) ≠ 150 by omega), hup_obj _ _ _ (show (157 : Nat) ≠ 147 by omega), hup_obj _ _ _ (show (157 : Nat) ≠ 144 by omega), q1.1 157 k (no _ (by omega)), st156 (by omega), Int.toNat_natCast, Option.bind_some, gr132_14, Option.bind_some, r80, Option.bind_some, Option.bind_some, r81, Option.bind_some, ld160 (by omega), Option.bind_some, Int.toNat_natCast, hup_obj _ _ _ (show (160 : Nat) ≠ 156 by omega), hup_obj _ _ _ (show (160 : Nat) ≠ 153 by omega), hup_obj _ _ _ (show (160 : Nat) ≠ 150 by omega), hup_obj _ _ _ (show (160 : Nat) ≠ 147 by omega), hup_obj _ _ _ (show (160 : Nat) ≠ 144 by omega), q1.1 160 k (no _ (by omega)), st159 (by omega), Int.toNat_natCast, Option.bind_some, gr132_19, Option.bind_some, n_0, sz, Option.bind_some, n_1, iI_add]
    · unfold cpO at ho
      rw [hup_obj _ _ _ (by omega), hup_obj _ _ _ (by omega), hup_obj _ _ _ (by omega), hup_obj _ _ _ (by omega), hup_obj _ _ _ (by omega), hup_obj _ _ _ (by omega), hup_obj _ _ _ (by omega)]
      exact q1.1 o j ho
    · by_cases e : j = k
      · rw [e]
        simp [hup]
      · have := q1.2 j (by omega)
        simp [hup, e]
        exact this
  · unfold Mo_court_L81
    rw [if_pos (by rw [n_12, iI_le (by omega)]; omega)]
set_option maxRecDepth 20000 in
set_option maxHeartbeats 8000000 in
theorem mo_copy3 : ∃ I', jloop (Mo_court_L198 S0 (some 132)) jN (iI 0, (I, J, Pst b f)) = some (I', J, Pst b f) ∧ (∀ o k, ¬ (166 ≤ o ∧ o ≤ 169) → I' o k = I o k) ∧ ∀ k, k < 10 → I' 166 k = iI 1 ∧ I' 167 k = iI 0 ∧ I' 168 k = iI (-1) ∧ I' 169 k = iI (-1) := by
  refine jheap (J := J) (P := Pst b f) (I := I) (fun k I' => (∀ o k, ¬ (166 ≤ o ∧ o ≤ 169) → I' o k = I o k) ∧ ∀ j, j < k → I' 166 j = iI 1 ∧ I' 167 j = iI 0 ∧ I' 168 j = iI (-1) ∧ I' 169 j = iI (-1)) 0 10 ⟨fun _ _ _ => rfl, fun j hj => by omega⟩ (by omega) (by omega) (fun k I1 _ hk q1 => ?_) (fun I1 q1 => ?_)
  · have z6 : ∀ I', sZ S0 (I', J, Pst b f) (some 166) (iI (k : Int)) (iI 1) = some (hup I' 166 k (iI 1), J, Pst b f) := fun I' => by
      have := st166 (b := true) (I := I') (J := J) (P := Pst b f) (a := (k : Int)) (by omega)
      rw [Int.toNat_natCast] at this
      exact this
    have z7 : ∀ I', sZ S0 (I', J, Pst b f) (some 167) (iI (k : Int)) (iI 0) = some (hup I' 167 k (iI 0), J, Pst b f) := fun I' => by
      have := st167 (b := false) (I := I') (J := J) (P := Pst b f) (a := (k : Int)) (by omega)
      rw [Int.toNat_natCast] at this
      exact this
    refine ⟨hup (hup (hup (hup I1 166 k (iI 1)) 167 k (iI 0)) 168 k (iI (-1))) 169 k (iI (-1)), ?_, fun o j ho => ?_, fun j hj => ?_⟩
    · unfold Mo_court_L198
      rw [if_neg (by rw [n_10, iI_le (by omega)]; omega), show (-1 : Int32) = iI (-1) from rfl, n_0, n_1, gr132_20, Option.bind_some, z6, Option.bind_some, gr132_21, Option.bind_some, z7, Option.bind_some, gr132_22, Option.bind_some, st168 (by omega), Int.toNat_natCast, Option.bind_some, gr132_23, Option.bind_some, st169 (by omega), Int.toNat_natCast, Option.bind_some, iI_add]
    · rw [hup_obj _ _ _ (by omega), hup_obj _ _ _ (by omega), hup_obj _ _ _ (by omega), hup_obj _ _ _ (by omega)]
      exact q1.1 o j ho
    · by_cases e : j = k
      · rw [e]
        simp [hup]
      · have := q1.2 j (by omega)
        simp [hup, e]
        exact this
  · unfold Mo_court_L198
    rw [if_pos (by rw [n_10, iI_le (by omega)]; omega)]
set_option maxRecDepth 20000 in
set_option maxHeartbeats 8000000 in
theorem mo_court (E : EM T I) (V : TV T) (hfb : rg (rdFa T)) : ∃ I' J', Mo_court S0 (some 132) (I, J, Pst b f) = some (iI (coR T), (I', J', Pst b f)) ∧ EM (coT T) I' ∧ (∀ o k, o < 132 → I' o k = I o k) ∧ ∀ o k, o < 132 → J' o k = J o k := by
  obtain ⟨I1, J1, a1, a2, a3, a4⟩ := mo_reads (J := J) (b := b) (f := f) E.1.1 V.1.1
  cases er : rdT T with
  | inl u =>
    have hne : ¬ rdFa T = -1 := fun q => by
      rw [rdFa_m1, er] at q
      obtain ⟨D, hD⟩ := q
      cases hD
    have e1 : coR T = -1 := by unfold coR; rw [er]; rfl
    have e2 : coT T = T := by unfold coT; rw [er]; rfl
    refine ⟨I1, J1, ?_, ?_, fun o k ho => a2.1 o k (by omega) (rw_no (by omega)) (by omega), fun o k ho => a2.2 o k (by omega) (by omega)⟩
    · rw [e1]
      unfold Mo_court
      rw [rc132, Option.bind_some, a1, Option.bind_some, gi132, a3, Option.bind_some, if_neg (by rw [n_1, iI_neg, iI_eq ⟨hfb, by unfold rg; omega⟩]; exact hne), n_1, iI_neg]
    · rw [e2]; exact E.mF a2
  | inr D =>
    obtain ⟨t, R, dv, kp, hpos⟩ := a4 D er
    have hfm : rdFa T = -1 := by rw [rdFa_m1]; exact ⟨D, er⟩
    have e1 : coR T = D 0 2 := by unfold coR; rw [er]; rfl
    have e2 : coT T = opC D := by unfold coT; rw [er]; rfl
    have hd := dv.1.1
    have E1 := E.mF a2
    obtain ⟨I2, hI2⟩ : ∃ I2, I2 = hup (hup (hup I1 161 0 (iI (D 0 2))) 162 0 (iI (D 0 3))) 163 0 (iI (D 0 4)) := ⟨_, rfl⟩
    obtain ⟨I3, b1, b2, b3⟩ := mo_copy1 (I := I2) (J := J1) (b := b) (f := f)
    obtain ⟨I4, g1, g2, g3⟩ := mo_copy2 (I := I3) (J := J1) (b := b) (f := f)
    obtain ⟨I5, l1, l2, l3⟩ := mo_copy3 (I := I4) (J := J1) (b := b) (f := f)
    have l61 : ∀ I', aI S0 (I', J1, Pst b f) (some 161) 1 = some (I' 161 1) := fun I' => ld161 (a := 1) (by omega)
    have l62 : ∀ I', aI S0 (I', J1, Pst b f) (some 162) 1 = some (I' 162 1) := fun I' => ld162 (a := 1) (by omega)
    have l63 : ∀ I', aI S0 (I', J1, Pst b f) (some 163) 1 = some (I' 163 1) := fun I' => ld163 (a := 1) (by omega)
    have l60 : ∀ I', aI S0 (I', J1, Pst b f) (some 161) (iI 0) = some (I' 161 0) := fun I' => ld161 (a := 0) (by omega)
    have s61 : ∀ I' x, sI S0 (I', J1, Pst b f) (some 161) (iI 0) x = some (hup I' 161 0 x, J1, Pst b f) := fun I' x => st161 (a := 0) (by omega)
    have s62 : ∀ I' x, sI S0 (I', J1, Pst b f) (some 162) (iI 0) x = some (hup I' 162 0 x, J1, Pst b f) := fun I' x => st162 (a := 0) (by omega)
    have s63 : ∀ I' x, sI S0 (I', J1, Pst b f) (some 163) (iI 0) x = some (hup I' 163 0 x, J1, Pst b f) := fun I' x => st163 (a := 0) (by omega)
    have nc : ∀ o, ¬ (o = 144 ∨ o = 147 ∨ o = 150 ∨ o = 153 ∨ o = 156 ∨ o = 159 ∨ o = 165) → ¬ cpO o := fun o ho => by unfold cpO; exact ho
    have A2 : ∀ o k, o ≠ 161 → o ≠ 162 → o ≠ 163 → I2 o k = I1 o k := fun o k h1 h2 h3 => by rw [hI2, hup_obj _ _ _ h3, hup_obj _ _ _ h2, hup_obj _ _ _ h1]
    have A5 : ∀ o k, ¬ (166 ≤ o ∧ o ≤ 169) → ¬ (o = 144 ∨ o = 147 ∨ o = 150 ∨ o = 153 ∨ o = 156 ∨ o = 159 ∨ o = 165) → o ≠ 141 → hup I5 132 1 (iI 0) o k = hup I2 132 1 (iI 0) o k := fun o k h1 h2 h3 => by
      unfold hup
      by_cases e : o = 132 ∧ k = 1
      · rw [if_pos e, if_pos e]
      · rw [if_neg e, if_neg e]
        exact (l2 o k h1).trans ((g2 o k (nc o h2)).trans (b2 o k h3))
    refine ⟨hup I5 132 1 (iI 0), J1, ?_, ?_, fun o k ho => ?_, fun o k ho => a2.2 o k (by omega) (by omega)⟩
    · rw [e1]
      have h50 : I5 161 0 = iI (D 0 2) := by
        have := A5 161 0 (by omega) (by omega) (by omega)
        rw [hup_obj _ _ _ (by omega), hup_obj _ _ _ (by omega)] at this
        rw [this, hI2]; simp [hup]
      have r2 : hup I1 161 0 (iI (D 0 2)) 162 1 = iI (D 0 3) := by rw [hup_obj _ _ _ (by omega)]; exact R.2.1.2.1
      have r3 : hup (hup I1 161 0 (iI (D 0 2))) 162 0 (iI (D 0 3)) 163 1 = iI (D 0 4) := by rw [hup_obj _ _ _ (by omega), hup_obj _ _ _ (by omega)]; exact R.2.1.2.2
      have h50' : hup I5 132 1 (iI 0) 161 0 = iI (D 0 2) := by rw [hup_obj _ _ _ (by omega)]; exact h50
      unfold Mo_court
      rw [rc132, Option.bind_some, a1, Option.bind_some, gi132, a3, Option.bind_some, hfm, if_pos (by rfl), gr132_15, Option.bind_some, Option.bind_some, l61, R.2.1.1, Option.bind_some, n_0, s61, Option.bind_some, gr132_16, Option.bind_some, Option.bind_some, l62, r2, Option.bind_some, s62, Option.bind_some, gr132_17, Option.bind_some, Option.bind_some, l63, r3, Option.bind_some, s63, ← hI2, Option.bind_some, b1, Option.bind_some, g1, Option.bind_some, l1, Option.bind_some, pi132, Option.bind_some, gr132_15, Option.bind_some, l60, h50', Option.bind_some]
    · rw [e2]
      obtain ⟨⟨h00, h01⟩, k1, k2, k3⟩ := kp
      have hnmI : (nm D : Int) = D 0 3 := by unfold nm; omega
      have hnrI : (nr D : Int) = D 0 4 := by unfold nr; omega
      have P := fun (o k : Nat) (h1 : ¬ (166 ≤ o ∧ o ≤ 169)) (h2 : ¬ (o = 144 ∨ o = 147 ∨ o = 150 ∨ o = 153 ∨ o = 156 ∨ o = 159 ∨ o = 165)) (h3 : o ≠ 141) (h4 : o ≠ 132) (h5 : o ≠ 161) (h6 : o ≠ 162) (h7 : o ≠ 163) => ((A5 o k h1 h2 h3).trans (hup_obj _ _ _ h4)).trans (A2 o k h5 h6 h7)
      refine ⟨⟨⟨hup_same _ _ _ _, fun k hk => ?_⟩, ⟨?_, fun k hk => ?_⟩⟩, ⟨⟨⟨?_, ?_, ?_⟩, fun m hm => ?_⟩, fun r hr => ?_⟩, fun g hg => ?_⟩
      · rw [P _ _ (by omega) (by omega) (by omega) (by omega) (by omega) (by omega) (by omega), opC_o (by omega) (by omega), k1]; exact R.1.1.1.2 k hk
      · rw [A5 _ _ (by omega) (by omega) (by omega), hup_ix _ _ _ (by omega), A2 _ _ (by omega) (by omega) (by omega), opC_0 (by omega), h01]; exact E1.1.2.1
      · rw [opC_0 (by omega), h01] at hk
        rw [P _ _ (by omega) (by omega) (by omega) (by omega) (by omega) (by omega) (by omega), P _ _ (by omega) (by omega) (by omega) (by omega) (by omega) (by omega) (by omega), opC_o (by omega) (by omega), opC_o (by omega) (by omega), k2, k3]; exact E1.1.2.2 k hk
      · rw [A5 _ _ (by omega) (by omega) (by omega), hup_obj _ _ _ (by omega), hI2, opC_0 (by omega)]; simp [hup]
      · rw [A5 _ _ (by omega) (by omega) (by omega), hup_obj _ _ _ (by omega), hI2, opC_0 (by omega)]; simp [hup]
      · rw [A5 _ _ (by omega) (by omega) (by omega), hup_obj _ _ _ (by omega), hI2, opC_0 (by omega)]; simp [hup]
      · rw [opC_0 (by omega)] at hm
        rw [hup_obj _ _ _ (by omega), l2 _ _ (by omega), g2 _ _ (nc _ (by omega)), b3 m (by omega), A2 _ _ (by omega) (by omega) (by omega), opC_o (by omega) (by omega)]
        exact R.2.2.2.1 m (by omega)
      · rw [opC_0 (by omega)] at hr
        obtain ⟨q1, q2⟩ := g3 r (by omega)
        obtain ⟨t1, t2, t3, t4, t5, t6⟩ := R.2.2.2.2 r (by omega)
        have Q := fun (o : Nat) (h1 : o ≠ 0) (h2 : o < 11 ∨ 15 < o) => opC_o (D := D) h1 h2 r
        have X : ∀ o, 144 ≤ o ∧ o ≤ 165 → hup I5 132 1 (iI 0) o r = I4 o r := fun o ho => by rw [hup_obj _ _ _ (by omega)]; exact l2 _ _ (by omega)
        have Y : ∀ o, o = 145 ∨ o = 148 ∨ o = 151 ∨ o = 154 ∨ o = 157 ∨ o = 160 → I3 o r = I1 o r := fun o ho => by rw [b2 _ _ (by omega)]; exact A2 _ _ (by omega) (by omega) (by omega)
        rw [Q 5 (by omega) (by omega), Q 6 (by omega) (by omega), Q 7 (by omega) (by omega), Q 8 (by omega) (by omega), Q 9 (by omega) (by omega), Q 10 (by omega) (by omega), X 144 (by omega), X 147 (by omega), X 150 (by omega), X 153 (by omega), X 156 (by omega), X 159 (by omega), X 165 (by omega)]
        rw [Y 145 (by omega), Y 148 (by omega), Y 151 (by omega), Y 154 (by omega), Y 157 (by omega), Y 160 (by omega)] at q1
        exact ⟨q1.1.trans t1, q1.2.1.trans t2, q1.2.2.1.trans t3, q1.2.2.2.1.trans t4, q1.2.2.2.2.1.trans t5, q1.2.2.2.2.2.trans t6, q2⟩
      · rw [opC_0 (by omega)] at hg
        rw [hup_obj _ _ _ (by omega), hup_obj _ _ _ (by omega), hup_obj _ _ _ (by omega), hup_obj _ _ _ (by omega)]
        exact l3 g (by omega)
    · rw [hup_obj _ _ _ (by omega), l2 _ _ (by omega), g2 _ _ (nc _ (by omega)), b2 _ _ (by omega), A2 _ _ (by omega) (by omega) (by omega), a2.1 o k (by omega) (rw_no (by omega)) (by omega)]
end
