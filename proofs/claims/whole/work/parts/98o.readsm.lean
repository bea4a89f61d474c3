/-! ===== layer 2: the text: the model reads it all ===== -/
section
variable {T D D' : Tb} {I I' I'' : Nat → Nat → Int32} {J J' J'' : Nat → Nat → Int64} {b d v : Bool} {f k n i j e t s w M K r y : Nat} {m g h a c o lo hi x wt rm un : Int} {S F G : Nat → Bool} {q : Int32} {z : Nat × Tb}
set_option maxRecDepth 20000 in
set_option maxHeartbeats 8000000 in
theorem rzM_01 {r : Rd} (h : rzM T q I J r) : q = iI 0 ∨ q = iI 1 := by
  cases r with
  | inl u => exact Or.inl h.1
  | inr z => exact Or.inr h.1
set_option maxRecDepth 20000 in
set_option maxHeartbeats 8000000 in
theorem end01 {r : Rd} (h : rzM T q I J r) (V : hV) : (if (q, V).1 = 0 then (some ((0 : Int32), (q, V).2)) else (some (1, (q, V).2))) = some (q, V) := by
  rcases rzM_01 h with z | z
  · rw [z, if_pos (show (iI 0, V).1 = 0 from rfl)]; rfl
  · rw [z, if_neg (show ¬ (iI 1, V).1 = 0 by show ¬ iI 1 = 0; decide)]; rfl
def mlR (j92 : Int32) (V : hV) : Option (Int32 × hV) := ((if j92 = (-1) then (some 0) else ((gR S0 12 17 V (some 132)).bind fun x11 => (aI S0 V x11 1).bind fun x12 => if 12 ≤ x12 then (some 0) else (some 1))) : Option Int32).bind fun j128 => (Mo_passes S0 (some 132) j128 V).bind fun w7 => if w7.1 = 0 then (some (0, w7.2)) else ((Mo_ruleRead S0 (some 132) j92 w7.2).bind fun w9 => if w9.1 = 0 then (some (0, w9.2)) else (some (1, w9.2)))
set_option maxRecDepth 20000 in
set_option maxHeartbeats 8000000 in
theorem line_eq (V : hV) : Mo_line S0 (some 132) V = (rc S0 12 (some 132)).bind fun _ => (Mo_isWord S0 (some 132) 0 V).bind fun x1 => if x1 = 0 then ((Mo_isWord S0 (some 132) 1 V).bind fun x3 => if x3 = 0 then ((Mo_isWord S0 (some 132) 3 V).bind fun x5 => ((if x5 = 0 then ((Mo_isWord S0 (some 132) 4 V).bind fun x13 => if x13 = 0 then ((Mo_isWord S0 (some 132) 5 V).bind fun x15 => if x15 = 0 then (some (-1)) else (some 2)) else (some 1)) else (some 0)) : Option Int32).bind fun j92 => mlR j92 V) else ((gR S0 12 16 V (some 132)).bind fun x17 => (aI S0 V x17 1).bind fun x18 => ((if 5 ≤ x18 then (some 0) else (some 1)) : Option Int32).bind fun j60 => (Mo_passes S0 (some 132) j60 V).bind fun w19 => if w19.1 = 0 then (some (0, w19.2)) else ((Mo_markRead S0 (some 132) w19.2).bind fun w21 => if w21.1 = 0 then (some (0, w21.2)) else (some (1, w21.2))))) else ((gR S0 12 15 V (some 132)).bind fun x23 => (aI S0 V x23 1).bind fun x24 => ((if 10 ≤ x24 then (some 0) else (some 1)) : Option Int32).bind fun j17 => (Mo_passes S0 (some 132) j17 V).bind fun w25 => if w25.1 = 0 then (some (0, w25.2)) else ((Mo_guestRead S0 (some 132) w25.2).bind fun w27 => if w27.1 = 0 then (some (0, w27.2)) else (some (1, w27.2)))) := rfl
set_option maxRecDepth 20000 in
set_option maxHeartbeats 8000000 in
theorem mo_ruleLine (R : mrR T D t I J) (dv : dV D) (ht : tvA T) (hw : w ≤ 2) : ∃ q I' J', mlR (iI (w : Int)) (I, J, Pst b f) = some (q, (I', J', Pst b f)) ∧ mF I J I' J' ∧ rzM T q I' J' (rdRu T D w t) := by
  have h00 := dv.1.1
  have h163 : aI S0 (I, J, Pst b f) (some 163) 1 = some (I 163 1) := ld163 (a := 1) (by omega)
  have hn1 : ¬ iI (w : Int) = (-1 : Int32) := by rw [n_1, iI_neg, iI_eq (by omega)]; omega
  rw [rdRu_i]
  by_cases e : 12 ≤ D 0 4
  · rw [if_pos e]
    refine ⟨iI 0, hup I 132 4 (iI (t : Int)), J, ?_, mF.refl.fld (by omega), rfl, hup_same _ _ _ _⟩
    have hf : Mo_passes S0 (some 132) (0 : Int32) (I, J, Pst b f) = some (iI 0, (hup I 132 4 (iI (t : Int)), J, Pst b f)) := R.fail
    unfold mlR
    rw [if_neg hn1, gr132_17, Option.bind_some, h163, R.2.1.2.2, Option.bind_some, if_pos (by rw [n_12, iI_le (by omega)]; exact e), Option.bind_some, hf, Option.bind_some, if_pos (by rfl)]
    rfl
  · rw [if_neg e]
    obtain ⟨I1, a1, a2, R1⟩ := R.pass (b := b) (f := f) ht
    have a1' : Mo_passes S0 (some 132) (1 : Int32) (I, J, Pst b f) = some (iI 1, (I1, J, Pst b f)) := a1
    obtain ⟨q, I2, J2, b1, b2, b3⟩ := mo_ruleRead (w := w) (b := b) (f := f) R1 dv ht (by omega)
    refine ⟨q, I2, J2, ?_, (mF.fr a2).trans b2, b3⟩
    unfold mlR
    rw [if_neg hn1, gr132_17, Option.bind_some, h163, R.2.1.2.2, Option.bind_some, if_neg (by rw [n_12, iI_le (by omega)]; exact e), Option.bind_some, a1', Option.bind_some, if_neg (show ¬ iI 1 = 0 by decide), b1, Option.bind_some]
    exact end01 b3 _
set_option maxRecDepth 20000 in
set_option maxHeartbeats 8000000 in
theorem mo_line (R : mrR T D t I J) (dv : dV D) (ht : tvA T) : ∃ q I' J', Mo_line S0 (some 132) (I, J, Pst b f) = some (q, (I', J', Pst b f)) ∧ mF I J I' J' ∧ rzM T q I' J' (rdL T D t) := by
  have h00 := dv.1.1
  have W := fun (w : Nat) (hw : w < 9) => mo_isW (J := J) (b := b) (f := f) (w := w) R.1.1.1 R.1.1.2 ht hw
  have w0 : Mo_isWord S0 (some 132) 0 (I, J, Pst b f) = some (bI (isW T 0 t)) := W 0 (by omega)
  have w1 : Mo_isWord S0 (some 132) 1 (I, J, Pst b f) = some (bI (isW T 1 t)) := W 1 (by omega)
  have w3 : Mo_isWord S0 (some 132) 3 (I, J, Pst b f) = some (bI (isW T 3 t)) := W 3 (by omega)
  have w4 : Mo_isWord S0 (some 132) 4 (I, J, Pst b f) = some (bI (isW T 4 t)) := W 4 (by omega)
  have w5 : Mo_isWord S0 (some 132) 5 (I, J, Pst b f) = some (bI (isW T 5 t)) := W 5 (by omega)
  have h161 : aI S0 (I, J, Pst b f) (some 161) 1 = some (I 161 1) := ld161 (a := 1) (by omega)
  have h162 : aI S0 (I, J, Pst b f) (some 162) 1 = some (I 162 1) := ld162 (a := 1) (by omega)
  have hf : Mo_passes S0 (some 132) (0 : Int32) (I, J, Pst b f) = some (iI 0, (hup I 132 4 (iI (t : Int)), J, Pst b f)) := R.fail
  have hfr : mF I J (hup I 132 4 (iI (t : Int))) J := mF.refl.fld (by omega)
  obtain ⟨I1, a1, a2, R1⟩ := R.pass (b := b) (f := f) ht
  have a1' : Mo_passes S0 (some 132) (1 : Int32) (I, J, Pst b f) = some (iI 1, (I1, J, Pst b f)) := a1
  unfold rdL
  rw [line_eq, rc132, Option.bind_some, w0, Option.bind_some]
  cases e0 : isW T 0 t
  · rw [if_pos (show bI false = 0 by rfl), if_neg (show ¬ false = true by decide), w1, Option.bind_some]
    cases e1 : isW T 1 t
    · rw [if_pos (show bI false = 0 by rfl), if_neg (show ¬ false = true by decide), w3, Option.bind_some, w4, Option.bind_some, w5, Option.bind_some]
      cases e3 : isW T 3 t
      · rw [if_pos (show bI false = 0 by rfl), if_neg (show ¬ false = true by decide)]
        cases e4 : isW T 4 t
        · rw [if_pos (show bI false = 0 by rfl), if_neg (show ¬ false = true by decide)]
          cases e5 : isW T 5 t
          · rw [if_pos (show bI false = 0 by rfl), if_neg (show ¬ false = true by decide), Option.bind_some]
            refine ⟨iI 0, hup I 132 4 (iI (t : Int)), J, ?_, hfr, rfl, hup_same _ _ _ _⟩
            unfold mlR
            rw [if_pos rfl, Option.bind_some, hf, Option.bind_some, if_pos (by rfl)]
            rfl
          · rw [if_neg (show ¬ bI true = 0 by decide), if_pos (show true = true from rfl), Option.bind_some]
            exact mo_ruleLine (w := 2) R dv ht (by omega)
        · rw [if_neg (show ¬ bI true = 0 by decide), if_pos (show true = true from rfl), Option.bind_some]
          exact mo_ruleLine (w := 1) R dv ht (by omega)
      · rw [if_neg (show ¬ bI true = 0 by decide), if_pos (show true = true from rfl), Option.bind_some]
        exact mo_ruleLine (w := 0) R dv ht (by omega)
    · rw [if_neg (show ¬ bI true = 0 by decide), if_pos (show true = true from rfl), gr132_16, Option.bind_some, h162, R.2.1.2.1, Option.bind_some]
      unfold rdM
      by_cases e : 5 ≤ D 0 3
      · rw [if_pos e]
        refine ⟨iI 0, hup I 132 4 (iI (t : Int)), J, ?_, hfr, rfl, hup_same _ _ _ _⟩
        rw [if_pos (by rw [n_5, iI_le (by omega)]; exact e), Option.bind_some, hf, Option.bind_some, if_pos (by rfl)]
        rfl
      · rw [if_neg e]
        obtain ⟨q, I2, J2, b1, b2, b3⟩ := mo_markRead (b := b) (f := f) R1 dv ht (by omega)
        refine ⟨q, I2, J2, ?_, (mF.fr a2).trans b2, b3⟩
        rw [if_neg (by rw [n_5, iI_le (by omega)]; exact e), Option.bind_some, a1', Option.bind_some, if_neg (show ¬ iI 1 = 0 by decide), b1, Option.bind_some]
        exact end01 b3 _
  · rw [if_neg (show ¬ bI true = 0 by decide), if_pos (show true = true from rfl), gr132_15, Option.bind_some, h161, R.2.1.1, Option.bind_some]
    unfold rdG
    by_cases e : 10 ≤ D 0 2
    · rw [if_pos e]
      refine ⟨iI 0, hup I 132 4 (iI (t : Int)), J, ?_, hfr, rfl, hup_same _ _ _ _⟩
      rw [if_pos (by rw [n_10, iI_le (by omega)]; exact e), Option.bind_some, hf, Option.bind_some, if_pos (by rfl)]
      rfl
    · rw [if_neg e]
      obtain ⟨q, I2, J2, b1, b2, b3⟩ := mo_guestRead (b := b) (f := f) R1 dv ht (by omega)
      refine ⟨q, I2, J2, ?_, (mF.fr a2).trans b2, b3⟩
      rw [if_neg (by rw [n_10, iI_le (by omega)]; exact e), Option.bind_some, a1', Option.bind_some, if_neg (show ¬ iI 1 = 0 by decide), b1, Option.bind_some]
      exact end01 b3 _
def lpM (T D : Tb) (b : Bool) (f : Nat) (F : Option (Int32 × hV)) (I : Nat → Nat → Int32) (J : Nat → Nat → Int64) (r : Rd) : Prop := match r with
  | .inl u => ∃ I' J', F = some (iI 0, (I', J', Pst b f)) ∧ mF I J I' J' ∧ I' 132 4 = iI (u : Int)
  | .inr z => ∃ I' J', F = some (iI 1, (I', J', Pst b f)) ∧ mF I J I' J' ∧ mrR T z.2 z.1 I' J' ∧ dV z.2 ∧ kpD D z.2 ∧ tN T ≤ z.1
set_option maxRecDepth 20000 in
set_option maxHeartbeats 8000000 in
theorem mo_lines (ht : tvA T) : ∀ (n fu k t : Nat) (D : Tb) (I : Nat → Nat → Int32) (J : Nat → Nat → Int64), n + k = 701 → n + 1 < fu → k ≤ t → mrR T D t I J → dV D → lpM T D b f (jloop (Mo_reads_L37 S0 (some 132)) fu (iI 1, (I, J, Pst b f))) I J (rdB T n t D)
  | 0, fu, k, t, D, I, J, hn, hf, hk, R, dv => by
    have h1 := R.1.1.2.2
    have h2 := tN_le ht
    omega
  | n + 1, fu, k, t, D, I, J, hn, hf, hk, R, dv => by
    obtain ⟨fu, rfl⟩ : ∃ z, fu = z + 1 := ⟨fu - 1, by omega⟩
    have h1 := R.1.1.2.2
    have h2 := tN_le ht
    have h3 := tN_I ht
    have hN1 : I 132 1 = iI (T 0 0) := R.1.1.1.1
    unfold rdB
    by_cases e : tN T ≤ t
    · rw [if_pos e]
      refine ⟨I, J, jl_e ?_, mF.refl, R, dv, kpD.refl, e⟩
      unfold Mo_reads_L37
      rw [if_neg (show ¬ iI 1 = 0 by decide), gi132, R.1.1.2.1.1, Option.bind_some, gi132, hN1, Option.bind_some, if_pos (by rw [iI_le (by omega)]; omega)]
    · rw [if_neg e]
      obtain ⟨q, I1, J1, a1, a2, a3⟩ := mo_line (b := b) (f := f) R dv ht
      have hstep : Mo_reads_L37 S0 (some 132) (iI 1, (I, J, Pst b f)) = some (.inl (q, (I1, J1, Pst b f))) := by
        unfold Mo_reads_L37
        rw [if_neg (show ¬ iI 1 = 0 by decide), gi132, R.1.1.2.1.1, Option.bind_some, gi132, hN1, Option.bind_some, if_neg (by rw [iI_le (by omega)]; omega), a1, Option.bind_some]
      rw [jl_s hstep]
      cases er : rdL T D t with
      | inl u =>
        rw [er] at a3
        obtain ⟨fu, rfl⟩ : ∃ z, fu = z + 1 := ⟨fu - 1, by omega⟩
        refine ⟨I1, J1, jl_e ?_, a2, a3.2⟩
        unfold Mo_reads_L37
        rw [a3.1, if_pos (by rfl)]
      | inr z =>
        rw [er] at a3
        obtain ⟨o1, o2, o3⟩ := rdL_ok dv ht (by omega) er
        have ih := mo_lines ht n fu (k + 1) z.1 z.2 I1 J1 (by omega) (by omega) (by omega) a3.2 o1
        rw [a3.1]
        show lpM T D b f _ I J (rdB T n z.1 z.2)
        cases eb : rdB T n z.1 z.2 with
        | inl u =>
          rw [eb] at ih
          obtain ⟨I2, J2, b1, b2, b3⟩ := ih
          exact ⟨I2, J2, b1, a2.trans b2, b3⟩
        | inr y =>
          rw [eb] at ih
          obtain ⟨I2, J2, b1, b2, b3, b4, b5, b6⟩ := ih
          exact ⟨I2, J2, b1, a2.trans b2, b3, b4, o3.trans b5, b6⟩
set_option maxRecDepth 20000 in
set_option maxHeartbeats 8000000 in
theorem mo_reads (hA : mA T I) (ht : tvA T) : ∃ I' J', Mo_reads S0 (some 132) (I, J, Pst b f) = some (I', J', Pst b f) ∧ mF I J I' J' ∧ I' 132 4 = iI (rdFa T) ∧ ∀ D, rdT T = .inr D → ∃ t, mrR T D t I' J' ∧ dV D ∧ kpD T D ∧ 0 < D 0 2 := by
  have h3 := tN_I ht
  have h4 := tN_le ht
  obtain ⟨I1, hI1⟩ : ∃ I1, I1 = hup (hup (hup (hup (hup I 132 4 (iI (-1))) 161 1 (iI 0)) 162 1 (iI 0)) 163 1 (iI 0)) 132 3 (iI 0) := ⟨_, rfl⟩
  have fr1 : mF I J I1 J := by
    rw [hI1]
    exact ((((mF.refl.fld (by omega)).cnt (Or.inl rfl)).cnt (Or.inr (Or.inl rfl))).cnt (Or.inr (Or.inr rfl))).fld (by omega)
  have hA1 : mA T I1 := ⟨by rw [hI1]; simp [hup]; exact hA.1, fun k hk => by rw [hI1]; simp [hup]; exact hA.2 k hk⟩
  obtain ⟨I2, a1, a2, a3⟩ := mo_tok (J := J) (b := b) (f := f) (e := 0) hA1 ht (by rw [hI1]; exact hup_same _ _ _ _) (Nat.zero_le _)
  have d2 : D0 T 0 2 = 0 := by simp [D0, hup]
  have d3 : D0 T 0 3 = 0 := by simp [D0, hup]
  have d4 : D0 T 0 4 = 0 := by simp [D0, hup]
  have hng : ng (D0 T) = 0 := by unfold ng; rw [d2]; rfl
  have hnm : nm (D0 T) = 0 := by unfold nm; rw [d3]; rfl
  have hnr : nr (D0 T) = 0 := by unfold nr; rw [d4]; rfl
  have R : mrR T (D0 T) (skp T 0) I2 J := by
    refine ⟨⟨⟨hA1.frT a2, a3⟩, ?_⟩, ⟨?_, ?_, ?_⟩, ⟨fun i hi => by omega, fun i hi => by omega⟩, fun i hi => by omega, fun r hr => by omega⟩
    · rw [a2.2 4 (by omega), hI1]; simp [hup]
    · rw [a2.1 161 ⟨by omega, trivial⟩, hI1, d2]; simp [hup]
    · rw [a2.1 162 ⟨by omega, trivial⟩, hI1, d3]; simp [hup]
    · rw [a2.1 163 ⟨by omega, trivial⟩, hI1, d4]; simp [hup]
  have hlo := mo_lines (b := b) (f := f) ht 701 jN 0 (skp T 0) (D0 T) I2 J (by omega) (by unfold jN; omega) (Nat.zero_le _) R dV_D0
  have hrd : rdT T = rdE (rdB T 701 (skp T 0) (D0 T)) := rdA_B 701 (skp T 0) (D0 T)
  have kp0 : kpD T (D0 T) := ⟨⟨by simp [D0, hup], by simp [D0, hup]⟩, by unfold D0; rw [hup_row (by omega), hup_row (by omega), hup_row (by omega)], by unfold D0; rw [hup_row (by omega), hup_row (by omega), hup_row (by omega)], by unfold D0; rw [hup_row (by omega), hup_row (by omega), hup_row (by omega)]⟩
  have s161 : ∀ I', sI S0 (I', J, Pst b f) (some 161) 1 (iI 0) = some (hup I' 161 1 (iI 0), J, Pst b f) := fun I' => st161 (a := 1) (by omega)
  have s162 : ∀ I', sI S0 (I', J, Pst b f) (some 162) 1 (iI 0) = some (hup I' 162 1 (iI 0), J, Pst b f) := fun I' => st162 (a := 1) (by omega)
  have s163 : ∀ I', sI S0 (I', J, Pst b f) (some 163) 1 (iI 0) = some (hup I' 163 1 (iI 0), J, Pst b f) := fun I' => st163 (a := 1) (by omega)
  have h1m : (-1 : Int32) = iI (-1) := rfl
  have hpre : ∀ Y, ((jloop (Mo_reads_L37 S0 (some 132)) jN (iI 1, (I2, J, Pst b f))).bind fun q37 => if q37.1 = iI 0 then (some q37.2) else ((gR S0 12 15 q37.2 (some 132)).bind fun x15 => (aI S0 q37.2 x15 1).bind fun x16 => if x16 = iI 0 then ((gI S0 12 1 q37.2 (some 132)).bind fun x17 => (pI S0 12 4 q37.2 (some 132) x17).bind fun V18 => some V18) else (some q37.2))) = Y → Mo_reads S0 (some 132) (I, J, Pst b f) = Y := fun Y hY => by
    unfold Mo_reads
    rw [rc132, Option.bind_some, h1m, n_0, pi132, Option.bind_some, gr132_15, Option.bind_some, s161, Option.bind_some, gr132_16, Option.bind_some, s162, Option.bind_some, gr132_17, Option.bind_some, s163, Option.bind_some, pi132, Option.bind_some, ← hI1, a1, Option.bind_some]
    exact hY
  cases eb : rdB T 701 (skp T 0) (D0 T) with
  | inl u =>
    rw [eb] at hlo
    obtain ⟨I3, J3, b1, b2, b3⟩ := hlo
    have hv : rdFa T = (u : Int) := by unfold rdFa; rw [hrd, eb]; rfl
    refine ⟨I3, J3, hpre _ ?_, (fr1.trans (mF.fr a2)).trans b2, by rw [hv]; exact b3, fun D hD => ?_⟩
    · rw [b1, Option.bind_some, if_pos rfl]
    · rw [hrd, eb] at hD
      cases hD
  | inr z =>
    rw [eb] at hlo
    obtain ⟨I3, J3, b1, b2, b3, b4, b5, b6⟩ := hlo
    have h02 := b4.1.1.1
    have hz1 := b3.1.1.2.2
    have h161 : aI S0 (I3, J3, Pst b f) (some 161) 1 = some (I3 161 1) := ld161 (a := 1) (by omega)
    by_cases ez : z.2 0 2 = 0
    · have hv : rdFa T = (z.1 : Int) := by
        unfold rdFa; rw [hrd, eb]
        show ((if z.2 0 2 = 0 then (.inl z.1 : Nat ⊕ Tb) else .inr z.2).elim (fun u : Nat => (u : Int)) (fun _ => -1)) = _
        rw [if_pos ez]; rfl
      refine ⟨hup I3 132 4 (iI (T 0 0)), J3, hpre _ ?_, ((fr1.trans (mF.fr a2)).trans b2).fld (by omega), ?_, fun D hD => ?_⟩
      · rw [b1, Option.bind_some, if_neg (show ¬ iI 1 = iI 0 by decide), gr132_15, Option.bind_some, h161, b3.2.1.1, Option.bind_some, if_pos (by rw [ez]), gi132, b3.1.1.1.1, Option.bind_some, pi132, Option.bind_some]
      · rw [hup_same, hv]
        congr 1
        omega
      · rw [hrd, eb] at hD
        have hD' : (if z.2 0 2 = 0 then (.inl z.1 : Nat ⊕ Tb) else .inr z.2) = .inr D := hD
        rw [if_pos ez] at hD'
        cases hD'
    · have hv : rdFa T = -1 := by
        unfold rdFa; rw [hrd, eb]
        show ((if z.2 0 2 = 0 then (.inl z.1 : Nat ⊕ Tb) else .inr z.2).elim (fun u : Nat => (u : Int)) (fun _ => -1)) = _
        rw [if_neg ez]; rfl
      refine ⟨I3, J3, hpre _ ?_, (fr1.trans (mF.fr a2)).trans b2, by rw [hv]; exact b3.1.2, fun D hD => ?_⟩
      · rw [b1, Option.bind_some, if_neg (show ¬ iI 1 = iI 0 by decide), gr132_15, Option.bind_some, h161, b3.2.1.1, Option.bind_some, if_neg (by rw [iI_eq (by omega)]; exact ez)]
      · rw [hrd, eb] at hD
        have hD' : (if z.2 0 2 = 0 then (.inl z.1 : Nat ⊕ Tb) else .inr z.2) = .inr D := hD
        rw [if_neg ez] at hD'
        cases hD'
        exact ⟨z.1, b3, b4, kp0.trans b5, by omega⟩
end
