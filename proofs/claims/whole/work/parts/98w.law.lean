/-! ===== layer 2: a round of the law, and the law: printed by wip/whole/gen/gen98w.py ===== -/
section
variable {V V2 : hV} {k p L : Nat} {xs : Nat → Int32} {h2 : hS × hV}
/-- after a round -/
abbrev lwN (p k : Nat) (x : (Int32 × hV) ⊕ (hV ⊕ Int32)) : Prop := Sum.elim (fun s => s.1 = iI ((p : Int) + 6) ∧ IV (k + 1) s.2) (fun _ => False) x
set_option maxRecDepth 20000 in
set_option maxHeartbeats 8000000 in
theorem lw_fin (h : IV (k + 1) V2) : wp (some (.inl (iI (p : Int) + 6, V2)) : Option ((Int32 × hV) ⊕ (hV ⊕ Int32))) (lwN p k) := ⟨_, rfl, by show iI (p : Int) + 6 = _; rw [n_6, iI_add], h⟩
set_option maxRecDepth 20000 in
set_option maxHeartbeats 8000000 in
theorem law_step (hp : p + 6 ≤ L) (hL : L ≤ 3072) (hk : k < 5000) (e2 : h2.1.1 = 132) (h : IV k V) : wp (Law_L18 S0 L xs h2 (iI (p : Int), V)) (lwN p k) := by
  have e0 : hE.1.1 = 0 := rfl
  obtain ⟨a0, s0, r0⟩ := scr_ok (xs := xs) (p := p) (by omega) hL
  obtain ⟨a1, s1, r1⟩ := scr_ok (xs := xs) (p := p + 1) (by omega) hL
  obtain ⟨a2, s2, r2⟩ := scr_ok (xs := xs) (p := p + 2) (by omega) hL
  obtain ⟨a3, s3, r3⟩ := scr_ok (xs := xs) (p := p + 3) (by omega) hL
  obtain ⟨a4, s4, r4⟩ := scr_ok (xs := xs) (p := p + 4) (by omega) hL
  obtain ⟨a5, s5, r5⟩ := scr_ok (xs := xs) (p := p + 5) (by omega) hL
  rw [show ((p + 1 : Nat) : Int) = (p : Int) + 1 by omega, ← iI_add, ← n_1] at s1
  rw [show ((p + 2 : Nat) : Int) = (p : Int) + 2 by omega, ← iI_add, ← n_2] at s2
  rw [show ((p + 3 : Nat) : Int) = (p : Int) + 3 by omega, ← iI_add, ← n_3] at s3
  rw [show ((p + 4 : Nat) : Int) = (p : Int) + 4 by omega, ← iI_add, ← n_4] at s4
  rw [show ((p + 5 : Nat) : Int) = (p : Int) + 5 by omega, ← iI_add, ← n_5] at s5
  unfold Law_L18
  dsimp only
  rw [e0, e2, ofN, if_neg (by rw [n_6, iI_sub, iI_lt (by omega)]; omega), s0, Option.bind_some]
  generalize iI a0 &&& 31 = x
  by_cases g0 : x = 0
  · rw [if_pos g0]
    obtain ⟨r, V1, V2, b1, b2, b3⟩ := st_feed (iI a1) (iI a2) (iI a3) (iI a4) (iI a5) h
    simp only [s1, s2, s3, s4, s5, Option.bind_some, b1, b2]
    rw [if_pos trivial]
    exact lw_fin b3
  rw [if_neg g0]
  by_cases g1 : x = 1
  · rw [if_pos g1]
    obtain ⟨r, V1, V2, b1, b2, b3⟩ := st_end r1 h
    simp only [s1, Option.bind_some, b1, b2]
    rw [if_pos trivial]
    exact lw_fin b3
  rw [if_neg g1]
  by_cases g2 : x = 2
  · rw [if_pos g2]
    obtain ⟨r, V1, V2, b1, b2, b3⟩ := st_fault h
    simp only [Option.bind_some, b1, b2]
    rw [if_pos trivial]
    exact lw_fin b3
  rw [if_neg g2]
  by_cases g3 : x = 3
  · rw [if_pos g3]
    obtain ⟨r, V1, V2, b1, b2, b3⟩ := st_court h
    simp only [Option.bind_some, b1, b2]
    rw [if_pos trivial]
    exact lw_fin b3
  rw [if_neg g3]
  by_cases g4 : x = 4
  · rw [if_pos g4]
    obtain ⟨r, V1, V2, b1, b2, b3⟩ := st_room r1 r2 h
    simp only [s1, s2, Option.bind_some, b1, b2]
    rw [if_pos trivial]
    exact lw_fin b3
  rw [if_neg g4]
  by_cases g5 : x = 5
  · rw [if_pos g5]
    obtain ⟨r, b1, b2⟩ := st_guest h r1 r2
    simp only [s1, s2, Option.bind_some, b1, b2]
    rw [if_pos trivial]
    exact lw_fin h.next
  rw [if_neg g5]
  by_cases g6 : x = 6
  · rw [if_pos g6]
    obtain ⟨r, b1, b2⟩ := st_rule h r1 r2
    simp only [s1, s2, Option.bind_some, b1, b2]
    rw [if_pos trivial]
    exact lw_fin h.next
  rw [if_neg g6]
  by_cases g7 : x = 7
  · rw [if_pos g7]
    obtain ⟨r, V1, V2, b1, b2, b3⟩ := st_rest (v := decide (iI a2 ≠ 0)) r1 h
    simp only [s1, s2, Option.bind_some, b1, b2, jz]
    rw [if_pos trivial]
    exact lw_fin b3
  rw [if_neg g7]
  by_cases g8 : x = 8
  · rw [if_pos g8]
    obtain ⟨r, V1, V2, b1, b2, b3⟩ := st_comes (v := decide (iI a2 ≠ 0)) r1 h
    simp only [s1, s2, Option.bind_some, b1, b2, jz]
    rw [if_pos trivial]
    exact lw_fin b3
  rw [if_neg g8]
  by_cases g9 : x = 9
  · rw [if_pos g9]
    obtain ⟨r, V1, V2, b1, b2, b3⟩ := st_seat r1 r2 r3 h
    simp only [s1, s2, s3, Option.bind_some, b1, b2]
    rw [if_pos trivial]
    exact lw_fin b3
  rw [if_neg g9]
  by_cases g10 : x = 10
  · rw [if_pos g10]
    obtain ⟨r, V1, V2, b1, b2, b3⟩ := st_leave r1 h
    simp only [s1, Option.bind_some, b1, b2]
    rw [if_pos trivial]
    exact lw_fin b3
  rw [if_neg g10]
  by_cases g11 : x = 11
  · rw [if_pos g11]
    obtain ⟨r, V1, V2, b1, b2, b3⟩ := st_sits (v := decide (iI a2 ≠ 0)) r1 h
    simp only [s1, s2, Option.bind_some, b1, b2, jz]
    rw [if_pos trivial]
    exact lw_fin b3
  rw [if_neg g11]
  by_cases g12 : x = 12
  · rw [if_pos g12]
    obtain ⟨r, b1, b2⟩ := st_higher h r1 r2 r3 r4
    simp only [s1, s2, s3, s4, Option.bind_some, b1, b2]
    rw [if_pos trivial]
    exact lw_fin h.next
  rw [if_neg g12]
  by_cases g13 : x = 13
  · rw [if_pos g13]
    obtain ⟨r, b1, b2⟩ := st_source h r1 r2 r3
    simp only [s1, s2, s3, Option.bind_some, b1, b2]
    rw [if_pos trivial]
    exact lw_fin h.next
  rw [if_neg g13]
  by_cases g14 : x = 14
  · rw [if_pos g14]
    obtain ⟨r, V1, V2, b1, b2, b3⟩ := st_slights hk h r1 r2 r3
    simp only [s1, s2, s3, Option.bind_some, b1, b2]
    rw [if_pos trivial]
    exact lw_fin b3
  rw [if_neg g14]
  by_cases g15 : x = 15
  · rw [if_pos g15]
    obtain ⟨r, V1, V2, b1, b2, b3⟩ := st_slight hk h r1 r2 r3 r4
    simp only [s1, s2, s3, s4, Option.bind_some, b1, b2]
    rw [if_pos trivial]
    exact lw_fin b3
  rw [if_neg g15]
  by_cases g16 : x = 16
  · rw [if_pos g16]
    obtain ⟨r, V1, V2, b1, b2, b3⟩ := st_minds hk h r1 r2 r3
    simp only [s1, s2, s3, Option.bind_some, b1, b2]
    rw [if_pos trivial]
    exact lw_fin b3
  rw [if_neg g16]
  by_cases g17 : x = 17
  · rw [if_pos g17]
    obtain ⟨r, V1, V2, b1, b2, b3⟩ := st_ring hk h r1 r2
    simp only [s1, s2, Option.bind_some, b1, b2]
    rw [if_pos trivial]
    exact lw_fin b3
  rw [if_neg g17]
  by_cases g18 : x = 18
  · rw [if_pos g18]
    obtain ⟨r, V1, V2, b1, b2, b3⟩ := st_quarrels hk h r1
    simp only [s1, Option.bind_some, b1, b2]
    rw [if_pos trivial]
    exact lw_fin b3
  rw [if_neg g18]
  by_cases g19 : x = 19
  · rw [if_pos g19]
    obtain ⟨r, V1, V2, b1, b2, b3⟩ := st_toRest hk h r1 r2
    simp only [s1, s2, Option.bind_some, b1, b2]
    rw [if_pos trivial]
    exact lw_fin b3
  rw [if_neg g19]
  by_cases g20 : x = 20
  · rw [if_pos g20]
    obtain ⟨r, V1, V2, b1, b2, b3⟩ := st_order hk h r1 r2
    simp only [s1, s2, Option.bind_some, b1, b2]
    rw [if_pos trivial]
    exact lw_fin b3
  rw [if_neg g20]
  by_cases g21 : x = 21
  · rw [if_pos g21]
    obtain ⟨r, V1, V2, b1, b2, b3⟩ := st_rounds hk h r1 r2
    simp only [s1, s2, Option.bind_some, b1, b2]
    rw [if_pos trivial]
    exact lw_fin b3
  rw [if_neg g21]
  by_cases g22 : x = 22
  · rw [if_pos g22]
    obtain ⟨r, V1, V2, b1, b2, b3⟩ := st_few hk h r1 r2
    simp only [s1, s2, Option.bind_some, b1, b2]
    rw [if_pos trivial]
    exact lw_fin b3
  rw [if_neg g22]
  by_cases g23 : x = 23
  · rw [if_pos g23]
    obtain ⟨r, V1, V2, b1, b2, b3⟩ := st_least hk h r1 r2
    simp only [s1, s2, Option.bind_some, b1, b2]
    rw [if_pos trivial]
    exact lw_fin b3
  rw [if_neg g23]
  by_cases g24 : x = 24
  · rw [if_pos g24]
    obtain ⟨r, V1, V2, b1, b2, b3⟩ := st_best (v := decide (iI a3 ≠ 0)) hk h r1 r2
    simp only [s1, s2, s3, Option.bind_some, b1, b2, jz]
    rw [if_pos trivial]
    exact lw_fin b3
  rw [if_neg g24]
  by_cases g25 : x = 25
  · rw [if_pos g25]
    obtain ⟨r, V1, V2, b1, b2, b3⟩ := st_must hk h r1 r2
    simp only [s1, s2, Option.bind_some, b1, b2]
    rw [if_pos trivial]
    exact lw_fin b3
  rw [if_neg g25]
  by_cases g26 : x = 26
  · rw [if_pos g26]
    obtain ⟨r, V1, V2, b1, b2, b3⟩ := st_free hk h r1 r2
    simp only [s1, s2, Option.bind_some, b1, b2]
    rw [if_pos trivial]
    exact lw_fin b3
  rw [if_neg g26]
  by_cases g27 : x = 27
  · rw [if_pos g27]
    obtain ⟨r, V1, V2, b1, b2, b3⟩ := st_mended hk h r1 r2 r3
    simp only [s1, s2, s3, Option.bind_some, b1, b2]
    rw [if_pos trivial]
    exact lw_fin b3
  rw [if_neg g27]
  by_cases g28 : x = 28
  · rw [if_pos g28]
    obtain ⟨r, V1, V2, b1, b2, b3⟩ := st_evened hk h r1 r2 r3
    simp only [s1, s2, s3, Option.bind_some, b1, b2]
    rw [if_pos trivial]
    exact lw_fin b3
  rw [if_neg g28]
  by_cases g29 : x = 29
  · rw [if_pos g29]
    obtain ⟨r, b1, b2⟩ := st_count h r1
    simp only [s1, Option.bind_some, b1, b2]
    rw [if_pos trivial]
    exact lw_fin h.next
  rw [if_neg g29]
  exact lw_fin h.next
set_option maxRecDepth 20000 in
set_option maxHeartbeats 8000000 in
theorem Law_eq (L : Nat) (xs : Nat → Int32) : Law L xs = LawH.bind fun q => (jloop (Law_L18 q.2.1 L xs q.1) jN (0, q.2.2)).bind fun t18 => Sum.elim (fun _ => some 1) (fun v => some v) t18 := by
  unfold Law LawH
  simp only [Option.bind_assoc, Option.bind_some]
set_option maxRecDepth 20000 in
set_option maxHeartbeats 8000000 in
theorem law_true1 (hL : L ≤ 3072) : Law L xs = some 1 := by
  rw [Law_eq, LawH_eq, Option.bind_some]
  have hj : wp (jloop (Law_L18 S0 L xs hQ.1) jN (iI 0, (I0, J0, P0))) (fun r => ∃ V, r = .inl V) := by
    refine jinv (fun k s => s.1 = iI (6 * (k : Int)) ∧ IV k s.2) _ (L / 6) ⟨rfl, IV_0⟩ (fun k s hk hs => ?_) (fun s hs => ?_) (by omega)
    · obtain ⟨s1, V⟩ := s
      obtain ⟨hs1, hs2⟩ := hs
      have hs1' : s1 = iI ((6 * k : Nat) : Int) := by
        rw [show ((6 * k : Nat) : Int) = 6 * (k : Int) by omega]; exact hs1
      subst hs1'
      obtain ⟨x, hx1, hx2⟩ := law_step (L := L) (xs := xs) (h2 := hQ.1) (p := 6 * k) (by omega) hL (by omega) S0_n.2 hs2
      refine ⟨x, hx1, ?_⟩
      cases x with
      | inl s' =>
        obtain ⟨y1, y2⟩ := hx2
        refine ⟨?_, y2⟩
        rw [y1, show ((6 * k : Nat) : Int) + 6 = 6 * ((k + 1 : Nat) : Int) by omega]
      | inr r => exact absurd hx2 id
    · obtain ⟨s1, V⟩ := s
      obtain ⟨hs1, hs2⟩ := hs
      have hs1' : s1 = iI (6 * ((L / 6 : Nat) : Int)) := hs1
      subst hs1'
      refine ⟨.inr (.inl V), ?_, V, rfl⟩
      unfold Law_L18
      dsimp only
      rw [ofN, if_pos (by rw [n_6, iI_sub, iI_lt (by omega)]; omega)]
  obtain ⟨r, hr, V, rfl⟩ := hj
  have hr' : jloop (Law_L18 hQ.2.1 L xs hQ.1) jN (0, hQ.2.2) = some (.inl V) := hr
  rw [hr', Option.bind_some, Sum.elim_inl]
end
