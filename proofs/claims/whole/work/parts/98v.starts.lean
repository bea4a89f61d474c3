/-! ===== layer 2: the start; the script ===== -/
section
set_option maxRecDepth 100000 in
theorem I0_2 : ∀ k, k < 700 → I0 2 k = 0 := by decide +kernel
set_option maxRecDepth 100000 in
theorem I0_133 : ∀ k, k < 700 → I0 133 k = 0 := by decide +kernel
set_option maxRecDepth 100000 in
theorem I0_ro : ∀ k, k < 4 → I0 (ro k) 0 = iI (k : Int) ∧ I0 (ro k) 6 = iI (-1) := by decide +kernel
set_option maxRecDepth 100000 in
theorem I0_fo : ∀ k, k < 4 → ∀ j, j < 3 → I0 (fo k j) 2 = iI (-1) ∧ I0 (fo k j) 3 = iI 0 := by decide +kernel
set_option maxRecDepth 100000 in
theorem I0_ct : I0 1 1 = iI 0 ∧ I0 0 9 = iI 0 ∧ I0 132 1 = iI 0 ∧ I0 132 26 = iI 0 ∧ I0 74 4 = iI 0 ∧ I0 74 5 = iI 0 ∧ I0 74 6 = iI 0 ∧ I0 74 7 = iI 0 ∧ I0 74 8 = iI 0 ∧ I0 74 9 = iI 0 ∧ I0 74 10 = iI 0 := by decide +kernel
set_option maxRecDepth 100000 in
theorem J0_kw : ∀ w, w < 9 → J0 3 (w + 1) = lI (kc w) := by decide +kernel
/-- nothing is known -/
def T0 : Tb := fun _ _ => 0
set_option maxRecDepth 20000 in
set_option maxHeartbeats 8000000 in
theorem TV_0 : TV T0 := by
  refine ⟨⟨⟨⟨by decide, by decide⟩, fun k hk => ⟨by show (-128 : Int) ≤ 0; omega, by show (0 : Int) < 128; omega⟩⟩, ⟨by decide, by decide⟩, fun k hk => ?_⟩, ⟨⟨⟨⟨by decide, by decide⟩, ⟨by decide, by decide⟩, by decide, by decide⟩, fun m hm => ?_⟩, fun r hr => ?_⟩, fun g hg => ?_, fun g h' hg => ?_⟩
  · have : (k : Int) < 0 := hk
    omega
  · have : (m : Int) < 0 := hm
    omega
  · have : (r : Int) < 0 := hr
    omega
  · have : (g : Int) < 0 := hg
    omega
  · have : (g : Int) < 0 := hg
    omega
set_option maxRecDepth 20000 in
set_option maxHeartbeats 8000000 in
theorem P0_s : P0 = Pst true 71 := by
  funext o k
  unfold Pst
  by_cases e1 : o = 0 ∧ k = 7
  · rw [if_pos e1, e1.1, e1.2]; exact P0_t (0, 7, 74) (by decide)
  · rw [if_neg e1]
    by_cases e2 : o = 0 ∧ k = 8
    · rw [if_pos e2, e2.1, e2.2]; exact P0_t (0, 8, 103) (by decide)
    · rw [if_neg e2]
      by_cases e3 : o = 61 ∧ k = 7
      · rw [if_pos e3, e3.1, e3.2]; exact P0_t (61, 7, 71) (by decide)
      · rw [if_neg e3]
set_option maxRecDepth 20000 in
set_option maxHeartbeats 8000000 in
theorem EC_0 : EC T0 true I0 := by
  obtain ⟨h1, h2, -, -, h4, h5, h6, h7, h8, -, -⟩ := I0_ct
  refine ⟨⟨⟨h1, fun k hk => I0_2 k hk⟩, h2, fun k hk => ⟨(I0_ro k hk).1, fun q => ?_⟩⟩, ⟨⟨⟨h4, h5, h6⟩, fun m hm => ?_⟩, fun r hr => ?_⟩, ⟨h7, h8⟩, fun g hg => ?_⟩
  · have : (k : Int) < 0 := q
    omega
  · have : (m : Int) < 0 := hm
    omega
  · have : (r : Int) < 0 := hr
    omega
  · have : (g : Int) < 0 := hg
    omega
set_option maxRecDepth 20000 in
set_option maxHeartbeats 8000000 in
theorem EM_0 : EM T0 I0 := by
  obtain ⟨-, -, h1, h2, -⟩ := I0_ct
  refine ⟨⟨⟨h1, fun k hk => I0_133 k hk⟩, h2, fun k hk => ?_⟩, ⟨⟨⟨I0_161, I0_162, I0_163⟩, fun m hm => ?_⟩, fun r hr => ?_⟩, fun g hg => ?_⟩
  · have : (k : Int) < 0 := hk
    omega
  · have : (m : Int) < 0 := hm
    omega
  · have : (r : Int) < 0 := hr
    omega
  · have : (g : Int) < 0 := hg
    omega
set_option maxRecDepth 20000 in
set_option maxHeartbeats 8000000 in
theorem IV_0 : IV 0 (I0, J0, P0) := by
  refine ⟨T0, true, 71, 0, 0, I0, J0, by rw [P0_s], ⟨TV_0, ⟨⟨EC_0, ?_, ?_⟩, ⟨fun k hk => ⟨-1, (I0_ro k hk).2, by omega, fun q => by omega⟩, fun k j hk hj => ⟨-1, 0, ⟨(I0_fo k hk j hj).1, by unfold rg; omega, (I0_fo k hk j hj).2⟩, ?_, fun q => ?_⟩⟩, J0_kw⟩, EM_0⟩, by omega, by omega⟩
  · exact I0_ct.2.2.2.2.2.2.2.2.2.1
  · exact I0_ct.2.2.2.2.2.2.2.2.2.2
  · unfold chg
    split <;> omega
  · unfold chg at q
    split at q <;> omega
/-! the script -/
set_option maxRecDepth 20000 in
set_option maxHeartbeats 8000000 in
theorem i32 (x : Int32) : ∃ a, x = iI a ∧ rg a := ⟨x.toInt, (Int32.ofInt_toInt x).symm, Int32.le_toInt x, Int32.toInt_lt x⟩
set_option maxRecDepth 20000 in
set_option maxHeartbeats 8000000 in
theorem scr_ok {L : Nat} {xs : Nat → Int32} {p : Nat} (hp : p < L) (hL : L ≤ 3072) : ∃ a, scr L xs (iI (p : Int)) = some (iI a) ∧ rg a := by
  obtain ⟨a, h1, h2⟩ := i32 (xs p)
  refine ⟨a, ?_, h2⟩
  have e : (iI (p : Int)).toNatClampNeg = p := by
    unfold Int32.toNatClampNeg
    rw [iI_toInt (by omega)]
    omega
  unfold scr
  rw [e, if_pos ⟨by rw [n_0, iI_lt (by omega)]; omega, hp⟩, h1]
set_option maxRecDepth 20000 in
set_option maxHeartbeats 8000000 in
theorem jz (x : Int32) : (if x = 0 then some 0 else some 1 : Option Int32) = some (bI (decide (x ≠ 0))) := by
  by_cases e : x = 0
  · rw [if_pos e, decide_eq_false (fun q => q e)]; rfl
  · rw [if_neg e, decide_eq_true e]; rfl
set_option maxRecDepth 20000 in
set_option maxHeartbeats 8000000 in
theorem ofN (L : Nat) : Int32.ofNat L = iI (L : Int) := rfl
end
