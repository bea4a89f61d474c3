/-! ===== layer 2: sets of bits, as ints ===== -/
/-- the set of those below n of which p holds -/
def bt (n : Nat) (p : Nat → Bool) : Nat := match n with
  | 0 => 0
  | n + 1 => bt n p + if p n then 2 ^ n else 0
theorem bt_lt (p : Nat → Bool) : ∀ n, bt n p < 2 ^ n
  | 0 => by simp [bt]
  | n + 1 => by
    have := bt_lt p n
    unfold bt
    rw [Nat.pow_succ]
    split <;> omega
theorem bt_bit (p : Nat → Bool) (k : Nat) : ∀ n, (bt n p).testBit k = (decide (k < n) && p k)
  | 0 => by simp [bt]
  | n + 1 => by
    have h1 := bt_lt p n
    have ih := bt_bit p k n
    unfold bt
    by_cases hp : p n = true
    · rw [if_pos hp, Nat.add_comm]
      rcases Nat.lt_trichotomy k n with h | h | h
      · rw [Nat.testBit_two_pow_add_gt h, ih]
        simp [h, Nat.lt_succ_of_lt h]
      · subst h
        rw [Nat.testBit_two_pow_add_eq, ih]
        simp [hp]
      · have h2 : ¬ k < n + 1 := by omega
        have h3 : 2 ^ (n + 1) ≤ 2 ^ k := Nat.pow_le_pow_right (by decide) h
        rw [Nat.testBit_lt_two_pow (by rw [Nat.pow_succ] at h3; omega)]
        simp [h2]
    · rw [if_neg hp, Nat.add_zero, ih]
      rcases Nat.lt_trichotomy k n with h | h | h
      · simp [h, Nat.lt_succ_of_lt h]
      · subst h; simp [hp]
      · have : ¬ k < n := by omega
        have : ¬ k < n + 1 := by omega
        simp [*]
theorem nI_ofNat (A : Nat) : iI (A : Int) = Int32.ofNat A := Int32.ofInt_eq_ofNat
theorem nI_bv (A : Nat) : (iI (A : Int)).toBitVec = BitVec.ofNat 32 A := by rw [nI_ofNat]; rfl
theorem nI_and (A B : Nat) : iI (A : Int) &&& iI (B : Int) = iI ((A &&& B : Nat) : Int) := by
  apply Int32.toBitVec_inj.mp
  rw [Int32.toBitVec_and, nI_bv, nI_bv, nI_bv, BitVec.ofNat_and]
theorem nI_or (A B : Nat) : iI (A : Int) ||| iI (B : Int) = iI ((A ||| B : Nat) : Int) := by
  apply Int32.toBitVec_inj.mp
  rw [Int32.toBitVec_or, nI_bv, nI_bv, nI_bv, BitVec.ofNat_or]
theorem nI_xor (A B : Nat) : iI (A : Int) ^^^ iI (B : Int) = iI ((A ^^^ B : Nat) : Int) := by
  apply Int32.toBitVec_inj.mp
  rw [Int32.toBitVec_xor, nI_bv, nI_bv, nI_bv, BitVec.ofNat_xor]
theorem nI_andn (A B : Nat) : iI (A : Int) &&& (iI (B : Int) ^^^ iI (-1)) = iI ((A ^^^ (A &&& B) : Nat) : Int) := by
  apply Int32.toBitVec_inj.mp
  have h : (iI (-1)).toBitVec = BitVec.allOnes 32 := by decide
  rw [Int32.toBitVec_and, Int32.toBitVec_xor, nI_bv, nI_bv, nI_bv, h, BitVec.xor_allOnes]
  apply BitVec.eq_of_getLsbD_eq
  intro i hi
  simp only [BitVec.getLsbD_and, BitVec.getLsbD_not, BitVec.getLsbD_ofNat, Nat.testBit_xor, Nat.testBit_and, hi, decide_true, Bool.true_and]
  cases A.testBit i <;> cases B.testBit i <;> rfl
theorem mod31 (k : Nat) (h : k < 32) : (iI (k : Int) &&& 31) = iI (k : Int) := by
  rw [show (31 : Int32) = iI ((31 : Nat) : Int) from rfl, nI_and]
  congr 2
  exact Nat.and_two_pow_sub_one_of_lt_two_pow (n := 5) h
theorem nI_smod (k : Nat) (h : k < 32) : ((iI (k : Int)).toBitVec.smod 32).toNat = k := by
  rw [nI_bv]
  revert h
  revert k
  decide +kernel
theorem nI_shr (A k : Nat) (hA : A < 2147483648) (h : k < 32) : shr (iI (A : Int)) (iI (k : Int)) = iI ((A >>> k : Nat) : Int) := by
  unfold shr
  rw [mod31 k h]
  apply Int32.toBitVec_inj.mp
  rw [Int32.toBitVec_shiftRight, BitVec.sshiftRight', nI_smod k h, nI_bv, nI_bv]
  rw [BitVec.sshiftRight_eq_of_msb_false (by rw [BitVec.msb_eq_false_iff_two_mul_lt]; simp; omega)]
  apply BitVec.eq_of_toNat_eq
  simp only [BitVec.toNat_ushiftRight, BitVec.toNat_ofNat]
  rw [Nat.mod_eq_of_lt (show A < 2 ^ 32 by omega), Nat.mod_eq_of_lt]
  exact Nat.lt_of_le_of_lt (Nat.shiftRight_le A k) (by omega)
theorem nI_shl (A k : Nat) (h : k < 32) : shl (iI (A : Int)) (iI (k : Int)) = iI ((A <<< k : Nat) : Int) := by
  unfold shl
  rw [mod31 k h]
  apply Int32.toBitVec_inj.mp
  rw [Int32.toBitVec_shiftLeft, BitVec.shiftLeft_eq', nI_smod k h, nI_bv, nI_bv]
  apply BitVec.eq_of_toNat_eq
  simp only [BitVec.toNat_shiftLeft, BitVec.toNat_ofNat, Nat.shiftLeft_eq, Nat.mod_mul_mod]
theorem nN (k : Int) (h : 0 ≤ k) : ∃ n : Nat, k = n := ⟨k.toNat, by omega⟩
theorem bitAtI (A : Nat) (k : Int) (hA : A < 2147483648) (h : 0 ≤ k ∧ k < 32) : Fi_bitAt (iI (A : Int)) (iI k) = bI (A.testBit k.toNat) := by
  obtain ⟨n, rfl⟩ := nN k h.1
  unfold Fi_bitAt
  rw [nI_shr A n hA (by omega), show (1 : Int32) = iI ((1 : Nat) : Int) from rfl, nI_and, Int.toNat_natCast, bI_iI, Nat.testBit, Nat.and_comm]
  have : 1 &&& A >>> n < 2 := by rw [Nat.and_comm]; exact Nat.lt_of_le_of_lt Nat.and_le_right (by decide)
  generalize 1 &&& A >>> n = q at this
  match q, this with
  | 0, _ => rfl
  | 1, _ => rfl
theorem hasI (A : Nat) (k : Int) (hA : A < 2147483648) (h : 0 ≤ k ∧ k < 32) : Fi_has (iI (A : Int)) (iI k) = bI (A.testBit k.toNat) := by
  have e := bitAtI A k hA h
  unfold Fi_bitAt at e
  unfold Fi_has
  rw [e]
  cases A.testBit k.toNat <;> rfl
theorem oneI (k : Int) (h : 0 ≤ k ∧ k < 31) : shl 1 (iI k) = iI ((2 ^ k.toNat : Nat) : Int) := by
  obtain ⟨n, rfl⟩ := nN k h.1
  rw [show (1 : Int32) = iI ((1 : Nat) : Int) from rfl, nI_shl 1 n (by omega), Int.toNat_natCast, Nat.one_shiftLeft]
/-- how many bits -/
def pc (A : Nat) : Nat := (List.range 10).foldl (fun s k => s + (A.testBit k).toNat) 0
set_option maxRecDepth 100000 in
theorem pcI0 : ∀ A : Nat, A < 1024 → Jd_bitCount (iI (A : Int)) = iI (pc A : Int) := by decide +kernel
theorem bt_ext {n : Nat} {p q : Nat → Bool} (h : ∀ k, k < n → p k = q k) : bt n p = bt n q := by
  apply Nat.eq_of_testBit_eq
  intro k
  rw [bt_bit, bt_bit]
  by_cases hk : k < n
  · simp [hk, h k hk]
  · simp [hk]
theorem bt_of {A n : Nat} (h : A < 2 ^ n) : A = bt n A.testBit := by
  apply Nat.eq_of_testBit_eq
  intro k
  rw [bt_bit]
  by_cases hk : k < n
  · simp [hk]
  · have h2 : 2 ^ n ≤ 2 ^ k := Nat.pow_le_pow_right (by decide) (by omega)
    simp [hk, Nat.testBit_lt_two_pow (Nat.lt_of_lt_of_le h h2)]
theorem bt10 (p : Nat → Bool) : bt 10 p < 1024 := bt_lt p 10
/-! a loop, turn by turn -/
theorem jl_s {σ ρ : Type} {body : σ → Option (σ ⊕ ρ)} {n : Nat} {s s' : σ} (h : body s = some (.inl s')) : jloop body (n + 1) s = jloop body n s' := by simp only [jloop, h]
theorem jl_e {σ ρ : Type} {body : σ → Option (σ ⊕ ρ)} {n : Nat} {s : σ} {r : ρ} (h : body s = some (.inr r)) : jloop body (n + 1) s = some r := by simp only [jloop, h]
/-! bytes -/
theorem ushrK : ∀ k : Nat, k < 32 → (((iI (k : Int)).toUInt32 &&& Int32.toUInt32 31).toBitVec % 32).toNat = k := by decide +kernel
theorem byteI (v : Int32) (k : Nat) (h : k ≤ 24) : i2bv (ushr v (iI (k : Int))) = i2bv (shr v (iI (k : Int))) := by
  unfold i2bv
  congr 1
  have e : (ushr v (iI (k : Int))).toBitVec = v.toBitVec >>> k := by
    unfold ushr
    show (v.toUInt32 >>> _).toBitVec = _
    rw [UInt32.toBitVec_shiftRight, BitVec.ushiftRight_eq', ushrK k (by omega)]
    rfl
  unfold shr
  rw [mod31 k (by omega)]
  apply Int8.toBitVec_inj.mp
  rw [Int32.toBitVec_toInt8, Int32.toBitVec_toInt8, e, Int32.toBitVec_shiftRight, BitVec.sshiftRight', nI_smod k (by omega)]
  apply BitVec.eq_of_getLsbD_eq
  intro i hi
  have h1 : ¬ (32 ≤ i) := by omega
  have h2 : k + i < 32 := by omega
  have h3 : i < 32 := by omega
  rw [BitVec.getLsbD_signExtend, BitVec.getLsbD_signExtend, if_pos h3, if_pos h3, BitVec.getLsbD_ushiftRight, BitVec.getLsbD_sshiftRight, if_pos h2]
  simp [h1]
theorem byteB (v : Int32) : ∃ a : Int, i2bv v = iI a ∧ -128 ≤ a ∧ a < 128 := by
  refine ⟨v.toInt8.toInt, ?_, Int8.le_toInt _, Int8.toInt_lt _⟩
  unfold i2bv iI
  rw [← Int8.toInt_toInt32, Int32.ofInt_toInt]
theorem byte2 (v : Int32) : i2bv (i2bv v) = i2bv v := by
  unfold i2bv
  rw [Int8.toInt8_toInt32]
