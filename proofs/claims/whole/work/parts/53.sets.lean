/-! ===== layer 2: sets of guests ===== -/
section
variable {I I' I'' : Nat → Nat → Int32} {J : Nat → Nat → Int64} {b v : Bool} {f k n : Nat} {x y : Nat} {p q : Nat → Bool}
/-- one below n -/
def anyb (n : Nat) (p : Nat → Bool) : Bool := match n with
  | 0 => false
  | n + 1 => anyb n p || p n
theorem anyb_s (n : Nat) (p : Nat → Bool) : anyb (n + 1) p = (anyb n p || p n) := rfl
theorem anyb_iff {p : Nat → Bool} : ∀ {n : Nat}, anyb n p = true ↔ ∃ k, k < n ∧ p k = true
  | 0 => by simp [anyb]
  | n + 1 => by
    rw [anyb_s, Bool.or_eq_true, anyb_iff (n := n)]
    constructor
    · rintro (⟨k, h1, h2⟩ | h)
      · exact ⟨k, by omega, h2⟩
      · exact ⟨n, by omega, h⟩
    · rintro ⟨k, h1, h2⟩
      rcases Nat.lt_or_ge k n with h | h
      · exact Or.inl ⟨k, h, h2⟩
      · have : k = n := by omega
        subst this
        exact Or.inr h2
theorem anyb_not {p : Nat → Bool} {n : Nat} : anyb n p = false ↔ ∀ k, k < n → p k = false := by
  rw [← Bool.not_eq_true, anyb_iff]
  constructor
  · intro h k hk
    cases e : p k
    · rfl
    · exact absurd ⟨k, hk, e⟩ h
  · rintro h ⟨k, h1, h2⟩
    rw [h k h1] at h2; cases h2
theorem anyb_ext (h : ∀ k, k < n → p k = q k) : anyb n p = anyb n q := by
  rw [Bool.eq_iff_iff, anyb_iff, anyb_iff]
  constructor
  · rintro ⟨k, h1, h2⟩; exact ⟨k, h1, by rw [← h k h1]; exact h2⟩
  · rintro ⟨k, h1, h2⟩; exact ⟨k, h1, by rw [h k h1]; exact h2⟩
theorem anyb_out (h : ∀ k, n ≤ k → p k = false) : ∀ d, anyb (n + d) p = anyb n p
  | 0 => rfl
  | d + 1 => by
    show (anyb (n + d) p || p (n + d)) = _
    rw [anyb_out h d, h _ (by omega), Bool.or_false]
theorem src_any {T : Tb} (p : Nat → Bool) : ∀ n, (src T p n = -1) ↔ anyb n p = false
  | 0 => by simp [src, anyb]
  | n + 1 => by
    have ih := src_any (T := T) p n
    rw [src_s, anyb_s, Bool.or_eq_false_iff]
    by_cases h1 : p n = true ∧ (src T p n = -1 ∨ T 8 (src T p n).toNat < T 8 n)
    · rw [if_pos h1]
      constructor
      · intro h; omega
      · intro h; rw [h1.1] at h; simp at h
    · rw [if_neg h1, ih]
      constructor
      · intro h
        refine ⟨h, ?_⟩
        cases e : p n
        · rfl
        · exact absurd ⟨e, Or.inl (ih.mpr h)⟩ h1
      · exact fun h => h.1
/-! sets as bits -/
theorem bt_or (n : Nat) (p q : Nat → Bool) : bt n p ||| bt n q = bt n (fun y => p y || q y) := by
  apply Nat.eq_of_testBit_eq
  intro k
  rw [Nat.testBit_or, bt_bit, bt_bit, bt_bit]
  cases decide (k < n) <;> simp
theorem bt_and (n : Nat) (p q : Nat → Bool) : bt n p &&& bt n q = bt n (fun y => p y && q y) := by
  apply Nat.eq_of_testBit_eq
  intro k
  rw [Nat.testBit_and, bt_bit, bt_bit, bt_bit]
  cases decide (k < n) <;> simp
theorem bt_andn (n : Nat) (p q : Nat → Bool) : bt n p ^^^ (bt n p &&& bt n q) = bt n (fun y => p y && !q y) := by
  apply Nat.eq_of_testBit_eq
  intro k
  rw [Nat.testBit_xor, Nat.testBit_and, bt_bit, bt_bit, bt_bit]
  cases decide (k < n) <;> cases p k <;> cases q k <;> rfl
theorem bt_one (h : k < n) : 2 ^ k = bt n (fun y => decide (y = k)) := by
  apply Nat.eq_of_testBit_eq
  intro j
  rw [Nat.testBit_two_pow, bt_bit]
  by_cases e : k = j
  · subst e; simp [h]
  · have e' : ¬ j = k := fun h => e h.symm
    simp [e, e']
theorem bt_z (n : Nat) : bt n (fun _ => false) = 0 := by
  induction n with
  | zero => rfl
  | succ n ih => simp [bt, ih]
theorem bt_eq0 : bt n p = 0 ↔ anyb n p = false := by
  rw [anyb_not]
  constructor
  · intro h k hk
    have := bt_bit p k n
    rw [h] at this
    simpa [hk] using this.symm
  · intro h
    rw [← bt_z n]
    exact bt_ext h
theorem bt_inj (h : bt n p = bt n q) : ∀ k, k < n → p k = q k := fun k hk => by
  have h1 := bt_bit p k n
  rw [h, bt_bit] at h1
  simpa [hk] using h1.symm
theorem bt_up (h : n ≤ k) : bt n p = bt k (fun y => decide (y < n) && p y) := by
  apply Nat.eq_of_testBit_eq
  intro j
  rw [bt_bit, bt_bit]
  by_cases e : j < n
  · simp [e, show j < k by omega]
  · simp [e]
theorem sI_or (n : Nat) (p q : Nat → Bool) : iI (bt n p : Int) ||| iI (bt n q : Int) = iI (bt n (fun y => p y || q y) : Int) := by rw [nI_or, bt_or]
theorem sI_and (n : Nat) (p q : Nat → Bool) : iI (bt n p : Int) &&& iI (bt n q : Int) = iI (bt n (fun y => p y && q y) : Int) := by rw [nI_and, bt_and]
theorem sI_andn (n : Nat) (p q : Nat → Bool) : iI (bt n p : Int) &&& (iI (bt n q : Int) ^^^ iI (-1)) = iI (bt n (fun y => p y && !q y) : Int) := by rw [nI_andn, bt_andn]
theorem sI_one (h : k < 10) : shl (iI 1) (iI (k : Int)) = iI (bt 10 (fun y => decide (y = k)) : Int) := by
  rw [oneI' (k : Int) (by omega), Int.toNat_natCast, bt_one h]
theorem sI_0 (p : Nat → Bool) : (iI (bt 10 p : Int) = iI 0) = (anyb 10 p = false) := by
  have := bt10 p
  rw [iI_eq (by omega), ← bt_eq0]
  exact propext ⟨fun h => by omega, fun h => by omega⟩
theorem sI_eq (p q : Nat → Bool) : (iI (bt 10 p : Int) = iI (bt 10 q : Int)) = (∀ k, k < 10 → p k = q k) := by
  have h1 := bt10 p
  have h2 := bt10 q
  rw [iI_eq (by omega)]
  exact propext ⟨fun h => bt_inj (by omega), fun h => by rw [bt_ext h]⟩
theorem sI_z : iI 0 = iI (bt 10 (fun _ => false) : Int) := by rw [bt_z]; rfl
theorem sI_ext (h : ∀ k, k < n → p k = q k) : iI (bt n p : Int) = iI (bt n q : Int) := by rw [bt_ext h]
theorem sI_cnt (p : Nat → Bool) : Jd_bitCount (iI (bt 10 p : Int)) = iI (cnt 10 p : Int) := pcI (by omega) p
/-- the lowest, or 32 -/
def lowN (A : Nat) : Nat := if fst_ 10 A.testBit < 10 then fst_ 10 A.testBit else 32
set_option maxRecDepth 100000 in
theorem lowK : ∀ A : Nat, A < 1024 → Fi_lowest (iI (A : Int)) = iI (lowN A : Int) := by decide +kernel
theorem fst_ext : ∀ {n : Nat} {p q : Nat → Bool}, (∀ k, k < n → p k = q k) → fst_ n p = fst_ n q
  | 0, _, _, _ => rfl
  | n + 1, p, q, h => by
    unfold fst_
    rw [fst_ext (n := n) (fun k hk => h k (by omega)), h n (by omega)]
def lowP (p : Nat → Bool) : Nat := if fst_ 10 p < 10 then fst_ 10 p else 32
theorem sI_low (p : Nat → Bool) : Fi_lowest (iI (bt 10 p : Int)) = iI (lowP p : Int) := by
  rw [lowK _ (bt10 p), lowN, lowP, fst_ext (p := (bt 10 p).testBit) (q := p) fun k hk => by rw [bt_bit]; simp [hk]]
theorem lowP_lt (h : anyb 10 p = true) : lowP p < 10 ∧ lowP p = fst_ 10 p ∧ p (lowP p) = true := by
  obtain ⟨k, h1, h2⟩ := anyb_iff.mp h
  have h3 : fst_ 10 p < 10 := by
    rcases Nat.lt_or_ge (fst_ 10 p) 10 with q | q
    · exact q
    · have := fst_not (p := p) (n := 10) (k := k) (by omega)
      rw [h2] at this; cases this
  have e : lowP p = fst_ 10 p := by unfold lowP; rw [if_pos h3]
  rw [e]
  exact ⟨h3, rfl, fst_is h3⟩
theorem lowP_no (h : anyb 10 p = false) : lowP p = 32 := by
  unfold lowP
  rw [if_neg]
  rw [fst_all (anyb_not.mp h)]
  omega
/-- a row of ten sets -/
def row (o : Nat) (Q : Nat → Nat → Bool) (I : Nat → Nat → Int32) : Prop := ∀ x, x < 10 → I o x = iI (bt 10 (Q x) : Int)
theorem row.agr {o : Nat} {Q : Nat → Nat → Bool} (h : row o Q I) (ha : ∀ x, I' o x = I o x) : row o Q I' := fun x hx => (ha x).trans (h x hx)
theorem row.ext {o : Nat} {Q R : Nat → Nat → Bool} (h : row o Q I) (ha : ∀ x y, x < 10 → y < 10 → Q x y = R x y) : row o R I := fun x hx => (h x hx).trans (sI_ext fun y hy => ha x y hx hy)
theorem row.up {o : Nat} {Q R : Nat → Nat → Bool} (h : row o Q I) (ha : ∀ z y, z ≠ x → z < 10 → y < 10 → Q z y = R z y) : row o R (hup I o x (iI (bt 10 (R x) : Int))) := fun z hz => by
  by_cases e : z = x
  · subst e; simp [hup]
  · rw [hup_ix _ _ _ e, h z hz]
    exact sI_ext fun y hy => ha z y e hz hy
end
