/-! ===== layer 2: numbers, loops, the calculus of what must come ===== -/
variable {a b c : Int} {n k m : Nat} {p q : Bool}
def iI (a : Int) : Int32 := Int32.ofInt a
def bI (b : Bool) : Int32 := if b then 1 else 0
abbrev rg (a : Int) : Prop := -2147483648 ≤ a ∧ a < 2147483648
theorem iI_toInt (h : rg a) : (iI a).toInt = a := Int32.toInt_ofInt_of_le h.1 h.2
theorem iI_of (x : Int32) : ∃ a : Int, x = iI a ∧ rg a := ⟨x.toInt, (Int32.ofInt_toInt x).symm, Int32.le_toInt x, Int32.toInt_lt x⟩
theorem iI_add (a b : Int) : iI a + iI b = iI (a + b) := (Int32.ofInt_add a b).symm
theorem iI_sub (a b : Int) : iI a - iI b = iI (a - b) := (Int32.ofInt_sub a b).symm
theorem iI_mul (a b : Int) : iI a * iI b = iI (a * b) := (Int32.ofInt_mul a b).symm
theorem iI_neg (a : Int) : -(iI a) = iI (-a) := (Int32.ofInt_neg a).symm
theorem iI_lt (h : rg a ∧ rg b) : (iI a < iI b) = (a < b) := by
  rw [Int32.lt_iff_toInt_lt, iI_toInt h.1, iI_toInt h.2]
theorem iI_le (h : rg a ∧ rg b) : (iI a ≤ iI b) = (a ≤ b) := by
  rw [Int32.le_iff_toInt_le, iI_toInt h.1, iI_toInt h.2]
theorem iI_eq (h : rg a ∧ rg b) : (iI a = iI b) = (a = b) := by
  rw [← Int32.toInt_inj, iI_toInt h.1, iI_toInt h.2]
theorem iI_clamp (h : rg a) : (iI a).toNatClampNeg = a.toNat := by
  rw [← Int32.toNat_toInt, iI_toInt h]
theorem n_0 : (0 : Int32) = iI 0 := rfl
theorem n_1 : (1 : Int32) = iI 1 := rfl
theorem n_2 : (2 : Int32) = iI 2 := rfl
theorem n_3 : (3 : Int32) = iI 3 := rfl
theorem n_4 : (4 : Int32) = iI 4 := rfl
theorem n_5 : (5 : Int32) = iI 5 := rfl
theorem n_6 : (6 : Int32) = iI 6 := rfl
theorem n_7 : (7 : Int32) = iI 7 := rfl
theorem n_8 : (8 : Int32) = iI 8 := rfl
theorem n_9 : (9 : Int32) = iI 9 := rfl
theorem n_10 : (10 : Int32) = iI 10 := rfl
theorem n_12 : (12 : Int32) = iI 12 := rfl
theorem n_15 : (15 : Int32) = iI 15 := rfl
theorem n_20 : (20 : Int32) = iI 20 := rfl
theorem n_24 : (24 : Int32) = iI 24 := rfl
theorem n_32 : (32 : Int32) = iI 32 := rfl
theorem n_48 : (48 : Int32) = iI 48 := rfl
theorem n_57 : (57 : Int32) = iI 57 := rfl
theorem n_59 : (59 : Int32) = iI 59 := rfl
theorem n_80 : (80 : Int32) = iI 80 := rfl
theorem n_97 : (97 : Int32) = iI 97 := rfl
theorem n_99 : (99 : Int32) = iI 99 := rfl
theorem n_100 : (100 : Int32) = iI 100 := rfl
theorem n_122 : (122 : Int32) = iI 122 := rfl
theorem n_680 : (680 : Int32) = iI 680 := rfl
theorem n_700 : (700 : Int32) = iI 700 := rfl
theorem n_999 : (999 : Int32) = iI 999 := rfl
theorem n_1023 : (1023 : Int32) = iI 1023 := rfl
theorem n_1024 : (1024 : Int32) = iI 1024 := rfl
theorem bI_0 : (bI p = iI 0) = (p = false) := by cases p <;> decide
theorem bI_1 : (bI p = iI 1) = (p = true) := by cases p <;> decide
theorem bI_inj : (bI p = bI q) = (p = q) := by cases p <;> cases q <;> decide
theorem bI_and1 : bI p &&& iI 1 = bI p := by cases p <;> decide
theorem bI_ok : bI p = 0 ∨ bI p = 1 := by cases p <;> decide
theorem bI_t : iI 1 = bI true := rfl
theorem bI_f : iI 0 = bI false := rfl
theorem bI_ite {P : Prop} [Decidable P] : (if P then iI 1 else iI 0) = bI (decide P) := by
  by_cases h : P <;> simp [h, bI] <;> rfl
theorem bI_iI : bI p = iI (if p then 1 else 0) := by cases p <;> rfl
/-- what must come: the value is there, and it is so -/
def wp {α : Type} (x : Option α) (Q : α → Prop) : Prop := ∃ a, x = some a ∧ Q a
theorem wp_some {α : Type} {a : α} {Q : α → Prop} : wp (some a) Q = Q a := by simp [wp]
theorem wp_bind {α β : Type} {x : Option α} {f : α → Option β} {Q : β → Prop} : wp (x.bind f) Q = wp x (fun a => wp (f a) Q) := by
  cases x <;> simp [wp]
theorem wp_mono {α : Type} {x : Option α} {Q Q' : α → Prop} (h : wp x Q) (hq : ∀ a, Q a → Q' a) : wp x Q' := by
  obtain ⟨a, h1, h2⟩ := h
  exact ⟨a, h1, hq a h2⟩
theorem wp_ite {α : Type} {P : Prop} [Decidable P] {x y : Option α} {Q : α → Prop} (h1 : P → wp x Q) (h2 : ¬ P → wp y Q) : wp (if P then x else y) Q := by
  by_cases h : P
  · rw [if_pos h]; exact h1 h
  · rw [if_neg h]; exact h2 h
theorem wp_eq {α : Type} {x : Option α} {a : α} {Q : α → Prop} (h : x = some a) (hq : Q a) : wp x Q := ⟨a, h, hq⟩
/-- a loop whose states are known -/
theorem jfun_aux {σ ρ : Type} {body : σ → Option (σ ⊕ ρ)} (st : Nat → σ) (N : Nat) {r : ρ} (hs : ∀ k, k < N → body (st k) = some (.inl (st (k + 1)))) (he : body (st N) = some (.inr r)) : ∀ (f j : Nat), j ≤ N → N - j < f → jloop body f (st j) = some r := by
  intro f
  induction f with
  | zero => intro j _ h; omega
  | succ f ih =>
    intro j hj hf
    rcases Nat.lt_or_ge j N with h | h
    · simp only [jloop, hs j h]
      exact ih (j + 1) h (by omega)
    · have : j = N := by omega
      subst this
      simp only [jloop, he]
theorem jfun {σ ρ : Type} {body : σ → Option (σ ⊕ ρ)} (st : Nat → σ) (N : Nat) {r : ρ} {s0 : σ} (h0 : s0 = st 0) (hs : ∀ k, k < N → body (st k) = some (.inl (st (k + 1)))) (he : body (st N) = some (.inr r)) (hN : N < 5000) : jloop body jN s0 = some r := by
  subst h0
  exact jfun_aux st N hs he jN 0 (Nat.zero_le _) (by unfold jN; omega)
/-- a loop with what holds at each turn -/
theorem jinv_aux {σ ρ : Type} {body : σ → Option (σ ⊕ ρ)} (Inv : Nat → σ → Prop) (Post : ρ → Prop) (N : Nat) (hs : ∀ k s, k < N → Inv k s → wp (body s) (fun x => Sum.elim (Inv (k + 1)) Post x)) (he : ∀ s, Inv N s → wp (body s) (fun x => Sum.elim (fun _ => False) Post x)) : ∀ (f j : Nat) (s : σ), j ≤ N → N - j < f → Inv j s → wp (jloop body f s) Post := by
  intro f
  induction f with
  | zero => intro j _ _ h; omega
  | succ f ih =>
    intro j s hj hf hi
    rcases Nat.lt_or_ge j N with h | h
    · obtain ⟨x, hx, hq⟩ := hs j s h hi
      cases x with
      | inl s' => simp only [jloop, hx]; exact ih (j + 1) s' h (by omega) hq
      | inr r => simp only [jloop, hx]; exact ⟨r, rfl, hq⟩
    · have : j = N := by omega
      subst this
      obtain ⟨x, hx, hq⟩ := he s hi
      cases x with
      | inl s' => exact hq.elim
      | inr r => simp only [jloop, hx]; exact ⟨r, rfl, hq⟩
theorem jinv {σ ρ : Type} {body : σ → Option (σ ⊕ ρ)} (Inv : Nat → σ → Prop) (Post : ρ → Prop) (N : Nat) {s0 : σ} (h0 : Inv 0 s0) (hs : ∀ k s, k < N → Inv k s → wp (body s) (fun x => Sum.elim (Inv (k + 1)) Post x)) (he : ∀ s, Inv N s → wp (body s) (fun x => Sum.elim (fun _ => False) Post x)) (hN : N < 5000) : wp (jloop body jN s0) Post :=
  jinv_aux Inv Post N hs he jN 0 s0 (Nat.zero_le _) (by unfold jN; omega) h0
/-- a loop that comes to its first end -/
def fst_ (n : Nat) (p : Nat → Bool) : Nat := match n with
  | 0 => 0
  | n + 1 => if fst_ n p < n then fst_ n p else if p n then n else n + 1
theorem fst_le (p : Nat → Bool) : ∀ n, fst_ n p ≤ n
  | 0 => Nat.le_refl 0
  | n + 1 => by
    have := fst_le p n
    unfold fst_
    split
    · omega
    · split <;> omega
theorem fst_not {p : Nat → Bool} : ∀ {n k : Nat}, k < fst_ n p → p k = false
  | 0, k, h => by simp [fst_] at h
  | n + 1, k, h => by
    have := fst_le p n
    unfold fst_ at h
    split at h
    · exact fst_not h
    · rename_i h1
      have e : fst_ n p = n := by omega
      split at h
      · exact fst_not (n := n) (by omega)
      · rename_i h2
        rcases Nat.lt_or_ge k n with h3 | h3
        · exact fst_not (n := n) (by omega)
        · have : k = n := by omega
          subst this
          simpa using h2
theorem fst_is {p : Nat → Bool} : ∀ {n : Nat}, fst_ n p < n → p (fst_ n p) = true
  | 0, h => by omega
  | n + 1, h => by
    unfold fst_ at h ⊢
    by_cases h1 : fst_ n p < n
    · simp only [h1, if_true]; exact fst_is h1
    · simp only [h1, if_false] at h ⊢
      by_cases h2 : p n = true
      · simp only [h2, if_true]
      · simp only [h2] at h; simp at h
theorem fst_eq {p : Nat → Bool} {n k : Nat} (hk : k < n) (h : p k = true) (hn : ∀ j, j < k → p j = false) : fst_ n p = k := by
  have h1 : ¬ k < fst_ n p := fun hq => by rw [fst_not hq] at h; cases h
  have h2 : ¬ fst_ n p < k := fun hq => by
    have := fst_is (p := p) (n := n) (by omega)
    rw [hn _ hq] at this; cases this
  omega
theorem fst_all {p : Nat → Bool} {n : Nat} (hn : ∀ j, j < n → p j = false) : fst_ n p = n := by
  have h1 := fst_le p n
  rcases Nat.lt_or_ge (fst_ n p) n with h | h
  · have := fst_is h
    rw [hn _ h] at this; cases this
  · omega
