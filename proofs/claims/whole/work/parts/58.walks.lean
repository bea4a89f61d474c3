/-! ===== layer 2: walks ===== -/
section
variable {A R : Nat → Nat → Bool} {W : Nat → Bool} {n m k x y z g : Nat} {p q : Nat → Bool}
/-- a walk of n steps -/
def wk (A : Nat → Nat → Bool) : Nat → Nat → Nat → Bool
  | 0, x, y => decide (x = y)
  | n + 1, x, y => anyb 10 (fun z => A x z && wk A n z y)
theorem wk_s : wk A (n + 1) x y = true ↔ ∃ z, z < 10 ∧ A x z = true ∧ wk A n z y = true := by
  show anyb 10 (fun z => A x z && wk A n z y) = true ↔ _
  rw [anyb_iff]
  constructor
  · rintro ⟨z, h1, h2⟩
    simp only [Bool.and_eq_true] at h2
    exact ⟨z, h1, h2.1, h2.2⟩
  · rintro ⟨z, h1, h2, h3⟩
    exact ⟨z, h1, by simp [h2, h3]⟩
theorem wk_0 : wk A 0 x y = true ↔ x = y := by simp [wk]
theorem wk_1 (h : A x y = true) (hy : y < 10) : wk A 1 x y = true := wk_s.mpr ⟨y, hy, h, wk_0.mpr rfl⟩
theorem wk_add : ∀ {n x}, wk A n x y = true → wk A m y z = true → wk A (n + m) x z = true
  | 0, x, h1, h2 => by rw [Nat.zero_add, wk_0.mp h1]; exact h2
  | n + 1, x, h1, h2 => by
    obtain ⟨w, a1, a2, a3⟩ := wk_s.mp h1
    rw [show n + 1 + m = (n + m) + 1 by omega]
    exact wk_s.mpr ⟨w, a1, a2, wk_add a3 h2⟩
theorem wk_snoc : ∀ {n x}, x < 10 → y < 10 → (wk A (n + 1) x y = true ↔ ∃ z, z < 10 ∧ wk A n x z = true ∧ A z y = true)
  | 0, x, hx, hy => by
    constructor
    · intro h
      obtain ⟨z, a1, a2, a3⟩ := wk_s.mp h
      have := wk_0.mp a3
      subst this
      exact ⟨x, hx, wk_0.mpr rfl, a2⟩
    · rintro ⟨z, a1, a2, a3⟩
      have := wk_0.mp a2
      subst this
      exact wk_1 a3 hy
  | n + 1, x, hx, hy => by
    constructor
    · intro h
      obtain ⟨w, a1, a2, a3⟩ := wk_s.mp h
      obtain ⟨z, b1, b2, b3⟩ := (wk_snoc (n := n) a1 hy).mp a3
      exact ⟨z, b1, wk_s.mpr ⟨w, a1, a2, b2⟩, b3⟩
    · rintro ⟨z, a1, a2, a3⟩
      exact wk_add a2 (wk_1 a3 hy)
theorem wk_blw (hx : x < 10) (hy : y < 10) : blw A (wk A n x) y = wk A (n + 1) x y := by
  rw [Bool.eq_iff_iff, wk_snoc hx hy]
  unfold blw
  rw [anyb_iff]
  constructor
  · rintro ⟨z, h1, h2⟩
    simp only [Bool.and_eq_true] at h2
    exact ⟨z, h1, h2.1, h2.2⟩
  · rintro ⟨z, h1, h2, h3⟩
    exact ⟨z, h1, by simp [h2, h3]⟩
theorem wk_ovr : ovr A (fun z => wk A n z y) x = wk A (n + 1) x y := rfl
theorem wk_ext (h : ∀ x y, x < 10 → y < 10 → A x y = R x y) : ∀ n x, x < 10 → wk A n x y = wk R n x y
  | 0, x, _ => rfl
  | n + 1, x, hx => anyb_ext fun z hz => by rw [h x z hx hz, wk_ext h n z hz]
theorem wk_sub (h : ∀ x y, A x y = true → R x y = true) : ∀ {n x}, wk A n x y = true → wk R n x y = true
  | 0, x, h1 => h1
  | n + 1, x, h1 => by
    obtain ⟨w, a1, a2, a3⟩ := wk_s.mp h1
    exact wk_s.mpr ⟨w, a1, h _ _ a2, wk_sub h a3⟩
/-! counting -/
theorem cnt_mono : ∀ {n : Nat}, (∀ k, k < n → p k = true → q k = true) → cnt n p ≤ cnt n q
  | 0, _ => Nat.le_refl _
  | n + 1, h => by
    have ih := cnt_mono (n := n) fun k hk => h k (by omega)
    have h1 := h n (by omega)
    show cnt n p + (if p n = true then 1 else 0) ≤ cnt n q + (if q n = true then 1 else 0)
    by_cases e : p n = true
    · rw [if_pos e, if_pos (h1 e)]; omega
    · rw [if_neg e]; omega
theorem cnt_lt {x : Nat} : ∀ {n : Nat}, (∀ k, k < n → p k = true → q k = true) → x < n → p x = false → q x = true → cnt n p < cnt n q
  | 0, _, h, _, _ => by omega
  | n + 1, h, hx, hp, hq => by
    show cnt n p + (if p n = true then 1 else 0) < cnt n q + (if q n = true then 1 else 0)
    by_cases e : x = n
    · subst e
      have := cnt_mono (n := x) fun k hk => h k (by omega)
      rw [hp, hq]
      simp only [Bool.false_eq_true, if_false, if_true]
      omega
    · have ih := cnt_lt (n := n) (x := x) (fun k hk => h k (by omega)) (by omega) hp hq
      have h1 := h n (by omega)
      by_cases e2 : p n = true
      · rw [if_pos e2, if_pos (h1 e2)]; omega
      · rw [if_neg e2]; omega
theorem cnt_full : ∀ {n : Nat}, n ≤ cnt n p → ∀ k, k < n → p k = true
  | 0, _, k, h => by omega
  | n + 1, h0, k, h => by
    have h1 : n + 1 ≤ cnt n p + (if p n = true then 1 else 0) := h0
    have h2 := cnt_le p n
    have e : p n = true := by
      cases e : p n
      · rw [e] at h1; simp only [Bool.false_eq_true, if_false] at h1; omega
      · rfl
    rw [if_pos e] at h1
    by_cases e2 : k = n
    · rw [e2]; exact e
    · exact cnt_full (n := n) (by omega) k (by omega)
theorem cnt_pos (hx : x < n) (h : p x = true) : 1 ≤ cnt n p := by
  have := cnt_lt (p := fun _ => false) (q := p) (n := n) (x := x) (fun _ _ h => by cases h) hx rfl h
  omega
/-! those from whom g is reached in at most n steps -/
def sn (A : Nat → Nat → Bool) (g n x : Nat) : Bool := anyb (n + 1) (fun k => wk A k x g)
theorem sn_iff : sn A g n x = true ↔ ∃ k, k ≤ n ∧ wk A k x g = true := by
  unfold sn
  rw [anyb_iff]
  constructor
  · rintro ⟨k, h1, h2⟩; exact ⟨k, by omega, h2⟩
  · rintro ⟨k, h1, h2⟩; exact ⟨k, by omega, h2⟩
theorem sn_grow (hg : g < 10) : ∀ n, n + 1 ≤ cnt 10 (sn A g n) ∨ ∀ m x, x < 10 → sn A g m x = true → sn A g n x = true
  | 0 => Or.inl (cnt_pos hg (sn_iff.mpr ⟨0, by omega, wk_0.mpr rfl⟩))
  | n + 1 => by
    rcases sn_grow hg n with h | h
    · by_cases hc : ∀ x, x < 10 → sn A g (n + 1) x = true → sn A g n x = true
      · refine Or.inr fun m => ?_
        have key : ∀ m x, x < 10 → sn A g m x = true → sn A g n x = true := by
          intro m
          induction m with
          | zero =>
            intro x _ h0
            obtain ⟨k, h1, h2⟩ := sn_iff.mp h0
            exact sn_iff.mpr ⟨k, by omega, h2⟩
          | succ m ih =>
            intro x hx h0
            obtain ⟨k, h1, h2⟩ := sn_iff.mp h0
            cases k with
            | zero => exact sn_iff.mpr ⟨0, by omega, h2⟩
            | succ k =>
              obtain ⟨w, a1, a2, a3⟩ := wk_s.mp h2
              obtain ⟨j, b1, b2⟩ := sn_iff.mp (ih w a1 (sn_iff.mpr ⟨k, by omega, a3⟩))
              exact hc x hx (sn_iff.mpr ⟨j + 1, by omega, wk_s.mpr ⟨w, a1, a2, b2⟩⟩)
        intro x hx h0
        obtain ⟨k, h1, h2⟩ := sn_iff.mp (key m x hx h0)
        exact sn_iff.mpr ⟨k, by omega, h2⟩
      · refine Or.inl ?_
        have hc2 : ∃ x, x < 10 ∧ sn A g (n + 1) x = true ∧ sn A g n x = false := by
          apply Classical.byContradiction
          intro hn
          apply hc
          intro x hx h1
          cases e : sn A g n x
          · exact absurd ⟨x, hx, h1, e⟩ hn
          · rfl
        obtain ⟨x, hx, h1, h2⟩ := hc2
        have := cnt_lt (p := sn A g n) (q := sn A g (n + 1)) (n := 10) (fun k _ hk => by
          obtain ⟨j, b1, b2⟩ := sn_iff.mp hk
          exact sn_iff.mpr ⟨j, by omega, b2⟩) hx h2 h1
        omega
    · refine Or.inr fun m x hx h0 => ?_
      obtain ⟨k, h1, h2⟩ := sn_iff.mp (h m x hx h0)
      exact sn_iff.mpr ⟨k, by omega, h2⟩
/-- where there is a walk there is one of at most 9 steps -/
theorem wk_short (hg : g < 10) (hx : x < 10) (h : wk A n x g = true) : ∃ k, k ≤ 9 ∧ wk A k x g = true := by
  rcases sn_grow (A := A) hg 9 with q | q
  · exact sn_iff.mp (cnt_full (n := 10) (by omega) x hx)
  · exact sn_iff.mp (q n x hx (sn_iff.mpr ⟨n, Nat.le_refl _, h⟩))
/-- how far g is from x: 11 if it can't be reached -/
def ds (A : Nat → Nat → Bool) (g x : Nat) : Nat := fst_ 11 (fun n => wk A n x g)
theorem ds_wk (h : ds A g x < 11) : wk A (ds A g x) x g = true := fst_is (p := fun n => wk A n x g) h
theorem ds_le (h : wk A n x g = true) (hn : n < 11) : ds A g x ≤ n := by
  rcases Nat.lt_or_ge n (ds A g x) with q | q
  · have := fst_not (p := fun n => wk A n x g) q
    rw [h] at this; cases this
  · exact q
theorem ds_any (hg : g < 10) (hx : x < 10) (h : wk A n x g = true) : ds A g x ≤ 9 := by
  obtain ⟨k, h1, h2⟩ := wk_short hg hx h
  have := ds_le h2 (by omega)
  omega
theorem ds_9 (hg : g < 10) (hx : x < 10) (h : ds A g x < 11) : ds A g x ≤ 9 := ds_any hg hx (ds_wk h)
theorem ds_0 : ds A g x = 0 ↔ x = g := by
  constructor
  · intro h
    have := ds_wk (A := A) (g := g) (x := x) (by omega)
    rw [h] at this
    exact wk_0.mp this
  · intro h
    have := ds_le (A := A) (g := g) (x := x) (n := 0) (wk_0.mpr h) (by omega)
    omega
/-- one step more -/
theorem ds_s (hn : n < 10) (hx : ¬ ds A g x ≤ n) : (ds A g x = n + 1) ↔ ∃ z, z < 10 ∧ A x z = true ∧ ds A g z = n := by
  constructor
  · intro h
    have h1 := ds_wk (A := A) (g := g) (x := x) (by omega)
    rw [h] at h1
    obtain ⟨z, a1, a2, a3⟩ := wk_s.mp h1
    refine ⟨z, a1, a2, ?_⟩
    have h2 := ds_le a3 (by omega)
    rcases Nat.lt_or_ge (ds A g z) n with q | q
    · have h3 := ds_wk (A := A) (g := g) (x := z) (by omega)
      have h4 := ds_le (wk_s.mpr ⟨z, a1, a2, h3⟩) (show ds A g z + 1 < 11 by omega)
      omega
    · omega
  · rintro ⟨z, a1, a2, a3⟩
    have h3 := ds_wk (A := A) (g := g) (x := z) (by omega)
    have h4 := ds_le (wk_s.mpr ⟨z, a1, a2, h3⟩) (show ds A g z + 1 < 11 by omega)
    omega
/-- the shortest ring through g has cy + 1 steps; 10 if there is none -/
def cy (A : Nat → Nat → Bool) (g : Nat) : Nat := fst_ 10 (fun n => wk A (n + 1) g g)
theorem cy_le : cy A g ≤ 10 := fst_le _ _
theorem cy_wk (h : cy A g < 10) : wk A (cy A g + 1) g g = true := fst_is (p := fun n => wk A (n + 1) g g) h
theorem cy_not (h : n < cy A g) : wk A (n + 1) g g = false := fst_not (p := fun n => wk A (n + 1) g g) h
theorem cy_any (hg : g < 10) (h : wk A (n + 1) g g = true) : cy A g < 10 := by
  obtain ⟨z, a1, a2, a3⟩ := wk_s.mp h
  obtain ⟨k, h1, h2⟩ := wk_short hg a1 a3
  have h3 := wk_s.mpr ⟨z, a1, a2, h2⟩
  rcases Nat.lt_or_ge (cy A g) 10 with q | q
  · exact q
  · have := cy_not (A := A) (g := g) (n := k) (by omega)
    rw [h3] at this; cases this
theorem cy_none (hg : g < 10) (h : ¬ cy A g < 10) (n : Nat) : wk A (n + 1) g g = false := by
  cases e : wk A (n + 1) g g
  · rfl
  · exact absurd (cy_any hg e) h
/-- by the ways back of those below g -/
theorem cy_ds (hg : g < 10) : (∀ y, y < 10 → A g y = true → ds A g y < 11 → cy A g ≤ ds A g y) ∧ (cy A g < 10 → ∃ y, y < 10 ∧ A g y = true ∧ ds A g y = cy A g) := by
  constructor
  · intro y hy h1 h2
    have h3 := ds_9 hg hy h2
    have h4 := wk_s.mpr ⟨y, hy, h1, ds_wk h2⟩
    rcases Nat.lt_or_ge (ds A g y) (cy A g) with q | q
    · have := cy_not q
      rw [h4] at this; cases this
    · exact q
  · intro h
    obtain ⟨z, a1, a2, a3⟩ := wk_s.mp (cy_wk h)
    refine ⟨z, a1, a2, ?_⟩
    have h1 := ds_le a3 (by omega)
    rcases Nat.lt_or_ge (ds A g z) (cy A g) with q | q
    · have h4 := wk_s.mpr ⟨z, a1, a2, ds_wk (show ds A g z < 11 by omega)⟩
      have := cy_not q
      rw [h4] at this; cases this
    · omega
end
