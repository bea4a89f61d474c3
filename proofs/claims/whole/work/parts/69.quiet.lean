/-! ===== layer 2: heaps at which nobody is slighted ===== -/
section
variable {A E R : Nat → Nat → Bool} {H W : Nat → Bool} {n m k x y z g a c : Nat}
/-- no two of H are both even and above, and there is no ring in H -/
def Qt (A E : Nat → Nat → Bool) (n : Nat) (H : Nat → Bool) : Bool := !anyb n (fun x => anyb n (fun y => H x && (H y && (E x y && A x y)))) && !hrg A H n
def adg (H : Nat → Bool) (g y : Nat) : Bool := H y || decide (y = g)
/-- those of H whom g leads to, in at most k steps more -/
def rcs (A : Nat → Nat → Bool) (H : Nat → Bool) (g : Nat) : Nat → Nat → Bool
  | 0 => fun y => A g y && H y
  | k + 1 => fun y => rcs A H g k y || (blw A (rcs A H g k) y && H y)
def fit (A E : Nat → Nat → Bool) (H : Nat → Bool) (g : Nat) : Bool := !anyb 10 (fun y => E g y && ((A g y && H y) || (A y g && H y))) && !anyb 10 (fun k => anyb 10 (fun y => rcs A H g k y && (A y g && H y)))
theorem rcs_iff (hx : x < 10) : ∀ {k}, (∀ x, x < 10 → (rcs A H g k x = true ↔ ∃ y j, y < 10 ∧ j ≤ k ∧ A g y = true ∧ H y = true ∧ wk (rsA A H) j y x = true ∧ H x = true))
  | 0 => fun x hx => by
    show (A g x && H x) = true ↔ _
    simp only [Bool.and_eq_true]
    constructor
    · rintro ⟨h1, h2⟩; exact ⟨x, 0, hx, Nat.le_refl _, h1, h2, wk_0.mpr rfl, h2⟩
    · rintro ⟨y, j, h1, h2, h3, h4, h5, h6⟩
      have : j = 0 := by omega
      subst this
      have := wk_0.mp h5
      subst this
      exact ⟨h3, h4⟩
  | k + 1 => fun x hx' => by
    have ih := rcs_iff hx (k := k)
    show (rcs A H g k x || (blw A (rcs A H g k) x && H x)) = true ↔ _
    simp only [Bool.or_eq_true, Bool.and_eq_true]
    constructor
    · rintro (h | ⟨h1, h2⟩)
      · obtain ⟨y, j, a1, a2, a3⟩ := (ih x hx').mp h
        exact ⟨y, j, a1, by omega, a3⟩
      · obtain ⟨z, b1, b2⟩ := anyb_iff.mp h1
        simp only [Bool.and_eq_true] at b2
        obtain ⟨y, j, a1, a2, a3, a4, a5, a6⟩ := (ih z b1).mp b2.1
        exact ⟨y, j + 1, a1, by omega, a3, a4, wk_add a5 (wk_1 (by simp [rsA, b2.2, a6, h2]) hx'), h2⟩
    · rintro ⟨y, j, a1, a2, a3, a4, a5, a6⟩
      by_cases e : j ≤ k
      · exact Or.inl ((ih x hx').mpr ⟨y, j, a1, e, a3, a4, a5, a6⟩)
      · obtain ⟨j', rfl⟩ : ∃ j', j = j' + 1 := ⟨j - 1, by omega⟩
        obtain ⟨z, b1, b2, b3⟩ := (wk_snoc a1 hx').mp a5
        have hz := rsA_A b3
        exact Or.inr ⟨anyb_iff.mpr ⟨z, b1, by simp [(ih z b1).mpr ⟨y, j', a1, by omega, a3, a4, b2, hz.2.1⟩, hz.1]⟩, a6⟩
/-- a walk in H and g keeps to H or meets g -/
theorem wk_split : ∀ {k a}, a < 10 → wk (rsA A (adg H g)) k a c = true → wk (rsA A H) k a c = true ∨ ∃ i j, i + j = k ∧ wk (rsA A (adg H g)) i a g = true ∧ wk (rsA A (adg H g)) j g c = true
  | 0, a, _, h => Or.inl h
  | k + 1, a, ha, h => by
    obtain ⟨z, b1, b2, b3⟩ := wk_s.mp h
    by_cases e : a = g
    · subst e
      exact Or.inr ⟨0, k + 1, by omega, wk_0.mpr rfl, h⟩
    · by_cases e2 : z = g
      · subst e2
        exact Or.inr ⟨1, k, by omega, wk_1 b2 b1, b3⟩
      · rcases wk_split b1 b3 with q | ⟨i, j, q1, q2, q3⟩
        · refine Or.inl (wk_s.mpr ⟨z, b1, ?_, q⟩)
          have hz := rsA_A b2
          simp only [adg, e, e2, decide_false, Bool.or_false] at hz
          simp [rsA, hz.1, hz.2.1, hz.2.2]
        · exact Or.inr ⟨i + 1, j, by omega, wk_s.mpr ⟨z, b1, b2, q2⟩, q3⟩
theorem wk_last : ∀ {k y}, y < 10 → adg H g y = true → y ≠ g → wk (rsA A (adg H g)) k y g = true → ∃ x j, x < 10 ∧ H x = true ∧ wk (rsA A H) j y x = true ∧ A x g = true
  | 0, y, _, _, hne, h => absurd (wk_0.mp h) hne
  | k + 1, y, hy, hH, hne, h => by
    obtain ⟨z, b1, b2, b3⟩ := wk_s.mp h
    have hz := rsA_A b2
    have hHy : H y = true := by
      simp only [adg, hne, decide_false, Bool.or_false] at hH
      exact hH
    by_cases e : z = g
    · subst e
      exact ⟨y, 0, hy, hHy, wk_0.mpr rfl, hz.1⟩
    · obtain ⟨x, j, a1, a2, a3, a4⟩ := wk_last b1 hz.2.2 e b3
      refine ⟨x, j + 1, a1, a2, wk_s.mpr ⟨z, b1, ?_, a3⟩, a4⟩
      have hHz : H z = true := by
        have := hz.2.2
        simp only [adg, e, decide_false, Bool.or_false] at this
        exact this
      simp [rsA, hz.1, hHy, hHz]
theorem hrg_iff (hn : n ≤ 10) : hrg A H n = true ↔ ∃ v k, v < n ∧ H v = true ∧ wk (rsA A H) (k + 1) v v = true := by
  unfold hrg
  rw [anyb_iff]
  constructor
  · rintro ⟨v, h1, h2⟩
    simp only [Bool.and_eq_true, decide_eq_true_eq] at h2
    exact ⟨v, _, h1, h2.1, cy_wk h2.2⟩
  · rintro ⟨v, k, h1, h2, h3⟩
    exact ⟨v, h1, by simp [h2, cy_any (show v < 10 by omega) h3]⟩
theorem fit_Qt (hn : n ≤ 10) (hA : ∀ x y, A x y = true → (x < n ∧ y < n) ∧ x ≠ y) (hE : ∀ x y, E x y = E y x) (hH : ∀ y, H y = true → y < n) (hg : g < n) (hgH : H g = false) (hQ : Qt A E n H = true) : fit A E H g = Qt A E n (adg H g) := by
  simp only [Qt, Bool.and_eq_true, Bool.not_eq_true'] at hQ
  obtain ⟨q1, q2⟩ := hQ
  have hadg : ∀ y, adg H g y = true → H y = true ∨ y = g := fun y h => by simpa [adg] using h
  unfold fit Qt
  congr 1
  · congr 1
    rw [Bool.eq_iff_iff, anyb_iff, anyb_iff]
    constructor
    · rintro ⟨y, h1, h2⟩
      simp only [Bool.and_eq_true, Bool.or_eq_true] at h2
      obtain ⟨e1, ⟨e2, e3⟩ | ⟨e2, e3⟩⟩ := h2
      · exact ⟨g, hg, anyb_iff.mpr ⟨y, hH y e3, by simp [adg, e1, e2, e3]⟩⟩
      · exact ⟨y, hH y e3, anyb_iff.mpr ⟨g, hg, by rw [hE y g]; simp [adg, e1, e2, e3]⟩⟩
    · rintro ⟨x, h1, h2⟩
      obtain ⟨y, h3, h4⟩ := anyb_iff.mp h2
      simp only [Bool.and_eq_true] at h4
      obtain ⟨a1, a2, a3, a4⟩ := h4
      have hne := (hA _ _ a4).2
      rcases hadg x a1 with b1 | b1
      · rcases hadg y a2 with b2 | b2
        · have := anyb_not.mp (anyb_not.mp q1 x h1) y h3
          simp [b1, b2, a3, a4] at this
        · subst b2
          exact ⟨x, by omega, by rw [hE y x]; simp [a3, a4, b1]⟩
      · subst b1
        rcases hadg y a2 with b2 | b2
        · exact ⟨y, by omega, by simp [a3, a4, b2]⟩
        · exact absurd b2.symm hne
  · congr 1
    rw [Bool.eq_iff_iff, anyb_iff, hrg_iff hn]
    constructor
    · rintro ⟨k, h1, h2⟩
      obtain ⟨x, h3, h4⟩ := anyb_iff.mp h2
      simp only [Bool.and_eq_true] at h4
      obtain ⟨y, j, b1, b2, b3, b4, b5, b6⟩ := (rcs_iff (A := A) (H := H) (g := g) h3 x h3).mp h4.1
      have hw : wk (rsA A (adg H g)) j y x = true := wk_sub (fun u v huv => by
        have := rsA_A huv
        simp [rsA, adg, this.1, this.2.1, this.2.2]) b5
      have e1 : rsA A (adg H g) g y = true := by simp [rsA, adg, b3, b4]
      have e2 : rsA A (adg H g) x g = true := by simp [rsA, adg, h4.2.1, h4.2.2]
      refine ⟨g, 1 + j, hg, by simp [adg], ?_⟩
      exact wk_add (wk_add (wk_1 e1 b1) hw) (wk_1 e2 (by omega))
    · rintro ⟨v, k, h1, h2, h3⟩
      have hcl : ∃ k, wk (rsA A (adg H g)) (k + 1) g g = true := by
        rcases wk_split (show v < 10 by omega) h3 with q | ⟨i, j, q3, q4, q5⟩
        · exfalso
          obtain ⟨z, b1, b2, b3⟩ := wk_s.mp q
          have : hrg A H n = true := (hrg_iff hn).mpr ⟨v, k, h1, (rsA_A b2).2.1, q⟩
          rw [q2] at this; cases this
        · refine ⟨k, ?_⟩
          have := wk_add q5 q4
          rwa [show j + i = k + 1 by omega] at this
      obtain ⟨k', hk⟩ := hcl
      obtain ⟨y, b1, b2, b3⟩ := wk_s.mp hk
      have hy := rsA_A b2
      have hne : y ≠ g := fun e => (hA _ _ hy.1).2 e.symm
      have hHy : H y = true := by
        rcases hadg y hy.2.2 with q | q
        · exact q
        · exact absurd q hne
      obtain ⟨x, j, a1, a2, a3, a4⟩ := wk_last b1 hy.2.2 hne b3
      obtain ⟨j', c1, c2⟩ := wk_short a1 b1 a3
      refine ⟨j', by omega, anyb_iff.mpr ⟨x, a1, ?_⟩⟩
      have := (rcs_iff (A := A) (H := H) (g := g) a1 (k := j') x a1).mpr ⟨y, j', b1, Nat.le_refl _, hy.1, hHy, c2, a2⟩
      simp [this, a2, a4]
theorem Qt_0 : Qt A E n (fun _ => false) = true := by
  have h1 : anyb n (fun x => anyb n (fun y => false && (false && (E x y && A x y)))) = false := anyb_not.mpr fun x _ => anyb_not.mpr fun y _ => rfl
  have h2 : hrg A (fun _ => false) n = false := anyb_not.mpr fun g _ => rfl
  unfold Qt
  rw [h1, h2]; rfl
theorem Qt_1 (hn : n ≤ 10) (hA : ∀ x y, A x y = true → (x < n ∧ y < n) ∧ x ≠ y) (hE : ∀ x y, E x y = E y x) (hg : g < n) : Qt A E n (adg (fun _ => false) g) = true := by
  rw [← fit_Qt hn hA hE (H := fun _ => false) (fun y h => by cases h) hg rfl Qt_0]
  have h1 : anyb 10 (fun y => E g y && ((A g y && false) || (A y g && false))) = false := anyb_not.mpr fun y _ => by simp
  have h2 : anyb 10 (fun k => anyb 10 (fun y => rcs A (fun _ => false) g k y && (A y g && false))) = false := anyb_not.mpr fun y _ => anyb_not.mpr fun k _ => by simp
  unfold fit
  rw [h1, h2]; rfl
/-! parting -/
def fsO {α : Type} (F : Nat → Option α) : Nat → Option α
  | 0 => none
  | k + 1 => match fsO F k with
    | some r => some r
    | none => F k
def hpu (hp : Nat → Nat → Bool) (h g : Nat) (i : Nat) : Nat → Bool := if i = h then adg (hp h) g else hp i
/-- parts those who come from 10 - d on -/
def prt (Q : (Nat → Bool) → Bool) (cm : Nat → Bool) (most : Nat) : Nat → (Nat → Nat → Bool) → Nat → Option ((Nat → Nat → Bool) × Nat)
  | 0, hp, u => some (hp, u)
  | d + 1, hp, u => if cm (9 - d) = true then fsO (fun h => if Q (adg (hp h) (9 - d)) = true then prt Q cm most d (hpu hp h (9 - d)) (max u (h + 1)) else none) (min (u + 1) most) else prt Q cm most d hp u
theorem fsO_some {α : Type} {F : Nat → Option α} : ∀ {k}, (∃ h, h < k ∧ (F h).isSome = true) → (fsO F k).isSome = true
  | 0, ⟨h, h1, _⟩ => by omega
  | k + 1, ⟨h, h1, h2⟩ => by
    show (match fsO F k with | some r => some r | none => F k).isSome = true
    cases e : fsO F k with
    | some r => rfl
    | none =>
      by_cases q : h = k
      · subst q; exact h2
      · have := fsO_some (k := k) ⟨h, by omega, h2⟩
        rw [e] at this; cases this
theorem prt_10 {Q : (Nat → Bool) → Bool} {cm : Nat → Bool} (hQ : ∀ g, cm g = true → Q (adg (fun _ => false) g) = true) : ∀ d hp u, u + d ≤ 10 → (∀ i, u ≤ i → hp i = fun _ => false) → (prt Q cm 10 d hp u).isSome = true
  | 0, _, _, _, _ => rfl
  | d + 1, hp, u, hu, hz => by
    show (if cm (9 - d) = true then _ else _ : Option _).isSome = true
    by_cases e : cm (9 - d) = true
    · rw [if_pos e]
      refine fsO_some ⟨u, by omega, ?_⟩
      rw [hz u (Nat.le_refl _), if_pos (hQ _ e)]
      refine prt_10 hQ d _ _ (by omega) fun i hi => ?_
      unfold hpu
      rw [if_neg (by omega), hz i (by omega)]
    · rw [if_neg e]
      exact prt_10 hQ d hp u (by omega) hz
end
