/-! ===== layer 2: groups, stages, the fewest rounds ===== -/
section
variable {A E : Nat → Nat → Bool} {W C cm lead S S' : Nat → Bool} {κ ld : Nat → Nat} {n m k x y z g doors N t s nb : Nat} {ed : Nat → Nat → Bool}
/-- a loop whose measure goes down -/
theorem jvar_aux {σ ρ : Type} {body : σ → Option (σ ⊕ ρ)} (Inv : Nat → σ → Prop) (Post : ρ → Prop) (hs : ∀ n s, 0 < n → Inv n s → wp (body s) (fun x => Sum.elim (fun s' => ∃ n', n' < n ∧ Inv n' s') Post x)) (he : ∀ s, Inv 0 s → wp (body s) (fun x => Sum.elim (fun _ => False) Post x)) : ∀ (f n : Nat) (s : σ), n < f → Inv n s → wp (jloop body f s) Post := by
  intro f
  induction f with
  | zero => intro n s h; omega
  | succ f ih =>
    intro n s h hi
    rcases Nat.eq_zero_or_pos n with e | e
    · subst e
      obtain ⟨x, hx, hq⟩ := he s hi
      cases x with
      | inl s' => exact hq.elim
      | inr r => simp only [jloop, hx]; exact ⟨r, rfl, hq⟩
    · obtain ⟨x, hx, hq⟩ := hs n s e hi
      cases x with
      | inl s' =>
        obtain ⟨n', h1, h2⟩ := hq
        simp only [jloop, hx]
        exact ih n' s' (by omega) h2
      | inr r => simp only [jloop, hx]; exact ⟨r, rfl, hq⟩
theorem jvar {σ ρ : Type} {body : σ → Option (σ ⊕ ρ)} (Inv : Nat → σ → Prop) (Post : ρ → Prop) (N : Nat) {s0 : σ} (h0 : Inv N s0) (hs : ∀ n s, 0 < n → Inv n s → wp (body s) (fun x => Sum.elim (fun s' => ∃ n', n' < n ∧ Inv n' s') Post x)) (he : ∀ s, Inv 0 s → wp (body s) (fun x => Sum.elim (fun _ => False) Post x)) (hN : N < 5000) : wp (jloop body jN s0) Post :=
  jvar_aux Inv Post hs he jN N s0 (by unfold jN; omega) h0
/-- of the parts of O below a, the next one is the greatest -/
theorem sub_next : ∀ (f a O s : Nat), a < f → 0 < a → sbs a O → sbs s O → s < a → s ≤ (a - 1) &&& O
  | 0, a, O, s, h, _, _, _, _ => by omega
  | f + 1, a, O, s, h, h0, h1, h2, h3 => by
    have d1 : sbs (a / 2) (O / 2) := fun k hk => by
      rw [Nat.testBit_div_two] at hk ⊢
      exact h1 _ hk
    have d2 : sbs (s / 2) (O / 2) := fun k hk => by
      rw [Nat.testBit_div_two] at hk ⊢
      exact h2 _ hk
    have m2 : s % 2 ≤ O % 2 := by
      have := h2 0
      rw [Nat.testBit_zero, Nat.testBit_zero] at this
      simp only [decide_eq_true_eq] at this
      omega
    by_cases e : a % 2 = 1
    · have he : (a - 1) &&& O = a - 1 := Nat.eq_of_testBit_eq fun k => by
        rw [Nat.testBit_and]
        cases q : (a - 1).testBit k
        · rfl
        · rw [Bool.true_and]
          refine h1 k ?_
          cases k with
          | zero =>
            rw [Nat.testBit_zero] at q ⊢
            simp only [decide_eq_true_eq] at q ⊢
            omega
          | succ k =>
            rw [← Nat.testBit_div_two] at q ⊢
            rwa [show (a - 1) / 2 = a / 2 by omega] at q
      rw [he]; omega
    · have ih := sub_next f (a / 2) (O / 2) (s / 2) (by omega) (by omega) d1 d2 (by omega)
      have he : ((a - 1) &&& O) / 2 = (a / 2 - 1) &&& (O / 2) := Nat.eq_of_testBit_eq fun k => by
        rw [Nat.testBit_div_two, Nat.testBit_and, Nat.testBit_and, ← Nat.testBit_div_two, ← Nat.testBit_div_two, show (a - 1) / 2 = a / 2 - 1 by omega]
      have hm : ((a - 1) &&& O) % 2 = O % 2 := by
        have h4 : ((a - 1) &&& O).testBit 0 = O.testBit 0 := by
          rw [Nat.testBit_and]
          have : (a - 1).testBit 0 = true := by
            rw [Nat.testBit_zero]
            simp only [decide_eq_true_eq]
            omega
          rw [this, Bool.true_and]
        rw [Nat.testBit_zero, Nat.testBit_zero] at h4
        have : (((a - 1) &&& O) % 2 = 1) ↔ (O % 2 = 1) := by simpa using h4
        omega
      omega
theorem sbs_and (a O : Nat) : sbs (a &&& O) O := fun k hk => by
  rw [Nat.testBit_and] at hk
  simp only [Bool.and_eq_true] at hk
  exact hk.2
theorem sbs_le (h : sbs s t) : s ≤ t := by
  have : s &&& t = s := Nat.eq_of_testBit_eq fun k => by
    rw [Nat.testBit_and]
    cases e : s.testBit k
    · rfl
    · rw [h k e]; rfl
  rw [← this]; exact Nat.and_le_right
/-! paths among numbers that grow -/
def pth (ed : Nat → Nat → Bool) : Nat → Nat → Prop
  | 0, t => t = 0
  | k + 1, t => ∃ s, s < t ∧ pth ed k s ∧ ed s t = true
/-- the table, when the first N have been gone on from -/
def Dt (ed : Nat → Nat → Bool) : Nat → Nat → Int
  | 0, t => if t = 0 then 0 else -1
  | N + 1, t => if Dt ed N N ≠ -1 ∧ N < t ∧ ed N t = true ∧ (Dt ed N t = -1 ∨ Dt ed N N + 1 < Dt ed N t) then Dt ed N N + 1 else Dt ed N t
theorem Dt_s (ed : Nat → Nat → Bool) (N t : Nat) : Dt ed (N + 1) t = if Dt ed N N ≠ -1 ∧ N < t ∧ ed N t = true ∧ (Dt ed N t = -1 ∨ Dt ed N N + 1 < Dt ed N t) then Dt ed N N + 1 else Dt ed N t := rfl
theorem Dt_is : ∀ N t, (t ≠ 0 ∧ Dt ed N t = -1 ∧ ∀ s k, s < N → s < t → pth ed k s → ed s t = false) ∨ ∃ k : Nat, Dt ed N t = (k : Int) ∧ ((t = 0 ∧ k = 0) ∨ (t ≠ 0 ∧ ∃ s j, s < N ∧ s < t ∧ k = j + 1 ∧ pth ed j s ∧ ed s t = true)) ∧ ∀ s j, s < N → s < t → pth ed j s → ed s t = true → k ≤ j + 1
  | 0, t => by
    by_cases e : t = 0
    · exact Or.inr ⟨0, by simp [Dt, e], Or.inl ⟨e, rfl⟩, fun s j h => by omega⟩
    · exact Or.inl ⟨e, by simp [Dt, e], fun s k h => by omega⟩
  | N + 1, t => by
    have hN := Dt_is N N
    have ht := Dt_is N t
    rw [Dt_s]
    have pN : (Dt ed N N = -1 ∧ ∀ k, ¬ pth ed k N) ∨ ∃ k : Nat, Dt ed N N = (k : Int) ∧ pth ed k N ∧ ∀ j, pth ed j N → k ≤ j := by
      rcases hN with ⟨h1, h2, h3⟩ | ⟨k, h1, h2, h3⟩
      · refine Or.inl ⟨h2, fun k hk => ?_⟩
        cases k with
        | zero => exact h1 hk
        | succ k =>
          obtain ⟨s, a1, a2, a3⟩ := hk
          rw [h3 s k a1 a1 a2] at a3; cases a3
      · refine Or.inr ⟨k, h1, ?_, fun j hj => ?_⟩
        · rcases h2 with ⟨e1, e2⟩ | ⟨e0, s, j, a1, a2, a3, a4, a5⟩
          · rw [e2]; exact e1
          · rw [a3]; exact ⟨s, a2, a4, a5⟩
        · cases j with
          | zero =>
            have e : N = 0 := hj
            rcases h2 with ⟨e1, e2⟩ | ⟨e0, _⟩
            · omega
            · exact absurd e e0
          | succ j =>
            obtain ⟨s, a1, a2, a3⟩ := hj
            exact h3 s j a1 a1 a2 a3
    by_cases hc : Dt ed N N ≠ -1 ∧ N < t ∧ ed N t = true ∧ (Dt ed N t = -1 ∨ Dt ed N N + 1 < Dt ed N t)
    · rw [if_pos hc]
      rcases pN with ⟨h1, _⟩ | ⟨k, h1, h2, h3⟩
      · exact absurd h1 hc.1
      · refine Or.inr ⟨k + 1, by rw [h1]; omega, Or.inr ⟨by omega, N, k, by omega, hc.2.1, rfl, h2, hc.2.2.1⟩, fun s j a1 a2 a3 a4 => ?_⟩
        by_cases e : s = N
        · subst e
          have := h3 j a3
          omega
        · rcases ht with ⟨b1, b2, b3⟩ | ⟨k', b1, b2, b3⟩
          · rw [b3 s j (by omega) a2 a3] at a4; cases a4
          · have := b3 s j (by omega) a2 a3 a4
            have hcc := hc.2.2.2
            rw [b1, h1] at hcc
            omega
    · rw [if_neg hc]
      rcases ht with ⟨b1, b2, b3⟩ | ⟨k', b1, b2, b3⟩
      · refine Or.inl ⟨b1, b2, fun s k a1 a2 a3 => ?_⟩
        by_cases e : s = N
        · subst e
          cases q : ed s t
          · rfl
          · rcases pN with ⟨h1, h2⟩ | ⟨k, h1, h2, h3⟩
            · exact absurd a3 (h2 _)
            · exact absurd ⟨by rw [h1]; omega, a2, q, Or.inl b2⟩ hc
        · exact b3 s k (by omega) a2 a3
      · refine Or.inr ⟨k', b1, ?_, fun s j a1 a2 a3 a4 => ?_⟩
        · rcases b2 with q | ⟨q0, s, j, a1, a2, a3, a4, a5⟩
          · exact Or.inl q
          · exact Or.inr ⟨q0, s, j, by omega, a2, a3, a4, a5⟩
        · by_cases e : s = N
          · subst e
            rcases pN with ⟨h1, h2⟩ | ⟨k, h1, h2, h3⟩
            · exact absurd a3 (h2 _)
            · have := h3 j a3
              have h4 : ¬ Dt ed s s + 1 < Dt ed s t := fun q => hc ⟨by rw [h1]; omega, a2, a4, Or.inr q⟩
              rw [h1, b1] at h4
              omega
          · exact b3 s j (by omega) a2 a3 a4
/-- the table has the fewest steps -/
theorem Dt_end (h : t ≤ N) : (Dt ed N t = -1 ∧ ∀ k, ¬ pth ed k t) ∨ ∃ k : Nat, Dt ed N t = (k : Int) ∧ pth ed k t ∧ ∀ j, pth ed j t → k ≤ j := by
  rcases Dt_is (ed := ed) N t with ⟨h1, h2, h3⟩ | ⟨k, h1, h2, h3⟩
  · refine Or.inl ⟨h2, fun k hk => ?_⟩
    cases k with
    | zero => exact h1 hk
    | succ k =>
      obtain ⟨s, a1, a2, a3⟩ := hk
      rw [h3 s k (by omega) a1 a2] at a3; cases a3
  · refine Or.inr ⟨k, h1, ?_, fun j hj => ?_⟩
    · rcases h2 with ⟨e1, e2⟩ | ⟨e0, s, j, a1, a2, a3, a4, a5⟩
      · rw [e2]; exact e1
      · rw [a3]; exact ⟨s, a2, a4, a5⟩
    · cases j with
      | zero =>
        have e : t = 0 := hj
        rcases h2 with ⟨e1, e2⟩ | ⟨e0, _⟩
        · omega
        · exact absurd e e0
      | succ j =>
        obtain ⟨s, a1, a2, a3⟩ := hj
        exact h3 s j (by omega) a1 a2 a3
theorem Dt_rg (N t : Nat) : -1 ≤ Dt ed N t ∧ Dt ed N t ≤ N := by
  induction N generalizing t with
  | zero => unfold Dt; split <;> omega
  | succ N ih =>
    rw [Dt_s]
    have h1 := ih N
    have h2 := ih t
    split <;> omega
/-! stages -/
/-- a set of those who come that holds whole groups -/
def cls (cm : Nat → Bool) (ld : Nat → Nat) (S : Nat → Bool) : Prop := (∀ y, y < 10 → S y = true → cm y = true) ∧ ∀ y z, y < 10 → z < 10 → ld y = ld z → cm z = true → S y = true → S z = true
def stg (A : Nat → Nat → Bool) (doors : Nat) (S S' : Nat → Bool) : Prop := (∀ y, y < 10 → S y = true → S' y = true) ∧ (∃ y, y < 10 ∧ S' y = true ∧ S y = false) ∧ cnt 10 (fun y => S' y && !S y) ≤ doors ∧ ∀ y, y < 10 → S' y = true → S y = false → ∀ x, x < 10 → A x y = true → S x = true
def stP (A : Nat → Nat → Bool) (cm : Nat → Bool) (ld : Nat → Nat) (doors : Nat) : Nat → (Nat → Bool) → Prop
  | 0, S => ∀ y, y < 10 → S y = false
  | k + 1, S' => cls cm ld S' ∧ ∃ S, stP A cm ld doors k S ∧ stg A doors S S'
theorem stP_ext (h : ∀ y, y < 10 → S y = S' y) : ∀ k, stP A cm ld doors k S → stP A cm ld doors k S'
  | 0, h1 => fun y hy => by rw [← h y hy]; exact h1 y hy
  | k + 1, ⟨⟨c1, c2⟩, S0, h2, g1, ⟨w, w1, w2, w3⟩, g3, g4⟩ => by
    refine ⟨⟨fun y hy hs => c1 y hy (by rw [h y hy]; exact hs), fun y z hy hz e hc hs => ?_⟩, S0, h2, fun y hy hs => ?_, ⟨w, w1, by rw [← h w w1]; exact w2, w3⟩, ?_, fun y hy hs => g4 y hy (by rw [h y hy]; exact hs)⟩
    · rw [← h z hz]; exact c2 y z hy hz e hc (by rw [h y hy]; exact hs)
    · rw [← h y hy]; exact g1 y hy hs
    · rw [cnt_ext (q := fun y => S y && !S0 y) fun y hy => by rw [h y hy]]; exact g3
theorem stP_cls : ∀ k, stP A cm ld doors k S → cls cm ld S
  | 0, h => ⟨fun y hy hs => (by rw [h y hy] at hs; cases hs), fun y z hy hz _ _ hs => (by rw [h y hy] at hs; cases hs)⟩
  | k + 1, h => h.1
/-- the set of a number -/
def uS (cm : Nat → Bool) (ld κ : Nat → Nat) (t y : Nat) : Bool := cm y && t.testBit (κ (ld y))
/-- ld tells the least of the group; κ numbers those -/
def ldO (cm : Nat → Bool) (ld κ : Nat → Nat) (nb : Nat) : Prop := (∀ y, y < 10 → cm y = true → ld y < 10 ∧ cm (ld y) = true ∧ ld (ld y) = ld y) ∧ (∀ y z, y < 10 → z < 10 → cm y = true → cm z = true → κ (ld y) = κ (ld z) → ld y = ld z) ∧ ∀ y, y < 10 → cm y = true → κ (ld y) < nb
def inF (cm : Nat → Bool) (ld κ : Nat → Nat) (t : Nat) : Prop := ∀ i, t.testBit i = true → ∃ y, y < 10 ∧ cm y = true ∧ κ (ld y) = i
theorem pth_up {k t : Nat} (h : pth ed k t) (hed : ∀ s t, ed s t = true → inF cm ld κ t) : inF cm ld κ t := by
  cases k with
  | zero =>
    have e : t = 0 := h
    subst e
    intro i hi
    rw [Nat.zero_testBit] at hi; cases hi
  | succ k =>
    obtain ⟨s, _, _, h3⟩ := h
    exact hed s t h3
theorem uS_cls (h : ldO cm ld κ nb) : cls cm ld (uS cm ld κ t) := ⟨fun y _ hs => by simp only [uS, Bool.and_eq_true] at hs; exact hs.1, fun y z hy hz e hc hs => by
  simp only [uS, Bool.and_eq_true] at hs ⊢
  exact ⟨hc, by rw [← e]; exact hs.2⟩⟩
theorem pth_stP (h : ldO cm ld κ nb) (hed : ∀ s t, ed s t = true ↔ ((sbs s t ∧ s ≠ t) ∧ inF cm ld κ t ∧ stg A doors (uS cm ld κ s) (uS cm ld κ t))) : ∀ k t, inF cm ld κ t → (pth ed k t ↔ stP A cm ld doors k (uS cm ld κ t))
  | 0, t, hF => by
    constructor
    · intro e
      have e' : t = 0 := e
      subst e'
      intro y _
      simp [uS]
    · intro hz
      show t = 0
      apply Nat.eq_of_testBit_eq
      intro i
      rw [Nat.zero_testBit]
      cases e : t.testBit i
      · rfl
      · obtain ⟨y, h1, h2, h3⟩ := hF i e
        have := hz y h1
        simp [uS, h2, h3, e] at this
  | k + 1, t, hF => by
    constructor
    · rintro ⟨s, h1, h2, h3⟩
      obtain ⟨h4, h5, h6⟩ := (hed s t).mp h3
      refine ⟨uS_cls h, uS cm ld κ s, (pth_stP h hed k s ?_).mp h2, h6⟩
      exact pth_up h2 fun s t q => ((hed s t).mp q).2.1
    · rintro ⟨_, S, h1, h2⟩
      have hcl := stP_cls k h1
      have hbit : ∀ i, (bt nb (fun i => anyb 10 (fun l => (cm l && S l) && decide (κ (ld l) = i)))).testBit i = true ↔ ∃ l, l < 10 ∧ cm l = true ∧ S l = true ∧ κ (ld l) = i := fun i => by
        rw [bt_bit]
        simp only [Bool.and_eq_true, decide_eq_true_eq]
        rw [anyb_iff]
        constructor
        · rintro ⟨_, l, b1, b2⟩
          simp only [Bool.and_eq_true, decide_eq_true_eq] at b2
          exact ⟨l, b1, b2.1.1, b2.1.2, b2.2⟩
        · rintro ⟨l, b1, b2, b3, b4⟩
          exact ⟨by rw [← b4]; exact h.2.2 l b1 b2, l, b1, by simp [b2, b3, b4]⟩
      have hS : ∀ y, y < 10 → uS cm ld κ (bt nb (fun i => anyb 10 (fun l => (cm l && S l) && decide (κ (ld l) = i)))) y = S y := fun y hy => by
        rw [Bool.eq_iff_iff]
        unfold uS
        simp only [Bool.and_eq_true]
        rw [hbit]
        constructor
        · rintro ⟨c1, l, b1, b2, b3, b4⟩
          exact hcl.2 l y b1 hy (h.2.1 l y b1 hy b2 c1 b4) c1 b3
        · intro hs
          have hc := hcl.1 y hy hs
          exact ⟨hc, y, hy, hc, hs, rfl⟩
      generalize bt nb (fun i => anyb 10 (fun l => (cm l && S l) && decide (κ (ld l) = i))) = s at hbit hS
      have hFs : inF cm ld κ s := fun i hi => by
        obtain ⟨l, b1, b2, b3, b4⟩ := (hbit i).mp hi
        exact ⟨l, b1, b2, b4⟩
      have hp : pth ed k s := (pth_stP h hed k s hFs).mpr (stP_ext (fun y hy => (hS y hy).symm) k h1)
      have hsg : stg A doors (uS cm ld κ s) (uS cm ld κ t) := by
        obtain ⟨g1, ⟨w, w1, w2, w3⟩, g3, g4⟩ := h2
        refine ⟨fun y hy hs => g1 y hy (by rw [← hS y hy]; exact hs), ⟨w, w1, w2, by rw [hS w w1]; exact w3⟩, ?_, fun y hy hs hn x hx hA => ?_⟩
        · rw [cnt_ext (q := fun y => uS cm ld κ t y && !S y) fun y hy => by rw [hS y hy]]; exact g3
        · rw [hS x hx]; exact g4 y hy hs (by rw [← hS y hy]; exact hn) x hx hA
      have hsb : sbs s t := fun i hi => by
        obtain ⟨l, b1, b2, b3, b4⟩ := (hbit i).mp hi
        have := h2.1 l b1 b3
        simp only [uS, Bool.and_eq_true] at this
        rw [← b4]; exact this.2
      have hne : s ≠ t := fun e => by
        obtain ⟨_, ⟨w, w1, w2, w3⟩, _⟩ := hsg
        rw [e, w2] at w3; cases w3
      have hlt : s < t := by have := sbs_le hsb; omega
      exact ⟨s, hlt, hp, (hed s t).mpr ⟨⟨hsb, hne⟩, hF, hsg⟩⟩
/-- the fewest rounds -/
noncomputable def rdV (A : Nat → Nat → Bool) (cm : Nat → Bool) (ld : Nat → Nat) (doors : Nat) : Int := @dite _ (∃ k : Nat, stP A cm ld doors k cm ∧ ∀ j, stP A cm ld doors j cm → k ≤ j) (Classical.propDecidable _) (fun h => (h.choose : Int)) (fun _ => -1)
theorem rdV_is {v : Int} (h : (v = -1 ∧ ∀ k, ¬ stP A cm ld doors k cm) ∨ ∃ k : Nat, v = (k : Int) ∧ stP A cm ld doors k cm ∧ ∀ j, stP A cm ld doors j cm → k ≤ j) : v = rdV A cm ld doors := by
  unfold rdV
  rcases h with ⟨h1, h2⟩ | ⟨k, h1, h2, h3⟩
  · rw [dif_neg (fun q => h2 _ q.choose_spec.1)]
    exact h1
  · have hex : ∃ k : Nat, stP A cm ld doors k cm ∧ ∀ j, stP A cm ld doors j cm → k ≤ j := ⟨k, h2, h3⟩
    rw [dif_pos hex]
    have h4 := hex.choose_spec
    have h5 := h4.2 k h2
    have h6 := h3 _ h4.1
    omega
theorem Dt_rdV (h : ldO cm ld κ nb) (hed : ∀ s t, ed s t = true ↔ ((sbs s t ∧ s ≠ t) ∧ inF cm ld κ t ∧ stg A doors (uS cm ld κ s) (uS cm ld κ t))) (ht : t ≤ N) (hF : inF cm ld κ t) (hfull : ∀ y, y < 10 → uS cm ld κ t y = cm y) : Dt ed N t = rdV A cm ld doors := by
  refine rdV_is ?_
  have hk : ∀ k, pth ed k t ↔ stP A cm ld doors k cm := fun k => (pth_stP h hed k t hF).trans ⟨stP_ext hfull k, stP_ext (fun y hy => (hfull y hy).symm) k⟩
  rcases Dt_end (ed := ed) ht with ⟨h1, h2⟩ | ⟨k, h1, h2, h3⟩
  · exact Or.inl ⟨h1, fun k q => h2 k ((hk k).mpr q)⟩
  · exact Or.inr ⟨k, h1, (hk k).mp h2, fun j hj => h3 j ((hk j).mpr hj)⟩
end
