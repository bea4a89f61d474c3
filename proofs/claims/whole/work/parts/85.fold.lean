/-! ===== layer 2: seatings: all of them gone through, pure ===== -/
section
variable {T : Tb} {k n i j x y p q d : Nat} {m g lim w h mv iw ih iw' ih' mv' : Int} {tk : Nat → Bool} {pl : Nat → Nat} {hom : Nat → Int} {sty : Nat → Bool}
/-- what was found: any, weight, heaviest, moved, number, the places and the places ever, by turns -/
abbrev FdS : Type := Bool × Int × Int × Int × Int × (Nat → Int) × (Nat → Nat → Bool)
variable {st : FdS}
/-- may it be wanted -/
def wrt (g lim iw ih mv : Int) (st : FdS) : Bool := if g = 2 then decide (iw ≤ lim) && (!st.1 || decide (mv < st.2.2.2.1)) else (!st.1 || (if g = 0 then decide (iw ≤ st.2.1) else (decide (ih < st.2.2.1) || (decide (ih = st.2.2.1) && decide (iw < st.2.1)))))
theorem wrt_mono (h : wrt g lim iw ih mv st = false) (h1 : iw ≤ iw') (h2 : g = 0 ∨ g = 2 ∨ ih ≤ ih') (h3 : mv ≤ mv') : wrt g lim iw' ih' mv' st = false := by
  unfold wrt at *
  by_cases e : g = 2
  · rw [if_pos e] at h ⊢
    cases es : st.1
    · rw [es] at h
      simp only [Bool.not_false, Bool.true_or, Bool.and_true, decide_eq_false_iff_not] at h ⊢
      omega
    · rw [es] at h
      simp only [Bool.not_true, Bool.false_or, Bool.and_eq_false_iff, decide_eq_false_iff_not] at h ⊢
      omega
  · rw [if_neg e] at h ⊢
    cases es : st.1
    · rw [es] at h; simp at h
    · rw [es] at h
      by_cases e0 : g = 0
      · rw [if_pos e0] at h ⊢
        simp only [Bool.not_true, Bool.false_or, decide_eq_false_iff_not] at h ⊢
        omega
      · rw [if_neg e0] at h ⊢
        simp only [Bool.not_true, Bool.false_or, Bool.or_eq_false_iff, Bool.and_eq_false_iff, decide_eq_false_iff_not] at h ⊢
        omega
/-- one seating told -/
def lfn (g lim w h mv : Int) (pl : Nat → Nat) (st : FdS) : FdS :=
  if wrt g lim w h mv st = true then
    (if st.1 = false ∨ g ≠ 0 ∨ w < st.2.1 then (true, w, h, mv, 1, fun i => (pl i : Int), fun i p => decide (p = pl i))
     else (st.1, st.2.1, st.2.2.1, st.2.2.2.1, st.2.2.2.2.1 + 1, st.2.2.2.2.2.1, fun i p => st.2.2.2.2.2.2 i p || decide (p = pl i)))
  else st
def fl {σ : Type} (F : Nat → σ → σ) : Nat → σ → σ
  | 0, s => s
  | p + 1, s => F p (fl F p s)
theorem fl_id {σ : Type} {F : Nat → σ → σ} {s : σ} : ∀ {n : Nat}, (∀ p, p < n → F p s = s) → fl F n s = s
  | 0, _ => rfl
  | n + 1, h => by
    show F n (fl F n s) = s
    rw [fl_id (n := n) fun p hp => h p (by omega)]
    exact h n (by omega)
theorem fl_ext {σ : Type} {F G : Nat → σ → σ} {s : σ} : ∀ {n : Nat}, (∀ p s, p < n → F p s = G p s) → fl F n s = fl G n s
  | 0, _ => rfl
  | n + 1, h => by
    show F n (fl F n s) = G n (fl G n s)
    rw [fl_ext (n := n) fun p s hp => h p s (by omega)]
    exact h n _ (by omega)
/-- what the place p costs the turn i -/
def wAt (T : Tb) (m : Int) (pl : Nat → Nat) (i p : Nat) : Nat → Int
  | 0 => 0
  | k + 1 => wAt T m pl i p k + wW T m k i (wyT T m (pl k) p)
def hAt (T : Tb) (m : Int) (pl : Nat → Nat) (i p : Nat) : Nat → Int
  | 0 => 0
  | k + 1 => if hAt T m pl i p k < wH T m k i (wyT T m (pl k) p) then wH T m k i (wyT T m (pl k) p) else hAt T m pl i p k
def plu (pl : Nat → Nat) (i p j : Nat) : Nat := if j = i then p else pl j
def tku (tk : Nat → Bool) (p q : Nat) : Bool := tk q || decide (q = p)
def mvA (hom : Nat → Int) (i p : Nat) : Int := if hom i = -1 ∨ hom i = (p : Int) then 0 else 1
def nwH (g h a : Int) : Int := if g = 1 then (if h < a then a else h) else 0
def okS (sty : Nat → Bool) (hom : Nat → Int) (i p : Nat) : Bool := !sty i || decide (hom i = (p : Int))
/-- all seatings from the turn nK - d on -/
def sFd (T : Tb) (m : Int) (n : Nat) (g lim : Int) (hom : Nat → Int) (sty : Nat → Bool) : Nat → (Nat → Bool) → (Nat → Nat) → Int → Int → Int → FdS → FdS
  | 0, _, pl, w, h, mv, st => lfn g lim w h mv pl st
  | d + 1, tk, pl, w, h, mv, st => fl (fun p st => if tk p = false ∧ okS sty hom (nK T - (d + 1)) p = true then sFd T m n g lim hom sty d (tku tk p) (plu pl (nK T - (d + 1)) p) (w + wAt T m pl (nK T - (d + 1)) p (nK T - (d + 1))) (nwH g h (hAt T m pl (nK T - (d + 1)) p (nK T - (d + 1)))) (mv + mvA hom (nK T - (d + 1)) p) st else st) n st
theorem wAt_ge (ht : tvC T) (hv : tvD T) (hp : p < n) : ∀ k, (∀ j, j < k → pl j < n ∧ pl j ≠ p) → sLw T m n i k ≤ wAt T m pl i p k
  | 0, _ => Int.le_refl _
  | k + 1, hpl => by
    have ih := wAt_ge ht hv hp k fun j hj => hpl j (by omega)
    have h1 := hpl k (by omega)
    have h2 := lso_c (S := wth T m n) (v := wW T m k i) (w := wyT T m (pl k) p) (wW_rg ht hv k i) wyT_lt (anyb_iff.mpr ⟨pl k, h1.1, anyb_iff.mpr ⟨p, hp, by simp [h1.2]⟩⟩)
    show sLw T m n i k + lW T m n k i ≤ wAt T m pl i p k + wW T m k i (wyT T m (pl k) p)
    unfold lW
    omega
theorem hAt_ge (ht : tvC T) (hv : tvD T) (hp : p < n) {s : Int} : ∀ k, (∀ j, j < k → pl j < n ∧ pl j ≠ p) → hL T m n i s k ≤ (if hAt T m pl i p k < s then s else hAt T m pl i p k)
  | 0, _ => by
    show s ≤ if (0 : Int) < s then s else 0
    split <;> omega
  | k + 1, hpl => by
    have ih := hAt_ge ht hv hp (s := s) k fun j hj => hpl j (by omega)
    have h1 := hpl k (by omega)
    have h2 := lso_c (S := wth T m n) (v := wH T m k i) (w := wyT T m (pl k) p) (fun w => by have := wH_rg (m := m) ht hv k i w; omega) wyT_lt (anyb_iff.mpr ⟨pl k, h1.1, anyb_iff.mpr ⟨p, hp, by simp [h1.2]⟩⟩)
    have h3 : lH T m n k i ≤ wH T m k i (wyT T m (pl k) p) := h2.2
    show (if hL T m n i s k < lH T m n k i then lH T m n k i else hL T m n i s k) ≤ (if (if hAt T m pl i p k < wH T m k i (wyT T m (pl k) p) then wH T m k i (wyT T m (pl k) p) else hAt T m pl i p k) < s then s else (if hAt T m pl i p k < wH T m k i (wyT T m (pl k) p) then wH T m k i (wyT T m (pl k) p) else hAt T m pl i p k))
    generalize hAt T m pl i p k = A at *
    generalize wH T m k i (wyT T m (pl k) p) = B at *
    generalize hL T m n i s k = C at *
    generalize lH T m n k i = D at *
    by_cases e1 : A < s <;> by_cases e2 : A < B <;> by_cases e3 : C < D <;> simp only [e1, e2, e3, if_true, if_false] at ih ⊢ <;> (try split) <;> omega
/-- those ahead of the turn i sit, one at a place -/
def stT (n i : Nat) (tk : Nat → Bool) (pl : Nat → Nat) : Prop := ∀ j, j < i → tk (pl j) = true ∧ pl j < n
theorem stT_s (h : stT n i tk pl) (hp : p < n) : stT n (i + 1) (tku tk p) (plu pl i p) := fun j hj => by
  unfold plu tku
  by_cases e : j = i
  · simp [e, hp]
  · have := h j (by omega)
    simp [e, this.1, this.2]
theorem wrt_no (hw : wrt g lim w h mv st = false) : lfn g lim w h mv pl st = st := by
  unfold lfn
  rw [hw]
  rfl
/-- where it isn't worth it nothing comes of it -/
theorem sFd_no (ht : tvC T) (hv : tvD T) (hg : g = 0 ∨ g = 1 ∨ g = 2) : ∀ (d : Nat) (tk : Nat → Bool) (pl : Nat → Nat) (w h mv : Int), d ≤ nK T → 0 ≤ h → stT n (nK T - d) tk pl → wrt g lim (w + tcw T m n d) (if h < tch T m n d then tch T m n d else h) mv st = false → sFd T m n g lim hom sty d tk pl w h mv st = st
  | 0, tk, pl, w, h, mv, _, hh, _, hw => wrt_no (wrt_mono hw (by show w + 0 ≤ w; omega) (by
      rcases hg with q | q | q
      · exact Or.inl q
      · right; right
        show (if h < (0 : Int) then (0 : Int) else h) ≤ h
        split <;> omega
      · exact Or.inr (Or.inl q)) (Int.le_refl _))
  | d + 1, tk, pl, w, h, mv, hd, hh, hs, hw => by
    refine fl_id fun p hp => ?_
    by_cases e : tk p = false ∧ okS sty hom (nK T - (d + 1)) p = true
    · rw [if_pos e]
      have hpl : ∀ j, j < nK T - (d + 1) → pl j < n ∧ pl j ≠ p := fun j hj => by
        have := hs j hj
        refine ⟨this.2, fun q => ?_⟩
        rw [q, e.1] at this
        cases this.1
      have hs' := stT_s (p := p) hs hp
      rw [show nK T - (d + 1) + 1 = nK T - d by omega] at hs'
      refine sFd_no ht hv hg d _ _ _ _ _ (by omega) (by unfold nwH; (repeat' split) <;> omega) hs' (wrt_mono hw ?_ ?_ ?_)
      · have := wAt_ge (m := m) (i := nK T - (d + 1)) ht hv hp (nK T - (d + 1)) hpl
        show w + (tcw T m n d + sLw T m n (nK T - (d + 1)) (nK T - (d + 1))) ≤ _
        omega
      · rcases hg with q | q | q
        · exact Or.inl q
        · right; right
          have h1 := hAt_ge (m := m) (i := nK T - (d + 1)) (s := tch T m n d) ht hv hp (nK T - (d + 1)) hpl
          have h2 : tch T m n (d + 1) = hL T m n (nK T - (d + 1)) (tch T m n d) (nK T - (d + 1)) := rfl
          rw [h2]
          unfold nwH
          rw [if_pos q]
          generalize hAt T m pl (nK T - (d + 1)) p (nK T - (d + 1)) = B at *
          generalize hL T m n (nK T - (d + 1)) (tch T m n d) (nK T - (d + 1)) = C at *
          generalize tch T m n d = D at *
          by_cases e1 : h < C <;> by_cases e2 : B < D <;> by_cases e3 : h < B <;> simp only [e1, e2, e3, if_true, if_false] at h1 ⊢ <;> (try split) <;> omega
        · exact Or.inr (Or.inl q)
      · unfold mvA; split <;> omega
    · rw [if_neg e]
/-- where the place of one who stays is taken nothing comes of it -/
theorem sFd_kept : ∀ (d : Nat) (tk : Nat → Bool) (pl : Nat → Nat) (w h mv : Int), d ≤ nK T → (∃ j, nK T - d ≤ j ∧ j < nK T ∧ sty j = true ∧ ∃ q : Nat, hom j = (q : Int) ∧ tk q = true) → sFd T m n g lim hom sty d tk pl w h mv st = st
  | 0, tk, pl, w, h, mv, _, ⟨j, h1, h2, _⟩ => by omega
  | d + 1, tk, pl, w, h, mv, hd, ⟨j, h1, h2, h3, q, h4, h5⟩ => by
    refine fl_id fun p hp => ?_
    by_cases e : tk p = false ∧ okS sty hom (nK T - (d + 1)) p = true
    · by_cases ej : j = nK T - (d + 1)
      · have := e.2
        rw [← ej] at this
        simp only [okS, h3, Bool.not_true, Bool.false_or, decide_eq_true_eq] at this
        have : q = p := by omega
        rw [this, e.1] at h5
        cases h5
      · rw [if_pos e]
        exact sFd_kept d _ _ _ _ _ (by omega) ⟨j, by omega, h2, h3, q, h4, by simp [tku, h5]⟩
    · rw [if_neg e]
end
