/-! ===== layer 2: the lightest rules to let rest ===== -/
section
variable {T : Tb} {I I' I'' : Nat → Nat → Int32} {J : Nat → Nat → Int64} {b : Bool} {f k n B : Nat} {P : Nat → Nat → Option Nat} {m : Int} {x y z g r h R C q : Nat} {A : Nat → Nat → Bool} {W : Nat → Bool}
/-- the weight of the rules of h -/
def wsm (T : Tb) (h : Nat) : Nat → Int
  | 0 => 0
  | k + 1 => wsm T h k + (if h.testBit k = true then T 8 k else 0)
def wof (T : Tb) (h : Nat) : Int := wsm T h (nr T)
def sbs (h R : Nat) : Prop := ∀ k, h.testBit k = true → R.testBit k = true
theorem wsm_rg (hv : tvD T) : ∀ k : Nat, (k : Int) ≤ T 0 4 → 0 ≤ wsm T h k ∧ wsm T h k ≤ 9 * k
  | 0, _ => by simp [wsm]
  | k + 1, hk => by
    have ih := wsm_rg hv k (by omega)
    have h1 := (hv k (by omega)).2.2.2.1
    show 0 ≤ wsm T h k + (if h.testBit k = true then T 8 k else 0) ∧ wsm T h k + (if h.testBit k = true then T 8 k else 0) ≤ _
    split <;> omega
theorem wof_rg (ht : tvC T) (hv : tvD T) : 0 ≤ wof T h ∧ wof T h ≤ 108 := by
  have h0 := ht.1
  have h1 := nrI ht
  have := wsm_rg (T := T) (h := h) hv (nr T) (by omega)
  unfold wof; omega
theorem wsm_mono (hv : tvD T) (hs : sbs h R) : ∀ k : Nat, (k : Int) ≤ T 0 4 → wsm T h k ≤ wsm T R k
  | 0, _ => Int.le_refl _
  | k + 1, hk => by
    have ih := wsm_mono hv hs k (by omega)
    have h1 := (hv k (by omega)).2.2.2.1
    show wsm T h k + (if h.testBit k = true then T 8 k else 0) ≤ wsm T R k + (if R.testBit k = true then T 8 k else 0)
    by_cases e : h.testBit k = true
    · rw [if_pos e, if_pos (hs k e)]; omega
    · rw [if_neg e]; split <;> omega
theorem wsm_lt {j : Nat} (hv : tvD T) (hs : sbs h R) (h1 : h.testBit j = false) (h2 : R.testBit j = true) : ∀ k : Nat, (k : Int) ≤ T 0 4 → j < k → wsm T h k < wsm T R k
  | 0, _, hj => by omega
  | k + 1, hk, hj => by
    have hw := (hv k (by omega)).2.2.2.1
    show wsm T h k + (if h.testBit k = true then T 8 k else 0) < wsm T R k + (if R.testBit k = true then T 8 k else 0)
    by_cases e : j = k
    · subst e
      have := wsm_mono hv hs j (by omega)
      rw [h1, h2]
      simp only [Bool.false_eq_true, if_false, if_true]
      omega
    · have ih := wsm_lt hv hs h1 h2 k (by omega) (by omega)
      by_cases e2 : h.testBit k = true
      · rw [if_pos e2, if_pos (hs k e2)]; omega
      · rw [if_neg e2]; split <;> omega
theorem tb_lt (h1 : h < 2 ^ n) (h2 : h.testBit k = true) : k < n := by
  rcases Nat.lt_or_ge k n with q | q
  · exact q
  · have h3 : 2 ^ n ≤ 2 ^ k := Nat.pow_le_pow_right (by decide) q
    rw [Nat.testBit_lt_two_pow (Nat.lt_of_lt_of_le h1 h3)] at h2
    cases h2
theorem wof_lt (ht : tvC T) (hv : tvD T) (hs : sbs h R) (hR : R < 2 ^ nr T) (hne : h ≠ R) : wof T h < wof T R := by
  have h1 := nrI ht
  have : ∃ j, h.testBit j = false ∧ R.testBit j = true := by
    apply Classical.byContradiction
    intro hn
    apply hne
    apply Nat.eq_of_testBit_eq
    intro j
    cases e1 : h.testBit j
    · cases e2 : R.testBit j
      · rfl
      · exact absurd ⟨j, e1, e2⟩ hn
    · exact (hs j e1).symm
  obtain ⟨j, a1, a2⟩ := this
  exact wsm_lt hv hs a1 a2 (nr T) (by omega) (tb_lt hR a2)
/-- h is better than q -/
def bet (T : Tb) (h q : Nat) : Prop := wof T h < wof T q ∨ (wof T h = wof T q ∧ cnt 12 h.testBit < cnt 12 q.testBit)
/-- no ring is left without the rules of h -/
def okr (T : Tb) (m : Int) (h : Nat) : Prop := acy (abv T m h) = true
noncomputable def lb (T : Tb) (m : Int) (R : Nat) : Nat → Nat
  | 0 => R
  | h + 1 => @ite _ (sbs h R ∧ bet T h (lb T m R h) ∧ okr T m h) (Classical.propDecidable _) h (lb T m R h)
theorem lb_t (hq : sbs h R ∧ bet T h (lb T m R h) ∧ okr T m h) : lb T m R (h + 1) = h := by
  show @ite _ _ (Classical.propDecidable _) _ _ = _
  rw [if_pos hq]
theorem lb_f (hq : ¬ (sbs h R ∧ bet T h (lb T m R h) ∧ okr T m h)) : lb T m R (h + 1) = lb T m R h := by
  show @ite _ _ (Classical.propDecidable _) _ _ = _
  rw [if_neg hq]
theorem lb_is (hR : okr T m R) : ∀ h, (sbs (lb T m R h) R ∧ okr T m (lb T m R h) ∧ (lb T m R h = R ∨ lb T m R h < h)) ∧ (∀ h', h' < h → sbs h' R → okr T m h' → ¬ bet T h' (lb T m R h) ∧ (bet T (lb T m R h) h' ∨ lb T m R h ≤ h' ∨ lb T m R h = R)) ∧ ¬ bet T R (lb T m R h)
  | 0 => ⟨⟨fun _ h => h, hR, Or.inl rfl⟩, fun h' hh => by omega, by rw [show lb T m R 0 = R from rfl]; unfold bet; omega⟩
  | h + 1 => by
    obtain ⟨⟨i1, i2, i3⟩, i4, i5⟩ := lb_is hR h
    by_cases hc : sbs h R ∧ bet T h (lb T m R h) ∧ okr T m h
    · rw [lb_t hc]
      refine ⟨⟨hc.1, hc.2.2, Or.inr (by omega)⟩, fun h' hh hs ho => ?_, ?_⟩
      · have hb := hc.2.1
        by_cases e : h' = h
        · subst e
          exact ⟨by unfold bet; omega, Or.inr (Or.inl (Nat.le_refl _))⟩
        · have := (i4 h' (by omega) hs ho).1
          unfold bet at *
          omega
      · have hb := hc.2.1
        unfold bet at *
        omega
    · rw [lb_f hc]
      refine ⟨⟨i1, i2, by omega⟩, fun h' hh hs ho => ?_, i5⟩
      by_cases e : h' = h
      · subst e
        refine ⟨fun q => hc ⟨hs, q, ho⟩, ?_⟩
        rcases i3 with q | q
        · exact Or.inr (Or.inr q)
        · exact Or.inr (Or.inl (by omega))
      · exact i4 h' (by omega) hs ho
theorem lb_stop (ht : tvC T) (hv : tvD T) (h0 : wof T (lb T m R h) = 0) (hc : cnt 12 (lb T m R h).testBit = 0) : ∀ d, lb T m R (h + d) = lb T m R h
  | 0 => rfl
  | d + 1 => by
    have ih := lb_stop ht hv h0 hc d
    show lb T m R (h + d + 1) = _
    rw [lb_f, ih]
    rintro ⟨_, q, _⟩
    rw [ih] at q
    have := wof_rg (h := h + d) ht hv
    unfold bet at q
    omega
/-- as the model seeks it -/
noncomputable def mb (T : Tb) (m : Int) (C : Nat) : Nat → Int
  | 0 => -1
  | h + 1 => @ite _ (sbs h C ∧ (mb T m C h = -1 ∨ bet T h (mb T m C h).toNat) ∧ okr T m h) (Classical.propDecidable _) (h : Int) (mb T m C h)
theorem mb_t (hq : sbs h C ∧ (mb T m C h = -1 ∨ bet T h (mb T m C h).toNat) ∧ okr T m h) : mb T m C (h + 1) = (h : Int) := by
  show @ite _ _ (Classical.propDecidable _) _ _ = _
  rw [if_pos hq]
theorem mb_f (hq : ¬ (sbs h C ∧ (mb T m C h = -1 ∨ bet T h (mb T m C h).toNat) ∧ okr T m h)) : mb T m C (h + 1) = mb T m C h := by
  show @ite _ _ (Classical.propDecidable _) _ _ = _
  rw [if_neg hq]
theorem mb_is : ∀ h, (mb T m C h = -1 ∧ ∀ h', h' < h → sbs h' C → ¬ okr T m h') ∨ ∃ q : Nat, mb T m C h = (q : Int) ∧ q < h ∧ sbs q C ∧ okr T m q ∧ ∀ h', h' < h → sbs h' C → okr T m h' → ¬ bet T h' q ∧ (bet T q h' ∨ q ≤ h')
  | 0 => Or.inl ⟨rfl, fun h' hh => by omega⟩
  | h + 1 => by
    by_cases hc : sbs h C ∧ (mb T m C h = -1 ∨ bet T h (mb T m C h).toNat) ∧ okr T m h
    · rw [mb_t hc]
      refine Or.inr ⟨h, rfl, by omega, hc.1, hc.2.2, fun h' hh hs ho => ?_⟩
      by_cases e : h' = h
      · subst e
        exact ⟨by unfold bet; omega, Or.inr (Nat.le_refl _)⟩
      · rcases mb_is h with ⟨h1, h2⟩ | ⟨q, h1, h2, h3, h4, h5⟩
        · exact absurd ho (h2 h' (by omega) hs)
        · have hb : bet T h q := by
            rcases hc.2.1 with z | z
            · rw [h1] at z; omega
            · rwa [h1, Int.toNat_natCast] at z
          have := (h5 h' (by omega) hs ho).1
          unfold bet at *
          omega
    · rw [mb_f hc]
      rcases mb_is h with ⟨h1, h2⟩ | ⟨q, h1, h2, h3, h4, h5⟩
      · refine Or.inl ⟨h1, fun h' hh hs ho => ?_⟩
        by_cases e : h' = h
        · subst e
          exact hc ⟨hs, Or.inl h1, ho⟩
        · exact h2 h' (by omega) hs ho
      · refine Or.inr ⟨q, h1, by omega, h3, h4, fun h' hh hs ho => ?_⟩
        by_cases e : h' = h
        · subst e
          refine ⟨fun z => hc ⟨hs, Or.inr (by rw [h1, Int.toNat_natCast]; exact z), ho⟩, Or.inr (by omega)⟩
        · exact h5 h' (by omega) hs ho
/-- the rules of above that count; those of them that rank one who comes -/
def cnr (T : Tb) (m : Int) (r : Nat) : Bool := decide (T 5 r = 0) && ctn T m r
def hcp (T : Tb) (r : Nat) : Bool := anyb 10 (fun x => cmb T x && anyb 10 (fun y => cpl T r x y && cmb T y))
def rkr (T : Tb) (m : Int) (r : Nat) : Bool := decide (T 5 r = 0) && (ctn T m r && hcp T r)
def RR (T : Tb) (m : Int) : Nat := bt (nr T) (rkr T m)
def CC (T : Tb) (m : Int) : Nat := bt (nr T) (cnr T m)
theorem RR_lt : RR T m < 2 ^ nr T := bt_lt _ _
theorem sbs_RC : sbs (RR T m) (CC T m) := fun k h => by
  unfold RR at h
  unfold CC
  rw [bt_bit] at h ⊢
  simp only [rkr, cnr, Bool.and_eq_true] at h ⊢
  exact ⟨h.1, h.2.1, h.2.2.1⟩
theorem rkr_of (ht : tvC T) (hv : tvD T) (hr : r < nr T) (h5 : T 5 r = 0) (h : ctf T m r x y = true) : rkr T m r = true := by
  have hr' : (r : Int) < T 0 4 := by have := nrI ht; omega
  simp only [ctf, Bool.and_eq_true] at h
  have h1 := hcu_ng ht hv hr' h.2.2.2
  have h2 := ng_le ht
  have hx : cmb T x = true := by simp [cmb, h1.1.1, h.2.1]
  have hy : cmb T y = true := by simp [cmb, h1.1.2, h.2.2.1]
  have hp : cpl T r x y = true := by simp [cpl, h.2.2.2, h5]
  have : hcp T r = true := anyb_iff.mpr ⟨x, by omega, by
    simp only [hx, Bool.true_and]
    exact anyb_iff.mpr ⟨y, by omega, by simp [hp, hy]⟩⟩
  simp [rkr, h5, h.1, this]
/-- rules that rank nobody make no difference -/
theorem abv_and (ht : tvC T) (hv : tvD T) : abv T m (h &&& RR T m) = abv T m h := by
  funext x y
  refine anyb_ext fun r hr => ?_
  unfold srcP
  by_cases h5 : T 5 r = 0
  · cases e : ctf T m r x y
    · simp
    · have := rkr_of ht hv hr h5 e
      rw [Nat.testBit_and]
      have h2 : (RR T m).testBit r = true := by unfold RR; rw [bt_bit]; simp [hr, this]
      simp [h2]
  · simp [h5]
theorem abv_RR (ht : tvC T) (hv : tvD T) : abv T m (RR T m) x y = false := by
  refine anyb_not.mpr fun r hr => ?_
  unfold srcP
  by_cases h5 : T 5 r = 0
  · cases e : ctf T m r x y
    · simp
    · have := rkr_of ht hv hr h5 e
      have h2 : (RR T m).testBit r = true := by unfold RR; rw [bt_bit]; simp [hr, this]
      simp [h2]
  · simp [h5]
theorem ok_RR (ht : tvC T) (hv : tvD T) : okr T m (RR T m) := by
  unfold okr acy
  rw [Bool.not_eq_true']
  refine anyb_not.mpr fun g _ => ?_
  simp only [decide_eq_false_iff_not]
  intro q
  obtain ⟨z, a1, a2, a3⟩ := wk_s.mp (cy_wk q)
  rw [abv_RR ht hv] at a2
  cases a2
/-- both find the same -/
theorem lb_mb (ht : tvC T) (hv : tvD T) : mb T m (CC T m) (2 ^ nr T) = (lb T m (RR T m) (RR T m) : Int) := by
  obtain ⟨⟨i1, i2, i3⟩, i4, i5⟩ := lb_is (ok_RR (m := m) ht hv) (RR T m)
  have hle : lb T m (RR T m) (RR T m) ≤ RR T m := by omega
  have hlt := RR_lt (T := T) (m := m)
  rcases mb_is (T := T) (m := m) (C := CC T m) (2 ^ nr T) with ⟨h1, h2⟩ | ⟨q, h1, h2, h3, h4, h5⟩
  · exact absurd (ok_RR ht hv) (h2 (RR T m) hlt sbs_RC)
  · rw [h1]
    have hqR : sbs q (RR T m) := by
      apply Classical.byContradiction
      intro hn
      have hne : q &&& RR T m ≠ q := fun e => hn fun k hk => by
        rw [← e, Nat.testBit_and] at hk
        simp only [Bool.and_eq_true] at hk
        exact hk.2
      have hsub : sbs (q &&& RR T m) q := fun k hk => by
        rw [Nat.testBit_and] at hk
        simp only [Bool.and_eq_true] at hk
        exact hk.1
      have hw := wof_lt ht hv hsub h2 hne
      have hok : okr T m (q &&& RR T m) := by unfold okr; rw [abv_and ht hv]; exact h4
      have := (h5 (q &&& RR T m) (Nat.lt_of_le_of_lt Nat.and_le_left h2) (fun k hk => h3 k (hsub k hk)) hok).1
      unfold bet at this
      omega
    have hp := h5 _ (by omega) (fun k hk => sbs_RC k (i1 k hk)) i2
    by_cases e : q = RR T m
    · subst e
      by_cases e2 : lb T m (RR T m) (RR T m) = RR T m
      · rw [e2]
      · have hw := wof_lt ht hv i1 hlt e2
        have := hp.1
        unfold bet at this
        omega
    · have hql : q < RR T m := by
        have hle2 : q ≤ RR T m := by
          have : q &&& RR T m = q := Nat.eq_of_testBit_eq fun k => by
            rw [Nat.testBit_and]
            cases e3 : q.testBit k
            · rfl
            · rw [hqR k e3]; rfl
          rw [← this]; exact Nat.and_le_right
        omega
      have hc := i4 q hql hqR h4
      have hcR : ¬ lb T m (RR T m) (RR T m) = RR T m := fun e2 => by
        have hw := wof_lt ht hv hqR hlt e
        rw [e2] at hc
        have := hc.1
        unfold bet at this
        omega
      have g1 := hc.1
      have g2 := hc.2
      have g3 := hp.1
      have g4 := hp.2
      have : q = lb T m (RR T m) (RR T m) := by
        rcases g2 with z | z | z
        · exact absurd z g3
        · rcases g4 with z2 | z2
          · exact absurd z2 g1
          · omega
        · exact absurd z hcR
      rw [← this]
/-- the rules to let rest -/
noncomputable def bsr (T : Tb) (m : Int) : Nat := lb T m (RR T m) (RR T m)
end
