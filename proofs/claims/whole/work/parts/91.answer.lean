/-! ===== layer 2: seatings: the class's answers ===== -/
section
variable {T : Tb} {I I' I'' : Nat → Nat → Int32} {J : Nat → Nat → Int64} {b : Bool} {f f0 k n i j x y p q d kk jj nn o : Nat} {m g lim w h mv c c1 c2 a : Int} {st : FdS}
/-- what the class keeps stays as it was but for the caches -/
def seK (T : Tb) (c1 c2 : Int) (b : Bool) (I I' : Nat → Nat → Int32) : Prop := EC T b I' ∧ fcK T c1 c2 I' ∧ Agr (fun o => o < 8 ∨ o = 17 ∨ o = 27 ∨ o = 37 ∨ (46 < o ∧ o < 61) ∨ 70 < o) I I'
set_option maxHeartbeats 8000000 in
theorem seK.of (h1 : EC T b I') (h2 : fcK T c1 c2 I') (h3 : Agr (outF m jj) I I') (hm : 0 ≤ m ∧ m < 4) (hj : jj < 3) : seK T c1 c2 b I I' := ⟨h1, h2, h3.sub fun o h => by have := fo_e m.toNat jj; omega⟩
set_option maxHeartbeats 8000000 in
theorem seK.refl (h1 : EC T b I) (h2 : fcK T c1 c2 I) : seK T c1 c2 b I I := ⟨h1, h2, Agr.refl _ _⟩
abbrev fdL (T : Tb) (m : Int) : FdS := fnd T m (nP T m) 0 0
abbrev fdM (T : Tb) (m : Int) : FdS := fnd T m (nP T m) 1 0
abbrev fdE (T : Tb) (m l : Int) : FdS := fnd T m (nP T m) 2 l
noncomputable def lsR (T : Tb) (m w : Int) : Int := if askS T m ∧ (0 ≤ w ∧ w ≤ 3) then (if w = 0 then (fdL T m).2.1 else if w = 1 then (fdL T m).2.2.2.2.1 else if w = 2 then (fdM T m).2.1 else (fdM T m).2.2.1) else -1
set_option maxHeartbeats 8000000 in
theorem askS_4 (V : TV T) (h : askS T m) : 0 ≤ m ∧ m < 4 := by have := V.1.2.1; omega
set_option maxHeartbeats 8000000 in
theorem cl_lst (E : EC T b I) (V : TV T) (hK : cK c1 c2 b I) (hc : (0 ≤ c1 ∧ c1 < 100000) ∧ 0 ≤ c2 ∧ c2 < 100000) (hR : fcK T c1 c2 I) (hm : rg m) (hw : rg w) : ∃ I' f', Fi_least S0 (some 0) (iI m) (iI w) (I, J, Pst b f) = some (iI (lsR T m w), (I', J, Pst b f')) ∧ seK T c1 c2 b I I' := by
  have e00 : ¬ iI 0 = (1 : Int32) := by decide
  by_cases hA : askS T m
  · have h4 := askS_4 V hA
    have hk0 : m.toNat < 4 ∧ 0 < 3 := ⟨by omega, by omega⟩
    have hk1 : m.toNat < 4 ∧ 1 < 3 := ⟨by omega, by omega⟩
    by_cases z : w = 0 ∨ w = 1
    · obtain ⟨I1, f1, a1, a2, a3, a4, a5⟩ := cl_seatings (J := J) (f := f) (jj := 0) (lim := 0) E V hK hc hR hm (by omega) (by omega) hA
      have a1' : Fi_seatings S0 (some 0) (iI m) (iI 0) (iI 0) (I, J, Pst b f) = some (some (fo m.toNat 0), (I1, J, Pst b f1)) := a1
      have hy := a5.2.1 (fnd_any (Or.inl rfl) hA)
      have hnu := a5.1.2.2
      refine ⟨I1, f1, ?_, seK.of a2 a3 a4 h4 (by omega)⟩
      rcases z with z | z
      · have hR : lsR T m w = (fdL T m).2.1 := by unfold lsR; rw [if_pos ⟨hA, by omega⟩, if_pos z]
        rw [hR, z]
        simp only [Fi_least, Option.bind_some, if_true, if_false, rc0, n_0, a1', reduceCtorEq, gifo hk0]
        rw [hy.1]; rfl
      · have hR : lsR T m w = (fdL T m).2.2.2.2.1 := by unfold lsR; rw [if_pos ⟨hA, by omega⟩, if_neg (by omega), if_pos z]
        rw [hR, z]
        simp (maxSteps := 4000000) (disch := omega) only [Fi_least, Option.bind_some, if_true, if_false, rc0, n_0, n_1, n_2, n_3, n_4, n_5, n_6, n_7, n_8, n_9, n_10, n_12, n_15, n_20, n_24, n_32, n_48, n_57, n_59, n_80, n_97, n_99, n_100, n_122, n_680, n_700, n_999, n_1023, n_1024, iI_neg, iI_add, iI_sub, iI_lt, iI_le, iI_eq, show ¬ (1 : Int) = 0 by omega, a1', reduceCtorEq, gifo hk0]
        rw [hnu]; rfl
    · obtain ⟨I1, f1, a1, a2, a3, a4, a5⟩ := cl_seatings (J := J) (f := f) (jj := 1) (lim := 0) E V hK hc hR hm (by omega) (by omega) hA
      have a1' : Fi_seatings S0 (some 0) (iI m) (iI 1) (iI 0) (I, J, Pst b f) = some (some (fo m.toNat 1), (I1, J, Pst b f1)) := a1
      have hy := a5.2.1 (fnd_any (Or.inr rfl) hA)
      have z1 : ¬ w = 0 := fun q => z (Or.inl q)
      have z2 : ¬ w = 1 := fun q => z (Or.inr q)
      refine ⟨I1, f1, ?_, seK.of a2 a3 a4 h4 (by omega)⟩
      by_cases z3 : w = 2
      · have hR : lsR T m w = (fdM T m).2.1 := by unfold lsR; rw [if_pos ⟨hA, by omega⟩, if_neg z1, if_neg z2, if_pos z3]
        rw [hR, z3]
        simp (maxSteps := 4000000) (disch := omega) only [Fi_least, Option.bind_some, if_true, if_false, rc0, n_0, n_1, n_2, n_3, n_4, n_5, n_6, n_7, n_8, n_9, n_10, n_12, n_15, n_20, n_24, n_32, n_48, n_57, n_59, n_80, n_97, n_99, n_100, n_122, n_680, n_700, n_999, n_1023, n_1024, iI_neg, iI_add, iI_sub, iI_lt, iI_le, iI_eq, show ¬ (2 : Int) = 0 by omega, show ¬ (2 : Int) = 1 by omega, a1', reduceCtorEq, gifo hk1]
        rw [hy.1]; rfl
      · by_cases z4 : w = 3
        · have hR : lsR T m w = (fdM T m).2.2.1 := by unfold lsR; rw [if_pos ⟨hA, by omega⟩, if_neg z1, if_neg z2, if_neg z3]
          rw [hR, z4]
          simp (maxSteps := 4000000) (disch := omega) only [Fi_least, Option.bind_some, if_true, if_false, rc0, n_0, n_1, n_2, n_3, n_4, n_5, n_6, n_7, n_8, n_9, n_10, n_12, n_15, n_20, n_24, n_32, n_48, n_57, n_59, n_80, n_97, n_99, n_100, n_122, n_680, n_700, n_999, n_1023, n_1024, iI_neg, iI_add, iI_sub, iI_lt, iI_le, iI_eq, show ¬ (3 : Int) = 0 by omega, show ¬ (3 : Int) = 1 by omega, show ¬ (3 : Int) = 2 by omega, a1', reduceCtorEq, gifo hk1]
          rw [hy.2.1]; rfl
        · have hR : lsR T m w = -1 := if_neg fun q => by omega
          rw [hR]
          simp (maxSteps := 4000000) (disch := omega) only [Fi_least, Option.bind_some, if_true, if_false, rc0, n_0, n_1, n_2, n_3, n_4, n_5, n_6, n_7, n_8, n_9, n_10, n_12, n_15, n_20, n_24, n_32, n_48, n_57, n_59, n_80, n_97, n_99, n_100, n_122, n_680, n_700, n_999, n_1023, n_1024, iI_neg, iI_add, iI_sub, iI_lt, iI_le, iI_eq, z1, z2, z3, z4, a1', reduceCtorEq]
  · have hR' : lsR T m w = -1 := if_neg fun q => hA q.1
    rw [hR']
    refine ⟨I, f, ?_, seK.refl E hR⟩
    have a0 := fun v u => cl_noSeat (J := J) (f := f) E V hm hA v u
    by_cases z1 : w = 0
    · rw [z1]
      simp only [Fi_least, Option.bind_some, if_true, if_false, rc0, n_0, n_1, iI_neg, a0]
    · by_cases z2 : w = 1
      · rw [z2]
        simp (maxSteps := 4000000) (disch := omega) only [Fi_least, Option.bind_some, if_true, if_false, rc0, n_0, n_1, n_2, n_3, n_4, n_5, n_6, n_7, n_8, n_9, n_10, n_12, n_15, n_20, n_24, n_32, n_48, n_57, n_59, n_80, n_97, n_99, n_100, n_122, n_680, n_700, n_999, n_1023, n_1024, iI_neg, iI_add, iI_sub, iI_lt, iI_le, iI_eq, show ¬ (1 : Int) = 0 by omega, a0]
      · simp (maxSteps := 4000000) (disch := omega) only [Fi_least, Option.bind_some, if_true, if_false, rc0, n_0, n_1, n_2, n_3, n_4, n_5, n_6, n_7, n_8, n_9, n_10, n_12, n_15, n_20, n_24, n_32, n_48, n_57, n_59, n_80, n_97, n_99, n_100, n_122, n_680, n_700, n_999, n_1023, n_1024, iI_neg, iI_add, iI_sub, iI_lt, iI_le, iI_eq, z1, z2, a0]
/-- a guest, who comes: its turn -/
abbrev tnC (T : Tb) (g : Int) : Nat := cnt g.toNat (cmb T)
abbrev isC (T : Tb) (g : Int) : Prop := isG T g ∧ T 12 g.toNat = 1
set_option maxHeartbeats 8000000 in
theorem isC_c (h : isC T g) : cmb T g.toNat = true := by
  have := ng_of h.1
  simp [cmb, com, this, h.2]
set_option maxHeartbeats 8000000 in
theorem isC_10 (V : TV T) (h : isC T g) : g.toNat < 10 := by have := V.2.1.1.1; omega
noncomputable def bsR (T : Tb) (m g : Int) (v : Bool) : Int := if isC T g ∧ askS T m then (if v = true then (fdM T m).2.2.2.2.2.1 (tnC T g) else (fdL T m).2.2.2.2.2.1 (tnC T g)) else -1
set_option maxHeartbeats 8000000 in
theorem fdC_place (h : fdC T f lim st I) (V : TV T) (hC : isC T g) : I (f + 1) g.toNat = iI (st.2.2.2.2.2.1 (tnC T g)) ∧ I (f + 2) g.toNat = iI (bt 8 (st.2.2.2.2.2.2 (tnC T g)) : Int) := by
  have h1 := h.2.2 g.toNat (isC_10 V hC)
  rw [if_pos (isC_c hC), isC_c hC] at h1
  refine ⟨h1.1, h1.2.trans (sI_ext fun p _ => ?_)⟩
  rw [Bool.true_and]
set_option maxHeartbeats 8000000 in
theorem cl_com (E : EC T b I) (V : TV T) (hg : rg g) : Court_isComing S0 (some (ct b)) (iI g) (I, J, Pst b f) = some (bI (decide (isC T g))) := cl_isComing E.2.1.1 E.2.2 V.2.1.1 hg
set_option maxHeartbeats 8000000 in
theorem cl_best {v : Bool} (E : EC T b I) (V : TV T) (hK : cK c1 c2 b I) (hc : (0 ≤ c1 ∧ c1 < 100000) ∧ 0 ≤ c2 ∧ c2 < 100000) (hR : fcK T c1 c2 I) (hm : rg m) (hg : rg g) : ∃ I' f', Fi_best S0 (some 0) (iI m) (iI g) (bI v) (I, J, Pst b f) = some (iI (bsR T m g v), (I', J, Pst b f')) ∧ seK T c1 c2 b I I' := by
  have hcm := cl_com (J := J) (f := f) E V hg
  by_cases hC : isC T g
  · rw [decide_eq_true hC] at hcm
    have hgl := isC_10 V hC
    have hg0 : 0 ≤ g ∧ g < 10 := ⟨hC.1.1, by omega⟩
    by_cases hA : askS T m
    · have h4 := askS_4 V hA
      have hk0 : m.toNat < 4 ∧ 0 < 3 := ⟨by omega, by omega⟩
      have hk1 : m.toNat < 4 ∧ 1 < 3 := ⟨by omega, by omega⟩
      cases v
      · obtain ⟨I1, f1, a1, a2, a3, a4, a5⟩ := cl_seatings (J := J) (f := f) (jj := 0) (lim := 0) E V hK hc hR hm (by omega) (by omega) hA
        have a1' : Fi_seatings S0 (some 0) (iI m) (iI 0) (iI 0) (I, J, Pst b f) = some (some (fo m.toNat 0), (I1, J, Pst b f1)) := a1
        have hR : bsR T m g false = (fdL T m).2.2.2.2.2.1 (tnC T g) := by unfold bsR; rw [if_pos ⟨hC, hA⟩, if_neg (by decide)]
        have hp := (fdC_place a5 V hC).1
        refine ⟨I1, f1, ?_, seK.of a2 a3 a4 h4 (by omega)⟩
        rw [hR]
        simp only [Fi_best, Option.bind_some, if_true, if_false, rc0, gr0_7, hcm, n_0, bI_0, Bool.true_eq_false, a1', reduceCtorEq, grfo_0 hk0, ldfop hk0 hg0]
        rw [hp]; rfl
      · obtain ⟨I1, f1, a1, a2, a3, a4, a5⟩ := cl_seatings (J := J) (f := f) (jj := 1) (lim := 0) E V hK hc hR hm (by omega) (by omega) hA
        have a1' : Fi_seatings S0 (some 0) (iI m) (iI 1) (iI 0) (I, J, Pst b f) = some (some (fo m.toNat 1), (I1, J, Pst b f1)) := a1
        have hR : bsR T m g true = (fdM T m).2.2.2.2.2.1 (tnC T g) := by unfold bsR; rw [if_pos ⟨hC, hA⟩, if_pos rfl]
        have hp := (fdC_place a5 V hC).1
        refine ⟨I1, f1, ?_, seK.of a2 a3 a4 h4 (by omega)⟩
        rw [hR]
        simp only [Fi_best, Option.bind_some, if_true, if_false, rc0, gr0_7, hcm, n_0, n_1, bI_0, Bool.true_eq_false, a1', reduceCtorEq, grfo_0 hk1, ldfop hk1 hg0]
        rw [hp]; rfl
    · have hR' : bsR T m g v = -1 := if_neg fun q => hA q.2
      rw [hR']
      refine ⟨I, f, ?_, seK.refl E hR⟩
      have a0 := fun v u => cl_noSeat (J := J) (f := f) E V hm hA v u
      cases v <;> simp only [Fi_best, Option.bind_some, if_true, if_false, rc0, gr0_7, hcm, n_0, n_1, iI_neg, bI_0, Bool.true_eq_false, a0]
  · rw [decide_eq_false hC] at hcm
    have hR' : bsR T m g v = -1 := if_neg fun q => hC q.1
    rw [hR']
    refine ⟨I, f, ?_, seK.refl E hR⟩
    simp only [Fi_best, Option.bind_some, if_true, if_false, rc0, gr0_7, hcm, n_0, n_1, iI_neg, bI_0]
noncomputable def muR (T : Tb) (m g : Int) : Int := if isC T g ∧ askS T m then (if cnt 8 ((fdL T m).2.2.2.2.2.2 (tnC T g)) = 1 then (fdL T m).2.2.2.2.2.1 (tnC T g) else -1) else -1
set_option maxHeartbeats 8000000 in
theorem cl_must (E : EC T b I) (V : TV T) (hK : cK c1 c2 b I) (hc : (0 ≤ c1 ∧ c1 < 100000) ∧ 0 ≤ c2 ∧ c2 < 100000) (hR : fcK T c1 c2 I) (hm : rg m) (hg : rg g) : ∃ I' f', Fi_must S0 (some 0) (iI m) (iI g) (I, J, Pst b f) = some (iI (muR T m g), (I', J, Pst b f')) ∧ seK T c1 c2 b I I' := by
  have hcm := cl_com (J := J) (f := f) E V hg
  by_cases hC : isC T g
  · rw [decide_eq_true hC] at hcm
    have hgl := isC_10 V hC
    have hg0 : 0 ≤ g ∧ g < 10 := ⟨hC.1.1, by omega⟩
    by_cases hA : askS T m
    · have h4 := askS_4 V hA
      have hk0 : m.toNat < 4 ∧ 0 < 3 := ⟨by omega, by omega⟩
      obtain ⟨I1, f1, a1, a2, a3, a4, a5⟩ := cl_seatings (J := J) (f := f) (jj := 0) (lim := 0) E V hK hc hR hm (by omega) (by omega) hA
      have a1' : Fi_seatings S0 (some 0) (iI m) (iI 0) (iI 0) (I, J, Pst b f) = some (some (fo m.toNat 0), (I1, J, Pst b f1)) := a1
      have hR1 : muR T m g = if cnt 8 ((fdL T m).2.2.2.2.2.2 (tnC T g)) = 1 then (fdL T m).2.2.2.2.2.1 (tnC T g) else -1 := if_pos ⟨hC, hA⟩
      have hp := fdC_place a5 V hC
      have hpc := pcI (n := 8) (by omega) ((fdL T m).2.2.2.2.2.2 (tnC T g))
      have hcl := cnt_le ((fdL T m).2.2.2.2.2.2 (tnC T g)) 8
      have hp2 : I1 (fo m.toNat 0 + 2) g.toNat = iI (bt 8 ((fdL T m).2.2.2.2.2.2 (tnC T g)) : Int) := hp.2
      have hp1 : I1 (fo m.toNat 0 + 1) g.toNat = iI ((fdL T m).2.2.2.2.2.1 (tnC T g)) := hp.1
      refine ⟨I1, f1, ?_, seK.of a2 a3 a4 h4 (by omega)⟩
      rw [hR1]
      by_cases e : cnt 8 ((fdL T m).2.2.2.2.2.2 (tnC T g)) = 1
      · rw [if_pos e]
        rw [e] at hpc
        have hpc' : Jd_bitCount (iI (bt 8 ((fdL T m).2.2.2.2.2.2 (tnC T g)) : Int)) = iI 1 := hpc
        simp only [Fi_must, Option.bind_some, if_true, if_false, rc0, gr0_7, hcm, n_0, n_1, bI_0, Bool.true_eq_false, a1', reduceCtorEq, grfo_0 hk0, grfo_1 hk0, ldfop hk0 hg0, ldfoe hk0 hg0, hp2, hpc', hp1]
      · rw [if_neg e]
        simp (maxSteps := 4000000) (disch := omega) only [Fi_must, Option.bind_some, if_true, if_false, rc0, gr0_7, hcm, n_0, n_1, iI_neg, iI_lt, iI_le, iI_eq, bI_0, Bool.true_eq_false, a1', reduceCtorEq, grfo_0 hk0, grfo_1 hk0, ldfop hk0 hg0, ldfoe hk0 hg0, hp2, hpc, show ¬ (cnt 8 ((fdL T m).2.2.2.2.2.2 (tnC T g)) : Int) = 1 by omega]
    · have hR' : muR T m g = -1 := if_neg fun q => hA q.2
      rw [hR']
      refine ⟨I, f, ?_, seK.refl E hR⟩
      have a0 := fun v u => cl_noSeat (J := J) (f := f) E V hm hA v u
      simp only [Fi_must, Option.bind_some, if_true, if_false, rc0, gr0_7, hcm, n_0, n_1, iI_neg, bI_0, Bool.true_eq_false, a0]
  · rw [decide_eq_false hC] at hcm
    have hR' : muR T m g = -1 := if_neg fun q => hC q.1
    rw [hR']
    refine ⟨I, f, ?_, seK.refl E hR⟩
    simp only [Fi_must, Option.bind_some, if_true, if_false, rc0, gr0_7, hcm, n_0, n_1, iI_neg, bI_0]
/-- who is ever at the place p -/
def frS (T : Tb) (m : Int) (p y : Nat) : Bool := cmb T y && (fdL T m).2.2.2.2.2.2 (cnt y (cmb T)) p
noncomputable def frR (T : Tb) (m p : Int) : Int := if askS T m ∧ (0 ≤ p ∧ p < T 3 m.toNat) then (cnt 10 (frS T m p.toNat) : Int) else -1
set_option maxHeartbeats 8000000 in
theorem cl_free {p : Int} (E : EC T b I) (V : TV T) (hK : cK c1 c2 b I) (hc : (0 ≤ c1 ∧ c1 < 100000) ∧ 0 ≤ c2 ∧ c2 < 100000) (hR : fcK T c1 c2 I) (hm : rg m) (hp : rg p) : ∃ I' f', Fi_free S0 (some 0) (iI m) (iI p) (I, J, Pst b f) = some (iI (frR T m p), (I', J, Pst b f')) ∧ seK T c1 c2 b I I' := by
  obtain ⟨⟨eA, eB⟩, ⟨eC, eD⟩, eE⟩ := id E
  obtain ⟨⟨vA, vB⟩, ⟨vC, vD⟩, vE, vF⟩ := id V
  have hro := cl_roomOrNull (J := J) (b := b) (f := f) eB vB hm
  by_cases z : isM T m
  · rw [if_pos z] at hro
    have hpl := cl_hasPlace (J := J) (P := Pst b f) eB vB (mN z) hp
    by_cases zp : 0 ≤ p ∧ p < T 3 m.toNat
    · rw [decide_eq_true zp] at hpl
      by_cases hA : askS T m
      · have h4 := askS_4 V hA
        have hk0 : m.toNat < 4 ∧ 0 < 3 := ⟨by omega, by omega⟩
        obtain ⟨I1, f1, a1, a2, a3, a4, a5⟩ := cl_seatings (J := J) (f := f) (jj := 0) (lim := 0) E V hK hc hR hm (by omega) (by omega) hA
        have a1' : Fi_seatings S0 (some 0) (iI m) (iI 0) (iI 0) (I, J, Pst b f) = some (some (fo m.toNat 0), (I1, J, Pst b f1)) := a1
        have hR1 : frR T m p = (cnt 10 (frS T m p.toNat) : Int) := if_pos ⟨hA, zp⟩
        have hmany : Found_howManyAt S0 (some (fo m.toNat 0)) (iI p) (I1, J, Pst b f1) = some (iI (cnt 10 (frS T m p.toNat) : Int)) := by
          have e := jcount (body := Found_howManyAt_L4 S0 (some (fo m.toNat 0)) (iI p) (I1, J, Pst b f1)) 10 (frS T m p.toNat) (fun k x hk => ?_) (fun x => ?_) (by omega)
          · unfold Found_howManyAt
            rw [rcfo hk0, Option.bind_some, n_0, e, Option.bind_some]
          · have h1 : I1 (fo m.toNat 0 + 2) k = iI (bt 8 (fun p => cmb T k && (fdL T m).2.2.2.2.2.2 (cnt k (cmb T)) p) : Int) := (a5.2.2 k hk).2
            have hb : bt 8 (fun p => cmb T k && (fdL T m).2.2.2.2.2.2 (cnt k (cmb T)) p) < 2 ^ 8 := bt_lt _ _
            have h2 : Fi_bitAt (iI (bt 8 (fun p => cmb T k && (fdL T m).2.2.2.2.2.2 (cnt k (cmb T)) p) : Int)) (iI p) = bI (frS T m p.toNat k) := by
              rw [bitAtI _ _ (by omega) (by omega), bt_bit, decide_eq_true (show p.toNat < 8 by omega), Bool.true_and]
              rfl
            simp (maxSteps := 4000000) (disch := omega) only [Found_howManyAt_L4, Option.bind_some, if_true, if_false, n_1, n_10, iI_lt, iI_le, iI_eq, show ¬ (10 : Int) ≤ (k : Int) by omega, grfo_1 hk0, ldfoe hk0 (show 0 ≤ (k : Int) ∧ (k : Int) < 10 by omega), Int.toNat_natCast, h1, h2, iI_add]
            cases frS T m p.toNat k
            · rw [show bI false = iI 0 from rfl, iI_add]; rfl
            · rw [show bI true = iI 1 from rfl, iI_add]; rfl
          · simp (maxSteps := 4000000) (disch := omega) only [Found_howManyAt_L4, Option.bind_some, if_true, if_false, n_10, iI_lt, iI_le, iI_eq, show (10 : Int) ≤ ((10 : Nat) : Int) by omega]
        refine ⟨I1, f1, ?_, seK.of a2 a3 a4 h4 (by omega)⟩
        rw [hR1]
        simp only [Fi_free, Option.bind_some, if_true, if_false, rc0, hro, reduceCtorEq, hpl, n_0, bI_0, Bool.true_eq_false, a1', hmany]
      · have hR' : frR T m p = -1 := if_neg fun q => hA q.1
        rw [hR']
        refine ⟨I, f, ?_, seK.refl E hR⟩
        have a0 := fun v u => cl_noSeat (J := J) (f := f) E V hm hA v u
        simp only [Fi_free, Option.bind_some, if_true, if_false, rc0, hro, reduceCtorEq, hpl, n_0, n_1, iI_neg, bI_0, Bool.true_eq_false, a0]
    · rw [decide_eq_false zp] at hpl
      have hR' : frR T m p = -1 := if_neg fun q => zp q.2
      rw [hR']
      refine ⟨I, f, ?_, seK.refl E hR⟩
      simp only [Fi_free, Option.bind_some, if_true, if_false, rc0, hro, reduceCtorEq, hpl, n_0, n_1, iI_neg, bI_0]
  · rw [if_neg z] at hro
    have hR' : frR T m p = -1 := if_neg fun q => z q.1.1
    rw [hR']
    refine ⟨I, f, ?_, seK.refl E hR⟩
    simp only [Fi_free, Option.bind_some, if_true, if_false, rc0, hro, n_1, iI_neg]
noncomputable def mnR (T : Tb) (m l g : Int) : Int := if (g = -1 ∨ isC T g) ∧ askS T m ∧ (fdE T m l).1 = true then (if g = -1 then (fdE T m l).2.2.2.1 else (fdE T m l).2.2.2.2.2.1 (tnC T g)) else -1
set_option maxHeartbeats 8000000 in
theorem cl_mended {l : Int} (E : EC T b I) (V : TV T) (hK : cK c1 c2 b I) (hc : (0 ≤ c1 ∧ c1 < 100000) ∧ 0 ≤ c2 ∧ c2 < 100000) (hR : fcK T c1 c2 I) (hm : rg m) (hl : rg l) (hg : rg g) : ∃ I' f', Fi_mended S0 (some 0) (iI m) (iI l) (iI g) (I, J, Pst b f) = some (iI (mnR T m l g), (I', J, Pst b f')) ∧ seK T c1 c2 b I I' := by
  have hcm := cl_com (J := J) (f := f) E V hg
  by_cases hG : g = -1 ∨ isC T g
  · by_cases hA : askS T m
    · have h4 := askS_4 V hA
      have hk2 : m.toNat < 4 ∧ 2 < 3 := ⟨by omega, by omega⟩
      obtain ⟨I1, f1, a1, a2, a3, a4, a5⟩ := cl_seatings (J := J) (f := f) (jj := 2) (lim := l) E V hK hc hR hm (by omega) hl hA
      have a1' : Fi_seatings S0 (some 0) (iI m) (iI 2) (iI l) (I, J, Pst b f) = some (some (fo m.toNat 2), (I1, J, Pst b f1)) := a1
      have h4c : I1 (fo m.toNat 2) 4 = bI (fdE T m l).1 := a5.1.2.1
      refine ⟨I1, f1, ?_, seK.of a2 a3 a4 h4 (by omega)⟩
      cases e : (fdE T m l).1
      · have hR' : mnR T m l g = -1 := if_neg fun q => by rw [e] at q; cases q.2.2
        rw [hR']
        rw [e] at h4c
        rcases hG with z | z
        · simp only [Fi_mended, Option.bind_some, if_true, if_false, rc0, z, n_0, n_1, n_2, iI_neg, Sum.elim_inl, a1', reduceCtorEq, gifo hk2, h4c, bI_0]
        · rw [decide_eq_true z] at hcm
          simp (maxSteps := 4000000) (disch := omega) only [Fi_mended, Option.bind_some, if_true, if_false, rc0, n_0, n_1, n_2, iI_neg, iI_lt, iI_le, iI_eq, show ¬ g = -1 by omega, gr0_7, hcm, bI_0, Bool.true_eq_false, Sum.elim_inl, a1', reduceCtorEq, gifo hk2, h4c]
      · rw [e] at h4c
        have hy := a5.2.1 e
        have h7c : I1 (fo m.toNat 2) 7 = iI (fdE T m l).2.2.2.1 := hy.2.2
        by_cases z : g = -1
        · have hR1 : mnR T m l g = (fdE T m l).2.2.2.1 := by unfold mnR; rw [if_pos ⟨Or.inl z, hA, e⟩, if_pos z]
          rw [hR1]
          simp only [Fi_mended, Option.bind_some, if_true, if_false, rc0, z, n_0, n_1, n_2, iI_neg, Sum.elim_inl, a1', reduceCtorEq, gifo hk2, h4c, bI_0, Bool.true_eq_false, h7c]
        · have hC : isC T g := hG.resolve_left z
          rw [decide_eq_true hC] at hcm
          have hR1 : mnR T m l g = (fdE T m l).2.2.2.2.2.1 (tnC T g) := by unfold mnR; rw [if_pos ⟨Or.inr hC, hA, e⟩, if_neg z]
          have hp : I1 (fo m.toNat 2 + 1) g.toNat = iI ((fdE T m l).2.2.2.2.2.1 (tnC T g)) := (fdC_place a5 V hC).1
          have hgl := isC_10 V hC
          have hg0 : 0 ≤ g ∧ g < 10 := ⟨hC.1.1, by omega⟩
          rw [hR1]
          simp (maxSteps := 4000000) (disch := omega) only [Fi_mended, Option.bind_some, if_true, if_false, rc0, n_0, n_1, n_2, iI_neg, iI_lt, iI_le, iI_eq, z, gr0_7, hcm, bI_0, Bool.true_eq_false, Sum.elim_inl, a1', reduceCtorEq, gifo hk2, h4c, grfo_0 hk2, ldfop hk2 hg0, hp]
    · have hR' : mnR T m l g = -1 := if_neg fun q => hA q.2.1
      rw [hR']
      refine ⟨I, f, ?_, seK.refl E hR⟩
      have a0 := fun v u => cl_noSeat (J := J) (f := f) E V hm hA v u
      rcases hG with z | z
      · simp only [Fi_mended, Option.bind_some, if_true, if_false, rc0, z, n_1, iI_neg, Sum.elim_inl, a0]
      · rw [decide_eq_true z] at hcm
        simp (maxSteps := 4000000) (disch := omega) only [Fi_mended, Option.bind_some, if_true, if_false, rc0, n_0, n_1, iI_neg, iI_lt, iI_le, iI_eq, show ¬ g = -1 by omega, gr0_7, hcm, bI_0, Bool.true_eq_false, Sum.elim_inl, a0]
  · have z1 : ¬ g = -1 := fun q => hG (Or.inl q)
    have z2 : ¬ isC T g := fun q => hG (Or.inr q)
    rw [decide_eq_false z2] at hcm
    have hR' : mnR T m l g = -1 := if_neg fun q => hG q.1
    rw [hR']
    refine ⟨I, f, ?_, seK.refl E hR⟩
    simp (maxSteps := 4000000) (disch := omega) only [Fi_mended, Option.bind_some, if_true, if_false, rc0, n_0, n_1, iI_neg, iI_lt, iI_le, iI_eq, z1, gr0_7, hcm, bI_0, Sum.elim_inr]
end
