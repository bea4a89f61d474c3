/-! ===== layer 2: the text: what is read on both sides ===== -/
section
variable {T D : Tb} {I I' I'' : Nat → Nat → Int32} {J J' J'' : Nat → Nat → Int64} {b v : Bool} {f k n i j e t s w M : Nat} {m g h a c o lo hi : Int} {P : Nat → Nat → Option Nat}
set_option maxHeartbeats 8000000 in
theorem isW_b (w t : Nat) (h : kd T t = 1) : isW T w t = decide (cd T t = kc w) := by
  unfold isW
  by_cases e : cd T t = kc w
  · rw [decide_eq_true ⟨h, e⟩, decide_eq_true e]
  · rw [decide_eq_false (fun q => e q.2), decide_eq_false e]
set_option maxHeartbeats 8000000 in
theorem mo_named (hA : mA T I) (hk : tkM T t I) (ht : tvA T) : Mo_named S0 (some 132) (I, J, Pst b f) = some (lI (nmd T t)) := by
  have h1 := tN_I ht
  have h2 := tN_le ht
  have hte := tEn_le hk.2
  have hbt := mo_between (J := J) (b := b) (f := f) (l := 97) (u := 122) hA ht hk.2 (by omega)
  have hbt' : Mo_between S0 (some 132) (iI (t : Int)) 97 122 (I, J, Pst b f) = some (bI (decide (t < tN T) && isB T 97 122 t)) := hbt
  unfold Mo_named
  rw [rc132, Option.bind_some, gi132, hk.1.1, Option.bind_some, hbt', Option.bind_some]
  by_cases q : t < tN T ∧ isB T 97 122 t = true
  · have hkd := kd_1 q.1 q.2
    have hr := rnL_le (T := T) (l := 97) (u := 122) hk.2
    have hen := tEn_w hkd
    have h8 := vW_8 (d := ltr T t) (n := rnL T 97 122 t) (fun i hi => ltr_rg hi)
    have hcd := cd_w hkd
    rw [decide_eq_true q.1, q.2, Bool.and_self, if_neg (by decide), gi132, hk.1.2, Option.bind_some, Option.bind_some, iI_sub, hen]
    by_cases q8 : rnL T 97 122 t ≤ 8
    · have hlt : vW (ltr T t) (rnL T 97 122 t) < HUG := h8.mp q8
      rw [if_pos hlt] at hcd
      have hse := jsearch (body := Mo_named_L35 S0 (some 132) (I, J, Pst b f)) 9 (fun w => isW T w t) (fun _ => lI (-1)) (fun w hw => ?_) ?_ (by omega)
      · have hse' : jloop (Mo_named_L35 S0 (some 132) (I, J, Pst b f)) jN 0 = some (if fst_ 9 (fun w => isW T w t) < 9 then .inr (lI (-1)) else .inl ()) := hse
        have hky : (fst_ 9 (fun w => isW T w t) < 9) = (isKy (cd T t) = true) := by
          refine propext ⟨fun z => ?_, fun z => ?_⟩
          · have := fst_is z
            rw [isW_b _ _ hkd] at this
            exact anyb_iff.mpr ⟨_, z, this⟩
          · obtain ⟨w, w1, w2⟩ := anyb_iff.mp z
            exact fst_any.mpr (anyb_iff.mpr ⟨w, w1, by rw [isW_b _ _ hkd]; exact w2⟩)
        rw [if_pos (by rw [n_8, iI_le (by omega)]; omega), hse', Option.bind_some]
        by_cases z : isKy (cd T t) = true
        · have hn : nmd T t = -1 := if_neg fun y => by rw [z] at y; cases y.2.2
          rw [if_pos (hky.mpr z), Sum.elim_inr, hn]
        · have hn : nmd T t = vW (ltr T t) (rnL T 97 122 t) := by
            unfold nmd
            rw [if_pos ⟨hkd, by rw [hcd]; exact hlt, by simpa using z⟩, hcd]
          rw [if_neg (fun y => z (hky.mp y)), Sum.elim_inl, Option.bind_some, hn]
          have hru := jfun (body := Mo_named_L69 S0 (some 132) (I, J, Pst b f)) (fun k => (lI (vW (ltr T t) k), iI ((t + k : Nat) : Int))) (rnL T 97 122 t) (s0 := ((0 : Int64), iI (t : Int))) (r := lI (vW (ltr T t) (rnL T 97 122 t))) rfl (fun k hk' => ?_) ?_ (by omega)
          · rw [hru, Option.bind_some]
          · have hby := hA.2 (t + k) (by omega)
            have hv := ht.2 (t + k) (by omega)
            have hlt' : T 1 (t + k) = ltr T t k + 96 := by unfold ltr; omega
            unfold Mo_named_L69
            rw [gi132, hk.1.2, hen, Option.bind_some, if_neg (by rw [iI_le (by omega)]; omega), gr132_0, Option.bind_some, ld133 (by omega), Int.toNat_natCast, hby, Option.bind_some, lI_of (by omega), n_1, iI_add, show (32 : Int64) = lI 32 from rfl, show (97 : Int64) = lI 97 from rfl, l_1, lI_mul, lI_add, lI_sub, lI_add, hlt']
            show some (Sum.inl (lI (32 * vW (ltr T t) k + (ltr T t k + 96) - 97 + 1), _)) = some (Sum.inl (lI (32 * vW (ltr T t) k + ltr T t k), _))
            rw [show 32 * vW (ltr T t) k + (ltr T t k + 96) - 97 + 1 = 32 * vW (ltr T t) k + ltr T t k by omega]
            rfl
          · unfold Mo_named_L69
            rw [gi132, hk.1.2, hen, Option.bind_some, if_pos (by rw [iI_le (by omega)]; omega)]
      · have hw' := mo_isW (J := J) (b := b) (f := f) hA hk ht hw
        unfold Mo_named_L35
        rw [gr132_18, Option.bind_some, an164, Option.bind_some, if_neg (by rw [iI_le (by omega)]; omega), hw', Option.bind_some]
        cases isW T w t
        · rw [if_pos (by rfl), n_1, iI_add]; rfl
        · rw [if_neg (by decide), l_1, lI_neg]; rfl
      · unfold Mo_named_L35
        rw [gr132_18, Option.bind_some, an164, Option.bind_some, if_pos (by rw [iI_le (by omega)]; omega)]
    · have hn : nmd T t = -1 := if_neg fun y => by
        have h5 := y.2.1
        rw [hcd, if_neg (fun z => q8 (h8.mpr z))] at h5
        omega
      rw [if_neg (by rw [n_8, iI_le (by omega)]; omega), hn, l_1, lI_neg]
  · have hn : nmd T t = -1 := if_neg fun y => q (kd_w y.1)
    have hb : (decide (t < tN T) && isB T 97 122 t) = false := by
      by_cases z : t < tN T
      · cases z2 : isB T 97 122 t
        · rw [Bool.and_false]
        · exact absurd ⟨z, z2⟩ q
      · rw [decide_eq_false z, Bool.false_and]
    rw [hb, if_pos (by rfl), hn, l_1, lI_neg]
/-! going on, or not -/
set_option maxHeartbeats 8000000 in
theorem mo_passF (h4 : I 132 4 = iI (-1)) (hk : tkM T t I) : Mo_passes S0 (some 132) (bI false) (I, J, Pst b f) = some (iI 0, (hup I 132 4 (iI (t : Int)), J, Pst b f)) := by
  unfold Mo_passes
  rw [rc132, Option.bind_some, if_pos (by rfl), gi132, h4, Option.bind_some, if_pos (by rfl), gi132, hk.1.1, Option.bind_some, pi132, Option.bind_some]
  rfl
set_option maxHeartbeats 8000000 in
theorem mo_passT (hA : mA T I) (hk : tkM T t I) (ht : tvA T) : ∃ I', Mo_passes S0 (some 132) (bI true) (I, J, Pst b f) = some (iI 1, (I', J, Pst b f)) ∧ frM zT sA I I' ∧ tkM T (adv T t) I' := by
  obtain ⟨I1, a1, a2, a3⟩ := mo_tok (J := J) (b := b) (f := f) hA ht hk.1.2 (tEn_le hk.2).2
  refine ⟨I1, ?_, a2, a3⟩
  unfold Mo_passes
  rw [rc132, Option.bind_some, if_neg (by decide), a1, Option.bind_some]
  rfl
set_option maxHeartbeats 8000000 in
theorem kd_3 : (kd T t = 3) = (t < tN T ∧ T 1 t = 59) := by
  refine propext ⟨fun h => ?_, fun h => ?_⟩
  · unfold kd at h
    by_cases q : tN T ≤ t
    · rw [if_pos q] at h; omega
    · rw [if_neg q] at h
      refine ⟨by omega, ?_⟩
      (repeat' split at h) <;> omega
  · unfold kd
    rw [if_neg (by omega), if_neg (by unfold isB; rw [decide_eq_false (by omega)]; decide), if_neg (by unfold isB; rw [decide_eq_false (by omega)]; decide), if_pos h.2]
set_option maxHeartbeats 8000000 in
theorem clos_j (hA : mA T I) (hk : tkM T t I) (ht : tvA T) : ((if iI (T 0 0) ≤ iI (t : Int) then (some 0) else ((some (some 133) : Option (Option Nat)).bind fun x5 => (gI S0 12 2 (I, J, Pst b f) (some 132)).bind fun x6 => (aB S0 (I, J, Pst b f) x5 x6).bind fun x7 => if x7 = 59 then (some 1) else (some 0))) : Option Int32) = some (bI (decide (kd T t = 3))) := by
  have h1 := tN_I ht
  have h2 := tN_le ht
  have hle := hk.2
  by_cases q : t < tN T
  · have hby := hA.2 t (by omega)
    have hv := ht.2 t (by omega)
    rw [if_neg (by rw [iI_le (by omega)]; omega), Option.bind_some, gi132, hk.1.1, Option.bind_some, ld133 (by omega), Int.toNat_natCast, hby, Option.bind_some]
    by_cases z : T 1 t = 59
    · rw [if_pos (by rw [z]; rfl), decide_eq_true (kd_3.mpr ⟨q, z⟩)]; rfl
    · rw [if_neg (by rw [n_59, iI_eq (by omega)]; exact z), decide_eq_false (fun y => z (kd_3.mp y).2)]; rfl
  · rw [if_pos (by rw [iI_le (by omega)]; omega), decide_eq_false (fun y => q (kd_3.mp y).1)]; rfl
set_option maxHeartbeats 8000000 in
theorem w01 {α : Type} (x : α) : some ((iI 0, x).1 &&& (1 : Int32), (iI 0, x).2) = some (iI 0, x) := by
  show some (iI 0 &&& (1 : Int32), x) = _
  rw [show iI 0 &&& (1 : Int32) = iI 0 by decide]
set_option maxHeartbeats 8000000 in
theorem w11 {α : Type} (x : α) : some ((iI 1, x).1 &&& (1 : Int32), (iI 1, x).2) = some (iI 1, x) := by
  show some (iI 1 &&& (1 : Int32), x) = _
  rw [show iI 1 &&& (1 : Int32) = iI 1 by decide]
set_option maxHeartbeats 8000000 in
theorem mo_closesF (hA : mA T I) (h4 : I 132 4 = iI (-1)) (hk : tkM T t I) (ht : tvA T) (h : kd T t ≠ 3) : Mo_closes S0 (some 132) (I, J, Pst b f) = some (iI 0, (hup I 132 4 (iI (t : Int)), J, Pst b f)) := by
  have hj := clos_j (J := J) (b := b) (f := f) hA hk ht
  rw [gi132, hk.1.1] at hj
  unfold Mo_closes
  rw [rc132, Option.bind_some, gi132, hk.1.1, Option.bind_some, gi132, hA.1, Option.bind_some, gr132_0, hj, Option.bind_some, decide_eq_false h, mo_passF h4 hk, Option.bind_some]
  exact w01 _
set_option maxHeartbeats 8000000 in
theorem mo_closesT (hA : mA T I) (hk : tkM T t I) (ht : tvA T) (h : kd T t = 3) : ∃ I', Mo_closes S0 (some 132) (I, J, Pst b f) = some (iI 1, (I', J, Pst b f)) ∧ frM zT sA I I' ∧ tkM T (adv T t) I' := by
  have hj := clos_j (J := J) (b := b) (f := f) hA hk ht
  rw [gi132, hk.1.1] at hj
  obtain ⟨I1, a1, a2, a3⟩ := mo_passT (J := J) (b := b) (f := f) hA hk ht
  refine ⟨I1, ?_, a2, a3⟩
  unfold Mo_closes
  rw [rc132, Option.bind_some, gi132, hk.1.1, Option.bind_some, gi132, hA.1, Option.bind_some, gr132_0, hj, Option.bind_some, decide_eq_true h, a1, Option.bind_some]
  exact w11 _
/-! numbers -/
def vN (T : Tb) (t : Nat) : Nat → Int
  | 0 => 0
  | k + 1 => if vN T t k ≤ 99 then 10 * vN T t k + T 1 (t + k) - 48 else 999
set_option maxHeartbeats 8000000 in
theorem dgt (h : k < rnL T 48 57 t) : 48 ≤ T 1 (t + k) ∧ T 1 (t + k) ≤ 57 := by
  have := rnL_in h
  simpa [isB] using this
set_option maxHeartbeats 8000000 in
theorem vN_c (n : Nat) (hn : n ≤ rnL T 48 57 t) : (0 ≤ vN T t n ∧ vN T t n ≤ 999) ∧ ((cdF T 48 10 t n ≤ 999 ∧ vN T t n = cdF T 48 10 t n) ∨ (999 < cdF T 48 10 t n ∧ vN T t n = 999)) := by
  induction n with
  | zero => simp [vN, cdF]
  | succ n ih =>
    have ih := ih (by omega)
    have h1 := dgt (T := T) (t := t) (k := n) (by omega)
    have h2 := cdF_rg (T := T) (t := t) (z := 48) (base := 10) (n := rnL T 48 57 t) (fun k hk => by have := dgt hk; omega) (by omega) n (by omega)
    have hs : cdF T 48 10 t (n + 1) = if cdF T 48 10 t n * 10 + T 1 (t + n) - 48 < HUG then cdF T 48 10 t n * 10 + T 1 (t + n) - 48 else HUG := rfl
    have hs2 : vN T t (n + 1) = if vN T t n ≤ 99 then 10 * vN T t n + T 1 (t + n) - 48 else 999 := rfl
    rw [hs, hs2]
    generalize cdF T 48 10 t n = c at *
    generalize vN T t n = x at *
    generalize T 1 (t + n) = y at *
    unfold HUG at *
    (repeat' split) <;> omega
set_option maxHeartbeats 8000000 in
theorem kd_2 (h1 : t < tN T) (h2 : isB T 48 57 t = true) : kd T t = 2 := by
  have h3 : isB T 97 122 t = false := by
    simp only [isB, decide_eq_true_eq] at h2
    unfold isB
    exact decide_eq_false (by omega)
  unfold kd
  rw [if_neg (by omega), h3, if_neg (by decide), if_pos h2]
set_option maxHeartbeats 8000000 in
theorem kd_n (h : kd T t = 2) : t < tN T ∧ isB T 48 57 t = true := by
  unfold kd at h
  by_cases q : tN T ≤ t
  · rw [if_pos q] at h; omega
  · rw [if_neg q] at h
    refine ⟨by omega, ?_⟩
    by_cases q2 : isB T 97 122 t = true
    · rw [if_pos q2] at h; omega
    · rw [if_neg q2] at h
      by_cases q3 : isB T 48 57 t = true
      · exact q3
      · rw [if_neg q3] at h
        split at h <;> omega
set_option maxHeartbeats 8000000 in
theorem mo_number (hA : mA T I) (hk : tkM T t I) (ht : tvA T) (hl : 0 ≤ lo ∧ lo ≤ hi ∧ hi ≤ 9) : ∃ v0 : Int, Mo_number S0 (some 132) (iI lo) (iI hi) (I, J, Pst b f) = ((Mo_passes S0 (some 132) (bI (isN T lo hi t)) (hup I 132 5 (iI v0), J, Pst b f)).bind fun w9 => some (w9.1 &&& 1, w9.2)) ∧ (isN T lo hi t = true → v0 = cd T t) := by
  have h1 := tN_I ht
  have h2 := tN_le ht
  have hle := hk.2
  have hbt := mo_between (J := J) (b := b) (f := f) (l := 48) (u := 57) hA ht hk.2 (by omega)
  have hbt' : Mo_between S0 (some 132) (iI (t : Int)) 48 57 (I, J, Pst b f) = some (bI (decide (t < tN T) && isB T 48 57 t)) := hbt
  by_cases q : t < tN T ∧ isB T 48 57 t = true
  · rw [decide_eq_true q.1, q.2, Bool.and_self] at hbt'
    have hkd := kd_2 q.1 q.2
    have hr := rnL_le (T := T) (l := 48) (u := 57) hk.2
    have hnw : isB T 97 122 t = false := by
      have h3 := q.2
      simp only [isB, decide_eq_true_eq] at h3
      unfold isB
      exact decide_eq_false (by omega)
    have hen : tEn T t = t + rnL T 48 57 t := by unfold tEn; rw [if_neg (by omega), hnw, if_neg (by decide), if_pos q.2]
    have hcd : cd T t = cdF T 48 10 t (rnL T 48 57 t) := by unfold cd; rw [if_neg (by omega), hnw, if_neg (by decide), if_pos q.2]
    have hvc := vN_c (T := T) (t := t) (rnL T 48 57 t) (Nat.le_refl _)
    have hru := jfun (body := Mo_number_L22 S0 (some 132) (I, J, Pst b f) (bI true)) (fun k => (iI (vN T t k), iI ((t + k : Nat) : Int))) (rnL T 48 57 t) (s0 := ((0 : Int32), iI (t : Int))) (r := iI (vN T t (rnL T 48 57 t))) rfl (fun k hk' => ?_) ?_ (by omega)
    · refine ⟨vN T t (rnL T 48 57 t), ?_, fun y => ?_⟩
      · have hj : ((if bI true = (0 : Int32) then (some 0) else (if (Mo_in ((iI (vN T t (rnL T 48 57 t)) : Int32).toInt64) ((iI lo : Int32).toInt64) ((iI hi : Int32).toInt64)) = 0 then (some 0) else (some 1))) : Option Int32) = some (bI (isN T lo hi t)) := by
          rw [if_neg (by decide), lI_of (by omega), lI_of (by omega), lI_of (by omega), Mo_inI (by omega)]
          have hd : decide (lo ≤ vN T t (rnL T 48 57 t) ∧ vN T t (rnL T 48 57 t) ≤ hi) = isN T lo hi t := by
            unfold isN
            exact decide_eq_decide.mpr ⟨fun z => ⟨hkd, by omega, by omega⟩, fun z => by omega⟩
          rw [hd]
          cases isN T lo hi t
          · rw [if_pos (by rfl)]; rfl
          · rw [if_neg (by decide)]; rfl
        unfold Mo_number
        rw [rc132, Option.bind_some, gi132, hk.1.1, Option.bind_some, hbt', Option.bind_some, Option.bind_some, hru, Option.bind_some, pi132, Option.bind_some, hj, Option.bind_some]
      · simp only [isN, decide_eq_true_eq] at y
        omega
    · have hby := hA.2 (t + k) (by omega)
      have hd := dgt hk'
      have hvk := (vN_c (T := T) (t := t) k (by omega)).1
      have hs2 : vN T t (k + 1) = if vN T t k ≤ 99 then 10 * vN T t k + T 1 (t + k) - 48 else 999 := rfl
      unfold Mo_number_L22
      rw [if_neg (by decide), gi132, hk.1.2, hen, Option.bind_some, if_neg (by rw [iI_le (by omega)]; omega), hs2]
      by_cases z : vN T t k ≤ 99
      · rw [if_pos (by rw [n_99, iI_le (by omega)]; exact z), gr132_0, Option.bind_some, ld133 (by omega), Int.toNat_natCast, hby, Option.bind_some, if_pos z, n_10, n_48, n_1, iI_mul, iI_add, iI_sub, iI_add]
        rfl
      · rw [if_neg (by rw [n_99, iI_le (by omega)]; exact z), if_neg z, n_1, iI_add]
        rfl
    · unfold Mo_number_L22
      rw [if_neg (by decide), gi132, hk.1.2, hen, Option.bind_some, if_pos (by rw [iI_le (by omega)]; omega)]
  · have hb : (decide (t < tN T) && isB T 48 57 t) = false := by
      by_cases z : t < tN T
      · cases z2 : isB T 48 57 t
        · rw [Bool.and_false]
        · exact absurd ⟨z, z2⟩ q
      · rw [decide_eq_false z, Bool.false_and]
    have hn : isN T lo hi t = false := by
      unfold isN
      exact decide_eq_false fun y => q (kd_n y.1)
    rw [hb] at hbt'
    have hlo : jloop (Mo_number_L22 S0 (some 132) (I, J, Pst b f) (bI false)) jN (0, iI (t : Int)) = some 0 := by
      refine jfun (body := Mo_number_L22 S0 (some 132) (I, J, Pst b f) (bI false)) (fun _ => ((0 : Int32), iI (t : Int))) 0 rfl (fun k hk => by omega) ?_ (by omega)
      unfold Mo_number_L22
      rw [if_pos (by rfl)]
    refine ⟨0, ?_, fun y => by rw [hn] at y; cases y⟩
    unfold Mo_number
    rw [rc132, Option.bind_some, gi132, hk.1.1, Option.bind_some, hbt', Option.bind_some, Option.bind_some, hlo, Option.bind_some, pi132, Option.bind_some, if_pos (show bI false = 0 by rfl), Option.bind_some, hn]
    rfl
end
