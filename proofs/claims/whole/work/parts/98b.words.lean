/-! ===== layer 2: the text: words and numbers ===== -/
section
variable {T : Tb} {I I' I'' : Nat → Nat → Int32} {J J' J'' : Nat → Nat → Int64} {b v : Bool} {f k n i j e t s w : Nat} {m g h a c o lo hi : Int} {P : Nat → Nat → Option Nat} {d d' : Nat → Int}
/-- the value of a row of letters -/
def vW (d : Nat → Int) : Nat → Int
  | 0 => 0
  | k + 1 => 32 * vW d k + d k
set_option maxHeartbeats 8000000 in
theorem vW_ge (hd : ∀ i, i < n → 1 ≤ d i ∧ d i ≤ 26) : ∀ k, k ≤ n → 0 ≤ vW d k ∧ (0 < k → 1 ≤ vW d k)
  | 0, _ => by simp [vW]
  | k + 1, hk => by
    have h1 := vW_ge hd k (by omega)
    have h2 := hd k (by omega)
    show 0 ≤ 32 * vW d k + d k ∧ (0 < k + 1 → 1 ≤ 32 * vW d k + d k)
    omega
set_option maxHeartbeats 8000000 in
theorem vW_inj : ∀ (n m : Nat), (∀ i, i < n → 1 ≤ d i ∧ d i ≤ 26) → (∀ i, i < m → 1 ≤ d' i ∧ d' i ≤ 26) → vW d n = vW d' m → n = m ∧ ∀ i, i < n → d i = d' i
  | 0, 0, _, _, _ => ⟨rfl, fun i hi => by omega⟩
  | 0, m + 1, _, h2, e => by
    have := (vW_ge h2 (m + 1) (Nat.le_refl _)).2 (by omega)
    rw [← e] at this
    simp [vW] at this
  | n + 1, 0, h1, _, e => by
    have := (vW_ge h1 (n + 1) (Nat.le_refl _)).2 (by omega)
    rw [e] at this
    simp [vW] at this
  | n + 1, m + 1, h1, h2, e => by
    have e' : 32 * vW d n + d n = 32 * vW d' m + d' m := e
    have a1 := h1 n (by omega)
    have a2 := h2 m (by omega)
    have e1 : vW d n = vW d' m := by omega
    have e2 : d n = d' m := by omega
    obtain ⟨k1, k2⟩ := vW_inj n m (fun i hi => h1 i (by omega)) (fun i hi => h2 i (by omega)) e1
    refine ⟨by omega, fun i hi => ?_⟩
    by_cases q : i = n
    · rw [q, e2, k1]
    · exact k2 i (by omega)
set_option maxHeartbeats 8000000 in
theorem vW_ext : ∀ {n : Nat}, (∀ i, i < n → d i = d' i) → vW d n = vW d' n
  | 0, _ => rfl
  | n + 1, h => by
    show 32 * vW d n + d n = 32 * vW d' n + d' n
    rw [vW_ext fun i hi => h i (by omega), h n (by omega)]
set_option maxHeartbeats 8000000 in
theorem vW_mono (hd : ∀ i, i < n → 1 ≤ d i ∧ d i ≤ 26) : ∀ j k, k + j ≤ n → vW d k ≤ vW d (k + j)
  | 0, k, _ => Int.le_refl _
  | j + 1, k, h => by
    have h1 := vW_mono hd j k (by omega)
    have h2 := (vW_ge hd (k + j) (by omega)).1
    have h3 := hd (k + j) (by omega)
    show vW d k ≤ 32 * vW d (k + j) + d (k + j)
    omega
set_option maxHeartbeats 8000000 in
theorem vW_8 (hd : ∀ i, i < n → 1 ≤ d i ∧ d i ≤ 26) : (n ≤ 8) = (vW d n < HUG) := by
  refine propext ⟨fun h => ?_, fun h => ?_⟩
  · have hs : ∀ k, k ≤ n → vW d k + 1 ≤ (32 : Int) ^ k := fun k hk => by
      induction k with
      | zero => simp [vW]
      | succ k ih =>
        have h1 := ih (by omega)
        have h2 := hd k (by omega)
        rw [Int.pow_succ]
        show 32 * vW d k + d k + 1 ≤ _
        omega
    have h1 := hs n (Nat.le_refl _)
    have h2 : ∀ k : Nat, k ≤ 8 → (32 : Int) ^ k ≤ 1099511627776 := by decide
    have := h2 n h
    unfold HUG
    omega
  · apply Classical.byContradiction
    intro q
    have hm := vW_mono hd (n - 9) 9 (by omega)
    rw [show 9 + (n - 9) = n by omega] at hm
    have s0 : vW d 0 = 0 := rfl
    have s1 : vW d 1 = 32 * vW d 0 + d 0 := rfl
    have s2 : vW d 2 = 32 * vW d 1 + d 1 := rfl
    have s3 : vW d 3 = 32 * vW d 2 + d 2 := rfl
    have s4 : vW d 4 = 32 * vW d 3 + d 3 := rfl
    have s5 : vW d 5 = 32 * vW d 4 + d 4 := rfl
    have s6 : vW d 6 = 32 * vW d 5 + d 5 := rfl
    have s7 : vW d 7 = 32 * vW d 6 + d 6 := rfl
    have s8 : vW d 8 = 32 * vW d 7 + d 7 := rfl
    have s9 : vW d 9 = 32 * vW d 8 + d 8 := rfl
    have d0 := hd 0 (by omega)
    have d1 := hd 1 (by omega)
    have d2 := hd 2 (by omega)
    have d3 := hd 3 (by omega)
    have d4 := hd 4 (by omega)
    have d5 := hd 5 (by omega)
    have d6 := hd 6 (by omega)
    have d7 := hd 7 (by omega)
    have d8 := hd 8 (by omega)
    unfold HUG at h
    omega
/-- the letters of a token -/
def ltr (T : Tb) (t i : Nat) : Int := T 1 (t + i) - 96
set_option maxHeartbeats 8000000 in
theorem ltr_rg (h : i < rnL T 97 122 t) : 1 ≤ ltr T t i ∧ ltr T t i ≤ 26 := by
  have := rnL_in h
  simp only [isB, decide_eq_true_eq] at this
  unfold ltr
  omega
set_option maxHeartbeats 8000000 in
theorem cdF_v (n : Nat) (hn : n ≤ rnL T 97 122 t) : cdF T 96 32 t n = if vW (ltr T t) n < HUG then vW (ltr T t) n else HUG := by
  induction n with
  | zero => simp [cdF, vW, HUG]
  | succ n ih =>
    have ih := ih (by omega)
    have h1 := ltr_rg (T := T) (t := t) (i := n) (by omega)
    have h2 := (vW_ge (d := ltr T t) (n := rnL T 97 122 t) (fun i hi => ltr_rg hi) n (by omega)).1
    have hs : vW (ltr T t) (n + 1) = 32 * vW (ltr T t) n + ltr T t n := rfl
    have hT : T 1 (t + n) = ltr T t n + 96 := by unfold ltr; omega
    show (if cdF T 96 32 t n * 32 + T 1 (t + n) - 96 < HUG then cdF T 96 32 t n * 32 + T 1 (t + n) - 96 else HUG) = _
    rw [ih, hs, hT]
    generalize vW (ltr T t) n = x at *
    generalize ltr T t n = y at *
    unfold HUG
    by_cases q : x < 1099511627776
    · rw [if_pos q]
      by_cases q2 : 32 * x + y < 1099511627776
      · rw [if_pos (by omega), if_pos q2]; omega
      · rw [if_neg (by omega), if_neg q2]
    · rw [if_neg q, if_neg (by omega), if_neg (by omega)]
set_option maxHeartbeats 8000000 in
theorem kd_w (h : kd T t = 1) : t < tN T ∧ isB T 97 122 t = true := by
  unfold kd at h
  by_cases q : tN T ≤ t
  · rw [if_pos q] at h; omega
  · rw [if_neg q] at h
    refine ⟨by omega, ?_⟩
    by_cases q2 : isB T 97 122 t = true
    · exact q2
    · rw [if_neg q2] at h
      (repeat' split at h) <;> omega
set_option maxHeartbeats 8000000 in
theorem kd_1 (h1 : t < tN T) (h2 : isB T 97 122 t = true) : kd T t = 1 := by unfold kd; rw [if_neg (by omega), if_pos h2]
set_option maxHeartbeats 8000000 in
theorem kd_rg : 0 ≤ kd T t ∧ kd T t ≤ 4 := by
  unfold kd
  (repeat' split) <;> omega
set_option maxHeartbeats 8000000 in
theorem cd_w (h : kd T t = 1) : cd T t = if vW (ltr T t) (rnL T 97 122 t) < HUG then vW (ltr T t) (rnL T 97 122 t) else HUG := by
  have h1 := kd_w h
  unfold cd
  rw [if_neg (by omega), if_pos h1.2, cdF_v _ (Nat.le_refl _)]
set_option maxHeartbeats 8000000 in
theorem tEn_w (h : kd T t = 1) : tEn T t = t + rnL T 97 122 t := by
  have h1 := kd_w h
  unfold tEn
  rw [if_neg (by omega), if_pos h1.2]
set_option maxHeartbeats 8000000 in
theorem cd_rg (ht : tvA T) : 0 ≤ cd T t ∧ cd T t ≤ HUG := by
  unfold cd
  by_cases q : tN T ≤ t
  · rw [if_pos q]; unfold HUG; omega
  · rw [if_neg q]
    by_cases q2 : isB T 97 122 t = true
    · rw [if_pos q2]
      exact cdF_rg (n := rnL T 97 122 t) (fun k hk => by have := rnL_in hk; simp only [isB, decide_eq_true_eq] at this; omega) (by omega) _ (Nat.le_refl _)
    · rw [if_neg q2]
      by_cases q3 : isB T 48 57 t = true
      · rw [if_pos q3]
        exact cdF_rg (n := rnL T 48 57 t) (fun k hk => by have := rnL_in hk; simp only [isB, decide_eq_true_eq] at this; omega) (by omega) _ (Nat.le_refl _)
      · rw [if_neg q3]; unfold HUG; omega
/-! the keywords -/
def kLn (w : Nat) : Nat := sLen.getD w 0
def kBy (w i : Nat) : Int := ((sByt.getD w []).getD i 0).toInt
def kc (w : Nat) : Int := [8033908, 427595, 307, 1130181, 186542, 1574484, 89, 302, 719722099].getD w 0
set_option maxHeartbeats 8000000 in
theorem kc_v : ∀ w, w < 9 → vW (fun i => kBy w i - 96) (kLn w) = kc w := by decide +kernel
set_option maxHeartbeats 8000000 in
theorem kc_rg : ∀ w, w < 9 → 0 < kc w ∧ kc w < 1000000000 := by decide +kernel
set_option maxHeartbeats 8000000 in
theorem kLn_rg : ∀ w, w < 9 → 1 ≤ kLn w ∧ kLn w ≤ 6 := by decide +kernel
set_option maxHeartbeats 8000000 in
theorem kBy_rg : ∀ w, w < 9 → ∀ i, i < kLn w → 97 ≤ kBy w i ∧ kBy w i ≤ 122 := by decide +kernel
/-- the token is the word w -/
def isW (T : Tb) (w t : Nat) : Bool := decide (kd T t = 1 ∧ cd T t = kc w)
set_option maxHeartbeats 8000000 in
theorem isW_iff (hw : w < 9) : isW T w t = true ↔ (t < tN T ∧ tEn T t = t + kLn w ∧ ∀ i, i < kLn w → T 1 (t + i) = kBy w i) := by
  have hk := kLn_rg w hw
  have hc := kc_rg w hw
  have hv := kc_v w hw
  unfold isW
  rw [decide_eq_true_eq]
  refine ⟨fun ⟨h1, h2⟩ => ?_, fun ⟨h1, h2, h3⟩ => ?_⟩
  · have h3 := kd_w h1
    have h4 := cd_w h1
    have h5 : vW (ltr T t) (rnL T 97 122 t) = kc w := by
      rw [h2] at h4
      by_cases q : vW (ltr T t) (rnL T 97 122 t) < HUG
      · rw [if_pos q] at h4; exact h4.symm
      · rw [if_neg q] at h4; unfold HUG at h4; omega
    rw [← hv] at h5
    obtain ⟨k1, k2⟩ := vW_inj (rnL T 97 122 t) (kLn w) (fun i hi => ltr_rg hi) (fun i hi => by have := kBy_rg w hw i hi; omega) h5
    refine ⟨h3.1, by rw [tEn_w h1, k1], fun i hi => ?_⟩
    have := k2 i (by omega)
    unfold ltr at this
    omega
  · have h30 := h3 0 (by omega)
    have hb0 := kBy_rg w hw 0 (by omega)
    rw [Nat.add_zero] at h30
    have hB : isB T 97 122 t = true := by unfold isB; exact decide_eq_true (by omega)
    have hkd := kd_1 h1 hB
    have hrn : rnL T 97 122 t = kLn w := by have := tEn_w hkd; omega
    refine ⟨hkd, ?_⟩
    have hvv : vW (ltr T t) (rnL T 97 122 t) = kc w := by
      rw [hrn, ← hv]
      exact vW_ext fun i hi => by unfold ltr; rw [h3 i hi]
    rw [cd_w hkd, hvv, if_pos (by unfold HUG; omega)]
def isKy (c : Int) : Bool := anyb 9 (fun w => decide (c = kc w))
/-- the name at t, or -1 -/
def nmd (T : Tb) (t : Nat) : Int := if kd T t = 1 ∧ cd T t < HUG ∧ isKy (cd T t) = false then cd T t else -1
set_option maxHeartbeats 8000000 in
theorem nmd_rg (ht : tvA T) : -1 ≤ nmd T t ∧ nmd T t < HUG := by
  have := cd_rg (t := t) ht
  unfold nmd HUG at *
  split <;> omega
/-! the class -/
def kwC (J : Nat → Nat → Int64) : Prop := ∀ w, w < 9 → J 3 (w + 1) = lI (kc w)
set_option maxHeartbeats 8000000 in
theorem cl_isW (hk : tkC T t I J) (ht : tvA T) (hc : 0 ≤ c ∧ c ≤ HUG) : Text_isWord S0 (some 1) (lI c) (I, J, Pst b f) = some (bI (decide (kd T t = 1 ∧ cd T t = c))) := by
  have h1 := kd_rg (T := T) (t := t)
  have h2 := cd_rg (t := t) ht
  unfold HUG at hc h2
  unfold Text_isWord
  rw [rc1, Option.bind_some, gi1, hk.1.2.2, Option.bind_some]
  by_cases e : kd T t = 1
  · rw [if_pos (by rw [e]; rfl), gl1, hk.2.1, Option.bind_some, cmpI (by omega)]
    by_cases e2 : cd T t = c
    · rw [if_neg (show ¬ cd T t < c by omega), if_pos e2, if_pos (by rfl), decide_eq_true ⟨e, e2⟩]; rfl
    · rw [decide_eq_false (fun q => e2 q.2)]
      by_cases e3 : cd T t < c
      · rw [if_pos e3, if_neg (by decide)]; rfl
      · rw [if_neg e3, if_neg e2, if_neg (by decide)]; rfl
  · rw [if_neg (by rw [n_1, iI_eq (by omega)]; exact e), decide_eq_false (fun q => e q.1)]; rfl
set_option maxHeartbeats 8000000 in
theorem cl_isKw (hk : tkC T t I J) (ht : tvA T) (hw : w < 9) : Text_isWord S0 (some 1) (lI (kc w)) (I, J, Pst b f) = some (bI (isW T w t)) := by
  have := kc_rg w hw
  exact cl_isW hk ht (by unfold HUG; omega)
/-- a number from lo to hi -/
def isN (T : Tb) (lo hi : Int) (t : Nat) : Bool := decide (kd T t = 2 ∧ lo ≤ cd T t ∧ cd T t ≤ hi)
set_option maxHeartbeats 8000000 in
theorem cl_isN (hk : tkC T t I J) (ht : tvA T) (h : rg lo ∧ rg hi) : Text_isNumber S0 (some 1) (iI lo) (iI hi) (I, J, Pst b f) = some (bI (isN T lo hi t)) := by
  have h1 := kd_rg (T := T) (t := t)
  have h2 := cd_rg (t := t) ht
  unfold HUG at h2
  unfold Text_isNumber isN
  rw [rc1, Option.bind_some, gi1, hk.1.2.2, Option.bind_some]
  by_cases e : kd T t = 2
  · rw [if_pos (by rw [e]; rfl), gl1, hk.2.1, Option.bind_some, lI_of h.1, lI_of h.2, cmpI (by omega)]
    by_cases e2 : cd T t < lo
    · rw [if_pos e2, if_pos (by decide), decide_eq_false (fun q => by omega)]; rfl
    · rw [if_neg e2]
      have hnl : ¬ (if cd T t = lo then iI 0 else iI 1) < 0 := by split <;> decide
      rw [if_neg hnl, Option.bind_some, cmpI (by omega)]
      by_cases e3 : cd T t < hi
      · rw [if_pos e3, if_neg (by decide), decide_eq_true (show kd T t = 2 ∧ lo ≤ cd T t ∧ cd T t ≤ hi by omega)]; rfl
      · rw [if_neg e3]
        by_cases e4 : cd T t = hi
        · rw [if_pos e4, if_neg (by decide), decide_eq_true (show kd T t = 2 ∧ lo ≤ cd T t ∧ cd T t ≤ hi by omega)]; rfl
        · rw [if_neg e4, if_pos (by decide), decide_eq_false (fun q => by omega)]; rfl
  · rw [if_neg (by rw [n_2, iI_eq (by omega)]; exact e), decide_eq_false (fun q => e q.1)]; rfl
set_option maxHeartbeats 8000000 in
theorem cl_isKeyword (hq : kwC J) (hc : 0 ≤ c ∧ c ≤ HUG) : Reader_isKeyword S0 (some 3) (lI c) (I, J, Pst b f) = some (bI (isKy c)) := by
  unfold HUG at hc
  have hcmp : ∀ w, w < 9 → ((lg_cmp (lI c) (J 3 (w + 1)) = 0) = (c = kc w)) := fun w hw => by
    have := kc_rg w hw
    rw [hq w hw, cmpI (by omega)]
    by_cases e : c = kc w
    · rw [if_neg (by omega), if_pos e]; exact propext ⟨fun _ => e, fun _ => rfl⟩
    · by_cases e2 : c < kc w
      · rw [if_pos e2]; exact propext ⟨fun q => absurd q (by decide), fun q => absurd q e⟩
      · rw [if_neg e2, if_neg e]; exact propext ⟨fun q => absurd q (by decide), fun q => absurd q e⟩
  have h0 := hcmp 0 (by omega)
  have h1 := hcmp 1 (by omega)
  have h2 := hcmp 2 (by omega)
  have h3 := hcmp 3 (by omega)
  have h4 := hcmp 4 (by omega)
  have h5 := hcmp 5 (by omega)
  have h6 := hcmp 6 (by omega)
  have h7 := hcmp 7 (by omega)
  have h8 := hcmp 8 (by omega)
  have hk : isKy c = (((((((((false || decide (c = kc 0)) || decide (c = kc 1)) || decide (c = kc 2)) || decide (c = kc 3)) || decide (c = kc 4)) || decide (c = kc 5)) || decide (c = kc 6)) || decide (c = kc 7)) || decide (c = kc 8)) := rfl
  rw [hk]
  simp only [Reader_isKeyword, rc3, gl3, Option.bind_some, h0, h1, h2, h3, h4, h5, h6, h7, h8]
  by_cases q0 : c = kc 0
  · simp [q0]; rfl
  by_cases q1 : c = kc 1
  · simp [q0, q1]; rfl
  by_cases q2 : c = kc 2
  · simp [q0, q1, q2]; rfl
  by_cases q3 : c = kc 3
  · simp [q0, q1, q2, q3]; rfl
  by_cases q4 : c = kc 4
  · simp [q0, q1, q2, q3, q4]; rfl
  by_cases q5 : c = kc 5
  · simp [q0, q1, q2, q3, q4, q5]; rfl
  by_cases q6 : c = kc 6
  · simp [q0, q1, q2, q3, q4, q5, q6]; rfl
  by_cases q7 : c = kc 7
  · simp [q0, q1, q2, q3, q4, q5, q6, q7]; rfl
  by_cases q8 : c = kc 8
  · simp [q0, q1, q2, q3, q4, q5, q6, q7, q8]; rfl
  simp [q0, q1, q2, q3, q4, q5, q6, q7, q8]; rfl
/-! the model -/
set_option maxHeartbeats 8000000 in
theorem ar164w (hw : w < 9) : aR S0 106 (I, J, Pst b f) (some 164) (iI (w : Int)) = some (some (1000000 + w)) := by
  rcases (show w = 0 ∨ w = 1 ∨ w = 2 ∨ w = 3 ∨ w = 4 ∨ w = 5 ∨ w = 6 ∨ w = 7 ∨ w = 8 by omega) with e | e | e | e | e | e | e | e | e <;> subst e
  · exact ar164_0
  · exact ar164_1
  · exact ar164_2
  · exact ar164_3
  · exact ar164_4
  · exact ar164_5
  · exact ar164_6
  · exact ar164_7
  · exact ar164_8
set_option maxHeartbeats 8000000 in
theorem jd_len (hw : w < 9) : Jd_length (some (1000000 + w)) = some (iI (kLn w : Int)) := by
  have h1 : (1000000 ≤ 1000000 + w ∧ 1000000 + w < 1000009) := by omega
  unfold Jd_length kLn
  rw [nI_ofNat]
  show (if 1000000 ≤ 1000000 + w ∧ 1000000 + w < 1000009 then some (Int32.ofNat (sLen.getD (1000000 + w - 1000000) 0)) else none) = _
  rw [if_pos h1, show 1000000 + w - 1000000 = w by omega]
set_option maxHeartbeats 8000000 in
theorem jd_char (hw : w < 9) (hi : i < kLn w) : Jd_charAt (some (1000000 + w)) (iI (i : Int)) = some (iI (kBy w i)) := by
  have hk := kLn_rg w hw
  have hc : (iI (i : Int)).toNatClampNeg = i := by rw [iI_clamp (by omega)]; omega
  have h1 : (1000000 ≤ 1000000 + w ∧ 1000000 + w < 1000009 ∧ ¬ iI (i : Int) < 0 ∧ (iI (i : Int)).toNatClampNeg < sLen.getD (1000000 + w - 1000000) 0) := by
    refine ⟨by omega, by omega, by rw [n_0, iI_lt (by omega)]; omega, ?_⟩
    rw [hc, show 1000000 + w - 1000000 = w by omega]
    exact hi
  unfold Jd_charAt kBy
  show (if 1000000 ≤ 1000000 + w ∧ 1000000 + w < 1000009 ∧ ¬ iI (i : Int) < 0 ∧ (iI (i : Int)).toNatClampNeg < sLen.getD (1000000 + w - 1000000) 0 then some ((sByt.getD (1000000 + w - 1000000) []).getD (iI (i : Int)).toNatClampNeg 0) else none) = _
  rw [if_pos h1, hc, show 1000000 + w - 1000000 = w by omega]
  unfold iI
  rw [Int32.ofInt_toInt]
set_option maxHeartbeats 8000000 in
theorem jsearchAt {ρ : Type} {body : Int32 → Option (Int32 ⊕ (Unit ⊕ ρ))} (a0 N : Nat) (p : Nat → Bool) (r : Nat → ρ) (hs : ∀ k : Nat, k < N → body (iI ((a0 + k : Nat) : Int)) = some (if p k then .inr (.inr (r k)) else .inl (iI (((a0 + k : Nat) : Int) + 1)))) (he : body (iI ((a0 + N : Nat) : Int)) = some (.inr (.inl ()))) (hN : N < 5000) : jloop body jN (iI (a0 : Int)) = some (if fst_ N p < N then .inr (r (fst_ N p)) else .inl ()) := by
  have hle := fst_le p N
  refine jfun (fun k => iI ((a0 + k : Nat) : Int)) (fst_ N p) rfl (fun k hk => ?_) ?_ (by omega)
  · rw [hs k (by omega), fst_not hk, if_neg (by decide)]
    rfl
  · by_cases q : fst_ N p < N
    · rw [hs _ q, fst_is q, if_pos rfl, if_pos q]
    · have e : fst_ N p = N := by omega
      rw [if_neg q, e, he]
set_option maxHeartbeats 8000000 in
theorem mo_isW (hA : mA T I) (hk : tkM T t I) (ht : tvA T) (hw : w < 9) : Mo_isWord S0 (some 132) (iI (w : Int)) (I, J, Pst b f) = some (bI (isW T w t)) := by
  have h1 := tN_I ht
  have h2 := tN_le ht
  have hL := kLn_rg w hw
  have hte := tEn_le hk.2
  unfold Mo_isWord
  rw [rc132, Option.bind_some, gi132, hk.1.1, Option.bind_some, gi132, hA.1, Option.bind_some]
  by_cases q : t < tN T
  · rw [if_neg (by rw [iI_eq (by omega)]; omega), gi132, hk.1.2, Option.bind_some, Option.bind_some, gr132_18, Option.bind_some, ar164w hw, Option.bind_some, jd_len hw, Option.bind_some, iI_sub]
    by_cases q2 : tEn T t = t + kLn w
    · rw [if_pos (by rw [show (tEn T t : Int) - (t : Int) = (kLn w : Int) by omega]), Option.bind_some]
      have e := jsearchAt (body := Mo_isWord_L39 S0 (some 132) (iI (w : Int)) (I, J, Pst b f)) t (kLn w) (fun i => !decide (T 1 (t + i) = kBy w i)) (fun _ => (0 : Int32)) (fun i hi => ?_) ?_ (by omega)
      · rw [e]
        have hiff := isW_iff (T := T) (t := t) hw
        by_cases q3 : ∀ i, i < kLn w → T 1 (t + i) = kBy w i
        · rw [hiff.mpr ⟨q, q2, q3⟩, if_neg (by rw [fst_all fun j hj => by rw [decide_eq_true (q3 j hj)]; rfl]; omega), Option.bind_some, Sum.elim_inl]; rfl
        · have hf : isW T w t = false := by
            cases z : isW T w t
            · rfl
            · exact absurd (hiff.mp z).2.2 q3
          have hlt : fst_ (kLn w) (fun i => !decide (T 1 (t + i) = kBy w i)) < kLn w := by
            apply Classical.byContradiction
            intro z
            have hle := fst_le (fun i => !decide (T 1 (t + i) = kBy w i)) (kLn w)
            exact q3 fun i hi => by
              have := fst_not (p := fun i => !decide (T 1 (t + i) = kBy w i)) (n := kLn w) (k := i) (by omega)
              simpa using this
          rw [hf, if_pos hlt, Option.bind_some, Sum.elim_inr]; rfl
      · have hby := hA.2 (t + i) (by omega)
        have hv := ht.2 (t + i) (by omega)
        have hkb := kBy_rg w hw i hi
        have hch := jd_char hw hi
        have hsub : iI ((t + i : Nat) : Int) - iI (t : Int) = iI (i : Int) := by rw [iI_sub]; congr 1; omega
        unfold Mo_isWord_L39
        rw [gi132, hk.1.2, Option.bind_some, if_neg (by rw [iI_le (by omega)]; omega), gr132_0, Option.bind_some, ld133 (by omega), Int.toNat_natCast, hby, Option.bind_some, gr132_18, Option.bind_some, ar164w hw, Option.bind_some, gi132, hk.1.1, Option.bind_some, hsub, hch, Option.bind_some]
        by_cases z : T 1 (t + i) = kBy w i
        · rw [if_pos (by rw [z]), decide_eq_true z, n_1, iI_add]; rfl
        · rw [if_neg (by rw [iI_eq (by omega)]; exact z), decide_eq_false z]; rfl
      · unfold Mo_isWord_L39
        rw [gi132, hk.1.2, Option.bind_some, if_pos (by rw [iI_le (by omega)]; omega)]
    · have hf : isW T w t = false := by
        cases z : isW T w t
        · rfl
        · exact absurd ((isW_iff hw).mp z).2.1 q2
      rw [if_neg (by rw [iI_eq (by omega)]; omega), hf]; rfl
  · have hf : isW T w t = false := by
      cases z : isW T w t
      · rfl
      · exact absurd ((isW_iff hw).mp z).1 q
    have hle := hk.2
    rw [if_pos (by rw [show (t : Int) = T 0 0 by omega]), hf]; rfl
end
