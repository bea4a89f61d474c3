/-! ===== layer 2: the text: its tokens ===== -/
section
variable {T : Tb} {I I' I'' : Nat → Nat → Int32} {J J' J'' : Nat → Nat → Int64} {b : Bool} {f k n i j e t s : Nat} {m g w h a c o : Int} {P : Nat → Nat → Option Nat}
set_option maxHeartbeats 8000000 in
theorem lI_add (a b : Int) : lI a + lI b = lI (a + b) := (Int64.ofInt_add a b).symm
set_option maxHeartbeats 8000000 in
theorem lI_sub (a b : Int) : lI a - lI b = lI (a - b) := (Int64.ofInt_sub a b).symm
set_option maxHeartbeats 8000000 in
theorem lI_mul (a b : Int) : lI a * lI b = lI (a * b) := (Int64.ofInt_mul a b).symm
set_option maxHeartbeats 8000000 in
theorem lI_neg (a : Int) : -(lI a) = lI (-a) := (Int64.ofInt_neg a).symm
set_option maxHeartbeats 8000000 in
theorem lI_inj (h : rg6 a ∧ rg6 c) : (lI a = lI c) = (a = c) := lI_eq h
set_option maxHeartbeats 8000000 in
theorem hup_id {α : Type} {F : Nat → Nat → α} {o k : Nat} {v : α} (h : F o k = v) : hup F o k v = F := by
  funext x y
  unfold hup
  by_cases e : x = o ∧ y = k
  · rw [if_pos e, e.1, e.2, h]
  · rw [if_neg e]
/-- how long the text is -/
def tN (T : Tb) : Nat := (T 0 0).toNat
def isB (T : Tb) (l u : Int) (k : Nat) : Bool := decide (l ≤ T 1 k ∧ T 1 k ≤ u)
def blk (T : Tb) (k : Nat) : Bool := decide (T 1 k = 32 ∨ T 1 k = 10)
/-- behind the blanks -/
def skp (T : Tb) (t : Nat) : Nat := t + fst_ (tN T - t) (fun i => !blk T (t + i))
/-- how long a run of bytes is -/
def rnL (T : Tb) (l u : Int) (t : Nat) : Nat := fst_ (tN T - t) (fun i => !isB T l u (t + i))
/-- kinds: 0 end, 1 word, 2 number, 3 stop, 4 strange -/
def kd (T : Tb) (t : Nat) : Int := if tN T ≤ t then 0 else if isB T 97 122 t = true then 1 else if isB T 48 57 t = true then 2 else if T 1 t = 59 then 3 else 4
def tEn (T : Tb) (t : Nat) : Nat := if tN T ≤ t then t else if isB T 97 122 t = true then t + rnL T 97 122 t else if isB T 48 57 t = true then t + rnL T 48 57 t else t + 1
def HUG : Int := 1099511627776
def cdF (T : Tb) (z base : Int) (t : Nat) : Nat → Int
  | 0 => 0
  | k + 1 => if cdF T z base t k * base + T 1 (t + k) - z < HUG then cdF T z base t k * base + T 1 (t + k) - z else HUG
def cd (T : Tb) (t : Nat) : Int := if tN T ≤ t then 0 else if isB T 97 122 t = true then cdF T 96 32 t (rnL T 97 122 t) else if isB T 48 57 t = true then cdF T 48 10 t (rnL T 48 57 t) else 0
def adv (T : Tb) (t : Nat) : Nat := skp T (tEn T t)
set_option maxHeartbeats 8000000 in
theorem tN_le (ht : tvA T) : tN T ≤ 700 := by have := ht.1; unfold tN; omega
set_option maxHeartbeats 8000000 in
theorem tN_I (ht : tvA T) : (tN T : Int) = T 0 0 := by have := ht.1; unfold tN; omega
set_option maxHeartbeats 8000000 in
theorem skp_le (h : t ≤ tN T) : t ≤ skp T t ∧ skp T t ≤ tN T := by
  have := fst_le (fun i => !blk T (t + i)) (tN T - t)
  unfold skp
  omega
set_option maxHeartbeats 8000000 in
theorem rnL_le {l u : Int} (h : t ≤ tN T) : t + rnL T l u t ≤ tN T := by
  have := fst_le (fun i => !isB T l u (t + i)) (tN T - t)
  unfold rnL
  omega
set_option maxHeartbeats 8000000 in
theorem rnL_in {l u : Int} (h : k < rnL T l u t) : isB T l u (t + k) = true := by
  have := fst_not h
  simpa using this
set_option maxHeartbeats 8000000 in
theorem rnL_pos {l u : Int} (h : t < tN T) (hb : isB T l u t = true) : 0 < rnL T l u t := by
  rcases Nat.eq_zero_or_pos (rnL T l u t) with q | q
  · have h1 : fst_ (tN T - t) (fun i => !isB T l u (t + i)) = 0 := q
    have h2 := fst_is (p := fun i => !isB T l u (t + i)) (n := tN T - t) (by omega)
    rw [h1] at h2
    simp only [Nat.add_zero] at h2
    rw [hb] at h2
    cases h2
  · exact q
set_option maxHeartbeats 8000000 in
theorem tEn_le (h : t ≤ tN T) : t ≤ tEn T t ∧ tEn T t ≤ tN T := by
  have h1 := rnL_le (T := T) (l := 97) (u := 122) h
  have h2 := rnL_le (T := T) (l := 48) (u := 57) h
  unfold tEn
  (repeat' split) <;> omega
set_option maxHeartbeats 8000000 in
theorem tEn_lt (h : t < tN T) : t < tEn T t := by
  unfold tEn
  rw [if_neg (by omega)]
  by_cases e : isB T 97 122 t = true
  · rw [if_pos e]
    have := rnL_pos h e
    omega
  · rw [if_neg e]
    by_cases e2 : isB T 48 57 t = true
    · rw [if_pos e2]
      have := rnL_pos h e2
      omega
    · rw [if_neg e2]; omega
set_option maxHeartbeats 8000000 in
theorem adv_le (h : t ≤ tN T) : t ≤ adv T t ∧ adv T t ≤ tN T := by
  have h1 := tEn_le h
  have h2 := skp_le h1.2
  unfold adv
  omega
set_option maxHeartbeats 8000000 in
theorem adv_lt (h : t < tN T) : t < adv T t ∧ adv T t ≤ tN T := by
  have h1 := tEn_lt h
  have h2 := tEn_le (show t ≤ tN T by omega)
  have h3 := skp_le h2.2
  unfold adv
  omega
set_option maxHeartbeats 8000000 in
theorem cdF_rg {z base : Int} (hz : ∀ k, k < n → 0 ≤ T 1 (t + k) - z) (hb : 0 ≤ base) : ∀ k, k ≤ n → 0 ≤ cdF T z base t k ∧ cdF T z base t k ≤ HUG
  | 0, _ => by simp [cdF, HUG]
  | k + 1, hk => by
    have h1 := cdF_rg hz hb k (by omega)
    have h2 := hz k (by omega)
    have h3 : 0 ≤ cdF T z base t k * base := Int.mul_nonneg h1.1 hb
    show 0 ≤ (if cdF T z base t k * base + T 1 (t + k) - z < HUG then cdF T z base t k * base + T 1 (t + k) - z else HUG) ∧ (if cdF T z base t k * base + T 1 (t + k) - z < HUG then cdF T z base t k * base + T 1 (t + k) - z else HUG) ≤ HUG
    unfold HUG at *
    split <;> omega
/-! the class -/
/-- the text stands at the token t -/
def tkC (T : Tb) (t : Nat) (I : Nat → Nat → Int32) (J : Nat → Nat → Int64) : Prop := (I 1 3 = iI (t : Int) ∧ I 1 4 = iI (tEn T t : Int) ∧ I 1 2 = iI (kd T t)) ∧ J 1 5 = lI (cd T t) ∧ t ≤ tN T
/-- what the reading of a token leaves as it was -/
def txF (I : Nat → Nat → Int32) (J : Nat → Nat → Int64) (I' : Nat → Nat → Int32) (J' : Nat → Nat → Int64) : Prop := (∀ o k, ¬ (o = 1 ∧ 2 ≤ k) → I' o k = I o k) ∧ ∀ o k, o ≠ 1 → J' o k = J o k
set_option maxHeartbeats 8000000 in
theorem txF.refl : txF I J I J := ⟨fun _ _ _ => rfl, fun _ _ _ => rfl⟩
set_option maxHeartbeats 8000000 in
theorem txF.trans (h : txF I J I' J') (h' : txF I' J' I'' J'') : txF I J I'' J'' := ⟨fun o k q => (h'.1 o k q).trans (h.1 o k q), fun o k q => (h'.2 o k q).trans (h.2 o k q)⟩
set_option maxHeartbeats 8000000 in
theorem txF.wI {v : Int32} (h : txF I J I' J') (hk : 2 ≤ k) : txF I J (hup I' 1 k v) J' := ⟨fun o j q => by
  unfold hup
  rw [if_neg (by omega)]; exact h.1 o j q, h.2⟩
set_option maxHeartbeats 8000000 in
theorem txF.wJ {v : Int64} (h : txF I J I' J') : txF I J I' (hup J' 1 k v) := ⟨h.1, fun o j q => by
  rw [hup_obj _ _ _ q]; exact h.2 o j q⟩
set_option maxHeartbeats 8000000 in
theorem txF.cA (h : txF I J I' J') (hA : cA T I) : cA T I' := ⟨(h.1 1 1 (by omega)).trans hA.1, fun k hk => (h.1 2 k (by omega)).trans (hA.2 k hk)⟩
set_option maxHeartbeats 8000000 in
theorem cl_signAt (hA : cA T I) (ht : tvA T) (hk : k < 10000) : Text_signAt S0 (some 1) (iI (k : Int)) (I, J, Pst b f) = some (iI (if k < tN T then T 1 k else -1)) := by
  have h1 := tN_I ht
  have h2 := tN_le ht
  by_cases e : k < tN T
  · rw [if_pos e]
    simp (maxSteps := 4000000) (disch := omega) only [Text_signAt, rc0, gi0, gl0, pi0, pl0, pz0, pr0, gr0_0, gr0_1, gr0_2, gr0_3, gr0_4, gr0_5, gr0_6, gr0_7, gr0_8, rc1, gi1, gl1, pi1, pl1, pz1, pr1, gr1_0, rc3, gi3, gl3, pi3, pl3, pz3, pr3, gr3_0, gr3_10, gr3_11, rc47, gi47, gl47, pi47, pl47, pz47, pr47, gr47_0, gr47_1, gr47_2, gr47_3, gr47_4, gr47_5, gr47_6, rc55, gi55, gl55, pi55, pl55, pz55, pr55, gr55_0, gr55_1, rc58, gi58, gl58, pi58, pl58, pz58, pr58, gr58_0, gr58_1, rc61, gi61, gl61, pi61, pl61, pz61, pr61, gr61_0, gr61_1, gr61_2, gr61_7, rc62, gi62, gl62, pi62, pl62, pz62, pr62, gr62_0, gr62_1, gr62_2, gr62_3, gr62_4, gr62_5, ld2, st2, an2, ld4, st4, an4, ld5, st5, an5, an6, ld48, st48, an48, ld49, st49, an49, ld50, st50, an50, ld51, st51, an51, ld52, st52, an52, ld53, st53, an53, ld54, st54, an54, ld56, st56, an56, ld57, st57, an57, ld59, st59, an59, ld60, st60, an60, ld63, st63, an63, ld64, st64, an64, ld65, st65, an65, ld66, st66, an66, ld67, st67, an67, ld68, st68, an68, ld69, st69, an69, ld70, st70, an70, rcct, gict, glct, pict, plct, pzct, prct, grct_0, grct_1, grct_2, grct_3, ldctm, stctm, anctm, ldctr, stctr, anctr, ldctp, stctp, anctp, anctR, rcru, giru, glru, piru, plru, pzru, prru, grru_7, ldcu, stcu, ancu, arct, ar6, rcro, giro, piro, pzro, grro_1, grro_2, grro_3, rcfo, gifo, pifo, pzfo, grfo_0, grfo_1, ldfop, stfop, anfop, ldfoe, stfoe, anfoe, Option.bind_some, if_true, if_false, n_0, n_1, n_2, n_3, n_4, n_5, n_6, n_7, n_8, n_9, n_10, n_12, n_15, n_20, n_24, n_32, n_48, n_57, n_59, n_80, n_97, n_99, n_100, n_122, n_680, n_700, n_999, n_1023, n_1024, iI_neg, iI_add, iI_sub, iI_lt, iI_le, iI_eq, show ¬ (k : Int) < 0 by omega, hA.1, show ¬ T 0 0 ≤ (k : Int) by omega, show ¬ (700 : Int) ≤ (k : Int) by omega, Int.toNat_natCast, hA.2 k (by omega)]
  · rw [if_neg e]
    simp (maxSteps := 4000000) (disch := omega) only [Text_signAt, rc0, gi0, gl0, pi0, pl0, pz0, pr0, gr0_0, gr0_1, gr0_2, gr0_3, gr0_4, gr0_5, gr0_6, gr0_7, gr0_8, rc1, gi1, gl1, pi1, pl1, pz1, pr1, gr1_0, rc3, gi3, gl3, pi3, pl3, pz3, pr3, gr3_0, gr3_10, gr3_11, rc47, gi47, gl47, pi47, pl47, pz47, pr47, gr47_0, gr47_1, gr47_2, gr47_3, gr47_4, gr47_5, gr47_6, rc55, gi55, gl55, pi55, pl55, pz55, pr55, gr55_0, gr55_1, rc58, gi58, gl58, pi58, pl58, pz58, pr58, gr58_0, gr58_1, rc61, gi61, gl61, pi61, pl61, pz61, pr61, gr61_0, gr61_1, gr61_2, gr61_7, rc62, gi62, gl62, pi62, pl62, pz62, pr62, gr62_0, gr62_1, gr62_2, gr62_3, gr62_4, gr62_5, ld2, st2, an2, ld4, st4, an4, ld5, st5, an5, an6, ld48, st48, an48, ld49, st49, an49, ld50, st50, an50, ld51, st51, an51, ld52, st52, an52, ld53, st53, an53, ld54, st54, an54, ld56, st56, an56, ld57, st57, an57, ld59, st59, an59, ld60, st60, an60, ld63, st63, an63, ld64, st64, an64, ld65, st65, an65, ld66, st66, an66, ld67, st67, an67, ld68, st68, an68, ld69, st69, an69, ld70, st70, an70, rcct, gict, glct, pict, plct, pzct, prct, grct_0, grct_1, grct_2, grct_3, ldctm, stctm, anctm, ldctr, stctr, anctr, ldctp, stctp, anctp, anctR, rcru, giru, glru, piru, plru, pzru, prru, grru_7, ldcu, stcu, ancu, arct, ar6, rcro, giro, piro, pzro, grro_1, grro_2, grro_3, rcfo, gifo, pifo, pzfo, grfo_0, grfo_1, ldfop, stfop, anfop, ldfoe, stfoe, anfoe, Option.bind_some, if_true, if_false, n_0, n_1, n_2, n_3, n_4, n_5, n_6, n_7, n_8, n_9, n_10, n_12, n_15, n_20, n_24, n_32, n_48, n_57, n_59, n_80, n_97, n_99, n_100, n_122, n_680, n_700, n_999, n_1023, n_1024, iI_neg, iI_add, iI_sub, iI_lt, iI_le, iI_eq, show ¬ (k : Int) < 0 by omega, hA.1, show T 0 0 ≤ (k : Int) by omega]
set_option maxHeartbeats 8000000 in
theorem cl_skip (hA : cA T I) (ht : tvA T) (he : e ≤ tN T) : jloop (Text_advance_L8 S0 (some 1)) jN (hup I 1 3 (iI (e : Int)), J, Pst b f) = some (hup I 1 3 (iI (skp T e : Int)), J, Pst b f) := by
  have h1 := tN_I ht
  have h2 := tN_le ht
  have hle := fst_le (fun i => !blk T (e + i)) (tN T - e)
  refine jfun (fun k => (hup I 1 3 (iI ((e + k : Nat) : Int)), J, Pst b f)) (fst_ (tN T - e) (fun i => !blk T (e + i))) rfl (fun k hk => ?_) ?_ (by omega)
  · have hn := fst_not hk
    have hA' : cA T (hup I 1 3 (iI ((e + k : Nat) : Int))) := (txF.wI (J := J) txF.refl (by omega)).cA hA
    have hs := cl_signAt (J := J) (b := b) (f := f) (k := e + k) hA' ht (by omega)
    rw [if_pos (by omega)] at hs
    have hv := ht.2 (e + k) (by omega)
    have hb : T 1 (e + k) = 32 ∨ T 1 (e + k) = 10 := by
      have : blk T (e + k) = true := by simpa using hn
      simpa [blk] using this
    rcases hb with q | q
    · rw [q] at hs
      simp (maxSteps := 4000000) (disch := omega) only [Text_advance_L8, rc0, gi0, gl0, pi0, pl0, pz0, pr0, gr0_0, gr0_1, gr0_2, gr0_3, gr0_4, gr0_5, gr0_6, gr0_7, gr0_8, rc1, gi1, gl1, pi1, pl1, pz1, pr1, gr1_0, rc3, gi3, gl3, pi3, pl3, pz3, pr3, gr3_0, gr3_10, gr3_11, rc47, gi47, gl47, pi47, pl47, pz47, pr47, gr47_0, gr47_1, gr47_2, gr47_3, gr47_4, gr47_5, gr47_6, rc55, gi55, gl55, pi55, pl55, pz55, pr55, gr55_0, gr55_1, rc58, gi58, gl58, pi58, pl58, pz58, pr58, gr58_0, gr58_1, rc61, gi61, gl61, pi61, pl61, pz61, pr61, gr61_0, gr61_1, gr61_2, gr61_7, rc62, gi62, gl62, pi62, pl62, pz62, pr62, gr62_0, gr62_1, gr62_2, gr62_3, gr62_4, gr62_5, ld2, st2, an2, ld4, st4, an4, ld5, st5, an5, an6, ld48, st48, an48, ld49, st49, an49, ld50, st50, an50, ld51, st51, an51, ld52, st52, an52, ld53, st53, an53, ld54, st54, an54, ld56, st56, an56, ld57, st57, an57, ld59, st59, an59, ld60, st60, an60, ld63, st63, an63, ld64, st64, an64, ld65, st65, an65, ld66, st66, an66, ld67, st67, an67, ld68, st68, an68, ld69, st69, an69, ld70, st70, an70, rcct, gict, glct, pict, plct, pzct, prct, grct_0, grct_1, grct_2, grct_3, ldctm, stctm, anctm, ldctr, stctr, anctr, ldctp, stctp, anctp, anctR, rcru, giru, glru, piru, plru, pzru, prru, grru_7, ldcu, stcu, ancu, arct, ar6, rcro, giro, piro, pzro, grro_1, grro_2, grro_3, rcfo, gifo, pifo, pzfo, grfo_0, grfo_1, ldfop, stfop, anfop, ldfoe, stfoe, anfoe, Option.bind_some, if_true, if_false, n_0, n_1, n_2, n_3, n_4, n_5, n_6, n_7, n_8, n_9, n_10, n_12, n_15, n_20, n_24, n_32, n_48, n_57, n_59, n_80, n_97, n_99, n_100, n_122, n_680, n_700, n_999, n_1023, n_1024, iI_neg, iI_add, iI_sub, iI_lt, iI_le, iI_eq, hup_same, hA'.1, show ¬ T 0 0 ≤ ((e + k : Nat) : Int) by omega, hs, Sum.elim_inl, hup_hup]
      rfl
    · rw [q] at hs
      simp (maxSteps := 4000000) (disch := omega) only [Text_advance_L8, rc0, gi0, gl0, pi0, pl0, pz0, pr0, gr0_0, gr0_1, gr0_2, gr0_3, gr0_4, gr0_5, gr0_6, gr0_7, gr0_8, rc1, gi1, gl1, pi1, pl1, pz1, pr1, gr1_0, rc3, gi3, gl3, pi3, pl3, pz3, pr3, gr3_0, gr3_10, gr3_11, rc47, gi47, gl47, pi47, pl47, pz47, pr47, gr47_0, gr47_1, gr47_2, gr47_3, gr47_4, gr47_5, gr47_6, rc55, gi55, gl55, pi55, pl55, pz55, pr55, gr55_0, gr55_1, rc58, gi58, gl58, pi58, pl58, pz58, pr58, gr58_0, gr58_1, rc61, gi61, gl61, pi61, pl61, pz61, pr61, gr61_0, gr61_1, gr61_2, gr61_7, rc62, gi62, gl62, pi62, pl62, pz62, pr62, gr62_0, gr62_1, gr62_2, gr62_3, gr62_4, gr62_5, ld2, st2, an2, ld4, st4, an4, ld5, st5, an5, an6, ld48, st48, an48, ld49, st49, an49, ld50, st50, an50, ld51, st51, an51, ld52, st52, an52, ld53, st53, an53, ld54, st54, an54, ld56, st56, an56, ld57, st57, an57, ld59, st59, an59, ld60, st60, an60, ld63, st63, an63, ld64, st64, an64, ld65, st65, an65, ld66, st66, an66, ld67, st67, an67, ld68, st68, an68, ld69, st69, an69, ld70, st70, an70, rcct, gict, glct, pict, plct, pzct, prct, grct_0, grct_1, grct_2, grct_3, ldctm, stctm, anctm, ldctr, stctr, anctr, ldctp, stctp, anctp, anctR, rcru, giru, glru, piru, plru, pzru, prru, grru_7, ldcu, stcu, ancu, arct, ar6, rcro, giro, piro, pzro, grro_1, grro_2, grro_3, rcfo, gifo, pifo, pzfo, grfo_0, grfo_1, ldfop, stfop, anfop, ldfoe, stfoe, anfoe, Option.bind_some, if_true, if_false, n_0, n_1, n_2, n_3, n_4, n_5, n_6, n_7, n_8, n_9, n_10, n_12, n_15, n_20, n_24, n_32, n_48, n_57, n_59, n_80, n_97, n_99, n_100, n_122, n_680, n_700, n_999, n_1023, n_1024, iI_neg, iI_add, iI_sub, iI_lt, iI_le, iI_eq, hup_same, hA'.1, show ¬ T 0 0 ≤ ((e + k : Nat) : Int) by omega, hs, show ¬ (10 : Int) = 32 by omega, Sum.elim_inl, hup_hup]
      rfl
  · have hA' : cA T (hup I 1 3 (iI (skp T e : Int))) := (txF.wI (J := J) txF.refl (by omega)).cA hA
    have hsk := skp_le he
    show Text_advance_L8 S0 (some 1) (hup I 1 3 (iI (skp T e : Int)), J, Pst b f) = some (.inr (hup I 1 3 (iI (skp T e : Int)), J, Pst b f))
    by_cases q : skp T e < tN T
    · have hs := cl_signAt (J := J) (b := b) (f := f) (k := skp T e) hA' ht (by omega)
      rw [if_pos q] at hs
      have hv := ht.2 (skp T e) (by omega)
      have hb : ¬ (T 1 (skp T e) = 32 ∨ T 1 (skp T e) = 10) := by
        have hi := fst_is (p := fun i => !blk T (e + i)) (n := tN T - e) (by unfold skp at q; omega)
        have hi' : (!blk T (skp T e)) = true := hi
        simpa [blk] using hi'
      simp (maxSteps := 4000000) (disch := omega) only [Text_advance_L8, rc0, gi0, gl0, pi0, pl0, pz0, pr0, gr0_0, gr0_1, gr0_2, gr0_3, gr0_4, gr0_5, gr0_6, gr0_7, gr0_8, rc1, gi1, gl1, pi1, pl1, pz1, pr1, gr1_0, rc3, gi3, gl3, pi3, pl3, pz3, pr3, gr3_0, gr3_10, gr3_11, rc47, gi47, gl47, pi47, pl47, pz47, pr47, gr47_0, gr47_1, gr47_2, gr47_3, gr47_4, gr47_5, gr47_6, rc55, gi55, gl55, pi55, pl55, pz55, pr55, gr55_0, gr55_1, rc58, gi58, gl58, pi58, pl58, pz58, pr58, gr58_0, gr58_1, rc61, gi61, gl61, pi61, pl61, pz61, pr61, gr61_0, gr61_1, gr61_2, gr61_7, rc62, gi62, gl62, pi62, pl62, pz62, pr62, gr62_0, gr62_1, gr62_2, gr62_3, gr62_4, gr62_5, ld2, st2, an2, ld4, st4, an4, ld5, st5, an5, an6, ld48, st48, an48, ld49, st49, an49, ld50, st50, an50, ld51, st51, an51, ld52, st52, an52, ld53, st53, an53, ld54, st54, an54, ld56, st56, an56, ld57, st57, an57, ld59, st59, an59, ld60, st60, an60, ld63, st63, an63, ld64, st64, an64, ld65, st65, an65, ld66, st66, an66, ld67, st67, an67, ld68, st68, an68, ld69, st69, an69, ld70, st70, an70, rcct, gict, glct, pict, plct, pzct, prct, grct_0, grct_1, grct_2, grct_3, ldctm, stctm, anctm, ldctr, stctr, anctr, ldctp, stctp, anctp, anctR, rcru, giru, glru, piru, plru, pzru, prru, grru_7, ldcu, stcu, ancu, arct, ar6, rcro, giro, piro, pzro, grro_1, grro_2, grro_3, rcfo, gifo, pifo, pzfo, grfo_0, grfo_1, ldfop, stfop, anfop, ldfoe, stfoe, anfoe, Option.bind_some, if_true, if_false, n_0, n_1, n_2, n_3, n_4, n_5, n_6, n_7, n_8, n_9, n_10, n_12, n_15, n_20, n_24, n_32, n_48, n_57, n_59, n_80, n_97, n_99, n_100, n_122, n_680, n_700, n_999, n_1023, n_1024, iI_neg, iI_add, iI_sub, iI_lt, iI_le, iI_eq, hup_same, hA'.1, show ¬ T 0 0 ≤ (skp T e : Int) by omega, hs, show ¬ T 1 (skp T e) = 32 by omega, show ¬ T 1 (skp T e) = 10 by omega, Sum.elim_inr]
    · simp (maxSteps := 4000000) (disch := omega) only [Text_advance_L8, rc0, gi0, gl0, pi0, pl0, pz0, pr0, gr0_0, gr0_1, gr0_2, gr0_3, gr0_4, gr0_5, gr0_6, gr0_7, gr0_8, rc1, gi1, gl1, pi1, pl1, pz1, pr1, gr1_0, rc3, gi3, gl3, pi3, pl3, pz3, pr3, gr3_0, gr3_10, gr3_11, rc47, gi47, gl47, pi47, pl47, pz47, pr47, gr47_0, gr47_1, gr47_2, gr47_3, gr47_4, gr47_5, gr47_6, rc55, gi55, gl55, pi55, pl55, pz55, pr55, gr55_0, gr55_1, rc58, gi58, gl58, pi58, pl58, pz58, pr58, gr58_0, gr58_1, rc61, gi61, gl61, pi61, pl61, pz61, pr61, gr61_0, gr61_1, gr61_2, gr61_7, rc62, gi62, gl62, pi62, pl62, pz62, pr62, gr62_0, gr62_1, gr62_2, gr62_3, gr62_4, gr62_5, ld2, st2, an2, ld4, st4, an4, ld5, st5, an5, an6, ld48, st48, an48, ld49, st49, an49, ld50, st50, an50, ld51, st51, an51, ld52, st52, an52, ld53, st53, an53, ld54, st54, an54, ld56, st56, an56, ld57, st57, an57, ld59, st59, an59, ld60, st60, an60, ld63, st63, an63, ld64, st64, an64, ld65, st65, an65, ld66, st66, an66, ld67, st67, an67, ld68, st68, an68, ld69, st69, an69, ld70, st70, an70, rcct, gict, glct, pict, plct, pzct, prct, grct_0, grct_1, grct_2, grct_3, ldctm, stctm, anctm, ldctr, stctr, anctr, ldctp, stctp, anctp, anctR, rcru, giru, glru, piru, plru, pzru, prru, grru_7, ldcu, stcu, ancu, arct, ar6, rcro, giro, piro, pzro, grro_1, grro_2, grro_3, rcfo, gifo, pifo, pzfo, grfo_0, grfo_1, ldfop, stfop, anfop, ldfoe, stfoe, anfoe, Option.bind_some, if_true, if_false, n_0, n_1, n_2, n_3, n_4, n_5, n_6, n_7, n_8, n_9, n_10, n_12, n_15, n_20, n_24, n_32, n_48, n_57, n_59, n_80, n_97, n_99, n_100, n_122, n_680, n_700, n_999, n_1023, n_1024, iI_neg, iI_add, iI_sub, iI_lt, iI_le, iI_eq, hup_same, hA'.1, show T 0 0 ≤ (skp T e : Int) by omega]
set_option maxHeartbeats 8000000 in
theorem cl_run {l u z base : Int} (hA : cA T I) (ht : tvA T) (hl : 0 ≤ l ∧ l ≤ u ∧ u ≤ 127) (hz : z ≤ l ∧ 0 ≤ z) (hbs : 0 ≤ base ∧ base ≤ 32) (h4 : I 1 4 = iI (t : Int)) (h5 : J 1 5 = lI 0) (hle : t ≤ tN T) : jloop (Text_takeRun_L15 S0 (some 1) (iI l) (iI u) (iI base) (iI z)) jN (I, J, Pst b f) = some (hup I 1 4 (iI ((t + rnL T l u t : Nat) : Int)), hup J 1 5 (lI (cdF T z base t (rnL T l u t))), Pst b f) := by
  have h1 := tN_I ht
  have h2 := tN_le ht
  have hrl := rnL_le (T := T) (l := l) (u := u) hle
  refine jfun (fun k => (hup I 1 4 (iI ((t + k : Nat) : Int)), hup J 1 5 (lI (cdF T z base t k)), Pst b f)) (rnL T l u t) ?_ (fun k hk => ?_) ?_ (by omega)
  · show _ = (hup I 1 4 (iI ((t + 0 : Nat) : Int)), hup J 1 5 (lI 0), Pst b f)
    rw [Nat.add_zero, hup_id h4, hup_id h5]
  · have hA' : cA T (hup I 1 4 (iI ((t + k : Nat) : Int))) := (txF.wI (J := J) txF.refl (by omega)).cA hA
    have hin := rnL_in hk
    simp only [isB, decide_eq_true_eq] at hin
    have hb := hA'.2 (t + k) (by omega)
    have hr := cdF_rg (T := T) (t := t) (z := z) (base := base) (n := rnL T l u t) (fun k hk => by have := rnL_in hk; simp only [isB, decide_eq_true_eq] at this; omega) hbs.1 k (by omega)
    have hm0 : 0 ≤ cdF T z base t k * base := Int.mul_nonneg hr.1 hbs.1
    have hm1 : cdF T z base t k * base ≤ HUG * 32 := Int.mul_le_mul hr.2 hbs.2 hbs.1 (by decide)
    unfold HUG at hm1
    have hs : cdF T z base t (k + 1) = if cdF T z base t k * base + T 1 (t + k) - z < HUG then cdF T z base t k * base + T 1 (t + k) - z else HUG := rfl
    have hj : ((if iI 0 ≤ lg_cmp (lI (cdF T z base t k * base + T 1 (t + k) - z)) (lI HUG) then some (lI HUG) else some (lI (cdF T z base t k * base + T 1 (t + k) - z))) : Option Int64) = some (lI (cdF T z base t (k + 1))) := by
      rw [hs, cmpI (by unfold HUG; omega)]
      unfold HUG
      by_cases q : cdF T z base t k * base + T 1 (t + k) - z < 1099511627776
      · rw [if_pos q, if_neg (by decide), if_pos q]
      · rw [if_neg q, if_neg q]
        by_cases q2 : cdF T z base t k * base + T 1 (t + k) - z = 1099511627776
        · rw [if_pos q2, if_pos (by decide)]
        · rw [if_neg q2, if_pos (by decide)]
    have hHU : (1099511627776 : Int64) = lI HUG := rfl
    simp (maxSteps := 4000000) (disch := omega) only [Text_takeRun_L15, rc0, gi0, gl0, pi0, pl0, pz0, pr0, gr0_0, gr0_1, gr0_2, gr0_3, gr0_4, gr0_5, gr0_6, gr0_7, gr0_8, rc1, gi1, gl1, pi1, pl1, pz1, pr1, gr1_0, rc3, gi3, gl3, pi3, pl3, pz3, pr3, gr3_0, gr3_10, gr3_11, rc47, gi47, gl47, pi47, pl47, pz47, pr47, gr47_0, gr47_1, gr47_2, gr47_3, gr47_4, gr47_5, gr47_6, rc55, gi55, gl55, pi55, pl55, pz55, pr55, gr55_0, gr55_1, rc58, gi58, gl58, pi58, pl58, pz58, pr58, gr58_0, gr58_1, rc61, gi61, gl61, pi61, pl61, pz61, pr61, gr61_0, gr61_1, gr61_2, gr61_7, rc62, gi62, gl62, pi62, pl62, pz62, pr62, gr62_0, gr62_1, gr62_2, gr62_3, gr62_4, gr62_5, ld2, st2, an2, ld4, st4, an4, ld5, st5, an5, an6, ld48, st48, an48, ld49, st49, an49, ld50, st50, an50, ld51, st51, an51, ld52, st52, an52, ld53, st53, an53, ld54, st54, an54, ld56, st56, an56, ld57, st57, an57, ld59, st59, an59, ld60, st60, an60, ld63, st63, an63, ld64, st64, an64, ld65, st65, an65, ld66, st66, an66, ld67, st67, an67, ld68, st68, an68, ld69, st69, an69, ld70, st70, an70, rcct, gict, glct, pict, plct, pzct, prct, grct_0, grct_1, grct_2, grct_3, ldctm, stctm, anctm, ldctr, stctr, anctr, ldctp, stctp, anctp, anctR, rcru, giru, glru, piru, plru, pzru, prru, grru_7, ldcu, stcu, ancu, arct, ar6, rcro, giro, piro, pzro, grro_1, grro_2, grro_3, rcfo, gifo, pifo, pzfo, grfo_0, grfo_1, ldfop, stfop, anfop, ldfoe, stfoe, anfoe, Option.bind_some, if_true, if_false, n_0, n_1, n_2, n_3, n_4, n_5, n_6, n_7, n_8, n_9, n_10, n_12, n_15, n_20, n_24, n_32, n_48, n_57, n_59, n_80, n_97, n_99, n_100, n_122, n_680, n_700, n_999, n_1023, n_1024, iI_neg, iI_add, iI_sub, iI_le, iI_lt, hup_same, hA'.1, show ¬ T 0 0 ≤ ((t + k : Nat) : Int) by omega, show ¬ (700 : Int) ≤ ((t + k : Nat) : Int) by omega, Int.toNat_natCast, hb, show ¬ T 1 (t + k) < l by omega, show ¬ u < T 1 (t + k) by omega, lI_of, lI_mul, lI_add, lI_sub, hup_hup, hHU, hj]
    rfl
  · have hA' : cA T (hup I 1 4 (iI ((t + rnL T l u t : Nat) : Int))) := (txF.wI (J := J) txF.refl (by omega)).cA hA
    by_cases q : t + rnL T l u t < tN T
    · have hi := fst_is (p := fun i => !isB T l u (t + i)) (n := tN T - t) (by unfold rnL at q; omega)
      have hi0 : (!isB T l u (t + rnL T l u t)) = true := hi
      have hi' : isB T l u (t + rnL T l u t) = false := by simpa using hi0
      simp only [isB, decide_eq_false_iff_not] at hi'
      have hb := hA'.2 (t + rnL T l u t) (by omega)
      have hv := ht.2 (t + rnL T l u t) (by omega)
      by_cases q2 : T 1 (t + rnL T l u t) < l
      · simp (maxSteps := 4000000) (disch := omega) only [Text_takeRun_L15, rc0, gi0, gl0, pi0, pl0, pz0, pr0, gr0_0, gr0_1, gr0_2, gr0_3, gr0_4, gr0_5, gr0_6, gr0_7, gr0_8, rc1, gi1, gl1, pi1, pl1, pz1, pr1, gr1_0, rc3, gi3, gl3, pi3, pl3, pz3, pr3, gr3_0, gr3_10, gr3_11, rc47, gi47, gl47, pi47, pl47, pz47, pr47, gr47_0, gr47_1, gr47_2, gr47_3, gr47_4, gr47_5, gr47_6, rc55, gi55, gl55, pi55, pl55, pz55, pr55, gr55_0, gr55_1, rc58, gi58, gl58, pi58, pl58, pz58, pr58, gr58_0, gr58_1, rc61, gi61, gl61, pi61, pl61, pz61, pr61, gr61_0, gr61_1, gr61_2, gr61_7, rc62, gi62, gl62, pi62, pl62, pz62, pr62, gr62_0, gr62_1, gr62_2, gr62_3, gr62_4, gr62_5, ld2, st2, an2, ld4, st4, an4, ld5, st5, an5, an6, ld48, st48, an48, ld49, st49, an49, ld50, st50, an50, ld51, st51, an51, ld52, st52, an52, ld53, st53, an53, ld54, st54, an54, ld56, st56, an56, ld57, st57, an57, ld59, st59, an59, ld60, st60, an60, ld63, st63, an63, ld64, st64, an64, ld65, st65, an65, ld66, st66, an66, ld67, st67, an67, ld68, st68, an68, ld69, st69, an69, ld70, st70, an70, rcct, gict, glct, pict, plct, pzct, prct, grct_0, grct_1, grct_2, grct_3, ldctm, stctm, anctm, ldctr, stctr, anctr, ldctp, stctp, anctp, anctR, rcru, giru, glru, piru, plru, pzru, prru, grru_7, ldcu, stcu, ancu, arct, ar6, rcro, giro, piro, pzro, grro_1, grro_2, grro_3, rcfo, gifo, pifo, pzfo, grfo_0, grfo_1, ldfop, stfop, anfop, ldfoe, stfoe, anfoe, Option.bind_some, if_true, if_false, n_0, n_1, n_2, n_3, n_4, n_5, n_6, n_7, n_8, n_9, n_10, n_12, n_15, n_20, n_24, n_32, n_48, n_57, n_59, n_80, n_97, n_99, n_100, n_122, n_680, n_700, n_999, n_1023, n_1024, iI_neg, iI_add, iI_sub, iI_le, iI_lt, hup_same, hA'.1, show ¬ T 0 0 ≤ ((t + rnL T l u t : Nat) : Int) by omega, show ¬ (700 : Int) ≤ ((t + rnL T l u t : Nat) : Int) by omega, Int.toNat_natCast, hb, q2]
      · simp (maxSteps := 4000000) (disch := omega) only [Text_takeRun_L15, rc0, gi0, gl0, pi0, pl0, pz0, pr0, gr0_0, gr0_1, gr0_2, gr0_3, gr0_4, gr0_5, gr0_6, gr0_7, gr0_8, rc1, gi1, gl1, pi1, pl1, pz1, pr1, gr1_0, rc3, gi3, gl3, pi3, pl3, pz3, pr3, gr3_0, gr3_10, gr3_11, rc47, gi47, gl47, pi47, pl47, pz47, pr47, gr47_0, gr47_1, gr47_2, gr47_3, gr47_4, gr47_5, gr47_6, rc55, gi55, gl55, pi55, pl55, pz55, pr55, gr55_0, gr55_1, rc58, gi58, gl58, pi58, pl58, pz58, pr58, gr58_0, gr58_1, rc61, gi61, gl61, pi61, pl61, pz61, pr61, gr61_0, gr61_1, gr61_2, gr61_7, rc62, gi62, gl62, pi62, pl62, pz62, pr62, gr62_0, gr62_1, gr62_2, gr62_3, gr62_4, gr62_5, ld2, st2, an2, ld4, st4, an4, ld5, st5, an5, an6, ld48, st48, an48, ld49, st49, an49, ld50, st50, an50, ld51, st51, an51, ld52, st52, an52, ld53, st53, an53, ld54, st54, an54, ld56, st56, an56, ld57, st57, an57, ld59, st59, an59, ld60, st60, an60, ld63, st63, an63, ld64, st64, an64, ld65, st65, an65, ld66, st66, an66, ld67, st67, an67, ld68, st68, an68, ld69, st69, an69, ld70, st70, an70, rcct, gict, glct, pict, plct, pzct, prct, grct_0, grct_1, grct_2, grct_3, ldctm, stctm, anctm, ldctr, stctr, anctr, ldctp, stctp, anctp, anctR, rcru, giru, glru, piru, plru, pzru, prru, grru_7, ldcu, stcu, ancu, arct, ar6, rcro, giro, piro, pzro, grro_1, grro_2, grro_3, rcfo, gifo, pifo, pzfo, grfo_0, grfo_1, ldfop, stfop, anfop, ldfoe, stfoe, anfoe, Option.bind_some, if_true, if_false, n_0, n_1, n_2, n_3, n_4, n_5, n_6, n_7, n_8, n_9, n_10, n_12, n_15, n_20, n_24, n_32, n_48, n_57, n_59, n_80, n_97, n_99, n_100, n_122, n_680, n_700, n_999, n_1023, n_1024, iI_neg, iI_add, iI_sub, iI_le, iI_lt, hup_same, hA'.1, show ¬ T 0 0 ≤ ((t + rnL T l u t : Nat) : Int) by omega, show ¬ (700 : Int) ≤ ((t + rnL T l u t : Nat) : Int) by omega, Int.toNat_natCast, hb, q2, show u < T 1 (t + rnL T l u t) by omega]
    · simp (maxSteps := 4000000) (disch := omega) only [Text_takeRun_L15, rc0, gi0, gl0, pi0, pl0, pz0, pr0, gr0_0, gr0_1, gr0_2, gr0_3, gr0_4, gr0_5, gr0_6, gr0_7, gr0_8, rc1, gi1, gl1, pi1, pl1, pz1, pr1, gr1_0, rc3, gi3, gl3, pi3, pl3, pz3, pr3, gr3_0, gr3_10, gr3_11, rc47, gi47, gl47, pi47, pl47, pz47, pr47, gr47_0, gr47_1, gr47_2, gr47_3, gr47_4, gr47_5, gr47_6, rc55, gi55, gl55, pi55, pl55, pz55, pr55, gr55_0, gr55_1, rc58, gi58, gl58, pi58, pl58, pz58, pr58, gr58_0, gr58_1, rc61, gi61, gl61, pi61, pl61, pz61, pr61, gr61_0, gr61_1, gr61_2, gr61_7, rc62, gi62, gl62, pi62, pl62, pz62, pr62, gr62_0, gr62_1, gr62_2, gr62_3, gr62_4, gr62_5, ld2, st2, an2, ld4, st4, an4, ld5, st5, an5, an6, ld48, st48, an48, ld49, st49, an49, ld50, st50, an50, ld51, st51, an51, ld52, st52, an52, ld53, st53, an53, ld54, st54, an54, ld56, st56, an56, ld57, st57, an57, ld59, st59, an59, ld60, st60, an60, ld63, st63, an63, ld64, st64, an64, ld65, st65, an65, ld66, st66, an66, ld67, st67, an67, ld68, st68, an68, ld69, st69, an69, ld70, st70, an70, rcct, gict, glct, pict, plct, pzct, prct, grct_0, grct_1, grct_2, grct_3, ldctm, stctm, anctm, ldctr, stctr, anctr, ldctp, stctp, anctp, anctR, rcru, giru, glru, piru, plru, pzru, prru, grru_7, ldcu, stcu, ancu, arct, ar6, rcro, giro, piro, pzro, grro_1, grro_2, grro_3, rcfo, gifo, pifo, pzfo, grfo_0, grfo_1, ldfop, stfop, anfop, ldfoe, stfoe, anfoe, Option.bind_some, if_true, if_false, n_0, n_1, n_2, n_3, n_4, n_5, n_6, n_7, n_8, n_9, n_10, n_12, n_15, n_20, n_24, n_32, n_48, n_57, n_59, n_80, n_97, n_99, n_100, n_122, n_680, n_700, n_999, n_1023, n_1024, iI_neg, iI_add, iI_sub, iI_le, iI_lt, hup_same, hA'.1, show T 0 0 ≤ ((t + rnL T l u t : Nat) : Int) by omega]
set_option maxHeartbeats 8000000 in
theorem cl_takeRun {l u z base : Int} (hA : cA T I) (ht : tvA T) (hl : 0 ≤ l ∧ l ≤ u ∧ u ≤ 127) (hz : z ≤ l ∧ 0 ≤ z) (hbs : 0 ≤ base ∧ base ≤ 32) (h4 : I 1 4 = iI (t : Int)) (h5 : J 1 5 = lI 0) (hle : t ≤ tN T) (hzb : z = if base = 32 then l - 1 else l) : Text_takeRun S0 (some 1) (iI l) (iI u) (iI base) (I, J, Pst b f) = some (hup I 1 4 (iI ((t + rnL T l u t : Nat) : Int)), hup J 1 5 (lI (cdF T z base t (rnL T l u t))), Pst b f) := by
  have hr := cl_run (J := J) (b := b) (f := f) hA ht hl hz hbs h4 h5 hle
  have hj : ((if iI base = (32 : Int32) then (some (iI l - 1)) else (some (iI l))) : Option Int32) = some (iI z) := by
    by_cases e : base = 32
    · rw [if_pos (by rw [e]; rfl), hzb, if_pos e, n_1, iI_sub]
    · rw [if_neg (by rw [n_32, iI_eq (by omega)]; exact e), hzb, if_neg e]
  unfold Text_takeRun
  rw [rc1, Option.bind_some, hj, Option.bind_some, hr, Option.bind_some]
set_option maxHeartbeats 8000000 in
theorem cl_advance (hA : cA T I) (ht : tvA T) (h4 : I 1 4 = iI (e : Int)) (he : e ≤ tN T) : ∃ I' J', Text_advance S0 (some 1) (I, J, Pst b f) = some (I', J', Pst b f) ∧ txF I J I' J' ∧ tkC T (skp T e) I' J' := by
  have h1 := tN_I ht
  have h2 := tN_le ht
  have hsk := cl_skip (J := J) (b := b) (f := f) hA ht he
  have hs := skp_le he
  generalize skp T e = s at *
  have f2 : txF I J (hup (hup I 1 3 (iI (s : Int))) 1 4 (iI (s : Int))) (hup J 1 5 (lI 0)) := ((txF.refl.wI (by omega)).wI (by omega)).wJ
  have hA2 := f2.cA hA
  have hsg := cl_signAt (J := hup J 1 5 (lI 0)) (b := b) (f := f) (k := s) hA2 ht (by omega)
  have g3 : hup (hup I 1 3 (iI (s : Int))) 1 4 (iI (s : Int)) 1 3 = iI (s : Int) := by simp [hup]
  have fk : ∀ v, txF I J (hup (hup (hup I 1 3 (iI (s : Int))) 1 4 (iI (s : Int))) 1 2 v) (hup J 1 5 (lI 0)) := fun v => f2.wI (by omega)
  have hpre : ∀ Y, (if iI (s : Int) < iI (T 0 0) then (((if iI (if s < tN T then T 1 s else -1) < 97 then (some (.inl ())) else (if 122 < iI (if s < tN T then T 1 s else -1) then (some (.inl ())) else ((pI S0 10 2 (hup (hup I 1 3 (iI (s : Int))) 1 4 (iI (s : Int)), hup J 1 5 (lI 0), Pst b f) (some 1) 1).bind fun V27 => (Text_takeRun S0 (some 1) 97 122 32 V27).bind fun V28 => some (.inr V28)))) : Option (Unit ⊕ hV)).bind fun k102 => Sum.elim (fun e102 => ((if iI (if s < tN T then T 1 s else -1) < 48 then (some (.inl ())) else (if 57 < iI (if s < tN T then T 1 s else -1) then (some (.inl ())) else ((pI S0 10 2 (hup (hup I 1 3 (iI (s : Int))) 1 4 (iI (s : Int)), hup J 1 5 (lI 0), Pst b f) (some 1) 2).bind fun V24 => (Text_takeRun S0 (some 1) 48 57 10 V24).bind fun V25 => some (.inr V25)))) : Option (Unit ⊕ hV)).bind fun k132 => Sum.elim (fun e132 => ((if iI (if s < tN T then T 1 s else -1) = 59 then (some 3) else (some 4)) : Option Int32).bind fun j163 => (pI S0 10 2 (hup (hup I 1 3 (iI (s : Int))) 1 4 (iI (s : Int)), hup J 1 5 (lI 0), Pst b f) (some 1) j163).bind fun V21 => (gI S0 10 3 V21 (some 1)).bind fun x22 => (pI S0 10 4 V21 (some 1) (x22 + 1)).bind fun V23 => some V23) (fun v => some v) k132) (fun v => some v) k102) else ((pI S0 10 2 (hup (hup I 1 3 (iI (s : Int))) 1 4 (iI (s : Int)), hup J 1 5 (lI 0), Pst b f) (some 1) 0).bind fun V30 => some V30)) = Y → Text_advance S0 (some 1) (I, J, Pst b f) = Y := fun Y hY => by
    unfold Text_advance
    rw [rc1, Option.bind_some, gi1, h4, Option.bind_some, pi1, Option.bind_some, hsk, Option.bind_some, gi1, hup_same, Option.bind_some, pi1, Option.bind_some, l_0, pl1, Option.bind_some, gi1, g3, Option.bind_some, hsg, Option.bind_some, Option.bind_some, gi1, hA2.1, Option.bind_some]
    exact hY
  by_cases q : s < tN T
  · rw [if_pos q] at hpre
    have hv := ht.2 s (by omega)
    by_cases qw : isB T 97 122 s = true
    · have hw := qw
      simp only [isB, decide_eq_true_eq] at hw
      have hrun := cl_takeRun (l := 97) (u := 122) (z := 96) (base := 32) (I := hup (hup (hup I 1 3 (iI (s : Int))) 1 4 (iI (s : Int))) 1 2 (iI 1)) (J := hup J 1 5 (lI 0)) (b := b) (f := f) (t := s) ((fk _).cA hA) ht (by omega) (by omega) (by omega) (by simp [hup]) (hup_same _ _ _ _) hs.2 (by rw [if_pos rfl]; omega)
      refine ⟨hup (hup (hup (hup I 1 3 (iI (s : Int))) 1 4 (iI (s : Int))) 1 2 (iI 1)) 1 4 (iI ((s + rnL T 97 122 s : Nat) : Int)), hup (hup J 1 5 (lI 0)) 1 5 (lI (cdF T 96 32 s (rnL T 97 122 s))), hpre _ ?_, ?_, ⟨?_, ?_, ?_⟩, ?_, hs.2⟩
      · rw [if_pos (by rw [iI_lt (by omega)]; omega), if_neg (by rw [n_97, iI_lt (by omega)]; omega), if_neg (by rw [n_122, iI_lt (by omega)]; omega), pi1, Option.bind_some, n_97, n_122, n_32, n_1, hrun, Option.bind_some, Option.bind_some, Sum.elim_inr]
      · exact ((fk _).wI (by omega)).wJ
      · simp [hup]
      · rw [hup_same]; unfold tEn; rw [if_neg (by omega), if_pos qw]
      · unfold kd; rw [if_neg (by omega), if_pos qw]; simp [hup]
      · rw [hup_same]; unfold cd; rw [if_neg (by omega), if_pos qw]
    · have hw : ¬ (97 ≤ T 1 s ∧ T 1 s ≤ 122) := by simpa [isB] using qw
      have h102 : ((if iI (T 1 s) < 97 then (some (.inl ())) else (if 122 < iI (T 1 s) then (some (.inl ())) else ((pI S0 10 2 (hup (hup I 1 3 (iI (s : Int))) 1 4 (iI (s : Int)), hup J 1 5 (lI 0), Pst b f) (some 1) 1).bind fun V27 => (Text_takeRun S0 (some 1) 97 122 32 V27).bind fun V28 => some (.inr V28)))) : Option (Unit ⊕ hV)) = some (.inl ()) := by
        by_cases z : T 1 s < 97
        · rw [if_pos (by rw [n_97, iI_lt (by omega)]; exact z)]
        · rw [if_neg (by rw [n_97, iI_lt (by omega)]; exact z), if_pos (by rw [n_122, iI_lt (by omega)]; omega)]
      by_cases qn : isB T 48 57 s = true
      · have hn := qn
        simp only [isB, decide_eq_true_eq] at hn
        have hrun := cl_takeRun (l := 48) (u := 57) (z := 48) (base := 10) (I := hup (hup (hup I 1 3 (iI (s : Int))) 1 4 (iI (s : Int))) 1 2 (iI 2)) (J := hup J 1 5 (lI 0)) (b := b) (f := f) (t := s) ((fk _).cA hA) ht (by omega) (by omega) (by omega) (by simp [hup]) (hup_same _ _ _ _) hs.2 (by rw [if_neg (by omega)])
        refine ⟨hup (hup (hup (hup I 1 3 (iI (s : Int))) 1 4 (iI (s : Int))) 1 2 (iI 2)) 1 4 (iI ((s + rnL T 48 57 s : Nat) : Int)), hup (hup J 1 5 (lI 0)) 1 5 (lI (cdF T 48 10 s (rnL T 48 57 s))), hpre _ ?_, ?_, ⟨?_, ?_, ?_⟩, ?_, hs.2⟩
        · rw [if_pos (by rw [iI_lt (by omega)]; omega), h102, Option.bind_some, Sum.elim_inl, if_neg (by rw [n_48, iI_lt (by omega)]; omega), if_neg (by rw [n_57, iI_lt (by omega)]; omega), pi1, Option.bind_some, n_48, n_57, n_10, n_2, hrun, Option.bind_some, Option.bind_some, Sum.elim_inr]
        · exact ((fk _).wI (by omega)).wJ
        · simp [hup]
        · rw [hup_same]; unfold tEn; rw [if_neg (by omega), if_neg qw, if_pos qn]
        · unfold kd; rw [if_neg (by omega), if_neg qw, if_pos qn]; simp [hup]
        · rw [hup_same]; unfold cd; rw [if_neg (by omega), if_neg qw, if_pos qn]
      · have hn : ¬ (48 ≤ T 1 s ∧ T 1 s ≤ 57) := by simpa [isB] using qn
        have h132 : ((if iI (T 1 s) < 48 then (some (.inl ())) else (if 57 < iI (T 1 s) then (some (.inl ())) else ((pI S0 10 2 (hup (hup I 1 3 (iI (s : Int))) 1 4 (iI (s : Int)), hup J 1 5 (lI 0), Pst b f) (some 1) 2).bind fun V24 => (Text_takeRun S0 (some 1) 48 57 10 V24).bind fun V25 => some (.inr V25)))) : Option (Unit ⊕ hV)) = some (.inl ()) := by
          by_cases z : T 1 s < 48
          · rw [if_pos (by rw [n_48, iI_lt (by omega)]; exact z)]
          · rw [if_neg (by rw [n_48, iI_lt (by omega)]; exact z), if_pos (by rw [n_57, iI_lt (by omega)]; omega)]
        have h163 : ((if iI (T 1 s) = 59 then (some 3) else (some 4)) : Option Int32) = some (iI (if T 1 s = 59 then 3 else 4)) := by
          by_cases z : T 1 s = 59
          · rw [if_pos (by rw [z]; rfl), if_pos z]; rfl
          · rw [if_neg (by rw [n_59, iI_eq (by omega)]; exact z), if_neg z]; rfl
        refine ⟨hup (hup (hup (hup I 1 3 (iI (s : Int))) 1 4 (iI (s : Int))) 1 2 (iI (if T 1 s = 59 then 3 else 4))) 1 4 (iI ((s + 1 : Nat) : Int)), hup J 1 5 (lI 0), hpre _ ?_, ?_, ⟨?_, ?_, ?_⟩, ?_, hs.2⟩
        · have g3' : ∀ v, hup (hup (hup I 1 3 (iI (s : Int))) 1 4 (iI (s : Int))) 1 2 v 1 3 = iI (s : Int) := fun v => by simp [hup]
          rw [if_pos (by rw [iI_lt (by omega)]; omega), h102, Option.bind_some, Sum.elim_inl, h132, Option.bind_some, Sum.elim_inl, h163, Option.bind_some, pi1, Option.bind_some, gi1, g3', Option.bind_some, n_1, iI_add, pi1, Option.bind_some]
          rfl
        · exact (fk _).wI (by omega)
        · simp [hup]
        · rw [hup_same]; unfold tEn; rw [if_neg (by omega), if_neg qw, if_neg qn]
        · rw [show kd T s = if T 1 s = 59 then 3 else 4 by unfold kd; rw [if_neg (show ¬ tN T ≤ s by omega), if_neg qw, if_neg qn]]; simp [hup]
        · rw [hup_same]; unfold cd; rw [if_neg (by omega), if_neg qw, if_neg qn]
  · refine ⟨hup (hup (hup I 1 3 (iI (s : Int))) 1 4 (iI (s : Int))) 1 2 (iI 0), hup J 1 5 (lI 0), hpre _ ?_, ?_, ⟨?_, ?_, ?_⟩, ?_, hs.2⟩
    · rw [if_neg (by rw [iI_lt (by omega)]; omega), pi1, Option.bind_some]
      rfl
    · exact fk _
    · simp [hup]
    · unfold tEn; rw [if_pos (by omega)]; simp [hup]
    · unfold kd; rw [if_pos (by omega)]; simp [hup]
    · rw [hup_same]; unfold cd; rw [if_pos (by omega)]
/-! the model -/
def tkM (T : Tb) (t : Nat) (I : Nat → Nat → Int32) : Prop := (I 132 2 = iI (t : Int) ∧ I 132 3 = iI (tEn T t : Int)) ∧ t ≤ tN T
abbrev zT (k : Nat) : Prop := k = 2 ∨ k = 3
abbrev sA (o : Nat) : Prop := True
set_option maxHeartbeats 8000000 in
theorem mA.frT (h : mA T I) (ha : frM zT sA I I') : mA T I' := ⟨(ha.2 1 (by omega)).trans h.1, fun k hk => (ha.1 133 ⟨by omega, trivial⟩ k).trans (h.2 k hk)⟩
set_option maxHeartbeats 8000000 in
theorem mo_between {l u : Int} (hA : mA T I) (ht : tvA T) (hk : k ≤ tN T) (hl : rg l ∧ rg u) : Mo_between S0 (some 132) (iI (k : Int)) (iI l) (iI u) (I, J, Pst b f) = some (bI (decide (k < tN T) && isB T l u k)) := by
  have h1 := tN_I ht
  have h2 := tN_le ht
  by_cases e : k < tN T
  · have hv := ht.2 k (by omega)
    have hb := hA.2 k (by omega)
    rw [decide_eq_true e, Bool.true_and]
    unfold isB
    by_cases z : T 1 k < l
    · rw [decide_eq_false (show ¬ (l ≤ T 1 k ∧ T 1 k ≤ u) by omega)]
      simp (maxSteps := 4000000) (disch := omega) only [Mo_between, rc132, gi132, gl132, pi132, pl132, pz132, pr132, gr132_0, gr132_6, gr132_7, gr132_8, gr132_9, gr132_10, gr132_11, gr132_12, gr132_13, gr132_14, gr132_15, gr132_16, gr132_17, gr132_18, gr132_19, gr132_20, gr132_21, gr132_22, gr132_23, gr132_24, gr132_25, gr132_27, gr132_28, gr132_29, gr132_30, gr132_32, gr132_33, gr132_34, gr132_35, gr132_36, gr132_37, gr132_38, gr132_39, gr132_40, gr132_41, gr132_42, gr132_44, gr132_45, gr132_46, gr132_47, gr132_48, gr132_49, gr132_50, gr132_51, gr132_61, gr132_62, gr132_63, ar134_0, ar134_1, ar137_0, ar137_1, ar140_0, ar140_1, ar143_0, ar143_1, ar146_0, ar146_1, ar149_0, ar149_1, ar152_0, ar152_1, ar155_0, ar155_1, ar158_0, ar158_1, ar164_0, ar164_1, ar164_2, ar164_3, ar164_4, ar164_5, ar164_6, ar164_7, ar164_8, ld133, st133, an133, an134, ld135, st135, an135, ld136, st136, an136, an137, ld138, st138, an138, ld139, st139, an139, an140, ld141, st141, an141, ld142, st142, an142, an143, ld144, st144, an144, ld145, st145, an145, an146, ld147, st147, an147, ld148, st148, an148, an149, ld150, st150, an150, ld151, st151, an151, an152, ld153, st153, an153, ld154, st154, an154, an155, ld156, st156, an156, ld157, st157, an157, an158, ld159, st159, an159, ld160, st160, an160, ld161, st161, an161, ld162, st162, an162, ld163, st163, an163, an164, ld165, st165, an165, ld166, st166, an166, ld167, st167, an167, ld168, st168, an168, ld169, st169, an169, ld170, st170, an170, ld171, st171, an171, ld172, st172, an172, ld173, st173, an173, ld174, st174, an174, ld175, st175, an175, ld176, st176, an176, ld177, st177, an177, ld178, st178, an178, ld179, st179, an179, ld180, st180, an180, ld181, st181, an181, ld182, st182, an182, ld183, st183, an183, ld184, st184, an184, ld185, st185, an185, ld186, st186, an186, ld187, st187, an187, ld188, st188, an188, ld189, st189, an189, ld190, st190, an190, ld191, st191, an191, ld192, st192, an192, ld193, st193, an193, ld194, st194, an194, ld195, st195, an195, ld196, st196, an196, ld197, st197, an197, Option.bind_some, if_true, if_false, n_0, n_1, n_2, n_3, n_4, n_5, n_6, n_7, n_8, n_9, n_10, n_12, n_15, n_20, n_24, n_32, n_48, n_57, n_59, n_80, n_97, n_99, n_100, n_122, n_680, n_700, n_999, n_1023, n_1024, iI_neg, iI_add, iI_sub, iI_le, iI_lt, hA.1, show ¬ T 0 0 ≤ (k : Int) by omega, Int.toNat_natCast, hb, z]
      rfl
    · by_cases z2 : u < T 1 k
      · rw [decide_eq_false (show ¬ (l ≤ T 1 k ∧ T 1 k ≤ u) by omega)]
        simp (maxSteps := 4000000) (disch := omega) only [Mo_between, rc132, gi132, gl132, pi132, pl132, pz132, pr132, gr132_0, gr132_6, gr132_7, gr132_8, gr132_9, gr132_10, gr132_11, gr132_12, gr132_13, gr132_14, gr132_15, gr132_16, gr132_17, gr132_18, gr132_19, gr132_20, gr132_21, gr132_22, gr132_23, gr132_24, gr132_25, gr132_27, gr132_28, gr132_29, gr132_30, gr132_32, gr132_33, gr132_34, gr132_35, gr132_36, gr132_37, gr132_38, gr132_39, gr132_40, gr132_41, gr132_42, gr132_44, gr132_45, gr132_46, gr132_47, gr132_48, gr132_49, gr132_50, gr132_51, gr132_61, gr132_62, gr132_63, ar134_0, ar134_1, ar137_0, ar137_1, ar140_0, ar140_1, ar143_0, ar143_1, ar146_0, ar146_1, ar149_0, ar149_1, ar152_0, ar152_1, ar155_0, ar155_1, ar158_0, ar158_1, ar164_0, ar164_1, ar164_2, ar164_3, ar164_4, ar164_5, ar164_6, ar164_7, ar164_8, ld133, st133, an133, an134, ld135, st135, an135, ld136, st136, an136, an137, ld138, st138, an138, ld139, st139, an139, an140, ld141, st141, an141, ld142, st142, an142, an143, ld144, st144, an144, ld145, st145, an145, an146, ld147, st147, an147, ld148, st148, an148, an149, ld150, st150, an150, ld151, st151, an151, an152, ld153, st153, an153, ld154, st154, an154, an155, ld156, st156, an156, ld157, st157, an157, an158, ld159, st159, an159, ld160, st160, an160, ld161, st161, an161, ld162, st162, an162, ld163, st163, an163, an164, ld165, st165, an165, ld166, st166, an166, ld167, st167, an167, ld168, st168, an168, ld169, st169, an169, ld170, st170, an170, ld171, st171, an171, ld172, st172, an172, ld173, st173, an173, ld174, st174, an174, ld175, st175, an175, ld176, st176, an176, ld177, st177, an177, ld178, st178, an178, ld179, st179, an179, ld180, st180, an180, ld181, st181, an181, ld182, st182, an182, ld183, st183, an183, ld184, st184, an184, ld185, st185, an185, ld186, st186, an186, ld187, st187, an187, ld188, st188, an188, ld189, st189, an189, ld190, st190, an190, ld191, st191, an191, ld192, st192, an192, ld193, st193, an193, ld194, st194, an194, ld195, st195, an195, ld196, st196, an196, ld197, st197, an197, Option.bind_some, if_true, if_false, n_0, n_1, n_2, n_3, n_4, n_5, n_6, n_7, n_8, n_9, n_10, n_12, n_15, n_20, n_24, n_32, n_48, n_57, n_59, n_80, n_97, n_99, n_100, n_122, n_680, n_700, n_999, n_1023, n_1024, iI_neg, iI_add, iI_sub, iI_le, iI_lt, hA.1, show ¬ T 0 0 ≤ (k : Int) by omega, Int.toNat_natCast, hb, z, z2]
        rfl
      · rw [decide_eq_true (show l ≤ T 1 k ∧ T 1 k ≤ u by omega)]
        simp (maxSteps := 4000000) (disch := omega) only [Mo_between, rc132, gi132, gl132, pi132, pl132, pz132, pr132, gr132_0, gr132_6, gr132_7, gr132_8, gr132_9, gr132_10, gr132_11, gr132_12, gr132_13, gr132_14, gr132_15, gr132_16, gr132_17, gr132_18, gr132_19, gr132_20, gr132_21, gr132_22, gr132_23, gr132_24, gr132_25, gr132_27, gr132_28, gr132_29, gr132_30, gr132_32, gr132_33, gr132_34, gr132_35, gr132_36, gr132_37, gr132_38, gr132_39, gr132_40, gr132_41, gr132_42, gr132_44, gr132_45, gr132_46, gr132_47, gr132_48, gr132_49, gr132_50, gr132_51, gr132_61, gr132_62, gr132_63, ar134_0, ar134_1, ar137_0, ar137_1, ar140_0, ar140_1, ar143_0, ar143_1, ar146_0, ar146_1, ar149_0, ar149_1, ar152_0, ar152_1, ar155_0, ar155_1, ar158_0, ar158_1, ar164_0, ar164_1, ar164_2, ar164_3, ar164_4, ar164_5, ar164_6, ar164_7, ar164_8, ld133, st133, an133, an134, ld135, st135, an135, ld136, st136, an136, an137, ld138, st138, an138, ld139, st139, an139, an140, ld141, st141, an141, ld142, st142, an142, an143, ld144, st144, an144, ld145, st145, an145, an146, ld147, st147, an147, ld148, st148, an148, an149, ld150, st150, an150, ld151, st151, an151, an152, ld153, st153, an153, ld154, st154, an154, an155, ld156, st156, an156, ld157, st157, an157, an158, ld159, st159, an159, ld160, st160, an160, ld161, st161, an161, ld162, st162, an162, ld163, st163, an163, an164, ld165, st165, an165, ld166, st166, an166, ld167, st167, an167, ld168, st168, an168, ld169, st169, an169, ld170, st170, an170, ld171, st171, an171, ld172, st172, an172, ld173, st173, an173, ld174, st174, an174, ld175, st175, an175, ld176, st176, an176, ld177, st177, an177, ld178, st178, an178, ld179, st179, an179, ld180, st180, an180, ld181, st181, an181, ld182, st182, an182, ld183, st183, an183, ld184, st184, an184, ld185, st185, an185, ld186, st186, an186, ld187, st187, an187, ld188, st188, an188, ld189, st189, an189, ld190, st190, an190, ld191, st191, an191, ld192, st192, an192, ld193, st193, an193, ld194, st194, an194, ld195, st195, an195, ld196, st196, an196, ld197, st197, an197, Option.bind_some, if_true, if_false, n_0, n_1, n_2, n_3, n_4, n_5, n_6, n_7, n_8, n_9, n_10, n_12, n_15, n_20, n_24, n_32, n_48, n_57, n_59, n_80, n_97, n_99, n_100, n_122, n_680, n_700, n_999, n_1023, n_1024, iI_neg, iI_add, iI_sub, iI_le, iI_lt, hA.1, show ¬ T 0 0 ≤ (k : Int) by omega, Int.toNat_natCast, hb, z, z2]
        rfl
  · rw [decide_eq_false e, Bool.false_and]
    simp (maxSteps := 4000000) (disch := omega) only [Mo_between, rc132, gi132, gl132, pi132, pl132, pz132, pr132, gr132_0, gr132_6, gr132_7, gr132_8, gr132_9, gr132_10, gr132_11, gr132_12, gr132_13, gr132_14, gr132_15, gr132_16, gr132_17, gr132_18, gr132_19, gr132_20, gr132_21, gr132_22, gr132_23, gr132_24, gr132_25, gr132_27, gr132_28, gr132_29, gr132_30, gr132_32, gr132_33, gr132_34, gr132_35, gr132_36, gr132_37, gr132_38, gr132_39, gr132_40, gr132_41, gr132_42, gr132_44, gr132_45, gr132_46, gr132_47, gr132_48, gr132_49, gr132_50, gr132_51, gr132_61, gr132_62, gr132_63, ar134_0, ar134_1, ar137_0, ar137_1, ar140_0, ar140_1, ar143_0, ar143_1, ar146_0, ar146_1, ar149_0, ar149_1, ar152_0, ar152_1, ar155_0, ar155_1, ar158_0, ar158_1, ar164_0, ar164_1, ar164_2, ar164_3, ar164_4, ar164_5, ar164_6, ar164_7, ar164_8, ld133, st133, an133, an134, ld135, st135, an135, ld136, st136, an136, an137, ld138, st138, an138, ld139, st139, an139, an140, ld141, st141, an141, ld142, st142, an142, an143, ld144, st144, an144, ld145, st145, an145, an146, ld147, st147, an147, ld148, st148, an148, an149, ld150, st150, an150, ld151, st151, an151, an152, ld153, st153, an153, ld154, st154, an154, an155, ld156, st156, an156, ld157, st157, an157, an158, ld159, st159, an159, ld160, st160, an160, ld161, st161, an161, ld162, st162, an162, ld163, st163, an163, an164, ld165, st165, an165, ld166, st166, an166, ld167, st167, an167, ld168, st168, an168, ld169, st169, an169, ld170, st170, an170, ld171, st171, an171, ld172, st172, an172, ld173, st173, an173, ld174, st174, an174, ld175, st175, an175, ld176, st176, an176, ld177, st177, an177, ld178, st178, an178, ld179, st179, an179, ld180, st180, an180, ld181, st181, an181, ld182, st182, an182, ld183, st183, an183, ld184, st184, an184, ld185, st185, an185, ld186, st186, an186, ld187, st187, an187, ld188, st188, an188, ld189, st189, an189, ld190, st190, an190, ld191, st191, an191, ld192, st192, an192, ld193, st193, an193, ld194, st194, an194, ld195, st195, an195, ld196, st196, an196, ld197, st197, an197, Option.bind_some, if_true, if_false, n_0, n_1, n_2, n_3, n_4, n_5, n_6, n_7, n_8, n_9, n_10, n_12, n_15, n_20, n_24, n_32, n_48, n_57, n_59, n_80, n_97, n_99, n_100, n_122, n_680, n_700, n_999, n_1023, n_1024, iI_neg, iI_add, iI_sub, iI_le, iI_lt, hA.1, show T 0 0 ≤ (k : Int) by omega]
    rfl
set_option maxHeartbeats 8000000 in
theorem mo_skip (hA : mA T I) (ht : tvA T) (he : e ≤ tN T) : jloop (Mo_next_L8 S0 (some 132)) jN (hup I 132 2 (iI (e : Int)), J, Pst b f) = some (hup I 132 2 (iI (skp T e : Int)), J, Pst b f) := by
  have h1 := tN_I ht
  have h2 := tN_le ht
  have hle := fst_le (fun i => !blk T (e + i)) (tN T - e)
  have hAf : ∀ v, mA T (hup I 132 2 v) := fun v => hA.frT ((frM.refl _ _ _).fld (show zT 2 by omega))
  refine jfun (fun k => (hup I 132 2 (iI ((e + k : Nat) : Int)), J, Pst b f)) (fst_ (tN T - e) (fun i => !blk T (e + i))) rfl (fun k hk => ?_) ?_ (by omega)
  · have hn := fst_not hk
    have hA' := hAf (iI ((e + k : Nat) : Int))
    have hv := ht.2 (e + k) (by omega)
    have hbb := hA'.2 (e + k) (by omega)
    have hb : T 1 (e + k) = 32 ∨ T 1 (e + k) = 10 := by
      have : blk T (e + k) = true := by simpa using hn
      simpa [blk] using this
    rcases hb with q | q
    · rw [q] at hbb
      simp (maxSteps := 4000000) (disch := omega) only [Mo_next_L8, rc132, gi132, gl132, pi132, pl132, pz132, pr132, gr132_0, gr132_6, gr132_7, gr132_8, gr132_9, gr132_10, gr132_11, gr132_12, gr132_13, gr132_14, gr132_15, gr132_16, gr132_17, gr132_18, gr132_19, gr132_20, gr132_21, gr132_22, gr132_23, gr132_24, gr132_25, gr132_27, gr132_28, gr132_29, gr132_30, gr132_32, gr132_33, gr132_34, gr132_35, gr132_36, gr132_37, gr132_38, gr132_39, gr132_40, gr132_41, gr132_42, gr132_44, gr132_45, gr132_46, gr132_47, gr132_48, gr132_49, gr132_50, gr132_51, gr132_61, gr132_62, gr132_63, ar134_0, ar134_1, ar137_0, ar137_1, ar140_0, ar140_1, ar143_0, ar143_1, ar146_0, ar146_1, ar149_0, ar149_1, ar152_0, ar152_1, ar155_0, ar155_1, ar158_0, ar158_1, ar164_0, ar164_1, ar164_2, ar164_3, ar164_4, ar164_5, ar164_6, ar164_7, ar164_8, ld133, st133, an133, an134, ld135, st135, an135, ld136, st136, an136, an137, ld138, st138, an138, ld139, st139, an139, an140, ld141, st141, an141, ld142, st142, an142, an143, ld144, st144, an144, ld145, st145, an145, an146, ld147, st147, an147, ld148, st148, an148, an149, ld150, st150, an150, ld151, st151, an151, an152, ld153, st153, an153, ld154, st154, an154, an155, ld156, st156, an156, ld157, st157, an157, an158, ld159, st159, an159, ld160, st160, an160, ld161, st161, an161, ld162, st162, an162, ld163, st163, an163, an164, ld165, st165, an165, ld166, st166, an166, ld167, st167, an167, ld168, st168, an168, ld169, st169, an169, ld170, st170, an170, ld171, st171, an171, ld172, st172, an172, ld173, st173, an173, ld174, st174, an174, ld175, st175, an175, ld176, st176, an176, ld177, st177, an177, ld178, st178, an178, ld179, st179, an179, ld180, st180, an180, ld181, st181, an181, ld182, st182, an182, ld183, st183, an183, ld184, st184, an184, ld185, st185, an185, ld186, st186, an186, ld187, st187, an187, ld188, st188, an188, ld189, st189, an189, ld190, st190, an190, ld191, st191, an191, ld192, st192, an192, ld193, st193, an193, ld194, st194, an194, ld195, st195, an195, ld196, st196, an196, ld197, st197, an197, Option.bind_some, if_true, if_false, n_0, n_1, n_2, n_3, n_4, n_5, n_6, n_7, n_8, n_9, n_10, n_12, n_15, n_20, n_24, n_32, n_48, n_57, n_59, n_80, n_97, n_99, n_100, n_122, n_680, n_700, n_999, n_1023, n_1024, iI_neg, iI_add, iI_sub, iI_le, iI_eq, hup_same, hA'.1, show ¬ T 0 0 ≤ ((e + k : Nat) : Int) by omega, Int.toNat_natCast, hbb, Sum.elim_inl, hup_hup]
      rfl
    · rw [q] at hbb
      simp (maxSteps := 4000000) (disch := omega) only [Mo_next_L8, rc132, gi132, gl132, pi132, pl132, pz132, pr132, gr132_0, gr132_6, gr132_7, gr132_8, gr132_9, gr132_10, gr132_11, gr132_12, gr132_13, gr132_14, gr132_15, gr132_16, gr132_17, gr132_18, gr132_19, gr132_20, gr132_21, gr132_22, gr132_23, gr132_24, gr132_25, gr132_27, gr132_28, gr132_29, gr132_30, gr132_32, gr132_33, gr132_34, gr132_35, gr132_36, gr132_37, gr132_38, gr132_39, gr132_40, gr132_41, gr132_42, gr132_44, gr132_45, gr132_46, gr132_47, gr132_48, gr132_49, gr132_50, gr132_51, gr132_61, gr132_62, gr132_63, ar134_0, ar134_1, ar137_0, ar137_1, ar140_0, ar140_1, ar143_0, ar143_1, ar146_0, ar146_1, ar149_0, ar149_1, ar152_0, ar152_1, ar155_0, ar155_1, ar158_0, ar158_1, ar164_0, ar164_1, ar164_2, ar164_3, ar164_4, ar164_5, ar164_6, ar164_7, ar164_8, ld133, st133, an133, an134, ld135, st135, an135, ld136, st136, an136, an137, ld138, st138, an138, ld139, st139, an139, an140, ld141, st141, an141, ld142, st142, an142, an143, ld144, st144, an144, ld145, st145, an145, an146, ld147, st147, an147, ld148, st148, an148, an149, ld150, st150, an150, ld151, st151, an151, an152, ld153, st153, an153, ld154, st154, an154, an155, ld156, st156, an156, ld157, st157, an157, an158, ld159, st159, an159, ld160, st160, an160, ld161, st161, an161, ld162, st162, an162, ld163, st163, an163, an164, ld165, st165, an165, ld166, st166, an166, ld167, st167, an167, ld168, st168, an168, ld169, st169, an169, ld170, st170, an170, ld171, st171, an171, ld172, st172, an172, ld173, st173, an173, ld174, st174, an174, ld175, st175, an175, ld176, st176, an176, ld177, st177, an177, ld178, st178, an178, ld179, st179, an179, ld180, st180, an180, ld181, st181, an181, ld182, st182, an182, ld183, st183, an183, ld184, st184, an184, ld185, st185, an185, ld186, st186, an186, ld187, st187, an187, ld188, st188, an188, ld189, st189, an189, ld190, st190, an190, ld191, st191, an191, ld192, st192, an192, ld193, st193, an193, ld194, st194, an194, ld195, st195, an195, ld196, st196, an196, ld197, st197, an197, Option.bind_some, if_true, if_false, n_0, n_1, n_2, n_3, n_4, n_5, n_6, n_7, n_8, n_9, n_10, n_12, n_15, n_20, n_24, n_32, n_48, n_57, n_59, n_80, n_97, n_99, n_100, n_122, n_680, n_700, n_999, n_1023, n_1024, iI_neg, iI_add, iI_sub, iI_le, iI_eq, hup_same, hA'.1, show ¬ T 0 0 ≤ ((e + k : Nat) : Int) by omega, Int.toNat_natCast, hbb, show ¬ (10 : Int) = 32 by omega, Sum.elim_inl, hup_hup]
      rfl
  · have hA' := hAf (iI (skp T e : Int))
    have hsk := skp_le he
    show Mo_next_L8 S0 (some 132) (hup I 132 2 (iI (skp T e : Int)), J, Pst b f) = some (.inr (hup I 132 2 (iI (skp T e : Int)), J, Pst b f))
    by_cases q : skp T e < tN T
    · have hv := ht.2 (skp T e) (by omega)
      have hbb := hA'.2 (skp T e) (by omega)
      have hb : ¬ (T 1 (skp T e) = 32 ∨ T 1 (skp T e) = 10) := by
        have hi := fst_is (p := fun i => !blk T (e + i)) (n := tN T - e) (by unfold skp at q; omega)
        have hi' : (!blk T (skp T e)) = true := hi
        simpa [blk] using hi'
      simp (maxSteps := 4000000) (disch := omega) only [Mo_next_L8, rc132, gi132, gl132, pi132, pl132, pz132, pr132, gr132_0, gr132_6, gr132_7, gr132_8, gr132_9, gr132_10, gr132_11, gr132_12, gr132_13, gr132_14, gr132_15, gr132_16, gr132_17, gr132_18, gr132_19, gr132_20, gr132_21, gr132_22, gr132_23, gr132_24, gr132_25, gr132_27, gr132_28, gr132_29, gr132_30, gr132_32, gr132_33, gr132_34, gr132_35, gr132_36, gr132_37, gr132_38, gr132_39, gr132_40, gr132_41, gr132_42, gr132_44, gr132_45, gr132_46, gr132_47, gr132_48, gr132_49, gr132_50, gr132_51, gr132_61, gr132_62, gr132_63, ar134_0, ar134_1, ar137_0, ar137_1, ar140_0, ar140_1, ar143_0, ar143_1, ar146_0, ar146_1, ar149_0, ar149_1, ar152_0, ar152_1, ar155_0, ar155_1, ar158_0, ar158_1, ar164_0, ar164_1, ar164_2, ar164_3, ar164_4, ar164_5, ar164_6, ar164_7, ar164_8, ld133, st133, an133, an134, ld135, st135, an135, ld136, st136, an136, an137, ld138, st138, an138, ld139, st139, an139, an140, ld141, st141, an141, ld142, st142, an142, an143, ld144, st144, an144, ld145, st145, an145, an146, ld147, st147, an147, ld148, st148, an148, an149, ld150, st150, an150, ld151, st151, an151, an152, ld153, st153, an153, ld154, st154, an154, an155, ld156, st156, an156, ld157, st157, an157, an158, ld159, st159, an159, ld160, st160, an160, ld161, st161, an161, ld162, st162, an162, ld163, st163, an163, an164, ld165, st165, an165, ld166, st166, an166, ld167, st167, an167, ld168, st168, an168, ld169, st169, an169, ld170, st170, an170, ld171, st171, an171, ld172, st172, an172, ld173, st173, an173, ld174, st174, an174, ld175, st175, an175, ld176, st176, an176, ld177, st177, an177, ld178, st178, an178, ld179, st179, an179, ld180, st180, an180, ld181, st181, an181, ld182, st182, an182, ld183, st183, an183, ld184, st184, an184, ld185, st185, an185, ld186, st186, an186, ld187, st187, an187, ld188, st188, an188, ld189, st189, an189, ld190, st190, an190, ld191, st191, an191, ld192, st192, an192, ld193, st193, an193, ld194, st194, an194, ld195, st195, an195, ld196, st196, an196, ld197, st197, an197, Option.bind_some, if_true, if_false, n_0, n_1, n_2, n_3, n_4, n_5, n_6, n_7, n_8, n_9, n_10, n_12, n_15, n_20, n_24, n_32, n_48, n_57, n_59, n_80, n_97, n_99, n_100, n_122, n_680, n_700, n_999, n_1023, n_1024, iI_neg, iI_add, iI_sub, iI_le, iI_eq, hup_same, hA'.1, show ¬ T 0 0 ≤ (skp T e : Int) by omega, Int.toNat_natCast, hbb, show ¬ T 1 (skp T e) = 32 by omega, show ¬ T 1 (skp T e) = 10 by omega, Sum.elim_inr]
    · simp (maxSteps := 4000000) (disch := omega) only [Mo_next_L8, rc132, gi132, gl132, pi132, pl132, pz132, pr132, gr132_0, gr132_6, gr132_7, gr132_8, gr132_9, gr132_10, gr132_11, gr132_12, gr132_13, gr132_14, gr132_15, gr132_16, gr132_17, gr132_18, gr132_19, gr132_20, gr132_21, gr132_22, gr132_23, gr132_24, gr132_25, gr132_27, gr132_28, gr132_29, gr132_30, gr132_32, gr132_33, gr132_34, gr132_35, gr132_36, gr132_37, gr132_38, gr132_39, gr132_40, gr132_41, gr132_42, gr132_44, gr132_45, gr132_46, gr132_47, gr132_48, gr132_49, gr132_50, gr132_51, gr132_61, gr132_62, gr132_63, ar134_0, ar134_1, ar137_0, ar137_1, ar140_0, ar140_1, ar143_0, ar143_1, ar146_0, ar146_1, ar149_0, ar149_1, ar152_0, ar152_1, ar155_0, ar155_1, ar158_0, ar158_1, ar164_0, ar164_1, ar164_2, ar164_3, ar164_4, ar164_5, ar164_6, ar164_7, ar164_8, ld133, st133, an133, an134, ld135, st135, an135, ld136, st136, an136, an137, ld138, st138, an138, ld139, st139, an139, an140, ld141, st141, an141, ld142, st142, an142, an143, ld144, st144, an144, ld145, st145, an145, an146, ld147, st147, an147, ld148, st148, an148, an149, ld150, st150, an150, ld151, st151, an151, an152, ld153, st153, an153, ld154, st154, an154, an155, ld156, st156, an156, ld157, st157, an157, an158, ld159, st159, an159, ld160, st160, an160, ld161, st161, an161, ld162, st162, an162, ld163, st163, an163, an164, ld165, st165, an165, ld166, st166, an166, ld167, st167, an167, ld168, st168, an168, ld169, st169, an169, ld170, st170, an170, ld171, st171, an171, ld172, st172, an172, ld173, st173, an173, ld174, st174, an174, ld175, st175, an175, ld176, st176, an176, ld177, st177, an177, ld178, st178, an178, ld179, st179, an179, ld180, st180, an180, ld181, st181, an181, ld182, st182, an182, ld183, st183, an183, ld184, st184, an184, ld185, st185, an185, ld186, st186, an186, ld187, st187, an187, ld188, st188, an188, ld189, st189, an189, ld190, st190, an190, ld191, st191, an191, ld192, st192, an192, ld193, st193, an193, ld194, st194, an194, ld195, st195, an195, ld196, st196, an196, ld197, st197, an197, Option.bind_some, if_true, if_false, n_0, n_1, n_2, n_3, n_4, n_5, n_6, n_7, n_8, n_9, n_10, n_12, n_15, n_20, n_24, n_32, n_48, n_57, n_59, n_80, n_97, n_99, n_100, n_122, n_680, n_700, n_999, n_1023, n_1024, iI_neg, iI_add, iI_sub, iI_le, iI_eq, hup_same, hA'.1, show T 0 0 ≤ (skp T e : Int) by omega]
set_option maxHeartbeats 8000000 in
theorem mo_runW (hA : mA T I) (ht : tvA T) (h3 : I 132 3 = iI (t : Int)) (hle : t ≤ tN T) : jloop (Mo_next_L83 S0 (some 132)) jN (I, J, Pst b f) = some (hup I 132 3 (iI ((t + rnL T 97 122 t : Nat) : Int)), J, Pst b f) := by
  have h1 := tN_I ht
  have h2 := tN_le ht
  have hrl := rnL_le (T := T) (l := 97) (u := 122) hle
  have hAf : ∀ v, mA T (hup I 132 3 v) := fun v => hA.frT ((frM.refl _ _ _).fld (show zT 3 by omega))
  refine jfun (fun k => (hup I 132 3 (iI ((t + k : Nat) : Int)), J, Pst b f)) (rnL T 97 122 t) ?_ (fun k hk => ?_) ?_ (by omega)
  · rw [Nat.add_zero, hup_id h3]
  · have hbt := mo_between (J := J) (b := b) (f := f) (l := 97) (u := 122) (k := t + k) (hAf (iI ((t + k : Nat) : Int))) ht (by omega) (by omega)
    rw [rnL_in hk, decide_eq_true (show t + k < tN T by omega)] at hbt
    simp (maxSteps := 4000000) (disch := omega) only [Mo_next_L83, rc132, gi132, gl132, pi132, pl132, pz132, pr132, gr132_0, gr132_6, gr132_7, gr132_8, gr132_9, gr132_10, gr132_11, gr132_12, gr132_13, gr132_14, gr132_15, gr132_16, gr132_17, gr132_18, gr132_19, gr132_20, gr132_21, gr132_22, gr132_23, gr132_24, gr132_25, gr132_27, gr132_28, gr132_29, gr132_30, gr132_32, gr132_33, gr132_34, gr132_35, gr132_36, gr132_37, gr132_38, gr132_39, gr132_40, gr132_41, gr132_42, gr132_44, gr132_45, gr132_46, gr132_47, gr132_48, gr132_49, gr132_50, gr132_51, gr132_61, gr132_62, gr132_63, ar134_0, ar134_1, ar137_0, ar137_1, ar140_0, ar140_1, ar143_0, ar143_1, ar146_0, ar146_1, ar149_0, ar149_1, ar152_0, ar152_1, ar155_0, ar155_1, ar158_0, ar158_1, ar164_0, ar164_1, ar164_2, ar164_3, ar164_4, ar164_5, ar164_6, ar164_7, ar164_8, ld133, st133, an133, an134, ld135, st135, an135, ld136, st136, an136, an137, ld138, st138, an138, ld139, st139, an139, an140, ld141, st141, an141, ld142, st142, an142, an143, ld144, st144, an144, ld145, st145, an145, an146, ld147, st147, an147, ld148, st148, an148, an149, ld150, st150, an150, ld151, st151, an151, an152, ld153, st153, an153, ld154, st154, an154, an155, ld156, st156, an156, ld157, st157, an157, an158, ld159, st159, an159, ld160, st160, an160, ld161, st161, an161, ld162, st162, an162, ld163, st163, an163, an164, ld165, st165, an165, ld166, st166, an166, ld167, st167, an167, ld168, st168, an168, ld169, st169, an169, ld170, st170, an170, ld171, st171, an171, ld172, st172, an172, ld173, st173, an173, ld174, st174, an174, ld175, st175, an175, ld176, st176, an176, ld177, st177, an177, ld178, st178, an178, ld179, st179, an179, ld180, st180, an180, ld181, st181, an181, ld182, st182, an182, ld183, st183, an183, ld184, st184, an184, ld185, st185, an185, ld186, st186, an186, ld187, st187, an187, ld188, st188, an188, ld189, st189, an189, ld190, st190, an190, ld191, st191, an191, ld192, st192, an192, ld193, st193, an193, ld194, st194, an194, ld195, st195, an195, ld196, st196, an196, ld197, st197, an197, Option.bind_some, if_true, if_false, n_0, n_1, n_2, n_3, n_4, n_5, n_6, n_7, n_8, n_9, n_10, n_12, n_15, n_20, n_24, n_32, n_48, n_57, n_59, n_80, n_97, n_99, n_100, n_122, n_680, n_700, n_999, n_1023, n_1024, iI_neg, iI_add, iI_sub, hup_same, hbt, Bool.and_self, bI_0, Bool.true_eq_false, hup_hup]
    rfl
  · have hbt := mo_between (J := J) (b := b) (f := f) (l := 97) (u := 122) (k := t + rnL T 97 122 t) (hAf (iI ((t + rnL T 97 122 t : Nat) : Int))) ht (by omega) (by omega)
    have hno : (decide (t + rnL T 97 122 t < tN T) && isB T 97 122 (t + rnL T 97 122 t)) = false := by
      by_cases q : t + rnL T 97 122 t < tN T
      · have hi := fst_is (p := fun i => !isB T 97 122 (t + i)) (n := tN T - t) (by unfold rnL at q; omega)
        have hi0 : (!isB T 97 122 (t + rnL T 97 122 t)) = true := hi
        rw [show isB T 97 122 (t + rnL T 97 122 t) = false by simpa using hi0, Bool.and_false]
      · rw [decide_eq_false q, Bool.false_and]
    rw [hno] at hbt
    simp (maxSteps := 4000000) (disch := omega) only [Mo_next_L83, rc132, gi132, gl132, pi132, pl132, pz132, pr132, gr132_0, gr132_6, gr132_7, gr132_8, gr132_9, gr132_10, gr132_11, gr132_12, gr132_13, gr132_14, gr132_15, gr132_16, gr132_17, gr132_18, gr132_19, gr132_20, gr132_21, gr132_22, gr132_23, gr132_24, gr132_25, gr132_27, gr132_28, gr132_29, gr132_30, gr132_32, gr132_33, gr132_34, gr132_35, gr132_36, gr132_37, gr132_38, gr132_39, gr132_40, gr132_41, gr132_42, gr132_44, gr132_45, gr132_46, gr132_47, gr132_48, gr132_49, gr132_50, gr132_51, gr132_61, gr132_62, gr132_63, ar134_0, ar134_1, ar137_0, ar137_1, ar140_0, ar140_1, ar143_0, ar143_1, ar146_0, ar146_1, ar149_0, ar149_1, ar152_0, ar152_1, ar155_0, ar155_1, ar158_0, ar158_1, ar164_0, ar164_1, ar164_2, ar164_3, ar164_4, ar164_5, ar164_6, ar164_7, ar164_8, ld133, st133, an133, an134, ld135, st135, an135, ld136, st136, an136, an137, ld138, st138, an138, ld139, st139, an139, an140, ld141, st141, an141, ld142, st142, an142, an143, ld144, st144, an144, ld145, st145, an145, an146, ld147, st147, an147, ld148, st148, an148, an149, ld150, st150, an150, ld151, st151, an151, an152, ld153, st153, an153, ld154, st154, an154, an155, ld156, st156, an156, ld157, st157, an157, an158, ld159, st159, an159, ld160, st160, an160, ld161, st161, an161, ld162, st162, an162, ld163, st163, an163, an164, ld165, st165, an165, ld166, st166, an166, ld167, st167, an167, ld168, st168, an168, ld169, st169, an169, ld170, st170, an170, ld171, st171, an171, ld172, st172, an172, ld173, st173, an173, ld174, st174, an174, ld175, st175, an175, ld176, st176, an176, ld177, st177, an177, ld178, st178, an178, ld179, st179, an179, ld180, st180, an180, ld181, st181, an181, ld182, st182, an182, ld183, st183, an183, ld184, st184, an184, ld185, st185, an185, ld186, st186, an186, ld187, st187, an187, ld188, st188, an188, ld189, st189, an189, ld190, st190, an190, ld191, st191, an191, ld192, st192, an192, ld193, st193, an193, ld194, st194, an194, ld195, st195, an195, ld196, st196, an196, ld197, st197, an197, Option.bind_some, if_true, if_false, n_0, n_1, n_2, n_3, n_4, n_5, n_6, n_7, n_8, n_9, n_10, n_12, n_15, n_20, n_24, n_32, n_48, n_57, n_59, n_80, n_97, n_99, n_100, n_122, n_680, n_700, n_999, n_1023, n_1024, iI_neg, iI_add, iI_sub, hup_same, hbt, bI_0]
set_option maxHeartbeats 8000000 in
theorem mo_runN (hA : mA T I) (ht : tvA T) (h3 : I 132 3 = iI (t : Int)) (hle : t ≤ tN T) : jloop (Mo_next_L126 S0 (some 132)) jN (I, J, Pst b f) = some (hup I 132 3 (iI ((t + rnL T 48 57 t : Nat) : Int)), J, Pst b f) := by
  have h1 := tN_I ht
  have h2 := tN_le ht
  have hrl := rnL_le (T := T) (l := 48) (u := 57) hle
  have hAf : ∀ v, mA T (hup I 132 3 v) := fun v => hA.frT ((frM.refl _ _ _).fld (show zT 3 by omega))
  refine jfun (fun k => (hup I 132 3 (iI ((t + k : Nat) : Int)), J, Pst b f)) (rnL T 48 57 t) ?_ (fun k hk => ?_) ?_ (by omega)
  · rw [Nat.add_zero, hup_id h3]
  · have hbt := mo_between (J := J) (b := b) (f := f) (l := 48) (u := 57) (k := t + k) (hAf (iI ((t + k : Nat) : Int))) ht (by omega) (by omega)
    rw [rnL_in hk, decide_eq_true (show t + k < tN T by omega)] at hbt
    simp (maxSteps := 4000000) (disch := omega) only [Mo_next_L126, rc132, gi132, gl132, pi132, pl132, pz132, pr132, gr132_0, gr132_6, gr132_7, gr132_8, gr132_9, gr132_10, gr132_11, gr132_12, gr132_13, gr132_14, gr132_15, gr132_16, gr132_17, gr132_18, gr132_19, gr132_20, gr132_21, gr132_22, gr132_23, gr132_24, gr132_25, gr132_27, gr132_28, gr132_29, gr132_30, gr132_32, gr132_33, gr132_34, gr132_35, gr132_36, gr132_37, gr132_38, gr132_39, gr132_40, gr132_41, gr132_42, gr132_44, gr132_45, gr132_46, gr132_47, gr132_48, gr132_49, gr132_50, gr132_51, gr132_61, gr132_62, gr132_63, ar134_0, ar134_1, ar137_0, ar137_1, ar140_0, ar140_1, ar143_0, ar143_1, ar146_0, ar146_1, ar149_0, ar149_1, ar152_0, ar152_1, ar155_0, ar155_1, ar158_0, ar158_1, ar164_0, ar164_1, ar164_2, ar164_3, ar164_4, ar164_5, ar164_6, ar164_7, ar164_8, ld133, st133, an133, an134, ld135, st135, an135, ld136, st136, an136, an137, ld138, st138, an138, ld139, st139, an139, an140, ld141, st141, an141, ld142, st142, an142, an143, ld144, st144, an144, ld145, st145, an145, an146, ld147, st147, an147, ld148, st148, an148, an149, ld150, st150, an150, ld151, st151, an151, an152, ld153, st153, an153, ld154, st154, an154, an155, ld156, st156, an156, ld157, st157, an157, an158, ld159, st159, an159, ld160, st160, an160, ld161, st161, an161, ld162, st162, an162, ld163, st163, an163, an164, ld165, st165, an165, ld166, st166, an166, ld167, st167, an167, ld168, st168, an168, ld169, st169, an169, ld170, st170, an170, ld171, st171, an171, ld172, st172, an172, ld173, st173, an173, ld174, st174, an174, ld175, st175, an175, ld176, st176, an176, ld177, st177, an177, ld178, st178, an178, ld179, st179, an179, ld180, st180, an180, ld181, st181, an181, ld182, st182, an182, ld183, st183, an183, ld184, st184, an184, ld185, st185, an185, ld186, st186, an186, ld187, st187, an187, ld188, st188, an188, ld189, st189, an189, ld190, st190, an190, ld191, st191, an191, ld192, st192, an192, ld193, st193, an193, ld194, st194, an194, ld195, st195, an195, ld196, st196, an196, ld197, st197, an197, Option.bind_some, if_true, if_false, n_0, n_1, n_2, n_3, n_4, n_5, n_6, n_7, n_8, n_9, n_10, n_12, n_15, n_20, n_24, n_32, n_48, n_57, n_59, n_80, n_97, n_99, n_100, n_122, n_680, n_700, n_999, n_1023, n_1024, iI_neg, iI_add, iI_sub, hup_same, hbt, Bool.and_self, bI_0, Bool.true_eq_false, hup_hup]
    rfl
  · have hbt := mo_between (J := J) (b := b) (f := f) (l := 48) (u := 57) (k := t + rnL T 48 57 t) (hAf (iI ((t + rnL T 48 57 t : Nat) : Int))) ht (by omega) (by omega)
    have hno : (decide (t + rnL T 48 57 t < tN T) && isB T 48 57 (t + rnL T 48 57 t)) = false := by
      by_cases q : t + rnL T 48 57 t < tN T
      · have hi := fst_is (p := fun i => !isB T 48 57 (t + i)) (n := tN T - t) (by unfold rnL at q; omega)
        have hi0 : (!isB T 48 57 (t + rnL T 48 57 t)) = true := hi
        rw [show isB T 48 57 (t + rnL T 48 57 t) = false by simpa using hi0, Bool.and_false]
      · rw [decide_eq_false q, Bool.false_and]
    rw [hno] at hbt
    simp (maxSteps := 4000000) (disch := omega) only [Mo_next_L126, rc132, gi132, gl132, pi132, pl132, pz132, pr132, gr132_0, gr132_6, gr132_7, gr132_8, gr132_9, gr132_10, gr132_11, gr132_12, gr132_13, gr132_14, gr132_15, gr132_16, gr132_17, gr132_18, gr132_19, gr132_20, gr132_21, gr132_22, gr132_23, gr132_24, gr132_25, gr132_27, gr132_28, gr132_29, gr132_30, gr132_32, gr132_33, gr132_34, gr132_35, gr132_36, gr132_37, gr132_38, gr132_39, gr132_40, gr132_41, gr132_42, gr132_44, gr132_45, gr132_46, gr132_47, gr132_48, gr132_49, gr132_50, gr132_51, gr132_61, gr132_62, gr132_63, ar134_0, ar134_1, ar137_0, ar137_1, ar140_0, ar140_1, ar143_0, ar143_1, ar146_0, ar146_1, ar149_0, ar149_1, ar152_0, ar152_1, ar155_0, ar155_1, ar158_0, ar158_1, ar164_0, ar164_1, ar164_2, ar164_3, ar164_4, ar164_5, ar164_6, ar164_7, ar164_8, ld133, st133, an133, an134, ld135, st135, an135, ld136, st136, an136, an137, ld138, st138, an138, ld139, st139, an139, an140, ld141, st141, an141, ld142, st142, an142, an143, ld144, st144, an144, ld145, st145, an145, an146, ld147, st147, an147, ld148, st148, an148, an149, ld150, st150, an150, ld151, st151, an151, an152, ld153, st153, an153, ld154, st154, an154, an155, ld156, st156, an156, ld157, st157, an157, an158, ld159, st159, an159, ld160, st160, an160, ld161, st161, an161, ld162, st162, an162, ld163, st163, an163, an164, ld165, st165, an165, ld166, st166, an166, ld167, st167, an167, ld168, st168, an168, ld169, st169, an169, ld170, st170, an170, ld171, st171, an171, ld172, st172, an172, ld173, st173, an173, ld174, st174, an174, ld175, st175, an175, ld176, st176, an176, ld177, st177, an177, ld178, st178, an178, ld179, st179, an179, ld180, st180, an180, ld181, st181, an181, ld182, st182, an182, ld183, st183, an183, ld184, st184, an184, ld185, st185, an185, ld186, st186, an186, ld187, st187, an187, ld188, st188, an188, ld189, st189, an189, ld190, st190, an190, ld191, st191, an191, ld192, st192, an192, ld193, st193, an193, ld194, st194, an194, ld195, st195, an195, ld196, st196, an196, ld197, st197, an197, Option.bind_some, if_true, if_false, n_0, n_1, n_2, n_3, n_4, n_5, n_6, n_7, n_8, n_9, n_10, n_12, n_15, n_20, n_24, n_32, n_48, n_57, n_59, n_80, n_97, n_99, n_100, n_122, n_680, n_700, n_999, n_1023, n_1024, iI_neg, iI_add, iI_sub, hup_same, hbt, bI_0]
set_option maxHeartbeats 8000000 in
theorem mo_tok (hA : mA T I) (ht : tvA T) (h3 : I 132 3 = iI (e : Int)) (he : e ≤ tN T) : ∃ I', Mo_next S0 (some 132) (I, J, Pst b f) = some (I', J, Pst b f) ∧ frM zT sA I I' ∧ tkM T (skp T e) I' := by
  have h1 := tN_I ht
  have h2 := tN_le ht
  have hsk := mo_skip (J := J) (b := b) (f := f) hA ht he
  have hs := skp_le he
  generalize skp T e = s at *
  have f2 : frM zT sA I (hup (hup I 132 2 (iI (s : Int))) 132 3 (iI (s : Int))) := ((frM.refl _ _ _).fld (show zT 2 by omega)).fld (show zT 3 by omega)
  have hA2 := hA.frT f2
  have g2 : hup (hup I 132 2 (iI (s : Int))) 132 3 (iI (s : Int)) 132 2 = iI (s : Int) := by simp [hup]
  have g3 : hup (hup I 132 2 (iI (s : Int))) 132 3 (iI (s : Int)) 132 3 = iI (s : Int) := hup_same _ _ _ _
  have hbw := mo_between (J := J) (b := b) (f := f) (l := 97) (u := 122) (k := s) hA2 ht hs.2 (by omega)
  have hbn := mo_between (J := J) (b := b) (f := f) (l := 48) (u := 57) (k := s) hA2 ht hs.2 (by omega)
  have hbw' : Mo_between S0 (some 132) (iI (s : Int)) 97 122 (hup (hup I 132 2 (iI (s : Int))) 132 3 (iI (s : Int)), J, Pst b f) = some (bI (decide (s < tN T) && isB T 97 122 s)) := hbw
  have hbn' : Mo_between S0 (some 132) (iI (s : Int)) 48 57 (hup (hup I 132 2 (iI (s : Int))) 132 3 (iI (s : Int)), J, Pst b f) = some (bI (decide (s < tN T) && isB T 48 57 s)) := hbn
  by_cases q : s < tN T
  · rw [decide_eq_true q, Bool.true_and] at hbw' hbn'
    by_cases qw : isB T 97 122 s = true
    · have hrun := mo_runW (J := J) (b := b) (f := f) hA2 ht g3 hs.2
      refine ⟨hup (hup (hup I 132 2 (iI (s : Int))) 132 3 (iI (s : Int))) 132 3 (iI ((s + rnL T 97 122 s : Nat) : Int)), ?_, f2.fld (show zT 3 by omega), ⟨?_, ?_⟩, hs.2⟩
      · unfold Mo_next
        rw [rc132, Option.bind_some, gi132, h3, Option.bind_some, pi132, Option.bind_some, hsk, Option.bind_some, gi132, hup_same, Option.bind_some, pi132, Option.bind_some, gi132, g2, Option.bind_some, hbw', qw, Option.bind_some, if_neg (by decide), hrun, Option.bind_some]
      · simp [hup]
      · rw [hup_same]; unfold tEn; rw [if_neg (by omega), if_pos qw]
    · have qw' : isB T 97 122 s = false := by simpa using qw
      by_cases qn : isB T 48 57 s = true
      · have hrun := mo_runN (J := J) (b := b) (f := f) hA2 ht g3 hs.2
        refine ⟨hup (hup (hup I 132 2 (iI (s : Int))) 132 3 (iI (s : Int))) 132 3 (iI ((s + rnL T 48 57 s : Nat) : Int)), ?_, f2.fld (show zT 3 by omega), ⟨?_, ?_⟩, hs.2⟩
        · unfold Mo_next
          rw [rc132, Option.bind_some, gi132, h3, Option.bind_some, pi132, Option.bind_some, hsk, Option.bind_some, gi132, hup_same, Option.bind_some, pi132, Option.bind_some, gi132, g2, Option.bind_some, hbw', qw', Option.bind_some, if_pos (by rfl), Option.bind_some, hbn', qn, Option.bind_some, if_neg (by decide), hrun, Option.bind_some]
        · simp [hup]
        · rw [hup_same]; unfold tEn; rw [if_neg (by omega), if_neg qw, if_pos qn]
      · have qn' : isB T 48 57 s = false := by simpa using qn
        refine ⟨hup (hup (hup I 132 2 (iI (s : Int))) 132 3 (iI (s : Int))) 132 3 (iI ((s + 1 : Nat) : Int)), ?_, f2.fld (show zT 3 by omega), ⟨?_, ?_⟩, hs.2⟩
        · unfold Mo_next
          rw [rc132, Option.bind_some, gi132, h3, Option.bind_some, pi132, Option.bind_some, hsk, Option.bind_some, gi132, hup_same, Option.bind_some, pi132, Option.bind_some, gi132, g2, Option.bind_some, hbw', qw', Option.bind_some, if_pos (by rfl), Option.bind_some, hbn', qn', Option.bind_some, if_pos (by rfl), Option.bind_some, gi132, hA2.1, Option.bind_some, if_neg (by rw [iI_le (by omega)]; omega), gi132, g3, Option.bind_some, n_1, iI_add, pi132, Option.bind_some]
          rfl
        · simp [hup]
        · rw [hup_same]; unfold tEn; rw [if_neg (by omega), if_neg qw, if_neg qn]
  · rw [decide_eq_false q, Bool.false_and] at hbw' hbn'
    refine ⟨_, ?_, f2, ⟨g2, ?_⟩, hs.2⟩
    · unfold Mo_next
      rw [rc132, Option.bind_some, gi132, h3, Option.bind_some, pi132, Option.bind_some, hsk, Option.bind_some, gi132, hup_same, Option.bind_some, pi132, Option.bind_some, gi132, g2, Option.bind_some, hbw', Option.bind_some, if_pos (by rfl), Option.bind_some, hbn', Option.bind_some, if_pos (by rfl), Option.bind_some, gi132, hA2.1, Option.bind_some, if_pos (by rw [iI_le (by omega)]; omega)]
    · rw [g3]; unfold tEn; rw [if_pos (by omega)]
end
