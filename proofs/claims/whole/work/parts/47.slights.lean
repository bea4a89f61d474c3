/-! ===== layer 2: slights, class's side ===== -/
section
variable {T : Tb} {I I' : Nat → Nat → Int32} {J : Nat → Nat → Int64} {b v : Bool} {f k : Nat} {P : Nat → Nat → Option Nat} {a g w c1 c2 c s p m n q o : Int} {r x y : Nat} {pl : Nat → Int} {L : List S3}
def slt (w h : Int) (bs : Bool) : Bool := if w = 0 then decide (h = 2 ∨ h = 0) else if w = 1 then decide (h = 1 ∨ h = 2) else bs
def hh (T : Tb) (m c : Int) (pl : Nat → Int) (x y : Nat) : Int := hgh (T 2 m.toNat) (T 3 m.toNat) c (pl x) (pl y)
def bb (T : Tb) (m : Int) (pl : Nat → Int) (x y : Nat) : Bool := bes (T 2 m.toNat) (T 3 m.toNat) (pl x) (pl y)
def slP (T : Tb) (m c : Int) (pl : Nat → Int) (r x y : Nat) : Bool := decide (pl x ≠ -1) && (decide (pl y ≠ -1) && (cpl T r x y && slt (T 5 r) (hh T m c pl x y) (bb T m pl x y)))
def slQ (T : Tb) (m c : Int) (pl : Nat → Int) (r x y : Nat) : Bool := ctn T m r && slP T m c pl r x y
def on1 (T : Tb) (m c : Int) (pl : Nat → Int) (r x y : Nat) : Int := if T 5 r = 1 ∧ hh T m c pl x y ≠ 2 then 0 else T 8 r
def on2 (T : Tb) (m c : Int) (pl : Nat → Int) (r x y : Nat) : Int := if T 5 r = 2 ∨ (T 5 r = 1 ∧ hh T m c pl x y = 1) then T 8 r else 0
def lwt (T : Tb) (L : List S3) : Int := L.foldl (fun s t => s + T 8 t.1) 0
def lhv (T : Tb) (L : List S3) : Int := L.foldl (fun s t => if s < T 8 t.1 then T 8 t.1 else s) 0
def lmn (T : Tb) (m c : Int) (pl : Nat → Int) (g : Nat) (L : List S3) : Int := L.foldl (fun s t => s + ((if g = t.2.1 then on1 T m c pl t.1 t.2.1 t.2.2 else 0) + (if g = t.2.2 then on2 T m c pl t.1 t.2.1 t.2.2 else 0))) 0
def lat (L : List S3) (k : Int) (d : S3 → Nat) : Int := if 0 ≤ k ∧ k < L.length then (d (L.getD k.toNat (0, 0, 0)) : Int) else -1
theorem lwt_s (t : S3) : lwt T (L ++ [t]) = lwt T L + T 8 t.1 := by simp [lwt, List.foldl_append]
theorem lhv_s (t : S3) : lhv T (L ++ [t]) = if lhv T L < T 8 t.1 then T 8 t.1 else lhv T L := by unfold lhv; rw [List.foldl_append]; rfl
theorem lmn_s (g : Nat) (t : S3) : lmn T m c pl g (L ++ [t]) = lmn T m c pl g L + ((if g = t.2.1 then on1 T m c pl t.1 t.2.1 t.2.2 else 0) + (if g = t.2.2 then on2 T m c pl t.1 t.2.1 t.2.2 else 0)) := by simp [lmn, List.foldl_append]
theorem lat_s (t : S3) (k : Int) (d : S3 → Nat) : lat (L ++ [t]) k d = if (L.length : Int) = k then (d t : Int) else lat L k d := by
  unfold lat
  simp only [List.length_append, List.length_cons, List.length_nil]
  by_cases e : (L.length : Int) = k
  · have : k.toNat = L.length := by omega
    rw [if_pos (by omega), if_pos e, this]
    simp [List.getD]
  · rw [if_neg e]
    by_cases h : 0 ≤ k ∧ k < L.length
    · rw [if_pos (by omega), if_pos h, List.getD, List.getD, List.getElem?_append_left (by omega)]
    · rw [if_neg (by omega), if_neg h]
/-- the bounds of a list of slights -/
def lok (T : Tb) (L : List S3) : Prop := ∀ t ∈ L, t.1 < T 0 4
theorem lok_s (h : lok T L) (hr : (r : Int) < T 0 4) : lok T (L ++ [(r, x, y)]) := fun t ht => by
  rcases List.mem_append.mp ht with z | z
  · exact h t z
  · rw [List.mem_singleton] at z; rw [z]; exact hr
theorem lwt_b (hv : tvD T) : ∀ {L : List S3} {s : Int}, lok T L → 0 ≤ s → s ≤ L.foldl (fun s t => s + T 8 t.1) s ∧ L.foldl (fun s t => s + T 8 t.1) s ≤ s + 9 * L.length
  | [], s, _, _ => by simp
  | t :: L, s, h, hs => by
    have h1 := (hv t.1 (h t (by simp))).2.2.2.1
    have h2 := lwt_b hv (L := L) (s := s + T 8 t.1) (fun u hu => h u (by simp [hu])) (by omega)
    simp only [List.foldl_cons, List.length_cons]
    omega
theorem lwt_rg (hv : tvD T) (h : lok T L) : 0 ≤ lwt T L ∧ lwt T L ≤ 9 * L.length := by have := lwt_b hv (s := 0) h (by omega); unfold lwt; omega
theorem lhv_b (hv : tvD T) : ∀ {L : List S3} {s : Int}, lok T L → 0 ≤ s ∧ s ≤ 9 → 0 ≤ L.foldl (fun s t => if s < T 8 t.1 then T 8 t.1 else s) s ∧ L.foldl (fun s t => if s < T 8 t.1 then T 8 t.1 else s) s ≤ 9
  | [], s, _, _ => by simpa
  | t :: L, s, h, hs => by
    have h1 := (hv t.1 (h t (by simp))).2.2.2.1
    have h2 := lhv_b hv (L := L) (s := if s < T 8 t.1 then T 8 t.1 else s) (fun u hu => h u (by simp [hu])) (by split <;> omega)
    simpa only [List.foldl_cons] using h2
theorem lhv_rg (hv : tvD T) (h : lok T L) : 0 ≤ lhv T L ∧ lhv T L ≤ 9 := lhv_b hv h (by omega)
theorem on_rg (hv : tvD T) (hr : (r : Int) < T 0 4) : (0 ≤ on1 T m c pl r x y ∧ on1 T m c pl r x y ≤ 9) ∧ 0 ≤ on2 T m c pl r x y ∧ on2 T m c pl r x y ≤ 9 := by
  have h1 := (hv r hr).2.2.2.1
  unfold on1 on2
  constructor <;> split <;> omega
theorem lmn_b (hv : tvD T) (g : Nat) : ∀ {L : List S3} {s : Int}, lok T L → 0 ≤ s → 0 ≤ L.foldl (fun s t => s + ((if g = t.2.1 then on1 T m c pl t.1 t.2.1 t.2.2 else 0) + (if g = t.2.2 then on2 T m c pl t.1 t.2.1 t.2.2 else 0))) s ∧ L.foldl (fun s t => s + ((if g = t.2.1 then on1 T m c pl t.1 t.2.1 t.2.2 else 0) + (if g = t.2.2 then on2 T m c pl t.1 t.2.1 t.2.2 else 0))) s ≤ s + 18 * L.length
  | [], s, _, _ => by simp; omega
  | t :: L, s, h, hs => by
    have h1 := on_rg (m := m) (c := c) (pl := pl) (x := t.2.1) (y := t.2.2) hv (h t (by simp))
    have h3 : 0 ≤ ((if g = t.2.1 then on1 T m c pl t.1 t.2.1 t.2.2 else 0) + (if g = t.2.2 then on2 T m c pl t.1 t.2.1 t.2.2 else 0)) ∧ ((if g = t.2.1 then on1 T m c pl t.1 t.2.1 t.2.2 else 0) + (if g = t.2.2 then on2 T m c pl t.1 t.2.1 t.2.2 else 0)) ≤ 18 := by
      constructor <;> split <;> split <;> omega
    have h2 := lmn_b hv g (L := L) (s := s + ((if g = t.2.1 then on1 T m c pl t.1 t.2.1 t.2.2 else 0) + (if g = t.2.2 then on2 T m c pl t.1 t.2.1 t.2.2 else 0))) (fun u hu => h u (by simp [hu])) (by omega)
    simp only [List.foldl_cons, List.length_cons]
    omega
theorem lmn_rg (hv : tvD T) (g : Nat) (h : lok T L) : 0 ≤ lmn T m c pl g L ∧ lmn T m c pl g L ≤ 18 * L.length := by have := lmn_b (m := m) (c := c) (pl := pl) hv g (s := 0) h (by omega); unfold lmn; omega
/-- what the class keeps of a list of slights -/
def slC (T : Tb) (m c : Int) (pl : Nat → Int) (k : Int) (L : List S3) (I : Nat → Nat → Int32) : Prop := (I 55 2 = iI (lwt T L) ∧ I 55 3 = iI (L.length : Int) ∧ I 55 4 = iI (lhv T L) ∧ I 55 5 = iI k) ∧ (I 55 6 = iI (lat L k (fun t => t.1)) ∧ I 55 7 = iI (lat L k (fun t => t.2.1)) ∧ I 55 8 = iI (lat L k (fun t => t.2.2))) ∧ ∀ g, g < 10 → I 57 g = iI (lmn T m c pl g L)
/-- the places as told -/
def plC (pl : Nat → Int) (I : Nat → Nat → Int32) : Prop := ∀ g, g < 10 → I 56 g = iI (pl g)
def plV (T : Tb) (m : Int) (pl : Nat → Int) : Prop := ∀ g, pl g = -1 ∨ ((g < T 0 2 ∧ T 12 g = 1) ∧ 0 ≤ pl g ∧ pl g < T 3 m.toNat)
theorem maxI {a o : Int} (h : rg a ∧ rg o) : Jd_max (iI a) (iI o) = iI (if a < o then o else a) := by
  unfold Jd_max
  simp (disch := omega) only [iI_lt]
  split <;> rfl
theorem cl_note (hS : slC T m c pl q L I) (hv : tvD T) (hl : lok T L) (hn : L.length < 1200) (hr : (r : Int) < T 0 4) (hq : rg q) : ∃ I', Slights_note S0 (some 55) (iI (r : Int)) (iI (T 8 r)) (iI (x : Int)) (iI (y : Int)) (I, J, Pst b f) = some (I', J, Pst b f) ∧ Agr (fun o => o ≠ 55) I I' ∧ (I' 55 2 = iI (lwt T (L ++ [(r, x, y)])) ∧ I' 55 3 = iI ((L ++ [(r, x, y)]).length : Int) ∧ I' 55 4 = iI (lhv T (L ++ [(r, x, y)])) ∧ I' 55 5 = iI q) ∧ (I' 55 6 = iI (lat (L ++ [(r, x, y)]) q (fun t => t.1)) ∧ I' 55 7 = iI (lat (L ++ [(r, x, y)]) q (fun t => t.2.1)) ∧ I' 55 8 = iI (lat (L ++ [(r, x, y)]) q (fun t => t.2.2))) := by
  obtain ⟨⟨s2, s3, s4, s5⟩, ⟨s6, s7, s8⟩, s9⟩ := hS
  have h1 := lwt_rg hv hl
  have h2 := lhv_rg hv hl
  have h3 := (hv r hr).2.2.2.1
  have hln : ((L ++ [(r, x, y)]).length : Int) = L.length + 1 := by simp
  simp only [lwt_s, lhv_s, lat_s, hln]
  by_cases e : (L.length : Int) = q
  · refine ⟨hup (hup (hup (hup (hup (hup I 55 6 (iI r)) 55 7 (iI x)) 55 8 (iI y)) 55 3 (iI (L.length + 1))) 55 2 (iI (lwt T L + T 8 r))) 55 4 (iI (if lhv T L < T 8 r then T 8 r else lhv T L)), ?_, ?_, ?_⟩
    · simp (disch := omega) only [Slights_note, rc0, gi0, gl0, pi0, pl0, pz0, pr0, gr0_0, gr0_1, gr0_2, gr0_3, gr0_4, gr0_5, gr0_6, gr0_7, gr0_8, rc1, gi1, gl1, pi1, pl1, pz1, pr1, gr1_0, rc3, gi3, gl3, pi3, pl3, pz3, pr3, gr3_0, gr3_10, gr3_11, rc47, gi47, gl47, pi47, pl47, pz47, pr47, gr47_0, gr47_1, gr47_2, gr47_3, gr47_4, gr47_5, gr47_6, rc55, gi55, gl55, pi55, pl55, pz55, pr55, gr55_0, gr55_1, rc58, gi58, gl58, pi58, pl58, pz58, pr58, gr58_0, gr58_1, rc61, gi61, gl61, pi61, pl61, pz61, pr61, gr61_0, gr61_1, gr61_2, gr61_7, rc62, gi62, gl62, pi62, pl62, pz62, pr62, gr62_0, gr62_1, gr62_2, gr62_3, gr62_4, gr62_5, ld2, st2, an2, ld4, st4, an4, ld5, st5, an5, an6, ld48, st48, an48, ld49, st49, an49, ld50, st50, an50, ld51, st51, an51, ld52, st52, an52, ld53, st53, an53, ld54, st54, an54, ld56, st56, an56, ld57, st57, an57, ld59, st59, an59, ld60, st60, an60, ld63, st63, an63, ld64, st64, an64, ld65, st65, an65, ld66, st66, an66, ld67, st67, an67, ld68, st68, an68, ld69, st69, an69, ld70, st70, an70, rcct, gict, glct, pict, plct, pzct, prct, grct_0, grct_1, grct_2, grct_3, ldctm, stctm, anctm, ldctr, stctr, anctr, ldctp, stctp, anctp, anctR, rcru, giru, glru, piru, plru, pzru, prru, grru_7, ldcu, stcu, ancu, arct, ar6, rcro, giro, piro, pzro, grro_1, grro_2, grro_3, rcfo, gifo, pifo, pzfo, grfo_0, grfo_1, ldfop, stfop, anfop, ldfoe, stfoe, anfoe, Option.bind_some, if_true, if_false, n_0, n_1, n_2, n_3, n_4, n_5, n_6, n_7, n_8, n_9, n_10, n_12, n_15, n_20, n_24, n_32, n_48, n_57, n_59, n_80, n_97, n_99, n_100, n_122, n_680, n_700, n_999, n_1023, n_1024, iI_neg, iI_add, iI_sub, iI_lt, iI_le, iI_eq, s3, s5, e, hup_ix, hup_same, ne_eq, s2, s4, maxI]
    · exact ((((((Agr.refl _ I).hup (by omega)).hup (by omega)).hup (by omega)).hup (by omega)).hup (by omega)).hup (by omega)
    · simp [hup, e, s5]
  · refine ⟨hup (hup (hup I 55 3 (iI (L.length + 1))) 55 2 (iI (lwt T L + T 8 r))) 55 4 (iI (if lhv T L < T 8 r then T 8 r else lhv T L)), ?_, ?_, ?_⟩
    · simp (disch := omega) only [Slights_note, rc0, gi0, gl0, pi0, pl0, pz0, pr0, gr0_0, gr0_1, gr0_2, gr0_3, gr0_4, gr0_5, gr0_6, gr0_7, gr0_8, rc1, gi1, gl1, pi1, pl1, pz1, pr1, gr1_0, rc3, gi3, gl3, pi3, pl3, pz3, pr3, gr3_0, gr3_10, gr3_11, rc47, gi47, gl47, pi47, pl47, pz47, pr47, gr47_0, gr47_1, gr47_2, gr47_3, gr47_4, gr47_5, gr47_6, rc55, gi55, gl55, pi55, pl55, pz55, pr55, gr55_0, gr55_1, rc58, gi58, gl58, pi58, pl58, pz58, pr58, gr58_0, gr58_1, rc61, gi61, gl61, pi61, pl61, pz61, pr61, gr61_0, gr61_1, gr61_2, gr61_7, rc62, gi62, gl62, pi62, pl62, pz62, pr62, gr62_0, gr62_1, gr62_2, gr62_3, gr62_4, gr62_5, ld2, st2, an2, ld4, st4, an4, ld5, st5, an5, an6, ld48, st48, an48, ld49, st49, an49, ld50, st50, an50, ld51, st51, an51, ld52, st52, an52, ld53, st53, an53, ld54, st54, an54, ld56, st56, an56, ld57, st57, an57, ld59, st59, an59, ld60, st60, an60, ld63, st63, an63, ld64, st64, an64, ld65, st65, an65, ld66, st66, an66, ld67, st67, an67, ld68, st68, an68, ld69, st69, an69, ld70, st70, an70, rcct, gict, glct, pict, plct, pzct, prct, grct_0, grct_1, grct_2, grct_3, ldctm, stctm, anctm, ldctr, stctr, anctr, ldctp, stctp, anctp, anctR, rcru, giru, glru, piru, plru, pzru, prru, grru_7, ldcu, stcu, ancu, arct, ar6, rcro, giro, piro, pzro, grro_1, grro_2, grro_3, rcfo, gifo, pifo, pzfo, grfo_0, grfo_1, ldfop, stfop, anfop, ldfoe, stfoe, anfoe, Option.bind_some, if_true, if_false, n_0, n_1, n_2, n_3, n_4, n_5, n_6, n_7, n_8, n_9, n_10, n_12, n_15, n_20, n_24, n_32, n_48, n_57, n_59, n_80, n_97, n_99, n_100, n_122, n_680, n_700, n_999, n_1023, n_1024, iI_neg, iI_add, iI_sub, iI_lt, iI_le, iI_eq, s3, s5, e, hup_ix, hup_same, ne_eq, s2, s4, maxI]
    · exact (((Agr.refl _ I).hup (by omega)).hup (by omega)).hup (by omega)
    · simp [hup, e, s5, s6, s7, s8]
theorem cl_mind {h : Int} (hm : ∀ g, g < 10 → I 57 g = iI (lmn T m c pl g L)) (hd : cD T b I) (ht : tvC T) (hv : tvD T) (hr : (r : Int) < T 0 4) (hx : x < 10) (hy : y < 10) (hxy : x ≠ y) (hh' : h = hh T m c pl x y) (hb : -1 ≤ h ∧ h ≤ 2) : ∃ I', Slights_mind S0 (some 55) (some (ru b r)) (iI h) (iI (x : Int)) (iI (y : Int)) (I, J, Pst b f) = some (I', J, Pst b f) ∧ Agr (fun o => o ≠ 57) I I' ∧ ∀ g, g < 10 → I' 57 g = iI (lmn T m c pl g (L ++ [(r, x, y)])) := by
  have h0 := ht.1
  obtain ⟨d1, d2, d3, d4, d5, d6, d7, d8⟩ := hd r hr
  obtain ⟨v1, v2, v3, v4, v5, v6, v7⟩ := hv r hr
  have hru : ru b r ≠ 57 := by have := ru_gt b r; omega
  refine ⟨hup (hup I 57 x (iI (lmn T m c pl x L + on1 T m c pl r x y))) 57 y (iI (lmn T m c pl y L + on2 T m c pl r x y)), ?_, ((Agr.refl _ I).hup (by omega)).hup (by omega), fun g hg => ?_⟩
  · simp (disch := omega) only [Slights_mind, rc0, gi0, gl0, pi0, pl0, pz0, pr0, gr0_0, gr0_1, gr0_2, gr0_3, gr0_4, gr0_5, gr0_6, gr0_7, gr0_8, rc1, gi1, gl1, pi1, pl1, pz1, pr1, gr1_0, rc3, gi3, gl3, pi3, pl3, pz3, pr3, gr3_0, gr3_10, gr3_11, rc47, gi47, gl47, pi47, pl47, pz47, pr47, gr47_0, gr47_1, gr47_2, gr47_3, gr47_4, gr47_5, gr47_6, rc55, gi55, gl55, pi55, pl55, pz55, pr55, gr55_0, gr55_1, rc58, gi58, gl58, pi58, pl58, pz58, pr58, gr58_0, gr58_1, rc61, gi61, gl61, pi61, pl61, pz61, pr61, gr61_0, gr61_1, gr61_2, gr61_7, rc62, gi62, gl62, pi62, pl62, pz62, pr62, gr62_0, gr62_1, gr62_2, gr62_3, gr62_4, gr62_5, ld2, st2, an2, ld4, st4, an4, ld5, st5, an5, an6, ld48, st48, an48, ld49, st49, an49, ld50, st50, an50, ld51, st51, an51, ld52, st52, an52, ld53, st53, an53, ld54, st54, an54, ld56, st56, an56, ld57, st57, an57, ld59, st59, an59, ld60, st60, an60, ld63, st63, an63, ld64, st64, an64, ld65, st65, an65, ld66, st66, an66, ld67, st67, an67, ld68, st68, an68, ld69, st69, an69, ld70, st70, an70, rcct, gict, glct, pict, plct, pzct, prct, grct_0, grct_1, grct_2, grct_3, ldctm, stctm, anctm, ldctr, stctr, anctr, ldctp, stctp, anctp, anctR, rcru, giru, glru, piru, plru, pzru, prru, grru_7, ldcu, stcu, ancu, arct, ar6, rcro, giro, piro, pzro, grro_1, grro_2, grro_3, rcfo, gifo, pifo, pzfo, grfo_0, grfo_1, ldfop, stfop, anfop, ldfoe, stfoe, anfoe, Option.bind_some, if_true, if_false, n_0, n_1, n_2, n_3, n_4, n_5, n_6, n_7, n_8, n_9, n_10, n_12, n_15, n_20, n_24, n_32, n_48, n_57, n_59, n_80, n_97, n_99, n_100, n_122, n_680, n_700, n_999, n_1023, n_1024, iI_neg, iI_add, iI_sub, iI_lt, iI_le, iI_eq, d1, d4, Int.toNat_natCast, hm x hx]
    have hyx : y ≠ x := fun e => hxy e.symm
    rcases (show T 5 r = 0 ∨ T 5 r = 1 ∨ T 5 r = 2 by omega) with z | z | z
    · have o1 : on1 T m c pl r x y = T 8 r := by simp [on1, z]
      have o2 : on2 T m c pl r x y = 0 := by simp [on2, z]
      simp (disch := omega) only [z, show ¬ (0 : Int) = 1 by omega, show ¬ (0 : Int) = 2 by omega, show ¬ iI 1 = iI 0 by decide, Option.bind_some, if_true, if_false, rc0, gi0, gl0, pi0, pl0, pz0, pr0, gr0_0, gr0_1, gr0_2, gr0_3, gr0_4, gr0_5, gr0_6, gr0_7, gr0_8, rc1, gi1, gl1, pi1, pl1, pz1, pr1, gr1_0, rc3, gi3, gl3, pi3, pl3, pz3, pr3, gr3_0, gr3_10, gr3_11, rc47, gi47, gl47, pi47, pl47, pz47, pr47, gr47_0, gr47_1, gr47_2, gr47_3, gr47_4, gr47_5, gr47_6, rc55, gi55, gl55, pi55, pl55, pz55, pr55, gr55_0, gr55_1, rc58, gi58, gl58, pi58, pl58, pz58, pr58, gr58_0, gr58_1, rc61, gi61, gl61, pi61, pl61, pz61, pr61, gr61_0, gr61_1, gr61_2, gr61_7, rc62, gi62, gl62, pi62, pl62, pz62, pr62, gr62_0, gr62_1, gr62_2, gr62_3, gr62_4, gr62_5, ld2, st2, an2, ld4, st4, an4, ld5, st5, an5, an6, ld48, st48, an48, ld49, st49, an49, ld50, st50, an50, ld51, st51, an51, ld52, st52, an52, ld53, st53, an53, ld54, st54, an54, ld56, st56, an56, ld57, st57, an57, ld59, st59, an59, ld60, st60, an60, ld63, st63, an63, ld64, st64, an64, ld65, st65, an65, ld66, st66, an66, ld67, st67, an67, ld68, st68, an68, ld69, st69, an69, ld70, st70, an70, rcct, gict, glct, pict, plct, pzct, prct, grct_0, grct_1, grct_2, grct_3, ldctm, stctm, anctm, ldctr, stctr, anctr, ldctp, stctp, anctp, anctR, rcru, giru, glru, piru, plru, pzru, prru, grru_7, ldcu, stcu, ancu, arct, ar6, rcro, giro, piro, pzro, grro_1, grro_2, grro_3, rcfo, gifo, pifo, pzfo, grfo_0, grfo_1, ldfop, stfop, anfop, ldfoe, stfoe, anfoe, Int.toNat_natCast, hup_ix _ _ _ hyx, hm y hy, o1, o2, n_0, n_1, n_2, n_3, n_4, n_5, n_6, n_7, n_8, n_9, n_10, n_12, n_15, n_20, n_24, n_32, n_48, n_57, n_59, n_80, n_97, n_99, n_100, n_122, n_680, n_700, n_999, n_1023, n_1024, iI_neg, iI_add, iI_sub]
    · by_cases e2 : h = 2
      · have o1 : on1 T m c pl r x y = T 8 r := by simp [on1, ← hh', e2]
        have o2 : on2 T m c pl r x y = 0 := by simp [on2, z, ← hh', e2]
        simp (disch := omega) only [z, e2, show ¬ (1 : Int) = 2 by omega, show ¬ (2 : Int) = 1 by omega, show ¬ iI 1 = iI 0 by decide, Option.bind_some, if_true, if_false, rc0, gi0, gl0, pi0, pl0, pz0, pr0, gr0_0, gr0_1, gr0_2, gr0_3, gr0_4, gr0_5, gr0_6, gr0_7, gr0_8, rc1, gi1, gl1, pi1, pl1, pz1, pr1, gr1_0, rc3, gi3, gl3, pi3, pl3, pz3, pr3, gr3_0, gr3_10, gr3_11, rc47, gi47, gl47, pi47, pl47, pz47, pr47, gr47_0, gr47_1, gr47_2, gr47_3, gr47_4, gr47_5, gr47_6, rc55, gi55, gl55, pi55, pl55, pz55, pr55, gr55_0, gr55_1, rc58, gi58, gl58, pi58, pl58, pz58, pr58, gr58_0, gr58_1, rc61, gi61, gl61, pi61, pl61, pz61, pr61, gr61_0, gr61_1, gr61_2, gr61_7, rc62, gi62, gl62, pi62, pl62, pz62, pr62, gr62_0, gr62_1, gr62_2, gr62_3, gr62_4, gr62_5, ld2, st2, an2, ld4, st4, an4, ld5, st5, an5, an6, ld48, st48, an48, ld49, st49, an49, ld50, st50, an50, ld51, st51, an51, ld52, st52, an52, ld53, st53, an53, ld54, st54, an54, ld56, st56, an56, ld57, st57, an57, ld59, st59, an59, ld60, st60, an60, ld63, st63, an63, ld64, st64, an64, ld65, st65, an65, ld66, st66, an66, ld67, st67, an67, ld68, st68, an68, ld69, st69, an69, ld70, st70, an70, rcct, gict, glct, pict, plct, pzct, prct, grct_0, grct_1, grct_2, grct_3, ldctm, stctm, anctm, ldctr, stctr, anctr, ldctp, stctp, anctp, anctR, rcru, giru, glru, piru, plru, pzru, prru, grru_7, ldcu, stcu, ancu, arct, ar6, rcro, giro, piro, pzro, grro_1, grro_2, grro_3, rcfo, gifo, pifo, pzfo, grfo_0, grfo_1, ldfop, stfop, anfop, ldfoe, stfoe, anfoe, Int.toNat_natCast, hup_ix _ _ _ hyx, hm y hy, o1, o2, n_0, n_1, n_2, n_3, n_4, n_5, n_6, n_7, n_8, n_9, n_10, n_12, n_15, n_20, n_24, n_32, n_48, n_57, n_59, n_80, n_97, n_99, n_100, n_122, n_680, n_700, n_999, n_1023, n_1024, iI_neg, iI_add, iI_sub]
      · have o1 : on1 T m c pl r x y = 0 := by simp [on1, z, ← hh', e2]
        by_cases e1 : h = 1
        · have o2 : on2 T m c pl r x y = T 8 r := by simp [on2, z, ← hh', e1]
          simp (disch := omega) only [z, e1, show ¬ (1 : Int) = 2 by omega, show ¬ iI 1 = iI 0 by decide, Option.bind_some, if_true, if_false, rc0, gi0, gl0, pi0, pl0, pz0, pr0, gr0_0, gr0_1, gr0_2, gr0_3, gr0_4, gr0_5, gr0_6, gr0_7, gr0_8, rc1, gi1, gl1, pi1, pl1, pz1, pr1, gr1_0, rc3, gi3, gl3, pi3, pl3, pz3, pr3, gr3_0, gr3_10, gr3_11, rc47, gi47, gl47, pi47, pl47, pz47, pr47, gr47_0, gr47_1, gr47_2, gr47_3, gr47_4, gr47_5, gr47_6, rc55, gi55, gl55, pi55, pl55, pz55, pr55, gr55_0, gr55_1, rc58, gi58, gl58, pi58, pl58, pz58, pr58, gr58_0, gr58_1, rc61, gi61, gl61, pi61, pl61, pz61, pr61, gr61_0, gr61_1, gr61_2, gr61_7, rc62, gi62, gl62, pi62, pl62, pz62, pr62, gr62_0, gr62_1, gr62_2, gr62_3, gr62_4, gr62_5, ld2, st2, an2, ld4, st4, an4, ld5, st5, an5, an6, ld48, st48, an48, ld49, st49, an49, ld50, st50, an50, ld51, st51, an51, ld52, st52, an52, ld53, st53, an53, ld54, st54, an54, ld56, st56, an56, ld57, st57, an57, ld59, st59, an59, ld60, st60, an60, ld63, st63, an63, ld64, st64, an64, ld65, st65, an65, ld66, st66, an66, ld67, st67, an67, ld68, st68, an68, ld69, st69, an69, ld70, st70, an70, rcct, gict, glct, pict, plct, pzct, prct, grct_0, grct_1, grct_2, grct_3, ldctm, stctm, anctm, ldctr, stctr, anctr, ldctp, stctp, anctp, anctR, rcru, giru, glru, piru, plru, pzru, prru, grru_7, ldcu, stcu, ancu, arct, ar6, rcro, giro, piro, pzro, grro_1, grro_2, grro_3, rcfo, gifo, pifo, pzfo, grfo_0, grfo_1, ldfop, stfop, anfop, ldfoe, stfoe, anfoe, Int.toNat_natCast, hup_ix _ _ _ hyx, hup_obj _ _ _ hru, d4, hm y hy, o1, o2, n_0, n_1, n_2, n_3, n_4, n_5, n_6, n_7, n_8, n_9, n_10, n_12, n_15, n_20, n_24, n_32, n_48, n_57, n_59, n_80, n_97, n_99, n_100, n_122, n_680, n_700, n_999, n_1023, n_1024, iI_neg, iI_add, iI_sub]
        · have o2 : on2 T m c pl r x y = 0 := by simp [on2, z, ← hh', e1]
          simp (disch := omega) only [z, e1, e2, show ¬ (1 : Int) = 2 by omega, show ¬ iI 1 = iI 0 by decide, Option.bind_some, if_true, if_false, rc0, gi0, gl0, pi0, pl0, pz0, pr0, gr0_0, gr0_1, gr0_2, gr0_3, gr0_4, gr0_5, gr0_6, gr0_7, gr0_8, rc1, gi1, gl1, pi1, pl1, pz1, pr1, gr1_0, rc3, gi3, gl3, pi3, pl3, pz3, pr3, gr3_0, gr3_10, gr3_11, rc47, gi47, gl47, pi47, pl47, pz47, pr47, gr47_0, gr47_1, gr47_2, gr47_3, gr47_4, gr47_5, gr47_6, rc55, gi55, gl55, pi55, pl55, pz55, pr55, gr55_0, gr55_1, rc58, gi58, gl58, pi58, pl58, pz58, pr58, gr58_0, gr58_1, rc61, gi61, gl61, pi61, pl61, pz61, pr61, gr61_0, gr61_1, gr61_2, gr61_7, rc62, gi62, gl62, pi62, pl62, pz62, pr62, gr62_0, gr62_1, gr62_2, gr62_3, gr62_4, gr62_5, ld2, st2, an2, ld4, st4, an4, ld5, st5, an5, an6, ld48, st48, an48, ld49, st49, an49, ld50, st50, an50, ld51, st51, an51, ld52, st52, an52, ld53, st53, an53, ld54, st54, an54, ld56, st56, an56, ld57, st57, an57, ld59, st59, an59, ld60, st60, an60, ld63, st63, an63, ld64, st64, an64, ld65, st65, an65, ld66, st66, an66, ld67, st67, an67, ld68, st68, an68, ld69, st69, an69, ld70, st70, an70, rcct, gict, glct, pict, plct, pzct, prct, grct_0, grct_1, grct_2, grct_3, ldctm, stctm, anctm, ldctr, stctr, anctr, ldctp, stctp, anctp, anctR, rcru, giru, glru, piru, plru, pzru, prru, grru_7, ldcu, stcu, ancu, arct, ar6, rcro, giro, piro, pzro, grro_1, grro_2, grro_3, rcfo, gifo, pifo, pzfo, grfo_0, grfo_1, ldfop, stfop, anfop, ldfoe, stfoe, anfoe, Int.toNat_natCast, hup_ix _ _ _ hyx, hm y hy, o1, o2, n_0, n_1, n_2, n_3, n_4, n_5, n_6, n_7, n_8, n_9, n_10, n_12, n_15, n_20, n_24, n_32, n_48, n_57, n_59, n_80, n_97, n_99, n_100, n_122, n_680, n_700, n_999, n_1023, n_1024, iI_neg, iI_add, iI_sub]
    · have o1 : on1 T m c pl r x y = T 8 r := by simp [on1, z]
      have o2 : on2 T m c pl r x y = T 8 r := by simp [on2, z]
      simp (disch := omega) only [z, show ¬ (2 : Int) = 1 by omega, show ¬ iI 1 = iI 0 by decide, Option.bind_some, if_true, if_false, rc0, gi0, gl0, pi0, pl0, pz0, pr0, gr0_0, gr0_1, gr0_2, gr0_3, gr0_4, gr0_5, gr0_6, gr0_7, gr0_8, rc1, gi1, gl1, pi1, pl1, pz1, pr1, gr1_0, rc3, gi3, gl3, pi3, pl3, pz3, pr3, gr3_0, gr3_10, gr3_11, rc47, gi47, gl47, pi47, pl47, pz47, pr47, gr47_0, gr47_1, gr47_2, gr47_3, gr47_4, gr47_5, gr47_6, rc55, gi55, gl55, pi55, pl55, pz55, pr55, gr55_0, gr55_1, rc58, gi58, gl58, pi58, pl58, pz58, pr58, gr58_0, gr58_1, rc61, gi61, gl61, pi61, pl61, pz61, pr61, gr61_0, gr61_1, gr61_2, gr61_7, rc62, gi62, gl62, pi62, pl62, pz62, pr62, gr62_0, gr62_1, gr62_2, gr62_3, gr62_4, gr62_5, ld2, st2, an2, ld4, st4, an4, ld5, st5, an5, an6, ld48, st48, an48, ld49, st49, an49, ld50, st50, an50, ld51, st51, an51, ld52, st52, an52, ld53, st53, an53, ld54, st54, an54, ld56, st56, an56, ld57, st57, an57, ld59, st59, an59, ld60, st60, an60, ld63, st63, an63, ld64, st64, an64, ld65, st65, an65, ld66, st66, an66, ld67, st67, an67, ld68, st68, an68, ld69, st69, an69, ld70, st70, an70, rcct, gict, glct, pict, plct, pzct, prct, grct_0, grct_1, grct_2, grct_3, ldctm, stctm, anctm, ldctr, stctr, anctr, ldctp, stctp, anctp, anctR, rcru, giru, glru, piru, plru, pzru, prru, grru_7, ldcu, stcu, ancu, arct, ar6, rcro, giro, piro, pzro, grro_1, grro_2, grro_3, rcfo, gifo, pifo, pzfo, grfo_0, grfo_1, ldfop, stfop, anfop, ldfoe, stfoe, anfoe, Int.toNat_natCast, hup_ix _ _ _ hyx, hup_obj _ _ _ hru, d4, hm y hy, o1, o2, n_0, n_1, n_2, n_3, n_4, n_5, n_6, n_7, n_8, n_9, n_10, n_12, n_15, n_20, n_24, n_32, n_48, n_57, n_59, n_80, n_97, n_99, n_100, n_122, n_680, n_700, n_999, n_1023, n_1024, iI_neg, iI_add, iI_sub]
  · rw [lmn_s]
    by_cases e1 : g = y
    · subst e1
      simp [hup, show ¬ g = x from fun e => hxy e.symm]
    · by_cases e2 : g = x
      · subst e2
        simp [hup, e1]
      · simp [hup, e1, e2, hm g hg]
end
