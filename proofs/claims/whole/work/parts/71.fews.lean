/-! ===== layer 2: few, class's side, its answer ===== -/
section
variable {T : Tb} {I I' I'' : Nat → Nat → Int32} {J : Nat → Nat → Int64} {b : Bool} {f k n B d u most : Nat} {P : Nat → Nat → Option Nat} {m w g : Int} {x y z i h : Nat} {A E : Nat → Nat → Bool} {H W cm : Nat → Bool} {hp r : Nat → Nat → Bool} {Q : (Nat → Bool) → Bool}
theorem fsO_is {α : Type} {F : Nat → Option α} {r : α} : ∀ {k}, fsO F k = some r → ∃ h, h < k ∧ F h = some r
  | 0, h => by cases h
  | k + 1, h => by
    have h' : (match fsO F k with | some r => some r | none => F k) = some r := h
    cases e : fsO F k with
    | some s =>
      rw [e] at h'
      obtain ⟨j, h1, h2⟩ := fsO_is e
      have h3 : s = r := Option.some.inj h'
      subst h3
      exact ⟨j, by omega, h2⟩
    | none =>
      rw [e] at h'
      exact ⟨k, by omega, h'⟩
theorem prt_is : ∀ (d : Nat) (hp : Nat → Nat → Bool) (u : Nat) (r : Nat → Nat → Bool) (u' : Nat), d ≤ 10 → u + d ≤ 10 → prt Q cm most d hp u = some (r, u') → ((∀ i, u ≤ i → hp i = fun _ => false) → ∀ i, u' ≤ i → r i = fun _ => false) ∧ (u ≤ u' ∧ u' ≤ 10) ∧ (∀ i y, hp i y = true → r i y = true) ∧ ∀ y, 10 - d ≤ y → y < 10 → cm y = true → ∃ i, i < u' ∧ r i y = true
  | 0, hp, u, r, u', hd, hu, h => by
    have h' : some (hp, u) = some (r, u') := h
    have e := Option.some.inj h'
    have e1 : hp = r := congrArg Prod.fst e
    have e2 : u = u' := congrArg Prod.snd e
    subst e1; subst e2
    exact ⟨fun q => q, by omega, fun _ _ q => q, fun y h1 h2 => by omega⟩
  | d + 1, hp, u, r, u', hd, hu, h => by
    have h' : (if cm (9 - d) = true then fsO (fun h => if Q (adg (hp h) (9 - d)) = true then prt Q cm most d (hpu hp h (9 - d)) (max u (h + 1)) else none) (min (u + 1) most) else prt Q cm most d hp u) = some (r, u') := h
    by_cases ec : cm (9 - d) = true
    · rw [if_pos ec] at h'
      obtain ⟨k, h1, h2⟩ := fsO_is h'
      by_cases eq : Q (adg (hp k) (9 - d)) = true
      · rw [if_pos eq] at h2
        obtain ⟨i1, i2, i3, i4⟩ := prt_is d _ _ r u' (by omega) (by omega) h2
        refine ⟨fun q => i1 fun i hi => ?_, by omega, fun i y hy => i3 i y ?_, fun y h3 h4 h5 => ?_⟩
        · rw [hpu_ne (by omega)]; exact q i (by omega)
        · by_cases e : i = k
          · subst e; rw [hpu_same]; simp [adg, hy]
          · rw [hpu_ne e]; exact hy
        · by_cases e : y = 9 - d
          · refine ⟨k, by omega, i3 k y ?_⟩
            rw [hpu_same]; simp [adg, e]
          · exact i4 y (by omega) h4 h5
      · rw [if_neg eq] at h2; cases h2
    · rw [if_neg ec] at h'
      obtain ⟨i1, i2, i3, i4⟩ := prt_is d _ _ r u' (by omega) (by omega) h'
      refine ⟨i1, i2, i3, fun y h3 h4 h5 => ?_⟩
      by_cases e : y = 9 - d
      · rw [e] at h5; exact absurd h5 ec
      · exact i4 y (by omega) h4 h5
def hp0 : Nat → Nat → Bool := fun _ _ => false
def fwn (Q : (Nat → Bool) → Bool) (cm : Nat → Bool) : Nat := fst_ 10 (fun most => (prt Q cm most 10 hp0 0).isSome)
def fwo (Q : (Nat → Bool) → Bool) (cm : Nat → Bool) : (Nat → Nat → Bool) × Nat := (prt Q cm (fwn Q cm) 10 hp0 0).getD (hp0, 0)
theorem fwo_some (hQ : ∀ g, cm g = true → Q (adg (fun _ => false) g) = true) : prt Q cm (fwn Q cm) 10 hp0 0 = some (fwo Q cm) := by
  have : (prt Q cm (fwn Q cm) 10 hp0 0).isSome = true := by
    rcases Nat.lt_or_ge (fwn Q cm) 10 with q | q
    · exact fst_is (p := fun most => (prt Q cm most 10 hp0 0).isSome) q
    · have : fwn Q cm = 10 := by have := fst_le (fun most => (prt Q cm most 10 hp0 0).isSome) 10; unfold fwn at *; omega
      rw [this]
      exact prt_10 hQ 10 hp0 0 (by omega) fun i _ => rfl
  unfold fwo
  cases e : prt Q cm (fwn Q cm) 10 hp0 0 with
  | none => rw [e] at this; cases this
  | some r => rfl
theorem cl_heaps (hfit : ∀ H g, g < 10 → cm g = true → (∀ y, H y = true → y < g ∧ cm y = true) → Q H = true → fit A E H g = Q (adg H g)) (hQ : ∀ g, cm g = true → Q (adg (fun _ => false) g) = true) (hQ0 : Q (fun _ => false) = true) (h48 : row 48 A I) (h49 : row 49 E I) (h7 : I 47 7 = iI (bt 10 cm : Int)) : ∃ I', Rank_fewestHeaps S0 (some 47) (I, J, Pst b f) = some (iI (fwn Q cm : Int), (I', J, Pst b f)) ∧ Agr (fun o => o ≠ 51) I I' ∧ row 51 (fwo Q cm).1 I' := by
  obtain ⟨I1, f1, f2, f3⟩ := fillI (J := J) (P := Pst b f) (I := I) (N := 10) (ob := 51) (vl := iI 0) (by omega) an51 (fun a I ha => st51 (by omega))
  have r0 : row 51 hp0 I1 := fun x hx => (f3 x hx).trans sI_z
  have hok0 : hok Q cm (10 - 10) hp0 := ⟨fun i => hQ0, fun i y hy => by cases hy⟩
  have hle := fst_le (fun most => (prt Q cm most 10 hp0 0).isSome) 10
  have hso := fwo_some hQ
  have step : ∀ (most : Nat) (I2 : Nat → Nat → Int32), most ≤ 10 → Agr (fun o => o ≠ 51) I I2 → row 51 hp0 I2 → ∃ I', Rank_partFrom S0 RD (some 47) (iI 0) (iI 0) (iI (most : Int)) (I2, J, Pst b f) = some (bI (prt Q cm most 10 hp0 0).isSome, (I', J, Pst b f)) ∧ Agr (fun o => o ≠ 51) I2 I' ∧ (prt Q cm most 10 hp0 0).elim (row 51 hp0 I') (fun r => row 51 r.1 I') := fun most I2 hm ha hr =>
    cl_part (J := J) (b := b) (f := f) hfit hm 10 RD hp0 0 I2 (by omega) (by unfold RD; omega) (by omega) (h48.agr fun x => ha 48 (by omega) x) (h49.agr fun x => ha 49 (by omega) x) ((ha 47 (by omega) 7).trans h7) hr hok0
  have key := jinv (body := Rank_fewestHeaps_L10 S0 (some 47)) (s0 := (iI 0, (I1, J, Pst b f))) (fun k s => ∃ I', s = (iI (k : Int), (I', J, Pst b f)) ∧ Agr (fun o => o ≠ 51) I I' ∧ row 51 hp0 I' ∧ ∀ j, j < k → (prt Q cm j 10 hp0 0).isSome = false) (fun r => ∃ I', Agr (fun o => o ≠ 51) I I' ∧ ((fwn Q cm < 10 ∧ r = .inr (iI (fwn Q cm : Int), (I', J, Pst b f)) ∧ row 51 (fwo Q cm).1 I') ∨ (fwn Q cm = 10 ∧ r = .inl (I', J, Pst b f) ∧ row 51 hp0 I'))) 10 ⟨I1, rfl, f2, r0, fun j hj => by omega⟩ (fun k s hk hs => ?_) (fun s hs => ?_) (by omega)
  · obtain ⟨r, h1, I2, a1, ⟨a2, a3, a4⟩ | ⟨a2, a3, a4⟩⟩ := key
    · refine ⟨I2, ?_, a1, a4⟩
      simp only [Rank_fewestHeaps, rc0, gi0, gl0, pi0, pl0, pz0, pr0, gr0_0, gr0_1, gr0_2, gr0_3, gr0_4, gr0_5, gr0_6, gr0_7, gr0_8, rc1, gi1, gl1, pi1, pl1, pz1, pr1, gr1_0, rc3, gi3, gl3, pi3, pl3, pz3, pr3, gr3_0, gr3_10, gr3_11, rc47, gi47, gl47, pi47, pl47, pz47, pr47, gr47_0, gr47_1, gr47_2, gr47_3, gr47_4, gr47_5, gr47_6, rc55, gi55, gl55, pi55, pl55, pz55, pr55, gr55_0, gr55_1, rc58, gi58, gl58, pi58, pl58, pz58, pr58, gr58_0, gr58_1, rc61, gi61, gl61, pi61, pl61, pz61, pr61, gr61_0, gr61_1, gr61_2, gr61_7, rc62, gi62, gl62, pi62, pl62, pz62, pr62, gr62_0, gr62_1, gr62_2, gr62_3, gr62_4, gr62_5, ld2, st2, an2, ld4, st4, an4, ld5, st5, an5, an6, ld48, st48, an48, ld49, st49, an49, ld50, st50, an50, ld51, st51, an51, ld52, st52, an52, ld53, st53, an53, ld54, st54, an54, ld56, st56, an56, ld57, st57, an57, ld59, st59, an59, ld60, st60, an60, ld63, st63, an63, ld64, st64, an64, ld65, st65, an65, ld66, st66, an66, ld67, st67, an67, ld68, st68, an68, ld69, st69, an69, ld70, st70, an70, rcct, gict, glct, pict, plct, pzct, prct, grct_0, grct_1, grct_2, grct_3, ldctm, stctm, anctm, ldctr, stctr, anctr, ldctp, stctp, anctp, anctR, rcru, giru, glru, piru, plru, pzru, prru, grru_7, ldcu, stcu, ancu, arct, ar6, rcro, giro, piro, pzro, grro_1, grro_2, grro_3, rcfo, gifo, pifo, pzfo, grfo_0, grfo_1, ldfop, stfop, anfop, ldfoe, stfoe, anfoe, Option.bind_some, if_true, if_false, n_0, f1, h1, a3, Sum.elim_inr]
    · obtain ⟨I3, b1, b2, b3⟩ := step 10 I2 (by omega) a1 a4
      rw [show ((10 : Nat) : Int) = 10 from rfl] at b1
      rw [a2] at hso
      rw [hso] at b3
      refine ⟨I3, ?_, a1.trans b2, b3⟩
      simp only [Rank_fewestHeaps, rc0, gi0, gl0, pi0, pl0, pz0, pr0, gr0_0, gr0_1, gr0_2, gr0_3, gr0_4, gr0_5, gr0_6, gr0_7, gr0_8, rc1, gi1, gl1, pi1, pl1, pz1, pr1, gr1_0, rc3, gi3, gl3, pi3, pl3, pz3, pr3, gr3_0, gr3_10, gr3_11, rc47, gi47, gl47, pi47, pl47, pz47, pr47, gr47_0, gr47_1, gr47_2, gr47_3, gr47_4, gr47_5, gr47_6, rc55, gi55, gl55, pi55, pl55, pz55, pr55, gr55_0, gr55_1, rc58, gi58, gl58, pi58, pl58, pz58, pr58, gr58_0, gr58_1, rc61, gi61, gl61, pi61, pl61, pz61, pr61, gr61_0, gr61_1, gr61_2, gr61_7, rc62, gi62, gl62, pi62, pl62, pz62, pr62, gr62_0, gr62_1, gr62_2, gr62_3, gr62_4, gr62_5, ld2, st2, an2, ld4, st4, an4, ld5, st5, an5, an6, ld48, st48, an48, ld49, st49, an49, ld50, st50, an50, ld51, st51, an51, ld52, st52, an52, ld53, st53, an53, ld54, st54, an54, ld56, st56, an56, ld57, st57, an57, ld59, st59, an59, ld60, st60, an60, ld63, st63, an63, ld64, st64, an64, ld65, st65, an65, ld66, st66, an66, ld67, st67, an67, ld68, st68, an68, ld69, st69, an69, ld70, st70, an70, rcct, gict, glct, pict, plct, pzct, prct, grct_0, grct_1, grct_2, grct_3, ldctm, stctm, anctm, ldctr, stctr, anctr, ldctp, stctp, anctp, anctR, rcru, giru, glru, piru, plru, pzru, prru, grru_7, ldcu, stcu, ancu, arct, ar6, rcro, giro, piro, pzro, grro_1, grro_2, grro_3, rcfo, gifo, pifo, pzfo, grfo_0, grfo_1, ldfop, stfop, anfop, ldfoe, stfoe, anfoe, Option.bind_some, if_true, if_false, n_0, n_10, f1, h1, a3, Sum.elim_inl, b1, a2]
      rfl
  · obtain ⟨I2, rfl, a1, a2, a3⟩ := hs
    obtain ⟨I3, b1, b2, b3⟩ := step k I2 (by omega) a1 a2
    cases e : prt Q cm k 10 hp0 0 with
    | none =>
      rw [e] at b1 b3
      refine ⟨.inl (iI ((k + 1 : Nat) : Int), (I3, J, Pst b f)), ?_, I3, rfl, a1.trans b2, b3, fun j hj => ?_⟩
      · simp (maxSteps := 4000000) (disch := omega) only [Rank_fewestHeaps_L10, Option.bind_some, if_true, if_false, n_0, n_1, n_2, n_3, n_4, n_5, n_6, n_7, n_8, n_9, n_10, n_12, n_15, n_20, n_24, n_32, n_48, n_57, n_59, n_80, n_97, n_99, n_100, n_122, n_680, n_700, n_999, n_1023, n_1024, iI_neg, iI_add, iI_sub, iI_lt, iI_le, iI_eq, show ¬ (10 : Int) ≤ (k : Int) by omega, b1, Option.isSome_none, bI_0]
        rfl
      · by_cases q : j = k
        · rw [q, e]; rfl
        · exact a3 j (by omega)
    | some r =>
      rw [e] at b1 b3
      have hk2 : fwn Q cm = k := fst_eq (p := fun most => (prt Q cm most 10 hp0 0).isSome) hk (by rw [e]; rfl) a3
      rw [hk2] at hso
      have hr : r = fwo Q cm := Option.some.inj (e.symm.trans hso)
      rw [hr] at b3
      refine ⟨.inr (.inr (iI (fwn Q cm : Int), (I3, J, Pst b f))), ?_, I3, a1.trans b2, Or.inl ⟨by omega, rfl, b3⟩⟩
      rw [hk2]
      simp (maxSteps := 4000000) (disch := omega) only [Rank_fewestHeaps_L10, Option.bind_some, if_true, if_false, n_0, n_1, n_2, n_3, n_4, n_5, n_6, n_7, n_8, n_9, n_10, n_12, n_15, n_20, n_24, n_32, n_48, n_57, n_59, n_80, n_97, n_99, n_100, n_122, n_680, n_700, n_999, n_1023, n_1024, iI_neg, iI_add, iI_sub, iI_lt, iI_le, iI_eq, show ¬ (10 : Int) ≤ (k : Int) by omega, b1, Option.isSome_some, bI_0, Bool.true_eq_false]
  · obtain ⟨I2, rfl, a1, a2, a3⟩ := hs
    have hk2 : fwn Q cm = 10 := fst_all (p := fun most => (prt Q cm most 10 hp0 0).isSome) a3
    refine ⟨.inr (.inl (I2, J, Pst b f)), ?_, I2, a1, Or.inr ⟨hk2, rfl, a2⟩⟩
    simp (maxSteps := 4000000) (disch := omega) only [Rank_fewestHeaps_L10, Option.bind_some, if_true, if_false, n_0, n_1, n_2, n_3, n_4, n_5, n_6, n_7, n_8, n_9, n_10, n_12, n_15, n_20, n_24, n_32, n_48, n_57, n_59, n_80, n_97, n_99, n_100, n_122, n_680, n_700, n_999, n_1023, n_1024, iI_neg, iI_add, iI_sub, iI_lt, iI_le, iI_eq, show (10 : Int) ≤ ((10 : Nat) : Int) by omega]
/-- the heaps of the room m -/
def QT (T : Tb) (m : Int) : (Nat → Bool) → Bool := Qt (abv T m 0) (evn T m 0) (ng T)
theorem cmb_lt (h : cmb T x = true) : x < ng T := by
  simp only [cmb, Bool.and_eq_true, decide_eq_true_eq] at h; exact h.1
theorem QT_fit (ht : tvC T) (hv : tvD T) : ∀ H g, g < 10 → cmb T g = true → (∀ y, H y = true → y < g ∧ cmb T y = true) → QT T m H = true → fit (abv T m 0) (evn T m 0) H g = QT T m (adg H g) := fun H g hg hc hH hq =>
  fit_Qt (ng_le ht) (fun x y h => ⟨abv_lt ht hv x y h, (abv_ng ht hv h).2⟩) (fun x y => evn_sym ht) (fun y hy => cmb_lt (hH y hy).2) (cmb_lt hc) (by
    cases e : H g
    · rfl
    · have := (hH g e).1; omega) hq
theorem QT_1 (ht : tvC T) (hv : tvD T) : ∀ g, cmb T g = true → QT T m (adg (fun _ => false) g) = true := fun g hc =>
  Qt_1 (ng_le ht) (fun x y h => ⟨abv_lt ht hv x y h, (abv_ng ht hv h).2⟩) (fun x y => evn_sym ht) (cmb_lt hc)
abbrev fwQ (T : Tb) (m g : Int) : Prop := isM T m ∧ (g = -1 ∨ (isG T g ∧ T 12 g.toNat = 1))
def fwH (T : Tb) (m : Int) : Nat → Nat → Bool := (fwo (QT T m) (cmb T)).1
def fwR (T : Tb) (m g : Int) : Int := if fwQ T m g then (if g = -1 then (fwn (QT T m) (cmb T) : Int) else (lowP (fwH T m (fst_ 10 (fun i => fwH T m i g.toNat))) : Int)) else -1
theorem fwH_in (ht : tvC T) (hv : tvD T) (hc : cmb T x = true) : ∃ i, i < (fwo (QT T m) (cmb T)).2 ∧ fwH T m i x = true := by
  have h1 := fwo_some (QT_1 (m := m) ht hv)
  obtain ⟨-, -, -, h2⟩ := prt_is 10 hp0 0 (fwo (QT T m) (cmb T)).1 (fwo (QT T m) (cmb T)).2 (by omega) (by omega) h1
  have := ng_le ht
  have := cmb_lt hc
  exact h2 x (by omega) (by omega) hc
theorem fwH_le (ht : tvC T) (hv : tvD T) : (fwo (QT T m) (cmb T)).2 ≤ 10 := by
  have h1 := fwo_some (QT_1 (m := m) ht hv)
  exact (prt_is 10 hp0 0 (fwo (QT T m) (cmb T)).1 (fwo (QT T m) (cmb T)).2 (by omega) (by omega) h1).2.1.2
theorem cl_few (E : EC T b I) (V : TV T) (hm : rg m) (hg : rg g) : ∃ I', Fi_few S0 (some 0) (iI m) (iI g) (I, J, Pst b f) = some (iI (fwR T m g), (I', J, Pst b f)) ∧ Agr outO I I' := by
  obtain ⟨⟨eA, eB⟩, ⟨eC, eD⟩, eE⟩ := id E
  obtain ⟨⟨vA, vB⟩, ⟨vC, vD⟩, vE, vF⟩ := id V
  have h0 := vC.1
  by_cases z : fwQ T m g
  · obtain ⟨I1, a1, a2, a3⟩ := cl_rank1 (J := J) (f := f) E V z.1
    obtain ⟨I2, b1, b2, b3⟩ := cl_heaps (J := J) (b := b) (f := f) (QT_fit (m := m) vC vD) (QT_1 vC vD) Qt_0 a3.2.1 a3.2.2 a3.1
    refine ⟨I2, ?_, (a2.sub fun o h => by omega).trans (b2.sub fun o h => by omega)⟩
    rcases z.2 with e | e
    · have hR : fwR T m g = (fwn (QT T m) (cmb T) : Int) := by unfold fwR; rw [if_pos z, if_pos e]
      rw [hR]
      simp (maxSteps := 4000000) (disch := omega) only [Fi_few, rc0, gi0, gl0, pi0, pl0, pz0, pr0, gr0_0, gr0_1, gr0_2, gr0_3, gr0_4, gr0_5, gr0_6, gr0_7, gr0_8, rc1, gi1, gl1, pi1, pl1, pz1, pr1, gr1_0, rc3, gi3, gl3, pi3, pl3, pz3, pr3, gr3_0, gr3_10, gr3_11, rc47, gi47, gl47, pi47, pl47, pz47, pr47, gr47_0, gr47_1, gr47_2, gr47_3, gr47_4, gr47_5, gr47_6, rc55, gi55, gl55, pi55, pl55, pz55, pr55, gr55_0, gr55_1, rc58, gi58, gl58, pi58, pl58, pz58, pr58, gr58_0, gr58_1, rc61, gi61, gl61, pi61, pl61, pz61, pr61, gr61_0, gr61_1, gr61_2, gr61_7, rc62, gi62, gl62, pi62, pl62, pz62, pr62, gr62_0, gr62_1, gr62_2, gr62_3, gr62_4, gr62_5, ld2, st2, an2, ld4, st4, an4, ld5, st5, an5, an6, ld48, st48, an48, ld49, st49, an49, ld50, st50, an50, ld51, st51, an51, ld52, st52, an52, ld53, st53, an53, ld54, st54, an54, ld56, st56, an56, ld57, st57, an57, ld59, st59, an59, ld60, st60, an60, ld63, st63, an63, ld64, st64, an64, ld65, st65, an65, ld66, st66, an66, ld67, st67, an67, ld68, st68, an68, ld69, st69, an69, ld70, st70, an70, rcct, gict, glct, pict, plct, pzct, prct, grct_0, grct_1, grct_2, grct_3, ldctm, stctm, anctm, ldctr, stctr, anctr, ldctp, stctp, anctp, anctR, rcru, giru, glru, piru, plru, pzru, prru, grru_7, ldcu, stcu, ancu, arct, ar6, rcro, giro, piro, pzro, grro_1, grro_2, grro_3, rcfo, gifo, pifo, pzfo, grfo_0, grfo_1, ldfop, stfop, anfop, ldfoe, stfoe, anfoe, Option.bind_some, if_true, if_false, n_0, n_1, n_2, n_3, n_4, n_5, n_6, n_7, n_8, n_9, n_10, n_12, n_15, n_20, n_24, n_32, n_48, n_57, n_59, n_80, n_97, n_99, n_100, n_122, n_680, n_700, n_999, n_1023, n_1024, iI_neg, iI_add, iI_sub, iI_lt, iI_le, iI_eq, e, Sum.elim_inl, a1, show ¬ (1 : Int) = 0 by omega, b1]
    · have e1 : ¬ g = -1 := by omega
      have hR : fwR T m g = (lowP (fwH T m (fst_ 10 (fun i => fwH T m i g.toNat))) : Int) := by unfold fwR; rw [if_pos z, if_neg e1]
      rw [hR]
      obtain ⟨x, rfl⟩ := nN g e.1.1
      simp only [Int.toNat_natCast] at e ⊢
      have hc : cmb T x = true := by
        have := ng_of e.1
        simp only [Int.toNat_natCast] at this
        simp [cmb, com, this, e.2]
      obtain ⟨i, i1, i2⟩ := fwH_in (m := m) vC vD hc
      have hl := fwH_le (m := m) vC vD
      have hlt : fst_ 10 (fun i => fwH T m i x) < 10 := fst_any.mpr (anyb_iff.mpr ⟨i, by omega, i2⟩)
      have hs := jsearch (body := Rank_leastBeside_L2 S0 (some 47) (iI (x : Int)) (I2, J, Pst b f)) 10 (fun i => fwH T m i x) (fun i => iI (lowP (fwH T m i) : Int)) (fun k hk => ?_) ?_ (by omega)
      · rw [if_pos hlt] at hs
        have hlb : Rank_leastBeside S0 (some 47) (iI (x : Int)) (I2, J, Pst b f) = some (iI (lowP (fwH T m (fst_ 10 (fun i => fwH T m i x))) : Int)) := by
          simp only [Rank_leastBeside, rc0, gi0, gl0, pi0, pl0, pz0, pr0, gr0_0, gr0_1, gr0_2, gr0_3, gr0_4, gr0_5, gr0_6, gr0_7, gr0_8, rc1, gi1, gl1, pi1, pl1, pz1, pr1, gr1_0, rc3, gi3, gl3, pi3, pl3, pz3, pr3, gr3_0, gr3_10, gr3_11, rc47, gi47, gl47, pi47, pl47, pz47, pr47, gr47_0, gr47_1, gr47_2, gr47_3, gr47_4, gr47_5, gr47_6, rc55, gi55, gl55, pi55, pl55, pz55, pr55, gr55_0, gr55_1, rc58, gi58, gl58, pi58, pl58, pz58, pr58, gr58_0, gr58_1, rc61, gi61, gl61, pi61, pl61, pz61, pr61, gr61_0, gr61_1, gr61_2, gr61_7, rc62, gi62, gl62, pi62, pl62, pz62, pr62, gr62_0, gr62_1, gr62_2, gr62_3, gr62_4, gr62_5, ld2, st2, an2, ld4, st4, an4, ld5, st5, an5, an6, ld48, st48, an48, ld49, st49, an49, ld50, st50, an50, ld51, st51, an51, ld52, st52, an52, ld53, st53, an53, ld54, st54, an54, ld56, st56, an56, ld57, st57, an57, ld59, st59, an59, ld60, st60, an60, ld63, st63, an63, ld64, st64, an64, ld65, st65, an65, ld66, st66, an66, ld67, st67, an67, ld68, st68, an68, ld69, st69, an69, ld70, st70, an70, rcct, gict, glct, pict, plct, pzct, prct, grct_0, grct_1, grct_2, grct_3, ldctm, stctm, anctm, ldctr, stctr, anctr, ldctp, stctp, anctp, anctR, rcru, giru, glru, piru, plru, pzru, prru, grru_7, ldcu, stcu, ancu, arct, ar6, rcro, giro, piro, pzro, grro_1, grro_2, grro_3, rcfo, gifo, pifo, pzfo, grfo_0, grfo_1, ldfop, stfop, anfop, ldfoe, stfoe, anfoe, Option.bind_some, if_true, if_false, n_0, hs, Sum.elim_inr]
        simp (maxSteps := 4000000) (disch := omega) only [Fi_few, rc0, gi0, gl0, pi0, pl0, pz0, pr0, gr0_0, gr0_1, gr0_2, gr0_3, gr0_4, gr0_5, gr0_6, gr0_7, gr0_8, rc1, gi1, gl1, pi1, pl1, pz1, pr1, gr1_0, rc3, gi3, gl3, pi3, pl3, pz3, pr3, gr3_0, gr3_10, gr3_11, rc47, gi47, gl47, pi47, pl47, pz47, pr47, gr47_0, gr47_1, gr47_2, gr47_3, gr47_4, gr47_5, gr47_6, rc55, gi55, gl55, pi55, pl55, pz55, pr55, gr55_0, gr55_1, rc58, gi58, gl58, pi58, pl58, pz58, pr58, gr58_0, gr58_1, rc61, gi61, gl61, pi61, pl61, pz61, pr61, gr61_0, gr61_1, gr61_2, gr61_7, rc62, gi62, gl62, pi62, pl62, pz62, pr62, gr62_0, gr62_1, gr62_2, gr62_3, gr62_4, gr62_5, ld2, st2, an2, ld4, st4, an4, ld5, st5, an5, an6, ld48, st48, an48, ld49, st49, an49, ld50, st50, an50, ld51, st51, an51, ld52, st52, an52, ld53, st53, an53, ld54, st54, an54, ld56, st56, an56, ld57, st57, an57, ld59, st59, an59, ld60, st60, an60, ld63, st63, an63, ld64, st64, an64, ld65, st65, an65, ld66, st66, an66, ld67, st67, an67, ld68, st68, an68, ld69, st69, an69, ld70, st70, an70, rcct, gict, glct, pict, plct, pzct, prct, grct_0, grct_1, grct_2, grct_3, ldctm, stctm, anctm, ldctr, stctr, anctr, ldctp, stctp, anctp, anctR, rcru, giru, glru, piru, plru, pzru, prru, grru_7, ldcu, stcu, ancu, arct, ar6, rcro, giro, piro, pzro, grro_1, grro_2, grro_3, rcfo, gifo, pifo, pzfo, grfo_0, grfo_1, ldfop, stfop, anfop, ldfoe, stfoe, anfoe, Option.bind_some, if_true, if_false, n_0, n_1, n_2, n_3, n_4, n_5, n_6, n_7, n_8, n_9, n_10, n_12, n_15, n_20, n_24, n_32, n_48, n_57, n_59, n_80, n_97, n_99, n_100, n_122, n_680, n_700, n_999, n_1023, n_1024, iI_neg, iI_add, iI_sub, iI_lt, iI_le, iI_eq, e1, cl_isComing eC eE vC hg, bI_0, decide_eq_false_iff_not, Int.toNat_natCast, iff_true_intro e, not_true, Sum.elim_inl, a1, show ¬ (1 : Int) = 0 by omega, b1, hlb]
      · have hr : I2 51 k = iI (bt 10 (fwH T m k) : Int) := b3 k hk
        have := h0.1
        simp (maxSteps := 4000000) (disch := omega) only [Rank_leastBeside_L2, rc0, gi0, gl0, pi0, pl0, pz0, pr0, gr0_0, gr0_1, gr0_2, gr0_3, gr0_4, gr0_5, gr0_6, gr0_7, gr0_8, rc1, gi1, gl1, pi1, pl1, pz1, pr1, gr1_0, rc3, gi3, gl3, pi3, pl3, pz3, pr3, gr3_0, gr3_10, gr3_11, rc47, gi47, gl47, pi47, pl47, pz47, pr47, gr47_0, gr47_1, gr47_2, gr47_3, gr47_4, gr47_5, gr47_6, rc55, gi55, gl55, pi55, pl55, pz55, pr55, gr55_0, gr55_1, rc58, gi58, gl58, pi58, pl58, pz58, pr58, gr58_0, gr58_1, rc61, gi61, gl61, pi61, pl61, pz61, pr61, gr61_0, gr61_1, gr61_2, gr61_7, rc62, gi62, gl62, pi62, pl62, pz62, pr62, gr62_0, gr62_1, gr62_2, gr62_3, gr62_4, gr62_5, ld2, st2, an2, ld4, st4, an4, ld5, st5, an5, an6, ld48, st48, an48, ld49, st49, an49, ld50, st50, an50, ld51, st51, an51, ld52, st52, an52, ld53, st53, an53, ld54, st54, an54, ld56, st56, an56, ld57, st57, an57, ld59, st59, an59, ld60, st60, an60, ld63, st63, an63, ld64, st64, an64, ld65, st65, an65, ld66, st66, an66, ld67, st67, an67, ld68, st68, an68, ld69, st69, an69, ld70, st70, an70, rcct, gict, glct, pict, plct, pzct, prct, grct_0, grct_1, grct_2, grct_3, ldctm, stctm, anctm, ldctr, stctr, anctr, ldctp, stctp, anctp, anctR, rcru, giru, glru, piru, plru, pzru, prru, grru_7, ldcu, stcu, ancu, arct, ar6, rcro, giro, piro, pzro, grro_1, grro_2, grro_3, rcfo, gifo, pifo, pzfo, grfo_0, grfo_1, ldfop, stfop, anfop, ldfoe, stfoe, anfoe, Option.bind_some, if_true, if_false, n_0, n_1, n_2, n_3, n_4, n_5, n_6, n_7, n_8, n_9, n_10, n_12, n_15, n_20, n_24, n_32, n_48, n_57, n_59, n_80, n_97, n_99, n_100, n_122, n_680, n_700, n_999, n_1023, n_1024, iI_neg, iI_add, iI_sub, iI_lt, iI_le, iI_eq, show ¬ (10 : Int) ≤ (k : Int) by omega, Int.toNat_natCast, hr, bt10_has (show x < 10 by omega), bI_0, sI_low]
        cases fwH T m k x <;> rfl
      · simp (maxSteps := 4000000) (disch := omega) only [Rank_leastBeside_L2, Option.bind_some, if_true, if_false, n_0, n_1, n_2, n_3, n_4, n_5, n_6, n_7, n_8, n_9, n_10, n_12, n_15, n_20, n_24, n_32, n_48, n_57, n_59, n_80, n_97, n_99, n_100, n_122, n_680, n_700, n_999, n_1023, n_1024, iI_neg, iI_add, iI_sub, iI_lt, iI_le, iI_eq, show (10 : Int) ≤ ((10 : Nat) : Int) by omega]
  · have hR : fwR T m g = -1 := if_neg z
    rw [hR]
    by_cases z1 : g = -1 ∨ (isG T g ∧ T 12 g.toNat = 1)
    · have z2 : ¬ isM T m := fun q => z ⟨q, z1⟩
      refine ⟨I, ?_, Agr.refl _ _⟩
      rcases z1 with e | e
      · simp (maxSteps := 4000000) (disch := omega) only [Fi_few, rc0, gi0, gl0, pi0, pl0, pz0, pr0, gr0_0, gr0_1, gr0_2, gr0_3, gr0_4, gr0_5, gr0_6, gr0_7, gr0_8, rc1, gi1, gl1, pi1, pl1, pz1, pr1, gr1_0, rc3, gi3, gl3, pi3, pl3, pz3, pr3, gr3_0, gr3_10, gr3_11, rc47, gi47, gl47, pi47, pl47, pz47, pr47, gr47_0, gr47_1, gr47_2, gr47_3, gr47_4, gr47_5, gr47_6, rc55, gi55, gl55, pi55, pl55, pz55, pr55, gr55_0, gr55_1, rc58, gi58, gl58, pi58, pl58, pz58, pr58, gr58_0, gr58_1, rc61, gi61, gl61, pi61, pl61, pz61, pr61, gr61_0, gr61_1, gr61_2, gr61_7, rc62, gi62, gl62, pi62, pl62, pz62, pr62, gr62_0, gr62_1, gr62_2, gr62_3, gr62_4, gr62_5, ld2, st2, an2, ld4, st4, an4, ld5, st5, an5, an6, ld48, st48, an48, ld49, st49, an49, ld50, st50, an50, ld51, st51, an51, ld52, st52, an52, ld53, st53, an53, ld54, st54, an54, ld56, st56, an56, ld57, st57, an57, ld59, st59, an59, ld60, st60, an60, ld63, st63, an63, ld64, st64, an64, ld65, st65, an65, ld66, st66, an66, ld67, st67, an67, ld68, st68, an68, ld69, st69, an69, ld70, st70, an70, rcct, gict, glct, pict, plct, pzct, prct, grct_0, grct_1, grct_2, grct_3, ldctm, stctm, anctm, ldctr, stctr, anctr, ldctp, stctp, anctp, anctR, rcru, giru, glru, piru, plru, pzru, prru, grru_7, ldcu, stcu, ancu, arct, ar6, rcro, giro, piro, pzro, grro_1, grro_2, grro_3, rcfo, gifo, pifo, pzfo, grfo_0, grfo_1, ldfop, stfop, anfop, ldfoe, stfoe, anfoe, Option.bind_some, if_true, if_false, n_0, n_1, n_2, n_3, n_4, n_5, n_6, n_7, n_8, n_9, n_10, n_12, n_15, n_20, n_24, n_32, n_48, n_57, n_59, n_80, n_97, n_99, n_100, n_122, n_680, n_700, n_999, n_1023, n_1024, iI_neg, iI_add, iI_sub, iI_lt, iI_le, iI_eq, e, Sum.elim_inl, cl_rank0 E V hm z2]
      · simp (maxSteps := 4000000) (disch := omega) only [Fi_few, rc0, gi0, gl0, pi0, pl0, pz0, pr0, gr0_0, gr0_1, gr0_2, gr0_3, gr0_4, gr0_5, gr0_6, gr0_7, gr0_8, rc1, gi1, gl1, pi1, pl1, pz1, pr1, gr1_0, rc3, gi3, gl3, pi3, pl3, pz3, pr3, gr3_0, gr3_10, gr3_11, rc47, gi47, gl47, pi47, pl47, pz47, pr47, gr47_0, gr47_1, gr47_2, gr47_3, gr47_4, gr47_5, gr47_6, rc55, gi55, gl55, pi55, pl55, pz55, pr55, gr55_0, gr55_1, rc58, gi58, gl58, pi58, pl58, pz58, pr58, gr58_0, gr58_1, rc61, gi61, gl61, pi61, pl61, pz61, pr61, gr61_0, gr61_1, gr61_2, gr61_7, rc62, gi62, gl62, pi62, pl62, pz62, pr62, gr62_0, gr62_1, gr62_2, gr62_3, gr62_4, gr62_5, ld2, st2, an2, ld4, st4, an4, ld5, st5, an5, an6, ld48, st48, an48, ld49, st49, an49, ld50, st50, an50, ld51, st51, an51, ld52, st52, an52, ld53, st53, an53, ld54, st54, an54, ld56, st56, an56, ld57, st57, an57, ld59, st59, an59, ld60, st60, an60, ld63, st63, an63, ld64, st64, an64, ld65, st65, an65, ld66, st66, an66, ld67, st67, an67, ld68, st68, an68, ld69, st69, an69, ld70, st70, an70, rcct, gict, glct, pict, plct, pzct, prct, grct_0, grct_1, grct_2, grct_3, ldctm, stctm, anctm, ldctr, stctr, anctr, ldctp, stctp, anctp, anctR, rcru, giru, glru, piru, plru, pzru, prru, grru_7, ldcu, stcu, ancu, arct, ar6, rcro, giro, piro, pzro, grro_1, grro_2, grro_3, rcfo, gifo, pifo, pzfo, grfo_0, grfo_1, ldfop, stfop, anfop, ldfoe, stfoe, anfoe, Option.bind_some, if_true, if_false, n_0, n_1, n_2, n_3, n_4, n_5, n_6, n_7, n_8, n_9, n_10, n_12, n_15, n_20, n_24, n_32, n_48, n_57, n_59, n_80, n_97, n_99, n_100, n_122, n_680, n_700, n_999, n_1023, n_1024, iI_neg, iI_add, iI_sub, iI_lt, iI_le, iI_eq, show ¬ g = -1 by omega, cl_isComing eC eE vC hg, bI_0, decide_eq_false_iff_not, iff_true_intro e, not_true, Sum.elim_inl, cl_rank0 E V hm z2]
    · refine ⟨I, ?_, Agr.refl _ _⟩
      have z3 : ¬ g = -1 := fun q => z1 (Or.inl q)
      have z4 : ¬ (isG T g ∧ T 12 g.toNat = 1) := fun q => z1 (Or.inr q)
      simp (maxSteps := 4000000) (disch := omega) only [Fi_few, rc0, gi0, gl0, pi0, pl0, pz0, pr0, gr0_0, gr0_1, gr0_2, gr0_3, gr0_4, gr0_5, gr0_6, gr0_7, gr0_8, rc1, gi1, gl1, pi1, pl1, pz1, pr1, gr1_0, rc3, gi3, gl3, pi3, pl3, pz3, pr3, gr3_0, gr3_10, gr3_11, rc47, gi47, gl47, pi47, pl47, pz47, pr47, gr47_0, gr47_1, gr47_2, gr47_3, gr47_4, gr47_5, gr47_6, rc55, gi55, gl55, pi55, pl55, pz55, pr55, gr55_0, gr55_1, rc58, gi58, gl58, pi58, pl58, pz58, pr58, gr58_0, gr58_1, rc61, gi61, gl61, pi61, pl61, pz61, pr61, gr61_0, gr61_1, gr61_2, gr61_7, rc62, gi62, gl62, pi62, pl62, pz62, pr62, gr62_0, gr62_1, gr62_2, gr62_3, gr62_4, gr62_5, ld2, st2, an2, ld4, st4, an4, ld5, st5, an5, an6, ld48, st48, an48, ld49, st49, an49, ld50, st50, an50, ld51, st51, an51, ld52, st52, an52, ld53, st53, an53, ld54, st54, an54, ld56, st56, an56, ld57, st57, an57, ld59, st59, an59, ld60, st60, an60, ld63, st63, an63, ld64, st64, an64, ld65, st65, an65, ld66, st66, an66, ld67, st67, an67, ld68, st68, an68, ld69, st69, an69, ld70, st70, an70, rcct, gict, glct, pict, plct, pzct, prct, grct_0, grct_1, grct_2, grct_3, ldctm, stctm, anctm, ldctr, stctr, anctr, ldctp, stctp, anctp, anctR, rcru, giru, glru, piru, plru, pzru, prru, grru_7, ldcu, stcu, ancu, arct, ar6, rcro, giro, piro, pzro, grro_1, grro_2, grro_3, rcfo, gifo, pifo, pzfo, grfo_0, grfo_1, ldfop, stfop, anfop, ldfoe, stfoe, anfoe, Option.bind_some, if_true, if_false, n_0, n_1, n_2, n_3, n_4, n_5, n_6, n_7, n_8, n_9, n_10, n_12, n_15, n_20, n_24, n_32, n_48, n_57, n_59, n_80, n_97, n_99, n_100, n_122, n_680, n_700, n_999, n_1023, n_1024, iI_neg, iI_add, iI_sub, iI_lt, iI_le, iI_eq, z3, cl_isComing eC eE vC hg, bI_0, decide_eq_false_iff_not, iff_false_intro z4, not_false_eq_true, Sum.elim_inr]
end
