/-! ===== layer 2: seatings: there is one; what the class keeps, what it answers ===== -/
section
variable {T : Tb} {I I' I'' : Nat → Nat → Int32} {J : Nat → Nat → Int64} {b : Bool} {f f0 k n i j x y p q d kk jj nn o : Nat} {m g lim w h mv c c1 c2 a : Int} {tk kep sty : Nat → Bool} {pl : Nat → Nat} {hom : Nat → Int} {st : FdS}
set_option maxHeartbeats 8000000 in
theorem lfn_any (h0 : st.1 = true) : (lfn g lim w h mv pl st).1 = true := by
  unfold lfn
  split
  · split
    · rfl
    · exact h0
  · exact h0
set_option maxHeartbeats 8000000 in
theorem fl_inv {σ : Type} {F : Nat → σ → σ} {s : σ} (Q : σ → Prop) (h0 : Q s) : ∀ {n : Nat}, (∀ p s, p < n → Q s → Q (F p s)) → Q (fl F n s)
  | 0, _ => h0
  | n + 1, h => h n _ (by omega) (fl_inv Q h0 (n := n) fun p s hp => h p s (by omega))
set_option maxHeartbeats 8000000 in
theorem sFd_any : ∀ (d : Nat) (tk : Nat → Bool) (pl : Nat → Nat) (w h mv : Int) (st : FdS), st.1 = true → (sFd T m n g lim hom sty d tk pl w h mv st).1 = true
  | 0, tk, pl, w, h, mv, st, h0 => lfn_any h0
  | d + 1, tk, pl, w, h, mv, st, h0 => fl_inv (fun s : FdS => s.1 = true) h0 fun p s hp hs => by
    by_cases e : tk p = false ∧ okS sty hom (nK T - (d + 1)) p = true
    · rw [if_pos e]; exact sFd_any d _ _ _ _ _ _ hs
    · rw [if_neg e]; exact hs
set_option maxHeartbeats 8000000 in
theorem fl_hit {σ : Type} {F : Nat → σ → σ} (Q : σ → Prop) (hQ : ∀ p s, Q s → Q (F p s)) (hp : ∀ s, Q (F p s)) : ∀ {n : Nat} {s : σ}, p < n → Q (fl F n s)
  | 0, _, h => by omega
  | n + 1, s, h => by
    by_cases e : p = n
    · subst e; exact hp _
    · exact hQ n _ (fl_hit Q hQ hp (n := n) (by omega))
set_option maxHeartbeats 8000000 in
theorem cnt_tt : ∀ n, cnt n (fun _ => true) = n
  | 0 => rfl
  | n + 1 => by
    show cnt n (fun _ => true) + (if true = true then 1 else 0) = n + 1
    rw [cnt_tt n, if_pos rfl]
set_option maxHeartbeats 8000000 in
theorem cnt_add1 (hp : p < n) (hf : tk p = false) : cnt n (tku tk p) = cnt n tk + 1 := by
  have h := cnt_del (p := tku tk p) hp (by simp [tku])
  have h2 : cnt n (fun y => tku tk p y && !decide (y = p)) = cnt n tk := cnt_ext fun y _ => by
    by_cases e : y = p
    · rw [e, hf]; simp
    · simp [tku, e]
  omega
set_option maxHeartbeats 8000000 in
theorem sFd_one (hg : g = 0 ∨ g = 1) (hsty : ∀ i, sty i = false) : ∀ (d : Nat) (tk : Nat → Bool) (pl : Nat → Nat) (w h mv : Int) (st : FdS), cnt n tk + d ≤ n → (sFd T m n g lim hom sty d tk pl w h mv st).1 = true
  | 0, tk, pl, w, h, mv, st, _ => by
    show (lfn g lim w h mv pl st).1 = true
    cases e : st.1
    · unfold lfn
      have hw : wrt g lim w h mv st = true := by
        unfold wrt
        rw [if_neg (by omega), e]
        rfl
      rw [if_pos hw, if_pos (Or.inl e)]
    · exact lfn_any e
  | d + 1, tk, pl, w, h, mv, st, hc => by
    have hex : ∃ p, p < n ∧ tk p = false := by
      apply Classical.byContradiction
      intro hq
      have h1 : ∀ p, p < n → tk p = true := fun p hp => by
        cases e : tk p
        · exact absurd ⟨p, hp, e⟩ hq
        · rfl
      have h2 : cnt n tk = cnt n (fun _ => true) := cnt_ext fun p hp => h1 p hp
      have h3 : cnt n (fun _ => true) = n := cnt_tt n
      omega
    obtain ⟨p, hp, hf⟩ := hex
    refine fl_hit (p := p) (fun s : FdS => s.1 = true) (fun q s hs => ?_) (fun s => ?_) hp
    · by_cases e : tk q = false ∧ okS sty hom (nK T - (d + 1)) q = true
      · rw [if_pos e]; exact sFd_any d _ _ _ _ _ _ hs
      · rw [if_neg e]; exact hs
    · have hk : okS sty hom (nK T - (d + 1)) p = true := by unfold okS; rw [hsty]; rfl
      rw [if_pos ⟨hf, hk⟩]
      refine sFd_one hg hsty d _ _ _ _ _ _ ?_
      have h1 := cnt_add1 (n := n) (tk := tk) hp hf
      omega
/-- may all be asked for -/
abbrev askS (T : Tb) (m : Int) : Prop := isM T m ∧ nK T ≤ 7 ∧ T 3 m.toNat ≤ 8 ∧ (nK T : Int) ≤ T 3 m.toNat
abbrev nP (T : Tb) (m : Int) : Nat := (T 3 m.toNat).toNat
set_option maxHeartbeats 8000000 in
theorem fnd_any (hg : g = 0 ∨ g = 1) (ha : askS T m) : (fnd T m (nP T m) g lim).1 = true := by
  refine sFd_one hg (fun i => ?_) _ _ _ _ _ _ _ ?_
  · unfold styF
    rw [decide_eq_false (p := (g = 2 ∧ T 14 (mg T i) = m) ∧ T 13 (mg T i) = 1) (fun q => by omega), Bool.and_false]
  · rw [cnt_0 fun _ _ => rfl]
    have := ha.2.2.2
    unfold nP
    omega
set_option maxHeartbeats 8000000 in
theorem EC.agrf (E : EC T b I) (V : TV T) (ha : Agr (fun o => o ≤ 6 ∨ o = 7 ∨ o = 17 ∨ o = 27 ∨ o = 37 ∨ (74 ≤ o ∧ o < 132)) I I') : EC T b I' := by
  obtain ⟨⟨eA, eB⟩, ⟨eC, eD⟩, eE⟩ := E
  obtain ⟨⟨vA, vB⟩, ⟨vC, vD⟩, vE, vF⟩ := V
  have h0 := vC.1
  have hc := ct_or b
  refine ⟨⟨eA.agr (ha.sub fun o h => by omega), eB.agr (ha 0 (by omega) 9) fun k hk => ?_⟩, ⟨eC.agr ⟨ha _ (by omega) _, ha _ (by omega) _, ha _ (by omega) _⟩ (ha.sub fun o h => by omega), eD.agr (ha.sub fun o h => by omega) (by omega)⟩, eE.agr ⟨ha _ (by omega) _, ha _ (by omega) _⟩ (ha.sub fun o h => by omega)⟩
  have := ro_is k
  exact ⟨ha _ (by omega) _, ha _ (by omega) _, ha _ (by omega) _⟩
abbrev chg (c1 c2 : Int) (j : Nat) : Int := if j = 2 then c2 else c1
/-- what was found, and at which change -/
def fcK (T : Tb) (c1 c2 : Int) (I : Nat → Nat → Int32) : Prop := ∀ k j : Nat, k < 4 → j < 3 → ∃ c l : Int, (I (fo k j) 2 = iI c ∧ rg l ∧ I (fo k j) 3 = iI l) ∧ (-1 ≤ c ∧ c ≤ chg c1 c2 j) ∧ (c = chg c1 c2 j → (k : Int) < T 0 1 ∧ fdC T (fo k j) l (fnd T (k : Int) (nP T (k : Int)) (j : Int) l) I)
abbrev outF (m : Int) (j o : Nat) : Prop := (o < 61 ∨ 70 < o) ∧ o ≠ fo m.toNat j ∧ o ≠ fo m.toNat j + 1 ∧ o ≠ fo m.toNat j + 2
set_option maxHeartbeats 8000000 in
theorem fo_e (k j : Nat) : fo k j = 8 + 10 * k + 3 * j := by unfold fo; omega
set_option maxHeartbeats 8000000 in
theorem nK_pc (he : cE T b I) (ht : tvC T) : Jd_bitCount (I (ct b) 7) = iI (nK T : Int) := by
  rw [he.1.1, bcom10 ht, pcI (by omega)]
  rfl
set_option maxHeartbeats 8000000 in
theorem cl_seatings (E : EC T b I) (V : TV T) (hK : cK c1 c2 b I) (hc : (0 ≤ c1 ∧ c1 < 100000) ∧ 0 ≤ c2 ∧ c2 < 100000) (hR : fcK T c1 c2 I) (hm : rg m) (hj : jj < 3) (hl : rg lim) (hA : askS T m) : ∃ I' f', Fi_seatings S0 (some 0) (iI m) (iI (jj : Int)) (iI lim) (I, J, Pst b f) = some (some (fo m.toNat jj), (I', J, Pst b f')) ∧ EC T b I' ∧ fcK T c1 c2 I' ∧ Agr (outF m jj) I I' ∧ fdC T (fo m.toNat jj) lim (fnd T m (nP T m) (jj : Int) lim) I' := by
  obtain ⟨⟨eA, eB⟩, ⟨eC, eD⟩, eE⟩ := id E
  obtain ⟨⟨vA, vB⟩, ⟨vC, vD⟩, vE, vF⟩ := id V
  have hB := vB.1
  have hcb := ct_or b
  obtain ⟨a1, a2, a3, a4⟩ := hA
  have h3 := vB.2 _ (mN a1)
  have hk : m.toNat < 4 ∧ jj < 3 := ⟨by omega, hj⟩
  have hmm : ((m.toNat : Nat) : Int) = m := by omega
  obtain ⟨c, l, ⟨r1, r2, r3⟩, r4, r5⟩ := hR m.toNat jj hk.1 hj
  rw [hmm] at r5
  have hr5 := ((eB.2 m.toNat hk.1).2 (mN a1)).2
  have hnK := nK_pc eE vC
  have hcan : Room_canSeat S0 (some (ro m.toNat)) (iI (nK T : Int)) (I, J, Pst b f) = some (iI 1) := by
    simp (maxSteps := 4000000) (disch := omega) only [Room_canSeat, rc0, gi0, gl0, pi0, pl0, pz0, pr0, gr0_0, gr0_1, gr0_2, gr0_3, gr0_4, gr0_5, gr0_6, gr0_7, gr0_8, rc1, gi1, gl1, pi1, pl1, pz1, pr1, gr1_0, rc3, gi3, gl3, pi3, pl3, pz3, pr3, gr3_0, gr3_10, gr3_11, rc47, gi47, gl47, pi47, pl47, pz47, pr47, gr47_0, gr47_1, gr47_2, gr47_3, gr47_4, gr47_5, gr47_6, rc55, gi55, gl55, pi55, pl55, pz55, pr55, gr55_0, gr55_1, rc58, gi58, gl58, pi58, pl58, pz58, pr58, gr58_0, gr58_1, rc61, gi61, gl61, pi61, pl61, pz61, pr61, gr61_0, gr61_1, gr61_2, gr61_7, rc62, gi62, gl62, pi62, pl62, pz62, pr62, gr62_0, gr62_1, gr62_2, gr62_3, gr62_4, gr62_5, ld2, st2, an2, ld4, st4, an4, ld5, st5, an5, an6, ld48, st48, an48, ld49, st49, an49, ld50, st50, an50, ld51, st51, an51, ld52, st52, an52, ld53, st53, an53, ld54, st54, an54, ld56, st56, an56, ld57, st57, an57, ld59, st59, an59, ld60, st60, an60, ld63, st63, an63, ld64, st64, an64, ld65, st65, an65, ld66, st66, an66, ld67, st67, an67, ld68, st68, an68, ld69, st69, an69, ld70, st70, an70, rcct, gict, glct, pict, plct, pzct, prct, grct_0, grct_1, grct_2, grct_3, ldctm, stctm, anctm, ldctr, stctr, anctr, ldctp, stctp, anctp, anctR, rcru, giru, glru, piru, plru, pzru, prru, grru_7, ldcu, stcu, ancu, arct, ar6, rcro, giro, piro, pzro, grro_1, grro_2, grro_3, rcfo, gifo, pifo, pzfo, grfo_0, grfo_1, ldfop, stfop, anfop, ldfoe, stfoe, anfoe, Option.bind_some, if_true, if_false, n_0, n_1, n_2, n_3, n_4, n_5, n_6, n_7, n_8, n_9, n_10, n_12, n_15, n_20, n_24, n_32, n_48, n_57, n_59, n_80, n_97, n_99, n_100, n_122, n_680, n_700, n_999, n_1023, n_1024, iI_neg, iI_add, iI_sub, iI_lt, iI_le, iI_eq, hr5, show ¬ (7 : Int) < (nK T : Int) by omega, show ¬ (8 : Int) < T 3 m.toNat by omega, show ¬ T 3 m.toNat < (nK T : Int) by omega]
  have hfor : Room_foundFor S0 (some (ro m.toNat)) (iI (jj : Int)) (I, J, Pst b f) = some (some (fo m.toNat jj)) := by
    unfold Room_foundFor
    rcases (show jj = 0 ∨ jj = 1 ∨ jj = 2 by omega) with e | e | e
    · subst e
      rw [rcro hk.1, Option.bind_some, if_pos (by rfl), grro_1 hk.1, Option.bind_some]
    · subst e
      rw [rcro hk.1, Option.bind_some, if_neg (by decide), if_pos (by rfl), grro_2 hk.1, Option.bind_some]
    · subst e
      rw [rcro hk.1, Option.bind_some, if_neg (by decide), if_neg (by decide), grro_3 hk.1, Option.bind_some]
  have hch : (if iI (jj : Int) = (2 : Int32) then ((gR S0 11 7 (I, J, Pst b f) (some 0)).bind fun x19 => (gI S0 0 10 (I, J, Pst b f) x19).bind fun x20 => some x20) else ((gR S0 11 7 (I, J, Pst b f) (some 0)).bind fun x17 => (gI S0 0 9 (I, J, Pst b f) x17).bind fun x18 => some x18) : Option Int32) = some (iI (chg c1 c2 jj)) := by
    rw [gr0_7, Option.bind_some, Option.bind_some, gict, gict, Option.bind_some, Option.bind_some, hK.1, hK.2]
    by_cases e : jj = 2
    · rw [if_pos (by rw [e]; rfl), show chg c1 c2 jj = c2 from if_pos e]
    · rw [if_neg (by rw [n_2, iI_eq (by omega)]; omega), show chg c1 c2 jj = c1 from if_neg e]
  have hcr : 0 ≤ chg c1 c2 jj ∧ chg c1 c2 jj < 100000 := by unfold chg; split <;> omega
  by_cases e : c = chg c1 c2 jj ∧ l = lim
  · obtain ⟨e1, e2⟩ := e
    subst e2
    refine ⟨I, f, ?_, E, hR, Agr.refl _ _, (r5 e1).2⟩
    unfold Fi_seatings
    rw [rc0, Option.bind_some, cl_roomOrNull eB vB hm, if_pos a1, Option.bind_some, if_neg (by simp), hch, gr0_7, Option.bind_some, gict, Option.bind_some, hnK, hcan, Option.bind_some, if_neg (by decide), hfor, Option.bind_some, Option.bind_some, gifo hk, Option.bind_some, if_pos (by rw [r1, e1]), gifo hk, Option.bind_some, if_pos r3, Option.bind_some, Sum.elim_inr]
  · obtain ⟨I1, b1, b2, b3, b4⟩ := cl_forget (T := T) (J := J) (b := b) (f0 := f) (I := I) (c := chg c1 c2 jj) (lim := lim) hk rfl
    have hfo := fo_e m.toNat jj
    have hmo : m.toNat < 4 := hk.1
    have E1 := E.agrf V (b2.sub fun o h => by omega)
    obtain ⟨I2, d1, d2, d3, d4⟩ := cl_seek (J := J) (f0 := f) (n := nP T m) (g := (jj : Int)) E1 V a1 (by unfold nP; omega) (by unfold nP; omega) a2 hk rfl hl (by omega) b4
    have ag : Agr (outF m jj) I I2 := (b2.sub fun o h => h.2).trans (d2.sub fun o h => h)
    refine ⟨I2, fo m.toNat jj, ?_, E1.agrf V (d2.sub fun o h => by omega), fun k' j' hk' hj' => ?_, ag, d4⟩
    · unfold Fi_seatings
      have hmid : ((if I (fo m.toNat jj) 2 = iI (chg c1 c2 jj) then ((gI S0 2 3 (I, J, Pst b f) (some (fo m.toNat jj))).bind fun x16 => if x16 = iI lim then (some (.inr (some (fo m.toNat jj), (I, J, Pst b f)))) else (some (.inl ()))) else (some (.inl ()))) : Option (Unit ⊕ (Option Nat × hV))) = some (.inl ()) := by
        by_cases e1 : c = chg c1 c2 jj
        · have e2 : ¬ l = lim := fun q => e ⟨e1, q⟩
          rw [if_pos (by rw [r1, e1]), gifo hk, Option.bind_some, r3, if_neg (by rw [iI_eq ⟨r2, hl⟩]; exact e2)]
        · rw [r1, if_neg (by rw [iI_eq (by omega)]; exact e1)]
      rw [rc0, Option.bind_some, cl_roomOrNull eB vB hm, if_pos a1, Option.bind_some, if_neg (by simp), hch, gr0_7, Option.bind_some, gict, Option.bind_some, hnK, hcan, Option.bind_some, if_neg (by decide), hfor, Option.bind_some, Option.bind_some, gifo hk, Option.bind_some, hmid, Option.bind_some, Sum.elim_inl, b1, Option.bind_some, gr0_6, Option.bind_some, gr0_7, Option.bind_some, d1, Option.bind_some]
    · by_cases e' : k' = m.toNat ∧ j' = jj
      · obtain ⟨z1, z2⟩ := e'
        subst z1 z2
        refine ⟨chg c1 c2 _, lim, ⟨d3.trans b3, hl, d4.1.1⟩, by omega, fun _ => ⟨by omega, ?_⟩⟩
        rw [hmm]; exact d4
      · obtain ⟨c', l', ⟨s1, s2, s3⟩, s4, s5⟩ := hR k' j' hk' hj'
        have hfo' := fo_e k' j'
        have hne : ∀ t t', t < 3 → t' < 3 → fo k' j' + t ≠ fo m.toNat jj + t' := fun t t' ht ht' q => by
          have hkk : k' = m.toNat := by omega
          rw [hkk] at hfo' q
          exact e' ⟨hkk, by omega⟩
        have h00 := hne 0 0 (by omega) (by omega)
        have h01 := hne 0 1 (by omega) (by omega)
        have h02 := hne 0 2 (by omega) (by omega)
        have h10 := hne 1 0 (by omega) (by omega)
        have h11 := hne 1 1 (by omega) (by omega)
        have h12 := hne 1 2 (by omega) (by omega)
        have h20 := hne 2 0 (by omega) (by omega)
        have h21 := hne 2 1 (by omega) (by omega)
        have h22 := hne 2 2 (by omega) (by omega)
        refine ⟨c', l', ⟨(ag _ (by omega) _).trans s1, s2, (ag _ (by omega) _).trans s3⟩, s4, fun q => ⟨(s5 q).1, (s5 q).2.agr (ag.sub fun o h => by omega)⟩⟩
set_option maxHeartbeats 8000000 in
theorem cl_noSeat (E : EC T b I) (V : TV T) (hm : rg m) (hA : ¬ askS T m) (v : Int32) (u : Int32) : Fi_seatings S0 (some 0) (iI m) v u (I, J, Pst b f) = some (none, (I, J, Pst b f)) := by
  obtain ⟨⟨eA, eB⟩, ⟨eC, eD⟩, eE⟩ := id E
  obtain ⟨⟨vA, vB⟩, ⟨vC, vD⟩, vE, vF⟩ := id V
  have hB := vB.1
  have hnK := nK_pc eE vC
  have hK10 : nK T ≤ 10 := cnt_le _ _
  unfold Fi_seatings
  rw [rc0, Option.bind_some, cl_roomOrNull eB vB hm]
  by_cases z : isM T m
  · have hr5 := ((eB.2 m.toNat (by omega)).2 (mN z)).2
    have h3 := vB.2 _ (mN z)
    have hk : m.toNat < 4 := by omega
    have hcan : Room_canSeat S0 (some (ro m.toNat)) (iI (nK T : Int)) (I, J, Pst b f) = some (iI 0) := by
      by_cases z1 : (7 : Int) < (nK T : Int)
      · simp (maxSteps := 4000000) (disch := omega) only [Room_canSeat, rc0, gi0, gl0, pi0, pl0, pz0, pr0, gr0_0, gr0_1, gr0_2, gr0_3, gr0_4, gr0_5, gr0_6, gr0_7, gr0_8, rc1, gi1, gl1, pi1, pl1, pz1, pr1, gr1_0, rc3, gi3, gl3, pi3, pl3, pz3, pr3, gr3_0, gr3_10, gr3_11, rc47, gi47, gl47, pi47, pl47, pz47, pr47, gr47_0, gr47_1, gr47_2, gr47_3, gr47_4, gr47_5, gr47_6, rc55, gi55, gl55, pi55, pl55, pz55, pr55, gr55_0, gr55_1, rc58, gi58, gl58, pi58, pl58, pz58, pr58, gr58_0, gr58_1, rc61, gi61, gl61, pi61, pl61, pz61, pr61, gr61_0, gr61_1, gr61_2, gr61_7, rc62, gi62, gl62, pi62, pl62, pz62, pr62, gr62_0, gr62_1, gr62_2, gr62_3, gr62_4, gr62_5, ld2, st2, an2, ld4, st4, an4, ld5, st5, an5, an6, ld48, st48, an48, ld49, st49, an49, ld50, st50, an50, ld51, st51, an51, ld52, st52, an52, ld53, st53, an53, ld54, st54, an54, ld56, st56, an56, ld57, st57, an57, ld59, st59, an59, ld60, st60, an60, ld63, st63, an63, ld64, st64, an64, ld65, st65, an65, ld66, st66, an66, ld67, st67, an67, ld68, st68, an68, ld69, st69, an69, ld70, st70, an70, rcct, gict, glct, pict, plct, pzct, prct, grct_0, grct_1, grct_2, grct_3, ldctm, stctm, anctm, ldctr, stctr, anctr, ldctp, stctp, anctp, anctR, rcru, giru, glru, piru, plru, pzru, prru, grru_7, ldcu, stcu, ancu, arct, ar6, rcro, giro, piro, pzro, grro_1, grro_2, grro_3, rcfo, gifo, pifo, pzfo, grfo_0, grfo_1, ldfop, stfop, anfop, ldfoe, stfoe, anfoe, Option.bind_some, if_true, if_false, n_0, n_1, n_2, n_3, n_4, n_5, n_6, n_7, n_8, n_9, n_10, n_12, n_15, n_20, n_24, n_32, n_48, n_57, n_59, n_80, n_97, n_99, n_100, n_122, n_680, n_700, n_999, n_1023, n_1024, iI_neg, iI_add, iI_sub, iI_lt, iI_le, iI_eq, hr5, z1]
      · by_cases z2 : (8 : Int) < T 3 m.toNat
        · simp (maxSteps := 4000000) (disch := omega) only [Room_canSeat, rc0, gi0, gl0, pi0, pl0, pz0, pr0, gr0_0, gr0_1, gr0_2, gr0_3, gr0_4, gr0_5, gr0_6, gr0_7, gr0_8, rc1, gi1, gl1, pi1, pl1, pz1, pr1, gr1_0, rc3, gi3, gl3, pi3, pl3, pz3, pr3, gr3_0, gr3_10, gr3_11, rc47, gi47, gl47, pi47, pl47, pz47, pr47, gr47_0, gr47_1, gr47_2, gr47_3, gr47_4, gr47_5, gr47_6, rc55, gi55, gl55, pi55, pl55, pz55, pr55, gr55_0, gr55_1, rc58, gi58, gl58, pi58, pl58, pz58, pr58, gr58_0, gr58_1, rc61, gi61, gl61, pi61, pl61, pz61, pr61, gr61_0, gr61_1, gr61_2, gr61_7, rc62, gi62, gl62, pi62, pl62, pz62, pr62, gr62_0, gr62_1, gr62_2, gr62_3, gr62_4, gr62_5, ld2, st2, an2, ld4, st4, an4, ld5, st5, an5, an6, ld48, st48, an48, ld49, st49, an49, ld50, st50, an50, ld51, st51, an51, ld52, st52, an52, ld53, st53, an53, ld54, st54, an54, ld56, st56, an56, ld57, st57, an57, ld59, st59, an59, ld60, st60, an60, ld63, st63, an63, ld64, st64, an64, ld65, st65, an65, ld66, st66, an66, ld67, st67, an67, ld68, st68, an68, ld69, st69, an69, ld70, st70, an70, rcct, gict, glct, pict, plct, pzct, prct, grct_0, grct_1, grct_2, grct_3, ldctm, stctm, anctm, ldctr, stctr, anctr, ldctp, stctp, anctp, anctR, rcru, giru, glru, piru, plru, pzru, prru, grru_7, ldcu, stcu, ancu, arct, ar6, rcro, giro, piro, pzro, grro_1, grro_2, grro_3, rcfo, gifo, pifo, pzfo, grfo_0, grfo_1, ldfop, stfop, anfop, ldfoe, stfoe, anfoe, Option.bind_some, if_true, if_false, n_0, n_1, n_2, n_3, n_4, n_5, n_6, n_7, n_8, n_9, n_10, n_12, n_15, n_20, n_24, n_32, n_48, n_57, n_59, n_80, n_97, n_99, n_100, n_122, n_680, n_700, n_999, n_1023, n_1024, iI_neg, iI_add, iI_sub, iI_lt, iI_le, iI_eq, hr5, z1, z2]
        · have z3 : T 3 m.toNat < (nK T : Int) := by
            apply Classical.byContradiction
            intro q
            exact hA ⟨z, by omega, by omega, by omega⟩
          simp (maxSteps := 4000000) (disch := omega) only [Room_canSeat, rc0, gi0, gl0, pi0, pl0, pz0, pr0, gr0_0, gr0_1, gr0_2, gr0_3, gr0_4, gr0_5, gr0_6, gr0_7, gr0_8, rc1, gi1, gl1, pi1, pl1, pz1, pr1, gr1_0, rc3, gi3, gl3, pi3, pl3, pz3, pr3, gr3_0, gr3_10, gr3_11, rc47, gi47, gl47, pi47, pl47, pz47, pr47, gr47_0, gr47_1, gr47_2, gr47_3, gr47_4, gr47_5, gr47_6, rc55, gi55, gl55, pi55, pl55, pz55, pr55, gr55_0, gr55_1, rc58, gi58, gl58, pi58, pl58, pz58, pr58, gr58_0, gr58_1, rc61, gi61, gl61, pi61, pl61, pz61, pr61, gr61_0, gr61_1, gr61_2, gr61_7, rc62, gi62, gl62, pi62, pl62, pz62, pr62, gr62_0, gr62_1, gr62_2, gr62_3, gr62_4, gr62_5, ld2, st2, an2, ld4, st4, an4, ld5, st5, an5, an6, ld48, st48, an48, ld49, st49, an49, ld50, st50, an50, ld51, st51, an51, ld52, st52, an52, ld53, st53, an53, ld54, st54, an54, ld56, st56, an56, ld57, st57, an57, ld59, st59, an59, ld60, st60, an60, ld63, st63, an63, ld64, st64, an64, ld65, st65, an65, ld66, st66, an66, ld67, st67, an67, ld68, st68, an68, ld69, st69, an69, ld70, st70, an70, rcct, gict, glct, pict, plct, pzct, prct, grct_0, grct_1, grct_2, grct_3, ldctm, stctm, anctm, ldctr, stctr, anctr, ldctp, stctp, anctp, anctR, rcru, giru, glru, piru, plru, pzru, prru, grru_7, ldcu, stcu, ancu, arct, ar6, rcro, giro, piro, pzro, grro_1, grro_2, grro_3, rcfo, gifo, pifo, pzfo, grfo_0, grfo_1, ldfop, stfop, anfop, ldfoe, stfoe, anfoe, Option.bind_some, if_true, if_false, n_0, n_1, n_2, n_3, n_4, n_5, n_6, n_7, n_8, n_9, n_10, n_12, n_15, n_20, n_24, n_32, n_48, n_57, n_59, n_80, n_97, n_99, n_100, n_122, n_680, n_700, n_999, n_1023, n_1024, iI_neg, iI_add, iI_sub, iI_lt, iI_le, iI_eq, hr5, z1, z2, z3]
    rw [if_pos z, Option.bind_some, if_neg (by simp), gr0_7, Option.bind_some, gict, Option.bind_some, hnK, hcan, Option.bind_some, if_pos (by rfl)]
  · rw [if_neg z, Option.bind_some, if_pos rfl]
end
