/-! ===== layer 2: seatings: the model's answers ===== -/
section
variable {T : Tb} {I I' I'' I0 : Nat → Nat → Int32} {J : Nat → Nat → Int64} {b md v : Bool} {f k n i j x y p q r d ob : Nat} {m g w h a o lim mv l : Int} {pl : Nat → Nat} {st : FdS} {s : FdS × FdS}
set_option maxHeartbeats 8000000 in
theorem mo_lst (E : EM T I) (V : TV T) (hm : rg m) (hw : rg w) : ∃ I', Mo_least S0 (some 132) (iI m) (iI w) (I, J, Pst b f) = some (iI (lsR T m w), (I', J, Pst b f)) ∧ frM zGT sGT I I' := by
  by_cases z : 0 ≤ w ∧ w ≤ 3
  · by_cases hA : askS T m
    · obtain ⟨I1, a1, a2, ⟨⟨a3, a4⟩, a5, a6⟩⟩ := mo_thru (J := J) (b := b) (f := f) (md := false) (lim := 0) E V hm (fun q => by cases q) (by omega) hA
      have a1' : Mo_goesThrough S0 (some 132) (iI m) (iI 0) (I, J, Pst b f) = some (iI 1, (I1, J, Pst b f)) := a1
      obtain ⟨l1, ⟨l2, l3, l4⟩, l5⟩ := a5 rfl
      have y0 : (fdL T m).1 = true := fnd_any (Or.inl rfl) hA
      have y1 : (fdM T m).1 = true := fnd_any (Or.inr rfl) hA
      have l2' : I1 132 54 = iI (fdL T m).2.1 := by rw [l2, if_pos y0]
      have l4' : I1 132 56 = iI (fdM T m).2.2.1 := by rw [l4, if_pos y1]
      have l5' : I1 132 57 = iI (fdM T m).2.1 := (l5 y0).1
      have l3' : I1 132 55 = iI (fdL T m).2.2.2.2.1 := l3
      refine ⟨I1, ?_, a2⟩
      unfold lsR
      rw [if_pos ⟨hA, z⟩]
      unfold Mo_least
      rw [rc132, Option.bind_some, lI_of hw, l_0, l_3, Mo_inI (by omega), decide_eq_true z, if_neg (by decide), n_0, a1', Option.bind_some, if_neg (show ¬ iI 1 = iI 0 by decide)]
      by_cases e0 : w = 0
      · rw [if_pos e0, if_pos (by rw [e0]), gi132, Option.bind_some, l2']
      · rw [if_neg e0, if_neg (by rw [iI_eq (by omega)]; exact e0), n_1]
        by_cases e1 : w = 1
        · rw [if_pos e1, if_pos (by rw [e1]), gi132, Option.bind_some, l3']
        · rw [if_neg e1, if_neg (by rw [iI_eq (by omega)]; exact e1), n_2]
          by_cases e2 : w = 2
          · rw [if_pos e2, if_pos (by rw [e2]), gi132, Option.bind_some, l5']
          · rw [if_neg e2, if_neg (by rw [iI_eq (by omega)]; exact e2), gi132, Option.bind_some, l4']
    · obtain ⟨I1, a1, a2⟩ := mo_noThru (J := J) (b := b) (f := f) E V hm (iI 0) hA
      refine ⟨I1, ?_, a2⟩
      rw [show lsR T m w = -1 from if_neg fun q => hA q.1]
      unfold Mo_least
      rw [rc132, Option.bind_some, lI_of hw, l_0, l_3, Mo_inI (by omega), decide_eq_true z, if_neg (by decide), n_0, a1, Option.bind_some, if_pos rfl, n_1, iI_neg]
  · refine ⟨I, ?_, frM.refl _ _ _⟩
    rw [show lsR T m w = -1 from if_neg fun q => z q.2]
    unfold Mo_least
    rw [rc132, Option.bind_some, lI_of hw, l_0, l_3, Mo_inI (by omega), decide_eq_false z, if_pos (by rfl), n_1, iI_neg]
set_option maxHeartbeats 8000000 in
theorem mo_gate (E : EM T I) (V : TV T) (hg : rg g) {α : Type} (y : Option α) (nn : Option α) : ((Mo_isGuest S0 (some 132) (iI g) (I, J, Pst b f)).bind fun x1 => if x1 = 0 then nn else ((gR S0 12 20 (I, J, Pst b f) (some 132)).bind fun x3 => (aZ S0 (I, J, Pst b f) x3 (iI g)).bind fun x4 => if x4 = 0 then nn else y)) = if isC T g then y else nn := by
  obtain ⟨⟨vA, vB⟩, ⟨vC, vD⟩, vE, vF⟩ := id V
  have h0 := vC.1
  rw [mo_isGuest E.2.1.1 vC hg, Option.bind_some]
  by_cases z : isG T g
  · have m1 := (E.2.2 g.toNat (gN z)).1
    have v1 := (vE g.toNat (gN z)).1
    rw [decide_eq_true z, if_neg (by decide), gr132_20, Option.bind_some, ld166 (by omega), Option.bind_some, m1]
    rcases v1 with q | q
    · rw [if_pos (show iI (T 12 g.toNat) = 0 by rw [q]; rfl), if_neg fun hC => by have := hC.2; omega]
    · rw [if_neg (show ¬ iI (T 12 g.toNat) = 0 by rw [q]; decide), if_pos ⟨z, q⟩]
  · rw [decide_eq_false z, if_pos (by rfl), if_neg fun hC => z hC.1]
set_option maxHeartbeats 8000000 in
theorem mo_best (E : EM T I) (V : TV T) (hm : rg m) (hg : rg g) : ∃ I', Mo_best S0 (some 132) (iI m) (iI g) (bI v) (I, J, Pst b f) = some (iI (bsR T m g v), (I', J, Pst b f)) ∧ frM zGT sGT I I' := by
  have hgt := fun (y nn : Option (Int32 × hV)) => mo_gate (J := J) (b := b) (f := f) E V hg y nn
  by_cases hC : isC T g
  · by_cases hA : askS T m
    · obtain ⟨I1, a1, a2, ⟨⟨a3, a4⟩, a5, a6⟩⟩ := mo_thru (J := J) (b := b) (f := f) (md := false) (lim := 0) E V hm (fun q => by cases q) (by omega) hA
      have a1' : Mo_goesThrough S0 (some 132) (iI m) 0 (I, J, Pst b f) = some (iI 1, (I1, J, Pst b f)) := a1
      have y0 : (fdL T m).1 = true := fnd_any (Or.inl rfl) hA
      obtain ⟨l1, l2, l5⟩ := a5 rfl
      have hlt : tnC T g < nK T := cnt_lt_of (isC_10 V hC) (isC_c hC)
      have hK7 : nK T ≤ 7 := hA.2.1
      obtain ⟨k1, k2, k3⟩ := (l5 y0).2.1 (tnC T g) hlt
      have hmb := mo_memberOf (J := J) (b := b) (f := f) a3 V hC
      refine ⟨I1, ?_, a2⟩
      unfold bsR Mo_best
      rw [if_pos ⟨hC, hA⟩, rc132, Option.bind_some, hgt, if_pos hC, a1', Option.bind_some, if_neg (show ¬ iI 1 = 0 by decide)]
      cases v
      · rw [if_pos (by rfl), if_neg (by decide), gr132_47, Option.bind_some, hmb, Option.bind_some, ld190 (by omega), Option.bind_some, Int.toNat_natCast, k1]
      · rw [if_neg (by decide), if_pos rfl, gr132_48, Option.bind_some, hmb, Option.bind_some, ld191 (by omega), Option.bind_some, Int.toNat_natCast, k3]
    · obtain ⟨I1, a1, a2⟩ := mo_noThru (J := J) (b := b) (f := f) E V hm 0 hA
      refine ⟨I1, ?_, a2⟩
      unfold bsR Mo_best
      rw [if_neg fun q => hA q.2, rc132, Option.bind_some, hgt, if_pos hC, a1, Option.bind_some, if_pos (by rfl), n_1, iI_neg]
  · refine ⟨I, ?_, frM.refl _ _ _⟩
    unfold bsR Mo_best
    rw [if_neg fun q => hC q.1, rc132, Option.bind_some, hgt, if_neg hC, n_1, iI_neg]
set_option maxHeartbeats 8000000 in
theorem sme_cnt (h1 : 0 ≤ plc st i ∧ plc st i < 8) (h2 : evr st i (plc st i).toNat = true) : (sme st i = true) = (cnt 8 (evr st i) = 1) := by
  obtain ⟨p, hp⟩ := nN _ h1.1
  rw [hp, Int.toNat_natCast] at h2
  have hp8 : p < 8 := by omega
  have hdel := cnt_del (p := evr st i) hp8 h2
  refine propext ⟨fun e => ?_, fun e => ?_⟩
  · have : cnt 8 (fun y => evr st i y && !decide (y = p)) = 0 := cnt_0 fun y hy => by
      unfold sme at e
      have e' : anyb 8 (fun p => evr st i p && !decide (plc st i = (p : Int))) = false := by simpa using e
      cases q : (evr st i y && !decide (y = p))
      · rfl
      · simp only [Bool.and_eq_true, Bool.not_eq_true', decide_eq_false_iff_not] at q
        rw [anyb_iff.mpr ⟨y, hy, by rw [q.1, hp, decide_eq_false (show ¬ (p : Int) = (y : Int) by omega)]; rfl⟩] at e'
        cases e'
    omega
  · have h0 : cnt 8 (fun y => evr st i y && !decide (y = p)) = 0 := by omega
    have hz := cnt_z h0
    unfold sme
    cases q : anyb 8 (fun p => evr st i p && !decide (plc st i = (p : Int)))
    · rfl
    · obtain ⟨y, hy, h3⟩ := anyb_iff.mp q
      simp only [Bool.and_eq_true, Bool.not_eq_true', decide_eq_false_iff_not] at h3
      have := hz y hy
      rw [h3.1, decide_eq_false (show ¬ y = p by omega)] at this
      cases this
set_option maxHeartbeats 8000000 in
theorem mo_must (E : EM T I) (V : TV T) (hm : rg m) (hg : rg g) : ∃ I', Mo_must S0 (some 132) (iI m) (iI g) (I, J, Pst b f) = some (iI (muR T m g), (I', J, Pst b f)) ∧ frM zGT sGT I I' := by
  have hgt := fun (y nn : Option (Int32 × hV)) => mo_gate (J := J) (b := b) (f := f) E V hg y nn
  by_cases hC : isC T g
  · by_cases hA : askS T m
    · obtain ⟨I1, a1, a2, ⟨⟨a3, a4⟩, a5, a6⟩⟩ := mo_thru (J := J) (b := b) (f := f) (md := false) (lim := 0) E V hm (fun q => by cases q) (by omega) hA
      have a1' : Mo_goesThrough S0 (some 132) (iI m) 0 (I, J, Pst b f) = some (iI 1, (I1, J, Pst b f)) := a1
      have y0 : (fdL T m).1 = true := fnd_any (Or.inl rfl) hA
      obtain ⟨⟨l0, l1⟩, l2, l5⟩ := a5 rfl
      have hlt : tnC T g < nK T := cnt_lt_of (isC_10 V hC) (isC_c hC)
      have hK7 : nK T ≤ 7 := hA.2.1
      obtain ⟨k1, k2, k3⟩ := (l5 y0).2.1 (tnC T g) hlt
      have hsm := l1 y0 (tnC T g) hlt
      have hsc := sme_cnt hsm.1 hsm.2
      have hmb := mo_memberOf (J := J) (b := b) (f := f) a3 V hC
      refine ⟨I1, ?_, a2⟩
      have hval : (if sme (fdL T m) (tnC T g) = true then plc (fdL T m) (tnC T g) else -1) = (if cnt 8 ((fdL T m).2.2.2.2.2.2 (tnC T g)) = 1 then (fdL T m).2.2.2.2.2.1 (tnC T g) else -1) := by
        by_cases e : sme (fdL T m) (tnC T g) = true
        · rw [if_pos e, if_pos (hsc.mp e)]
        · rw [if_neg e, if_neg fun q => e (hsc.mpr q)]
      have k2' : I1 193 (tnC T g) = iI (if sme (fdL T m) (tnC T g) = true then plc (fdL T m) (tnC T g) else -1) := k2
      rw [hval] at k2'
      unfold muR Mo_must
      rw [if_pos ⟨hC, hA⟩, rc132, Option.bind_some, hgt, if_pos hC, a1', Option.bind_some, if_neg (show ¬ iI 1 = 0 by decide), gr132_50, Option.bind_some, hmb, Option.bind_some, ld193 (by omega), Option.bind_some, Int.toNat_natCast, k2']
    · obtain ⟨I1, a1, a2⟩ := mo_noThru (J := J) (b := b) (f := f) E V hm 0 hA
      refine ⟨I1, ?_, a2⟩
      unfold muR Mo_must
      rw [if_neg fun q => hA q.2, rc132, Option.bind_some, hgt, if_pos hC, a1, Option.bind_some, if_pos (by rfl), n_1, iI_neg]
  · refine ⟨I, ?_, frM.refl _ _ _⟩
    unfold muR Mo_must
    rw [if_neg fun q => hC q.1, rc132, Option.bind_some, hgt, if_neg hC, n_1, iI_neg]
set_option maxHeartbeats 8000000 in
theorem cnt_via {c P : Nat → Bool} : ∀ k, cnt k (fun y => c y && P (cnt y c)) = cnt (cnt k c) P
  | 0 => rfl
  | k + 1 => by
    show cnt k (fun y => c y && P (cnt y c)) + (if (c k && P (cnt k c)) = true then 1 else 0) = cnt (cnt k c + if c k = true then 1 else 0) P
    rw [cnt_via k]
    cases c k
    · rfl
    · rw [if_pos rfl]
      show _ = cnt (cnt k c) P + (if P (cnt k c) = true then 1 else 0)
      rw [Bool.true_and]
set_option maxHeartbeats 8000000 in
theorem mo_free {p : Int} (E : EM T I) (V : TV T) (hm : rg m) (hp : rg p) : ∃ I', Mo_free S0 (some 132) (iI m) (iI p) (I, J, Pst b f) = some (iI (frR T m p), (I', J, Pst b f)) ∧ frM zGT sGT I I' := by
  by_cases hA : askS T m
  · obtain ⟨I1, a1, a2, ⟨⟨a3, a4⟩, a5, a6⟩⟩ := mo_thru (J := J) (b := b) (f := f) (md := false) (lim := 0) E V hm (fun q => by cases q) (by omega) hA
    have a1' : Mo_goesThrough S0 (some 132) (iI m) 0 (I, J, Pst b f) = some (iI 1, (I1, J, Pst b f)) := a1
    have y0 : (fdL T m).1 = true := fnd_any (Or.inl rfl) hA
    obtain ⟨⟨l0, l1⟩, l2, l5⟩ := a5 rfl
    have hK7 : nK T ≤ 7 := hA.2.1
    have h3 := V.1.2.2 _ (mN hA.1)
    have h38 := hA.2.2.1
    refine ⟨I1, ?_, a2⟩
    unfold frR Mo_free
    rw [rc132, Option.bind_some, a1', Option.bind_some, if_neg (show ¬ iI 1 = 0 by decide), gi132, Option.bind_some, a4, n_1, iI_sub, lI_of hp, lI_of (by omega), l_0, Mo_inI (by omega)]
    by_cases z : 0 ≤ p ∧ p < T 3 m.toNat
    · have k1 : I1 194 p.toNat = iI (bt 7 (fun i => decide (i < nK T) && evr (fdL T m) i p.toNat) : Int) := (l5 y0).2.2 p.toNat (by omega)
      have hcn : cnt 7 (fun i => decide (i < nK T) && evr (fdL T m) i p.toNat) = cnt 10 (frS T m p.toNat) := by
        have h1 := cnt_more (p := fun i => evr (fdL T m) i p.toNat) (n := nK T) (7 - nK T)
        rw [show nK T + (7 - nK T) = 7 by omega] at h1
        rw [h1]
        exact (cnt_via (c := cmb T) (P := fun i => evr (fdL T m) i p.toNat) 10).symm
      rw [if_pos (show askS T m ∧ (0 ≤ p ∧ p < T 3 m.toNat) from ⟨hA, z⟩), decide_eq_true (show 0 ≤ p ∧ p ≤ T 3 m.toNat - 1 by omega), if_neg (by decide), gr132_51, Option.bind_some, ld194 (by omega), Option.bind_some, k1, pcI (by omega), hcn]
    · rw [if_neg (show ¬ (askS T m ∧ (0 ≤ p ∧ p < T 3 m.toNat)) from fun q => z q.2), decide_eq_false (show ¬ (0 ≤ p ∧ p ≤ T 3 m.toNat - 1) by omega), if_pos (by rfl), iI_neg]
  · obtain ⟨I1, a1, a2⟩ := mo_noThru (J := J) (b := b) (f := f) E V hm 0 hA
    refine ⟨I1, ?_, a2⟩
    unfold frR Mo_free
    rw [if_neg fun q => hA q.1, rc132, Option.bind_some, a1, Option.bind_some, if_pos (by rfl), n_1, iI_neg]
abbrev zGE (k : Nat) : Prop := k = 43 ∨ (52 ≤ k ∧ k ≤ 60)
set_option maxHeartbeats 8000000 in
theorem mo_mended (E : EM T I) (V : TV T) (hm : rg m) (hl : rg l) (hg : rg g) : ∃ I', Mo_mended S0 (some 132) (iI m) (iI l) (iI g) (I, J, Pst b f) = some (iI (mnR T m l g), (I', J, Pst b f)) ∧ frM zGE sGT I I' := by
  have hgt := mo_gate (J := J) (b := b) (f := f) E V hg (some (.inl ())) (some (.inr (-1, (I, J, Pst b f))) : Option (Unit ⊕ (Int32 × hV)))
  have hfr1 : frM zGE sGT I (hup I 132 58 (iI l)) := (frM.refl _ _ I).fld (by omega)
  have E1 : EM T (hup I 132 58 (iI l)) := E.frX hfr1 (by omega) (by omega) (fun o h1 h2 => by omega)
  have hmid : ∀ Y, ((Mo_goesThrough S0 (some 132) (iI m) 1 (hup I 132 58 (iI l), J, Pst b f)).bind fun w2 => if w2.1 = 0 then (some ((-1), w2.2)) else ((gI S0 12 59 w2.2 (some 132)).bind fun x4 => if x4 = (-1) then (some ((-1), w2.2)) else (if iI g = (-1) then ((gI S0 12 59 w2.2 (some 132)).bind fun x9 => some (x9, w2.2)) else ((gR S0 12 49 w2.2 (some 132)).bind fun x5 => (Mo_memberOf S0 (some 132) (iI g) w2.2).bind fun x6 => (aI S0 w2.2 x5 x6).bind fun x8 => some (x8, w2.2))))) = Y → (g = -1 ∨ isC T g) → Mo_mended S0 (some 132) (iI m) (iI l) (iI g) (I, J, Pst b f) = Y := fun Y hY hG => by
    unfold Mo_mended
    by_cases e : g = -1
    · rw [rc132, Option.bind_some, if_pos (show iI g = -1 by rw [e]; rfl), Option.bind_some, Sum.elim_inl, pi132, Option.bind_some]
      exact hY
    · rw [rc132, Option.bind_some, if_neg (show ¬ iI g = -1 by rw [n_1, iI_neg, iI_eq (by omega)]; exact e), hgt, if_pos (hG.resolve_left e), Option.bind_some, Sum.elim_inl, pi132, Option.bind_some]
      exact hY
  by_cases hG : g = -1 ∨ isC T g
  · by_cases hA : askS T m
    · obtain ⟨I1, a1, a2, ⟨⟨a3, a4⟩, a5, a6⟩⟩ := mo_thru (J := J) (b := b) (f := f) (md := true) (lim := l) E1 V hm (fun _ => hup_same _ _ _ _) hl hA
      have a1' : Mo_goesThrough S0 (some 132) (iI m) 1 (hup I 132 58 (iI l), J, Pst b f) = some (iI 1, (I1, J, Pst b f)) := a1
      obtain ⟨l1, l2, l3⟩ := a6 rfl
      have l2' : I1 132 59 = iI (if (fdE T m l).1 = true then (fdE T m l).2.2.2.1 else -1) := l2
      refine ⟨I1, hmid _ ?_ hG, hfr1.trans (a2.sub (fun k q => by omega) fun o _ q => q)⟩
      cases e : (fdE T m l).1
      · have l2a : I1 132 59 = iI (-1) := by rw [l2', e]; rfl
        rw [show mnR T m l g = -1 from if_neg (fun q => by have := q.2.2; rw [e] at this; cases this), a1', Option.bind_some, if_neg (show ¬ iI 1 = 0 by decide), gi132, Option.bind_some, l2a, if_pos (show iI (-1) = -1 from rfl), n_1, iI_neg]
      · have l2b : I1 132 59 = iI (fdE T m l).2.2.2.1 := by rw [l2', if_pos e]
        have hb := l1 e
        have hb2 : 0 ≤ (fdE T m l).2.2.2.1 ∧ (fdE T m l).2.2.2.1 ≤ 1000 := hb.2.2
        rw [a1', Option.bind_some, if_neg (show ¬ iI 1 = 0 by decide), gi132, Option.bind_some, l2b, if_neg (by rw [n_1, iI_neg, iI_eq (by omega)]; omega)]
        by_cases e1 : g = -1
        · rw [if_pos (show iI g = -1 by rw [e1]; rfl), Option.bind_some, show mnR T m l g = (fdE T m l).2.2.2.1 by unfold mnR; rw [if_pos ⟨hG, hA, e⟩, if_pos e1]]
        · have hC : isC T g := hG.resolve_left e1
          have hlt : tnC T g < nK T := cnt_lt_of (isC_10 V hC) (isC_c hC)
          have hK7 : nK T ≤ 7 := hA.2.1
          have k1 := l3 e (tnC T g) hlt
          have hmb := mo_memberOf (J := J) (b := b) (f := f) a3 V hC
          rw [if_neg (show ¬ iI g = -1 by rw [n_1, iI_neg, iI_eq (by omega)]; exact e1), gr132_49, Option.bind_some, hmb, Option.bind_some, ld192 (by omega), Option.bind_some, Int.toNat_natCast, k1, show mnR T m l g = plc (fdE T m l) (tnC T g) by unfold mnR; rw [if_pos ⟨hG, hA, e⟩, if_neg e1]]
    · obtain ⟨I1, a1, a2⟩ := mo_noThru (J := J) (b := b) (f := f) E1 V hm 1 hA
      refine ⟨I1, hmid _ ?_ hG, hfr1.trans (a2.sub (fun k q => by omega) fun o _ q => q)⟩
      unfold mnR
      rw [if_neg fun q => hA q.2.1, a1, Option.bind_some, if_pos (by rfl), n_1, iI_neg]
  · refine ⟨I, ?_, frM.refl _ _ _⟩
    have e1 : ¬ g = -1 := fun q => hG (Or.inl q)
    have e2 : ¬ isC T g := fun q => hG (Or.inr q)
    rw [show mnR T m l g = -1 from if_neg fun q => hG q.1]
    unfold Mo_mended
    rw [rc132, Option.bind_some, if_neg (show ¬ iI g = -1 by rw [n_1, iI_neg, iI_eq (by omega)]; exact e1), hgt, if_neg e2, Option.bind_some, Sum.elim_inr, n_1, iI_neg]
end
