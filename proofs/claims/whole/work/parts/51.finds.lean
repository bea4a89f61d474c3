/-! ===== layer 2: slights, model's side ===== -/
section
variable {T : Tb} {I I' I'' : Nat → Nat → Int32} {J : Nat → Nat → Int64} {b v : Bool} {f k : Nat} {P : Nat → Nat → Option Nat} {a g w c1 c2 c s p m n q o : Int} {r x y : Nat} {pl : Nat → Int} {L : List S3} {V0 V1 : hV}
theorem l_2 : (2 : Int64) = lI 2 := rfl
theorem l_3 : (3 : Int64) = lI 3 := rfl
/-- who minds -/
def wmd (w h : Int) (bs : Bool) : Int := if w = 2 then (if bs = false then 0 else 3) else if w = 0 then (if h = 2 then 1 else if h = 0 then 1 else 0) else (if h = 1 then 2 else if h = 2 then 1 else 0)
theorem mo_whoMinds (h : mB T I) (hd : mD T I) (ht : tvB T) (hC : tvC T) (hv : tvD T) (hr : (r : Int) < T 0 4) (hm : isM T m) (hc : 0 ≤ c ∧ c < 20) (ha : 0 ≤ a ∧ a < T 3 m.toNat) (ho : 0 ≤ o ∧ o < T 3 m.toNat) : Mo_whoMinds S0 (some 132) (iI (r : Int)) (iI m) (iI c) (iI a) (iI o) (I, J, Pst b f) = some (iI (wmd (T 5 r) (hgh (T 2 m.toNat) (T 3 m.toNat) c a o) (bes (T 2 m.toNat) (T 3 m.toNat) a o))) := by
  have h0 := hC.1
  have d1 := (hd r hr).1
  have v1 := (hv r hr).1
  have q1 := mo_high (J := J) (b := b) (f := f) h ht (k := m.toNat) (mN hm) hc ha ho
  have q2 := mo_beside (J := J) (b := b) (f := f) h ht (k := m.toNat) (mN hm) ha ho
  rw [show ((m.toNat : Nat) : Int) = m by omega] at q1 q2
  have hh' := hgh_rg (T 2 m.toNat) (T 3 m.toNat) c a o
  simp (maxSteps := 4000000) (disch := omega) only [Mo_whoMinds, rc132, gi132, gl132, pi132, pl132, pz132, pr132, gr132_0, gr132_6, gr132_7, gr132_8, gr132_9, gr132_10, gr132_11, gr132_12, gr132_13, gr132_14, gr132_15, gr132_16, gr132_17, gr132_18, gr132_19, gr132_20, gr132_21, gr132_22, gr132_23, gr132_24, gr132_25, gr132_27, gr132_28, gr132_29, gr132_30, gr132_32, gr132_33, gr132_34, gr132_35, gr132_36, gr132_37, gr132_38, gr132_39, gr132_40, gr132_41, gr132_42, gr132_44, gr132_45, gr132_46, gr132_47, gr132_48, gr132_49, gr132_50, gr132_51, gr132_61, gr132_62, gr132_63, ar134_0, ar134_1, ar137_0, ar137_1, ar140_0, ar140_1, ar143_0, ar143_1, ar146_0, ar146_1, ar149_0, ar149_1, ar152_0, ar152_1, ar155_0, ar155_1, ar158_0, ar158_1, ar164_0, ar164_1, ar164_2, ar164_3, ar164_4, ar164_5, ar164_6, ar164_7, ar164_8, ld133, st133, an133, an134, ld135, st135, an135, ld136, st136, an136, an137, ld138, st138, an138, ld139, st139, an139, an140, ld141, st141, an141, ld142, st142, an142, an143, ld144, st144, an144, ld145, st145, an145, an146, ld147, st147, an147, ld148, st148, an148, an149, ld150, st150, an150, ld151, st151, an151, an152, ld153, st153, an153, ld154, st154, an154, an155, ld156, st156, an156, ld157, st157, an157, an158, ld159, st159, an159, ld160, st160, an160, ld161, st161, an161, ld162, st162, an162, ld163, st163, an163, an164, ld165, st165, an165, ld166, st166, an166, ld167, st167, an167, ld168, st168, an168, ld169, st169, an169, ld170, st170, an170, ld171, st171, an171, ld172, st172, an172, ld173, st173, an173, ld174, st174, an174, ld175, st175, an175, ld176, st176, an176, ld177, st177, an177, ld178, st178, an178, ld179, st179, an179, ld180, st180, an180, ld181, st181, an181, ld182, st182, an182, ld183, st183, an183, ld184, st184, an184, ld185, st185, an185, ld186, st186, an186, ld187, st187, an187, ld188, st188, an188, ld189, st189, an189, ld190, st190, an190, ld191, st191, an191, ld192, st192, an192, ld193, st193, an193, ld194, st194, an194, ld195, st195, an195, ld196, st196, an196, ld197, st197, an197, Option.bind_some, if_true, if_false, n_0, n_1, n_2, n_3, n_4, n_5, n_6, n_7, n_8, n_9, n_10, n_12, n_15, n_20, n_24, n_32, n_48, n_57, n_59, n_80, n_97, n_99, n_100, n_122, n_680, n_700, n_999, n_1023, n_1024, iI_neg, iI_add, iI_sub, iI_lt, iI_le, iI_eq, Int.toNat_zero, Int.toNat_natCast, d1, q1, q2, bI_0, wmd]
  (repeat' split) <;> first | rfl | omega | (simp_all; done)
theorem wmd_0 {h : Int} {bs : Bool} (hw : 0 ≤ w ∧ w ≤ 2) (hs : slt w h bs = false) : wmd w h bs = 0 := by
  rcases (show w = 0 ∨ w = 1 ∨ w = 2 by omega) with rfl | rfl | rfl
  · simp only [slt, if_true, decide_eq_false_iff_not] at hs
    simp only [wmd, show ¬ (0 : Int) = 2 by omega, if_false, if_true]
    rw [if_neg (by omega), if_neg (by omega)]
  · simp only [slt, show ¬ (1 : Int) = 0 by omega, if_false, if_true, decide_eq_false_iff_not] at hs
    simp only [wmd, show ¬ (1 : Int) = 2 by omega, show ¬ (1 : Int) = 0 by omega, if_false]
    rw [if_neg (by omega), if_neg (by omega)]
  · simp only [slt, show ¬ (2 : Int) = 0 by omega, show ¬ (2 : Int) = 1 by omega, if_false] at hs
    simp [wmd, hs]
def ob1 (W t : Int) : Option Int32 := if (iI W &&& iI 1) = iI 0 then some (iI 0) else some (iI t)
def ob2 (W t : Int) : Option Int32 := if (iI W &&& iI 2) = iI 0 then some (iI 0) else some (iI t)
theorem wmd_on (hw : 0 ≤ T 5 r ∧ T 5 r ≤ 2) (hs : slt (T 5 r) (hh T m c pl x y) (bb T m pl x y) = true) : (1 ≤ wmd (T 5 r) (hh T m c pl x y) (bb T m pl x y) ∧ wmd (T 5 r) (hh T m c pl x y) (bb T m pl x y) ≤ 3) ∧ ob1 (wmd (T 5 r) (hh T m c pl x y) (bb T m pl x y)) (T 8 r) = some (iI (on1 T m c pl r x y)) ∧ ob2 (wmd (T 5 r) (hh T m c pl x y) (bb T m pl x y)) (T 8 r) = some (iI (on2 T m c pl r x y)) := by
  unfold on1 on2
  generalize hh T m c pl x y = h at *
  generalize bb T m pl x y = bs at *
  generalize T 8 r = t at *
  rcases (show T 5 r = 0 ∨ T 5 r = 1 ∨ T 5 r = 2 by omega) with z | z | z
  · rw [z] at hs ⊢
    simp only [slt, if_true, decide_eq_true_eq] at hs
    have e : wmd 0 h bs = 1 := by
      simp only [wmd, show ¬ (0 : Int) = 2 by omega, if_false, if_true]
      rcases hs with e | e <;> simp [e]
    rw [e, if_neg (by omega), if_neg (by omega)]
    exact ⟨by omega, by unfold ob1; rw [if_neg (by decide)], by unfold ob2; rw [if_pos (by decide)]⟩
  · rw [z] at hs ⊢
    simp only [slt, show ¬ (1 : Int) = 0 by omega, if_false, if_true, decide_eq_true_eq] at hs
    rcases hs with e | e
    · have e' : wmd 1 h bs = 2 := by simp [wmd, e]
      rw [e', if_pos (by omega), if_pos (by omega)]
      exact ⟨by omega, by unfold ob1; rw [if_pos (by decide)], by unfold ob2; rw [if_neg (by decide)]⟩
    · have e' : wmd 1 h bs = 1 := by simp [wmd, e]
      rw [e', if_neg (by omega), if_neg (by omega)]
      exact ⟨by omega, by unfold ob1; rw [if_neg (by decide)], by unfold ob2; rw [if_pos (by decide)]⟩
  · rw [z] at hs ⊢
    simp only [slt, show ¬ (2 : Int) = 0 by omega, show ¬ (2 : Int) = 1 by omega, if_false] at hs
    have e' : wmd 2 h bs = 3 := by simp [wmd, hs]
    rw [e', if_neg (by omega), if_pos (by omega)]
    exact ⟨by omega, by unfold ob1; rw [if_neg (by decide)], by unfold ob2; rw [if_neg (by decide)]⟩
/-- what the model keeps of a list of slights -/
def slM (T : Tb) (m c : Int) (pl : Nat → Int) (L : List S3) (I : Nat → Nat → Int32) : Prop := I 132 31 = iI (L.length : Int) ∧ (∀ k, k < L.length → I 172 k = iI ((L.getD k (0, 0, 0)).1 : Int) ∧ I 173 k = iI ((L.getD k (0, 0, 0)).2.1 : Int) ∧ I 174 k = iI ((L.getD k (0, 0, 0)).2.2 : Int)) ∧ ∀ g, g < 10 → I 175 g = iI (lmn T m c pl g L)
/-- what the model leaves as it was -/
def frM (z : Nat → Prop) (s : Nat → Prop) (I I' : Nat → Nat → Int32) : Prop := Agr (fun o => o ≠ 132 ∧ s o) I I' ∧ ∀ k, ¬ z k → I' 132 k = I 132 k
theorem frM.refl (z s : Nat → Prop) (I : Nat → Nat → Int32) : frM z s I I := ⟨Agr.refl _ _, fun _ _ => rfl⟩
theorem frM.trans {z s : Nat → Prop} (h : frM z s I I') (h' : frM z s I' I'') : frM z s I I'' := ⟨h.1.trans h'.1, fun k hk => (h'.2 k hk).trans (h.2 k hk)⟩
theorem frM.sub {z s z' s' : Nat → Prop} (h : frM z s I I') (h1 : ∀ k, z k → z' k) (h2 : ∀ o, o ≠ 132 → s' o → s o) : frM z' s' I I' := ⟨h.1.sub fun o ho => ⟨ho.1, h2 o ho.1 ho.2⟩, fun k hk => h.2 k fun q => hk (h1 k q)⟩
theorem frM.wr {z s : Nat → Prop} {o k : Nat} {v : Int32} (h : frM z s I I') (ho : o ≠ 132) (hs : ¬ s o) : frM z s I (hup I' o k v) := ⟨h.1.hup fun q => hs q.2, fun j hj => by rw [hup_obj _ _ _ (fun e => ho e.symm)]; exact h.2 j hj⟩
theorem frM.fld {z s : Nat → Prop} {k : Nat} {v : Int32} (h : frM z s I I') (hz : z k) : frM z s I (hup I' 132 k v) := ⟨h.1.hup fun q => q.1 rfl, fun j hj => by
  have e : j ≠ k := fun e => hj (e ▸ hz)
  rw [hup_ix _ _ _ e]; exact h.2 j hj⟩
theorem EM.frX {z s : Nat → Prop} (E : EM T I) (h : frM z s I I') (h1 : ¬ z 1) (h2 : ¬ z 26) (h3 : ∀ o, 133 ≤ o → o ≤ 171 → s o) : EM T I' := E.agr (h.2 1 h1) (h.2 26 h2) (h.1.sub fun o ho => ⟨by omega, h3 o ho.1 ho.2⟩)
abbrev zF (k : Nat) : Prop := k = 31
abbrev sF (o : Nat) : Prop := o < 172 ∨ 175 < o
theorem EM.frF (E : EM T I) (h : frM zF sF I I') : EM T I' := E.frX h (by omega) (by omega) (fun o h1 h2 => by omega)
theorem getD_l {t : S3} {j : Nat} (hj : j < L.length) : (L ++ [t]).getD j (0, 0, 0) = L.getD j (0, 0, 0) := by
  simp [List.getD, List.getElem?_append_left hj]
theorem getD_r {t : S3} : (L ++ [t]).getD L.length (0, 0, 0) = t := by simp [List.getD]
def slW (I : Nat → Nat → Int32) (n r x k : Nat) (a o : Int) : Nat → Nat → Int32 := hup (hup (hup (hup (hup (hup I 172 n (iI (r : Int))) 173 n (iI (x : Int))) 174 n (iI (k : Int))) 132 31 (iI ((n : Int) + 1))) 175 x (iI a)) 175 k (iI o)
theorem mo_write (hS : slM T m c pl L I) (hx : x < 10) (hk : k < 10) (hxk : x ≠ k) : slM T m c pl (L ++ [(r, x, k)]) (slW I L.length r x k (lmn T m c pl x L + on1 T m c pl r x k) (lmn T m c pl k L + on2 T m c pl r x k)) := by
  unfold slW
  obtain ⟨s1, s2, s3⟩ := hS
  refine ⟨?_, fun j hj => ?_, fun g hg => ?_⟩
  · simp [hup]
  · rw [List.length_append] at hj
    simp only [List.length_cons, List.length_nil] at hj
    by_cases e : j = L.length
    · subst e
      rw [getD_r]
      simp [hup]
    · rw [getD_l (by omega)]
      simp [hup, e]
      exact s2 j (by omega)
  · rw [lmn_s]
    by_cases e1 : g = k
    · subst e1
      simp [hup, show ¬ g = x from fun e => hxk e.symm]
    · by_cases e2 : g = x
      · subst e2
        simp [hup, e1]
      · simp [hup, e1, e2, s3 g hg]
theorem mo_pair (E : EM T I) (V : TV T) (hm : isM T m) (hc : 0 ≤ c ∧ c < 20) (hs : 0 ≤ s ∧ s < 20) (hr : (r : Int) < T 0 4) (hx : x < ng T) (hk : k < ng T) (hlo : (if T 5 r = 0 then 0 else x + 1) ≤ k) (hS : slM T m c (plh T m s) L I) (hn : L.length < 1200) : ∃ I', Mo_finds_L87 S0 (some 132) (iI m) (iI c) (iI s) (iI (T 3 m.toNat)) (iI (r : Int), V0) (iI (x : Int), V1) (iI (k : Int), (I, J, Pst b f)) = some (.inl (iI ((k : Int) + 1), (I', J, Pst b f))) ∧ frM zF sF I I' ∧ slM T m c (plh T m s) (L ++ if slQ T m c (plh T m s) r x k then [(r, x, k)] else []) I' := by
  obtain ⟨⟨eA, eB⟩, ⟨eC, eD⟩, eE⟩ := id E
  obtain ⟨⟨vA, vB⟩, ⟨vC, vD⟩, vE, vF⟩ := id V
  have h0 := vC.1
  have h00 := vB.1
  have hng := ngI vC
  obtain ⟨d1, d2, d3, d4, d5, d6, d7⟩ := eD r hr
  obtain ⟨v1, v2, v3, v4, v5, v6, v7⟩ := vD r hr
  have ex := eE x (by omega)
  have ek := eE k (by omega)
  have wx := vE x (by omega)
  have wk := vE k (by omega)
  have h3 := (vB.2 _ (mN hm)).2
  have hcf := mo_countsFor (J := J) (b := b) (f := f) eC eD eE vC vD vE hr (show 0 ≤ m ∧ m < 4 by omega) (x := x) (y := k) (by omega) (by omega)
  simp (maxSteps := 2000000) (disch := omega) only [Mo_finds_L87, rc132, gi132, gl132, pi132, pl132, pz132, pr132, gr132_0, gr132_6, gr132_7, gr132_8, gr132_9, gr132_10, gr132_11, gr132_12, gr132_13, gr132_14, gr132_15, gr132_16, gr132_17, gr132_18, gr132_19, gr132_20, gr132_21, gr132_22, gr132_23, gr132_24, gr132_25, gr132_27, gr132_28, gr132_29, gr132_30, gr132_32, gr132_33, gr132_34, gr132_35, gr132_36, gr132_37, gr132_38, gr132_39, gr132_40, gr132_41, gr132_42, gr132_44, gr132_45, gr132_46, gr132_47, gr132_48, gr132_49, gr132_50, gr132_51, gr132_61, gr132_62, gr132_63, ar134_0, ar134_1, ar137_0, ar137_1, ar140_0, ar140_1, ar143_0, ar143_1, ar146_0, ar146_1, ar149_0, ar149_1, ar152_0, ar152_1, ar155_0, ar155_1, ar158_0, ar158_1, ar164_0, ar164_1, ar164_2, ar164_3, ar164_4, ar164_5, ar164_6, ar164_7, ar164_8, ld133, st133, an133, an134, ld135, st135, an135, ld136, st136, an136, an137, ld138, st138, an138, ld139, st139, an139, an140, ld141, st141, an141, ld142, st142, an142, an143, ld144, st144, an144, ld145, st145, an145, an146, ld147, st147, an147, ld148, st148, an148, an149, ld150, st150, an150, ld151, st151, an151, an152, ld153, st153, an153, ld154, st154, an154, an155, ld156, st156, an156, ld157, st157, an157, an158, ld159, st159, an159, ld160, st160, an160, ld161, st161, an161, ld162, st162, an162, ld163, st163, an163, an164, ld165, st165, an165, ld166, st166, an166, ld167, st167, an167, ld168, st168, an168, ld169, st169, an169, ld170, st170, an170, ld171, st171, an171, ld172, st172, an172, ld173, st173, an173, ld174, st174, an174, ld175, st175, an175, ld176, st176, an176, ld177, st177, an177, ld178, st178, an178, ld179, st179, an179, ld180, st180, an180, ld181, st181, an181, ld182, st182, an182, ld183, st183, an183, ld184, st184, an184, ld185, st185, an185, ld186, st186, an186, ld187, st187, an187, ld188, st188, an188, ld189, st189, an189, ld190, st190, an190, ld191, st191, an191, ld192, st192, an192, ld193, st193, an193, ld194, st194, an194, ld195, st195, an195, ld196, st196, an196, ld197, st197, an197, Option.bind_some, if_true, if_false, n_0, n_1, n_2, n_3, n_4, n_5, n_6, n_7, n_8, n_9, n_10, n_12, n_15, n_20, n_24, n_32, n_48, n_57, n_59, n_80, n_97, n_99, n_100, n_122, n_680, n_700, n_999, n_1023, n_1024, iI_neg, iI_add, iI_sub, iI_lt, iI_le, iI_eq, Int.toNat_zero, Int.toNat_natCast, eC.1.1, show ¬ T 0 2 ≤ (k : Int) by omega, ex.2.2.1, ek.2.2.1, hcf, bI_0]
  by_cases p1 : T 14 x = m
  · by_cases p2 : T 14 k = m
    · have bx : 0 ≤ T 15 x ∧ T 15 x < 10 := by
        rcases wx.2.2 with q1 | q1
        · omega
        · have := q1.2.1; rw [p1] at this; omega
      have bk : 0 ≤ T 15 k ∧ T 15 k < 10 := by
        rcases wk.2.2 with q1 | q1
        · omega
        · have := q1.2.1; rw [p2] at this; omega
      have plx : plh T m s x = (T 15 x + s) % T 3 m.toNat := by unfold plh; rw [if_pos ⟨by omega, p1⟩]
      have plk : plh T m s k = (T 15 k + s) % T 3 m.toNat := by unfold plh; rw [if_pos ⟨by omega, p2⟩]
      have mx := mod_rg (a := T 15 x + s) h3
      have mk := mod_rg (a := T 15 k + s) h3
      have hcx : com T x = true := by simp only [com, decide_eq_true_eq]; omega
      have hck : com T k = true := by simp only [com, decide_eq_true_eq]; omega
      have hq : slQ T m c (plh T m s) r x k = (ctf T m r x k && slt (T 5 r) (hh T m c (plh T m s) x k) (bb T m (plh T m s) x k)) := by
        have n1 : ¬ plh T m s x = -1 := by rw [plx]; omega
        have n2 : ¬ plh T m s k = -1 := by rw [plk]; omega
        simp only [slQ, slP, ctf, hcx, hck, cpl_at hlo, ne_eq, n1, n2, not_false_eq_true, decide_true, Bool.true_and]
        exact (Bool.and_assoc _ _ _).symm
      cases p3 : ctf T m r x k
      · refine ⟨I, by simp only [p1, p2, Option.bind_some, if_true, if_false], frM.refl _ _ _, ?_⟩
        rw [hq, p3]
        simpa using hS
      · have hwm : Mo_whoMinds S0 (some 132) (iI (r : Int)) (iI m) (iI c) (iI (plh T m s x)) (iI (plh T m s k)) (I, J, Pst b f) = some (iI (wmd (T 5 r) (hh T m c (plh T m s) x k) (bb T m (plh T m s) x k))) := mo_whoMinds eB eD vB vC vD hr hm hc (by rw [plx]; exact mx) (by rw [plk]; exact mk)
        cases p4 : slt (T 5 r) (hh T m c (plh T m s) x k) (bb T m (plh T m s) x k)
        · refine ⟨I, ?_, frM.refl _ _ _, ?_⟩
          · simp (maxSteps := 4000000) (disch := omega) only [p1, p2, Option.bind_some, if_true, if_false, Bool.true_eq_false, rc132, gi132, gl132, pi132, pl132, pz132, pr132, gr132_0, gr132_6, gr132_7, gr132_8, gr132_9, gr132_10, gr132_11, gr132_12, gr132_13, gr132_14, gr132_15, gr132_16, gr132_17, gr132_18, gr132_19, gr132_20, gr132_21, gr132_22, gr132_23, gr132_24, gr132_25, gr132_27, gr132_28, gr132_29, gr132_30, gr132_32, gr132_33, gr132_34, gr132_35, gr132_36, gr132_37, gr132_38, gr132_39, gr132_40, gr132_41, gr132_42, gr132_44, gr132_45, gr132_46, gr132_47, gr132_48, gr132_49, gr132_50, gr132_51, gr132_61, gr132_62, gr132_63, ar134_0, ar134_1, ar137_0, ar137_1, ar140_0, ar140_1, ar143_0, ar143_1, ar146_0, ar146_1, ar149_0, ar149_1, ar152_0, ar152_1, ar155_0, ar155_1, ar158_0, ar158_1, ar164_0, ar164_1, ar164_2, ar164_3, ar164_4, ar164_5, ar164_6, ar164_7, ar164_8, ld133, st133, an133, an134, ld135, st135, an135, ld136, st136, an136, an137, ld138, st138, an138, ld139, st139, an139, an140, ld141, st141, an141, ld142, st142, an142, an143, ld144, st144, an144, ld145, st145, an145, an146, ld147, st147, an147, ld148, st148, an148, an149, ld150, st150, an150, ld151, st151, an151, an152, ld153, st153, an153, ld154, st154, an154, an155, ld156, st156, an156, ld157, st157, an157, an158, ld159, st159, an159, ld160, st160, an160, ld161, st161, an161, ld162, st162, an162, ld163, st163, an163, an164, ld165, st165, an165, ld166, st166, an166, ld167, st167, an167, ld168, st168, an168, ld169, st169, an169, ld170, st170, an170, ld171, st171, an171, ld172, st172, an172, ld173, st173, an173, ld174, st174, an174, ld175, st175, an175, ld176, st176, an176, ld177, st177, an177, ld178, st178, an178, ld179, st179, an179, ld180, st180, an180, ld181, st181, an181, ld182, st182, an182, ld183, st183, an183, ld184, st184, an184, ld185, st185, an185, ld186, st186, an186, ld187, st187, an187, ld188, st188, an188, ld189, st189, an189, ld190, st190, an190, ld191, st191, an191, ld192, st192, an192, ld193, st193, an193, ld194, st194, an194, ld195, st195, an195, ld196, st196, an196, ld197, st197, an197, Int.toNat_natCast, ex.2.2.2, ek.2.2.2, jnzI, iI_add, irmI, ← plx, ← plk, hwm, wmd_0 v1 p4]
          · rw [hq, p4]
            simpa using hS
        · obtain ⟨w1, w2, w3⟩ := wmd_on v1 p4
          have hne : x ≠ k := by
            have : hcu T r x k = true := by
              simp only [ctf, Bool.and_eq_true] at p3
              exact p3.2.2.2
            exact (hcu_ng vC vD hr this).2
          have hkx : k ≠ x := fun e => hne e.symm
          obtain ⟨s1, s2, s3⟩ := id hS
          refine ⟨slW I L.length r x k (lmn T m c (plh T m s) x L + on1 T m c (plh T m s) r x k) (lmn T m c (plh T m s) k L + on2 T m c (plh T m s) r x k), ?_, ?_, ?_⟩
          · generalize wmd (T 5 r) (hh T m c (plh T m s) x k) (bb T m (plh T m s) x k) = W at *
            unfold ob1 at w2
            unfold ob2 at w3
            unfold slW
            simp (maxSteps := 4000000) (disch := omega) only [p1, p2, Option.bind_some, if_true, if_false, Bool.true_eq_false, rc132, gi132, gl132, pi132, pl132, pz132, pr132, gr132_0, gr132_6, gr132_7, gr132_8, gr132_9, gr132_10, gr132_11, gr132_12, gr132_13, gr132_14, gr132_15, gr132_16, gr132_17, gr132_18, gr132_19, gr132_20, gr132_21, gr132_22, gr132_23, gr132_24, gr132_25, gr132_27, gr132_28, gr132_29, gr132_30, gr132_32, gr132_33, gr132_34, gr132_35, gr132_36, gr132_37, gr132_38, gr132_39, gr132_40, gr132_41, gr132_42, gr132_44, gr132_45, gr132_46, gr132_47, gr132_48, gr132_49, gr132_50, gr132_51, gr132_61, gr132_62, gr132_63, ar134_0, ar134_1, ar137_0, ar137_1, ar140_0, ar140_1, ar143_0, ar143_1, ar146_0, ar146_1, ar149_0, ar149_1, ar152_0, ar152_1, ar155_0, ar155_1, ar158_0, ar158_1, ar164_0, ar164_1, ar164_2, ar164_3, ar164_4, ar164_5, ar164_6, ar164_7, ar164_8, ld133, st133, an133, an134, ld135, st135, an135, ld136, st136, an136, an137, ld138, st138, an138, ld139, st139, an139, an140, ld141, st141, an141, ld142, st142, an142, an143, ld144, st144, an144, ld145, st145, an145, an146, ld147, st147, an147, ld148, st148, an148, an149, ld150, st150, an150, ld151, st151, an151, an152, ld153, st153, an153, ld154, st154, an154, an155, ld156, st156, an156, ld157, st157, an157, an158, ld159, st159, an159, ld160, st160, an160, ld161, st161, an161, ld162, st162, an162, ld163, st163, an163, an164, ld165, st165, an165, ld166, st166, an166, ld167, st167, an167, ld168, st168, an168, ld169, st169, an169, ld170, st170, an170, ld171, st171, an171, ld172, st172, an172, ld173, st173, an173, ld174, st174, an174, ld175, st175, an175, ld176, st176, an176, ld177, st177, an177, ld178, st178, an178, ld179, st179, an179, ld180, st180, an180, ld181, st181, an181, ld182, st182, an182, ld183, st183, an183, ld184, st184, an184, ld185, st185, an185, ld186, st186, an186, ld187, st187, an187, ld188, st188, an188, ld189, st189, an189, ld190, st190, an190, ld191, st191, an191, ld192, st192, an192, ld193, st193, an193, ld194, st194, an194, ld195, st195, an195, ld196, st196, an196, ld197, st197, an197, n_0, n_1, n_2, n_3, n_4, n_5, n_6, n_7, n_8, n_9, n_10, n_12, n_15, n_20, n_24, n_32, n_48, n_57, n_59, n_80, n_97, n_99, n_100, n_122, n_680, n_700, n_999, n_1023, n_1024, iI_neg, iI_add, iI_sub, iI_lt, iI_le, iI_eq, Int.toNat_zero, Int.toNat_natCast, ex.2.2.2, ek.2.2.2, jnzI, irmI, ← plx, ← plk, hwm, show ¬ W = 0 by omega, s1, hup_obj, d4, w2, w3, s3 x (by omega), s3 k (by omega), hup_same, hup_ix]
          · unfold slW
            exact ((((((frM.refl zF sF I).wr (by omega) (by omega)).wr (by omega) (by omega)).wr (by omega) (by omega)).fld (show zF 31 from rfl)).wr (by omega) (by omega)).wr (by omega) (by omega)
          · rw [hq, p3, p4]
            exact mo_write (r := r) hS (by omega) (by omega) hne
    · refine ⟨I, by simp only [p1, p2, Option.bind_some, if_true, if_false], frM.refl _ _ _, ?_⟩
      have n2 : plh T m s k = -1 := by unfold plh; rw [if_neg fun e => p2 e.2]
      have hq : slQ T m c (plh T m s) r x k = false := by simp [slQ, slP, n2]
      rw [hq]
      simpa using hS
  · refine ⟨I, by simp only [p1, Option.bind_some, if_true, if_false], frM.refl _ _ _, ?_⟩
    have n2 : plh T m s x = -1 := by unfold plh; rw [if_neg fun e => p1 e.2]
    have hq : slQ T m c (plh T m s) r x k = false := by simp [slQ, slP, n2]
    rw [hq]
    simpa using hS
theorem slQ_lo (hlo : y < if T 5 r = 0 then 0 else x + 1) : slQ T m c pl r x y = false := by
  by_cases e : T 5 r = 0
  · rw [if_pos e] at hlo; omega
  · rw [if_neg e] at hlo
    have : cpl T r x y = false := by simp [cpl, e, show ¬ x < y by omega]
    simp [slQ, slP, this]
theorem mo_frow (E : EM T I) (V : TV T) (hm : isM T m) (hc : 0 ≤ c ∧ c < 20) (hs : 0 ≤ s ∧ s < 20) (hr : (r : Int) < T 0 4) (hx : x < ng T) (hS : slM T m c (plh T m s) L I) (hn : L.length + 10 ≤ 1200) : ∃ I', jloop (Mo_finds_L87 S0 (some 132) (iI m) (iI c) (iI s) (iI (T 3 m.toNat)) (iI (r : Int), V0) (iI (x : Int), V1)) jN (iI ((if T 5 r = 0 then 0 else x + 1 : Nat) : Int), (I, J, Pst b f)) = some (I', J, Pst b f) ∧ frM zF sF I I' ∧ slM T m c (plh T m s) (L ++ sl3 (slQ T m c (plh T m s) r x) r x (ng T)) I' := by
  have hng := ng_le V.2.1.1
  have hT := V.2.1.1.1
  have hlo : (if T 5 r = 0 then 0 else x + 1) ≤ ng T := by split <;> omega
  have h1 := ngI V.2.1.1
  refine jheap (J := J) (P := Pst b f) (I := I) (fun k I' => frM zF sF I I' ∧ slM T m c (plh T m s) (L ++ sl3 (slQ T m c (plh T m s) r x) r x k) I') (if T 5 r = 0 then 0 else x + 1) (ng T) ⟨frM.refl _ _ _, ?_⟩ hlo (by omega) (fun k I1 hk0 hk q1 => ?_) (fun I1 q1 => ?_)
  · rw [sl3_no fun y hy => slQ_lo hy, List.append_nil]
    exact hS
  · have hlen := sl3_len (slQ T m c (plh T m s) r x) (r := r) (x := x) k
    obtain ⟨I2, e1, e2, e3⟩ := mo_pair (V0 := V0) (V1 := V1) (J := J) (b := b) (f := f) (E.frF q1.1) V hm hc hs hr hx hk hk0 q1.2 (by rw [List.length_append]; omega)
    refine ⟨I2, e1, q1.1.trans e2, ?_⟩
    rw [List.append_assoc] at e3
    exact e3
  · have E1 := E.frF q1.1
    simp (maxSteps := 4000000) (disch := omega) only [Mo_finds_L87, rc132, gi132, gl132, pi132, pl132, pz132, pr132, gr132_0, gr132_6, gr132_7, gr132_8, gr132_9, gr132_10, gr132_11, gr132_12, gr132_13, gr132_14, gr132_15, gr132_16, gr132_17, gr132_18, gr132_19, gr132_20, gr132_21, gr132_22, gr132_23, gr132_24, gr132_25, gr132_27, gr132_28, gr132_29, gr132_30, gr132_32, gr132_33, gr132_34, gr132_35, gr132_36, gr132_37, gr132_38, gr132_39, gr132_40, gr132_41, gr132_42, gr132_44, gr132_45, gr132_46, gr132_47, gr132_48, gr132_49, gr132_50, gr132_51, gr132_61, gr132_62, gr132_63, ar134_0, ar134_1, ar137_0, ar137_1, ar140_0, ar140_1, ar143_0, ar143_1, ar146_0, ar146_1, ar149_0, ar149_1, ar152_0, ar152_1, ar155_0, ar155_1, ar158_0, ar158_1, ar164_0, ar164_1, ar164_2, ar164_3, ar164_4, ar164_5, ar164_6, ar164_7, ar164_8, ld133, st133, an133, an134, ld135, st135, an135, ld136, st136, an136, an137, ld138, st138, an138, ld139, st139, an139, an140, ld141, st141, an141, ld142, st142, an142, an143, ld144, st144, an144, ld145, st145, an145, an146, ld147, st147, an147, ld148, st148, an148, an149, ld150, st150, an150, ld151, st151, an151, an152, ld153, st153, an153, ld154, st154, an154, an155, ld156, st156, an156, ld157, st157, an157, an158, ld159, st159, an159, ld160, st160, an160, ld161, st161, an161, ld162, st162, an162, ld163, st163, an163, an164, ld165, st165, an165, ld166, st166, an166, ld167, st167, an167, ld168, st168, an168, ld169, st169, an169, ld170, st170, an170, ld171, st171, an171, ld172, st172, an172, ld173, st173, an173, ld174, st174, an174, ld175, st175, an175, ld176, st176, an176, ld177, st177, an177, ld178, st178, an178, ld179, st179, an179, ld180, st180, an180, ld181, st181, an181, ld182, st182, an182, ld183, st183, an183, ld184, st184, an184, ld185, st185, an185, ld186, st186, an186, ld187, st187, an187, ld188, st188, an188, ld189, st189, an189, ld190, st190, an190, ld191, st191, an191, ld192, st192, an192, ld193, st193, an193, ld194, st194, an194, ld195, st195, an195, ld196, st196, an196, ld197, st197, an197, Option.bind_some, if_true, if_false, n_0, n_1, n_2, n_3, n_4, n_5, n_6, n_7, n_8, n_9, n_10, n_12, n_15, n_20, n_24, n_32, n_48, n_57, n_59, n_80, n_97, n_99, n_100, n_122, n_680, n_700, n_999, n_1023, n_1024, iI_neg, iI_add, iI_sub, iI_lt, iI_le, iI_eq, Int.toNat_zero, E1.2.1.1.1.1, show T 0 2 ≤ (ng T : Int) by omega]
theorem mo_frule (E : EM T I) (V : TV T) (hm : isM T m) (hc : 0 ≤ c ∧ c < 20) (hs : 0 ≤ s ∧ s < 20) (hr : (r : Int) < T 0 4) (hS : slM T m c (plh T m s) L I) (hn : L.length + 100 ≤ 1200) : ∃ I', jloop (Mo_finds_L54 S0 (some 132) (iI m) (iI c) (iI s) (iI (T 3 m.toNat)) (iI (r : Int), V0)) jN (iI 0, (I, J, Pst b f)) = some (I', J, Pst b f) ∧ frM zF sF I I' ∧ slM T m c (plh T m s) (L ++ sl2 (slQ T m c (plh T m s) r) r (ng T) (ng T)) I' := by
  have hng := ng_le V.2.1.1
  have hT := V.2.1.1.1
  have h1 := ngI V.2.1.1
  refine jheap (J := J) (P := Pst b f) (I := I) (fun k I' => frM zF sF I I' ∧ slM T m c (plh T m s) (L ++ sl2 (slQ T m c (plh T m s) r) r (ng T) k) I') 0 (ng T) ⟨frM.refl _ _ _, by simpa [sl2] using hS⟩ (by omega) (by omega) (fun k I1 hk0 hk q1 => ?_) (fun I1 q1 => ?_)
  · have E1 := E.frF q1.1
    have hlen := sl2_len (slQ T m c (plh T m s) r) (r := r) hng k
    obtain ⟨I2, e1, e2, e3⟩ := mo_frow (V0 := V0) (V1 := (I1, J, Pst b f)) (J := J) (b := b) (f := f) E1 V hm hc hs hr hk q1.2 (by rw [List.length_append]; omega)
    refine ⟨I2, ?_, q1.1.trans e2, ?_⟩
    · have d1 := (E1.2.1.2 r hr).1
      have v1 := (V.2.1.2 r hr).1
      have ej : ((if T 5 r = 0 then some (iI 0) else some (iI ((k : Int) + 1))) : Option Int32) = some (iI ((if T 5 r = 0 then 0 else k + 1 : Nat) : Int)) := by split <;> rfl
      simp (maxSteps := 4000000) (disch := omega) only [Mo_finds_L54, rc132, gi132, gl132, pi132, pl132, pz132, pr132, gr132_0, gr132_6, gr132_7, gr132_8, gr132_9, gr132_10, gr132_11, gr132_12, gr132_13, gr132_14, gr132_15, gr132_16, gr132_17, gr132_18, gr132_19, gr132_20, gr132_21, gr132_22, gr132_23, gr132_24, gr132_25, gr132_27, gr132_28, gr132_29, gr132_30, gr132_32, gr132_33, gr132_34, gr132_35, gr132_36, gr132_37, gr132_38, gr132_39, gr132_40, gr132_41, gr132_42, gr132_44, gr132_45, gr132_46, gr132_47, gr132_48, gr132_49, gr132_50, gr132_51, gr132_61, gr132_62, gr132_63, ar134_0, ar134_1, ar137_0, ar137_1, ar140_0, ar140_1, ar143_0, ar143_1, ar146_0, ar146_1, ar149_0, ar149_1, ar152_0, ar152_1, ar155_0, ar155_1, ar158_0, ar158_1, ar164_0, ar164_1, ar164_2, ar164_3, ar164_4, ar164_5, ar164_6, ar164_7, ar164_8, ld133, st133, an133, an134, ld135, st135, an135, ld136, st136, an136, an137, ld138, st138, an138, ld139, st139, an139, an140, ld141, st141, an141, ld142, st142, an142, an143, ld144, st144, an144, ld145, st145, an145, an146, ld147, st147, an147, ld148, st148, an148, an149, ld150, st150, an150, ld151, st151, an151, an152, ld153, st153, an153, ld154, st154, an154, an155, ld156, st156, an156, ld157, st157, an157, an158, ld159, st159, an159, ld160, st160, an160, ld161, st161, an161, ld162, st162, an162, ld163, st163, an163, an164, ld165, st165, an165, ld166, st166, an166, ld167, st167, an167, ld168, st168, an168, ld169, st169, an169, ld170, st170, an170, ld171, st171, an171, ld172, st172, an172, ld173, st173, an173, ld174, st174, an174, ld175, st175, an175, ld176, st176, an176, ld177, st177, an177, ld178, st178, an178, ld179, st179, an179, ld180, st180, an180, ld181, st181, an181, ld182, st182, an182, ld183, st183, an183, ld184, st184, an184, ld185, st185, an185, ld186, st186, an186, ld187, st187, an187, ld188, st188, an188, ld189, st189, an189, ld190, st190, an190, ld191, st191, an191, ld192, st192, an192, ld193, st193, an193, ld194, st194, an194, ld195, st195, an195, ld196, st196, an196, ld197, st197, an197, Option.bind_some, if_true, if_false, n_0, n_1, n_2, n_3, n_4, n_5, n_6, n_7, n_8, n_9, n_10, n_12, n_15, n_20, n_24, n_32, n_48, n_57, n_59, n_80, n_97, n_99, n_100, n_122, n_680, n_700, n_999, n_1023, n_1024, iI_neg, iI_add, iI_sub, iI_lt, iI_le, iI_eq, Int.toNat_zero, Int.toNat_natCast, E1.2.1.1.1.1, show ¬ T 0 2 ≤ (k : Int) by omega, d1, ej, e1]
    · rw [List.append_assoc] at e3
      exact e3
  · have E1 := E.frF q1.1
    simp (maxSteps := 4000000) (disch := omega) only [Mo_finds_L54, rc132, gi132, gl132, pi132, pl132, pz132, pr132, gr132_0, gr132_6, gr132_7, gr132_8, gr132_9, gr132_10, gr132_11, gr132_12, gr132_13, gr132_14, gr132_15, gr132_16, gr132_17, gr132_18, gr132_19, gr132_20, gr132_21, gr132_22, gr132_23, gr132_24, gr132_25, gr132_27, gr132_28, gr132_29, gr132_30, gr132_32, gr132_33, gr132_34, gr132_35, gr132_36, gr132_37, gr132_38, gr132_39, gr132_40, gr132_41, gr132_42, gr132_44, gr132_45, gr132_46, gr132_47, gr132_48, gr132_49, gr132_50, gr132_51, gr132_61, gr132_62, gr132_63, ar134_0, ar134_1, ar137_0, ar137_1, ar140_0, ar140_1, ar143_0, ar143_1, ar146_0, ar146_1, ar149_0, ar149_1, ar152_0, ar152_1, ar155_0, ar155_1, ar158_0, ar158_1, ar164_0, ar164_1, ar164_2, ar164_3, ar164_4, ar164_5, ar164_6, ar164_7, ar164_8, ld133, st133, an133, an134, ld135, st135, an135, ld136, st136, an136, an137, ld138, st138, an138, ld139, st139, an139, an140, ld141, st141, an141, ld142, st142, an142, an143, ld144, st144, an144, ld145, st145, an145, an146, ld147, st147, an147, ld148, st148, an148, an149, ld150, st150, an150, ld151, st151, an151, an152, ld153, st153, an153, ld154, st154, an154, an155, ld156, st156, an156, ld157, st157, an157, an158, ld159, st159, an159, ld160, st160, an160, ld161, st161, an161, ld162, st162, an162, ld163, st163, an163, an164, ld165, st165, an165, ld166, st166, an166, ld167, st167, an167, ld168, st168, an168, ld169, st169, an169, ld170, st170, an170, ld171, st171, an171, ld172, st172, an172, ld173, st173, an173, ld174, st174, an174, ld175, st175, an175, ld176, st176, an176, ld177, st177, an177, ld178, st178, an178, ld179, st179, an179, ld180, st180, an180, ld181, st181, an181, ld182, st182, an182, ld183, st183, an183, ld184, st184, an184, ld185, st185, an185, ld186, st186, an186, ld187, st187, an187, ld188, st188, an188, ld189, st189, an189, ld190, st190, an190, ld191, st191, an191, ld192, st192, an192, ld193, st193, an193, ld194, st194, an194, ld195, st195, an195, ld196, st196, an196, ld197, st197, an197, Option.bind_some, if_true, if_false, n_0, n_1, n_2, n_3, n_4, n_5, n_6, n_7, n_8, n_9, n_10, n_12, n_15, n_20, n_24, n_32, n_48, n_57, n_59, n_80, n_97, n_99, n_100, n_122, n_680, n_700, n_999, n_1023, n_1024, iI_neg, iI_add, iI_sub, iI_lt, iI_le, iI_eq, Int.toNat_zero, E1.2.1.1.1.1, show T 0 2 ≤ (ng T : Int) by omega]
theorem mo_zero : ∃ I', jloop (Mo_finds_L16 S0 (some 132)) jN (iI 0, (I, J, Pst b f)) = some (I', J, Pst b f) ∧ frM zF sF I I' ∧ (∀ g, g < 10 → I' 175 g = iI 0) ∧ I' 132 31 = I 132 31 := by
  refine jheap (J := J) (P := Pst b f) (I := I) (fun k I' => frM zF sF I I' ∧ (∀ g, g < k → I' 175 g = iI 0) ∧ I' 132 31 = I 132 31) 0 10 ⟨frM.refl _ _ _, fun g hg => by omega, rfl⟩ (by omega) (by omega) (fun k I1 _ hk q1 => ?_) (fun I1 q1 => ?_)
  · refine ⟨hup I1 175 k (iI 0), ?_, q1.1.wr (by omega) (by omega), fun g hg => ?_, ?_⟩
    · simp (maxSteps := 4000000) (disch := omega) only [Mo_finds_L16, rc132, gi132, gl132, pi132, pl132, pz132, pr132, gr132_0, gr132_6, gr132_7, gr132_8, gr132_9, gr132_10, gr132_11, gr132_12, gr132_13, gr132_14, gr132_15, gr132_16, gr132_17, gr132_18, gr132_19, gr132_20, gr132_21, gr132_22, gr132_23, gr132_24, gr132_25, gr132_27, gr132_28, gr132_29, gr132_30, gr132_32, gr132_33, gr132_34, gr132_35, gr132_36, gr132_37, gr132_38, gr132_39, gr132_40, gr132_41, gr132_42, gr132_44, gr132_45, gr132_46, gr132_47, gr132_48, gr132_49, gr132_50, gr132_51, gr132_61, gr132_62, gr132_63, ar134_0, ar134_1, ar137_0, ar137_1, ar140_0, ar140_1, ar143_0, ar143_1, ar146_0, ar146_1, ar149_0, ar149_1, ar152_0, ar152_1, ar155_0, ar155_1, ar158_0, ar158_1, ar164_0, ar164_1, ar164_2, ar164_3, ar164_4, ar164_5, ar164_6, ar164_7, ar164_8, ld133, st133, an133, an134, ld135, st135, an135, ld136, st136, an136, an137, ld138, st138, an138, ld139, st139, an139, an140, ld141, st141, an141, ld142, st142, an142, an143, ld144, st144, an144, ld145, st145, an145, an146, ld147, st147, an147, ld148, st148, an148, an149, ld150, st150, an150, ld151, st151, an151, an152, ld153, st153, an153, ld154, st154, an154, an155, ld156, st156, an156, ld157, st157, an157, an158, ld159, st159, an159, ld160, st160, an160, ld161, st161, an161, ld162, st162, an162, ld163, st163, an163, an164, ld165, st165, an165, ld166, st166, an166, ld167, st167, an167, ld168, st168, an168, ld169, st169, an169, ld170, st170, an170, ld171, st171, an171, ld172, st172, an172, ld173, st173, an173, ld174, st174, an174, ld175, st175, an175, ld176, st176, an176, ld177, st177, an177, ld178, st178, an178, ld179, st179, an179, ld180, st180, an180, ld181, st181, an181, ld182, st182, an182, ld183, st183, an183, ld184, st184, an184, ld185, st185, an185, ld186, st186, an186, ld187, st187, an187, ld188, st188, an188, ld189, st189, an189, ld190, st190, an190, ld191, st191, an191, ld192, st192, an192, ld193, st193, an193, ld194, st194, an194, ld195, st195, an195, ld196, st196, an196, ld197, st197, an197, Option.bind_some, if_true, if_false, n_0, n_1, n_2, n_3, n_4, n_5, n_6, n_7, n_8, n_9, n_10, n_12, n_15, n_20, n_24, n_32, n_48, n_57, n_59, n_80, n_97, n_99, n_100, n_122, n_680, n_700, n_999, n_1023, n_1024, iI_neg, iI_add, iI_sub, iI_lt, iI_le, iI_eq, show ¬ (10 : Int) ≤ (k : Int) by omega, Int.toNat_natCast]
    · by_cases e : g = k
      · simp [hup, e]
      · simp only [hup, e, and_false, if_false]
        exact q1.2.1 g (by omega)
    · simp [hup, q1.2.2]
  · simp (maxSteps := 4000000) (disch := omega) only [Mo_finds_L16, Option.bind_some, if_true, if_false, n_0, n_1, n_2, n_3, n_4, n_5, n_6, n_7, n_8, n_9, n_10, n_12, n_15, n_20, n_24, n_32, n_48, n_57, n_59, n_80, n_97, n_99, n_100, n_122, n_680, n_700, n_999, n_1023, n_1024, iI_neg, iI_add, iI_sub, iI_lt, iI_le, iI_eq, show (10 : Int) ≤ ((10 : Nat) : Int) by omega]
theorem mo_finds (E : EM T I) (V : TV T) (hm : isM T m) (hc : 0 ≤ c ∧ c < 20) (hs : 0 ≤ s ∧ s < 20) : ∃ I', Mo_finds S0 (some 132) (iI m) (iI c) (iI s) (I, J, Pst b f) = some (I', J, Pst b f) ∧ frM zF sF I I' ∧ slM T m c (plh T m s) (SLS T m c (plh T m s)) I' := by
  obtain ⟨⟨eA, eB⟩, ⟨eC, eD⟩, eE⟩ := id E
  obtain ⟨⟨vA, vB⟩, ⟨vC, vD⟩, vE, vF⟩ := id V
  have hng := ng_le vC
  have hT := vC.1
  have hB := vB.1
  have h1 := nrI vC
  obtain ⟨I9, z1, z2, z3, z4⟩ := mo_zero (I := hup I 132 31 (iI 0)) (J := J) (b := b) (f := f)
  have fr9 : frM zF sF I I9 := ((frM.refl zF sF I).fld (show zF 31 from rfl)).trans z2
  have key := jheap (J := J) (P := Pst b f) (I := I9) (body := Mo_finds_L40 S0 (some 132) (iI m) (iI c) (iI s) (iI (T 3 m.toNat))) (fun k I' => frM zF sF I I' ∧ slM T m c (plh T m s) (sl1 (slQ T m c (plh T m s)) (ng T) k) I') 0 (nr T) ⟨fr9, ?_⟩ (by omega) (by omega) (fun k I1 _ hk q1 => ?_) (fun I1 q1 => ?_)
  · obtain ⟨I2, e1, e2⟩ := key
    refine ⟨I2, ?_, e2⟩
    have e1' : jloop (Mo_finds_L40 S0 (some 132) (iI m) (iI c) (iI s) (iI (T 3 m.toNat))) jN (iI 0, (I9, J, Pst b f)) = some (I2, J, Pst b f) := e1
    have q3 := (eB.2 m.toNat (by omega)).2
    simp (maxSteps := 4000000) (disch := omega) only [Mo_finds, rc132, gi132, gl132, pi132, pl132, pz132, pr132, gr132_0, gr132_6, gr132_7, gr132_8, gr132_9, gr132_10, gr132_11, gr132_12, gr132_13, gr132_14, gr132_15, gr132_16, gr132_17, gr132_18, gr132_19, gr132_20, gr132_21, gr132_22, gr132_23, gr132_24, gr132_25, gr132_27, gr132_28, gr132_29, gr132_30, gr132_32, gr132_33, gr132_34, gr132_35, gr132_36, gr132_37, gr132_38, gr132_39, gr132_40, gr132_41, gr132_42, gr132_44, gr132_45, gr132_46, gr132_47, gr132_48, gr132_49, gr132_50, gr132_51, gr132_61, gr132_62, gr132_63, ar134_0, ar134_1, ar137_0, ar137_1, ar140_0, ar140_1, ar143_0, ar143_1, ar146_0, ar146_1, ar149_0, ar149_1, ar152_0, ar152_1, ar155_0, ar155_1, ar158_0, ar158_1, ar164_0, ar164_1, ar164_2, ar164_3, ar164_4, ar164_5, ar164_6, ar164_7, ar164_8, ld133, st133, an133, an134, ld135, st135, an135, ld136, st136, an136, an137, ld138, st138, an138, ld139, st139, an139, an140, ld141, st141, an141, ld142, st142, an142, an143, ld144, st144, an144, ld145, st145, an145, an146, ld147, st147, an147, ld148, st148, an148, an149, ld150, st150, an150, ld151, st151, an151, an152, ld153, st153, an153, ld154, st154, an154, an155, ld156, st156, an156, ld157, st157, an157, an158, ld159, st159, an159, ld160, st160, an160, ld161, st161, an161, ld162, st162, an162, ld163, st163, an163, an164, ld165, st165, an165, ld166, st166, an166, ld167, st167, an167, ld168, st168, an168, ld169, st169, an169, ld170, st170, an170, ld171, st171, an171, ld172, st172, an172, ld173, st173, an173, ld174, st174, an174, ld175, st175, an175, ld176, st176, an176, ld177, st177, an177, ld178, st178, an178, ld179, st179, an179, ld180, st180, an180, ld181, st181, an181, ld182, st182, an182, ld183, st183, an183, ld184, st184, an184, ld185, st185, an185, ld186, st186, an186, ld187, st187, an187, ld188, st188, an188, ld189, st189, an189, ld190, st190, an190, ld191, st191, an191, ld192, st192, an192, ld193, st193, an193, ld194, st194, an194, ld195, st195, an195, ld196, st196, an196, ld197, st197, an197, Option.bind_some, if_true, if_false, n_0, n_1, n_2, n_3, n_4, n_5, n_6, n_7, n_8, n_9, n_10, n_12, n_15, n_20, n_24, n_32, n_48, n_57, n_59, n_80, n_97, n_99, n_100, n_122, n_680, n_700, n_999, n_1023, n_1024, iI_neg, iI_add, iI_sub, q3, z1, e1']
  · refine ⟨?_, fun k hk => ?_, fun g hg => ?_⟩
    · rw [z4]; simp [hup, sl1]
    · simp [sl1] at hk
    · rw [z3 g hg]; simp [sl1, lmn]
  · have E1 := E.frF q1.1
    have hlen := sl1_len (slQ T m c (plh T m s)) hng k
    obtain ⟨I2, e1, e2, e3⟩ := mo_frule (V0 := (I1, J, Pst b f)) (J := J) (b := b) (f := f) E1 V hm hc hs (r := k) (by omega) q1.2 (by omega)
    refine ⟨I2, ?_, q1.1.trans e2, e3⟩
    simp (maxSteps := 4000000) (disch := omega) only [Mo_finds_L40, rc132, gi132, gl132, pi132, pl132, pz132, pr132, gr132_0, gr132_6, gr132_7, gr132_8, gr132_9, gr132_10, gr132_11, gr132_12, gr132_13, gr132_14, gr132_15, gr132_16, gr132_17, gr132_18, gr132_19, gr132_20, gr132_21, gr132_22, gr132_23, gr132_24, gr132_25, gr132_27, gr132_28, gr132_29, gr132_30, gr132_32, gr132_33, gr132_34, gr132_35, gr132_36, gr132_37, gr132_38, gr132_39, gr132_40, gr132_41, gr132_42, gr132_44, gr132_45, gr132_46, gr132_47, gr132_48, gr132_49, gr132_50, gr132_51, gr132_61, gr132_62, gr132_63, ar134_0, ar134_1, ar137_0, ar137_1, ar140_0, ar140_1, ar143_0, ar143_1, ar146_0, ar146_1, ar149_0, ar149_1, ar152_0, ar152_1, ar155_0, ar155_1, ar158_0, ar158_1, ar164_0, ar164_1, ar164_2, ar164_3, ar164_4, ar164_5, ar164_6, ar164_7, ar164_8, ld133, st133, an133, an134, ld135, st135, an135, ld136, st136, an136, an137, ld138, st138, an138, ld139, st139, an139, an140, ld141, st141, an141, ld142, st142, an142, an143, ld144, st144, an144, ld145, st145, an145, an146, ld147, st147, an147, ld148, st148, an148, an149, ld150, st150, an150, ld151, st151, an151, an152, ld153, st153, an153, ld154, st154, an154, an155, ld156, st156, an156, ld157, st157, an157, an158, ld159, st159, an159, ld160, st160, an160, ld161, st161, an161, ld162, st162, an162, ld163, st163, an163, an164, ld165, st165, an165, ld166, st166, an166, ld167, st167, an167, ld168, st168, an168, ld169, st169, an169, ld170, st170, an170, ld171, st171, an171, ld172, st172, an172, ld173, st173, an173, ld174, st174, an174, ld175, st175, an175, ld176, st176, an176, ld177, st177, an177, ld178, st178, an178, ld179, st179, an179, ld180, st180, an180, ld181, st181, an181, ld182, st182, an182, ld183, st183, an183, ld184, st184, an184, ld185, st185, an185, ld186, st186, an186, ld187, st187, an187, ld188, st188, an188, ld189, st189, an189, ld190, st190, an190, ld191, st191, an191, ld192, st192, an192, ld193, st193, an193, ld194, st194, an194, ld195, st195, an195, ld196, st196, an196, ld197, st197, an197, Option.bind_some, if_true, if_false, n_0, n_1, n_2, n_3, n_4, n_5, n_6, n_7, n_8, n_9, n_10, n_12, n_15, n_20, n_24, n_32, n_48, n_57, n_59, n_80, n_97, n_99, n_100, n_122, n_680, n_700, n_999, n_1023, n_1024, iI_neg, iI_add, iI_sub, iI_lt, iI_le, iI_eq, Int.toNat_zero, E1.2.1.1.1.2.2, show ¬ T 0 4 ≤ (k : Int) by omega, e1]
  · have E1 := E.frF q1.1
    simp (maxSteps := 4000000) (disch := omega) only [Mo_finds_L40, rc132, gi132, gl132, pi132, pl132, pz132, pr132, gr132_0, gr132_6, gr132_7, gr132_8, gr132_9, gr132_10, gr132_11, gr132_12, gr132_13, gr132_14, gr132_15, gr132_16, gr132_17, gr132_18, gr132_19, gr132_20, gr132_21, gr132_22, gr132_23, gr132_24, gr132_25, gr132_27, gr132_28, gr132_29, gr132_30, gr132_32, gr132_33, gr132_34, gr132_35, gr132_36, gr132_37, gr132_38, gr132_39, gr132_40, gr132_41, gr132_42, gr132_44, gr132_45, gr132_46, gr132_47, gr132_48, gr132_49, gr132_50, gr132_51, gr132_61, gr132_62, gr132_63, ar134_0, ar134_1, ar137_0, ar137_1, ar140_0, ar140_1, ar143_0, ar143_1, ar146_0, ar146_1, ar149_0, ar149_1, ar152_0, ar152_1, ar155_0, ar155_1, ar158_0, ar158_1, ar164_0, ar164_1, ar164_2, ar164_3, ar164_4, ar164_5, ar164_6, ar164_7, ar164_8, ld133, st133, an133, an134, ld135, st135, an135, ld136, st136, an136, an137, ld138, st138, an138, ld139, st139, an139, an140, ld141, st141, an141, ld142, st142, an142, an143, ld144, st144, an144, ld145, st145, an145, an146, ld147, st147, an147, ld148, st148, an148, an149, ld150, st150, an150, ld151, st151, an151, an152, ld153, st153, an153, ld154, st154, an154, an155, ld156, st156, an156, ld157, st157, an157, an158, ld159, st159, an159, ld160, st160, an160, ld161, st161, an161, ld162, st162, an162, ld163, st163, an163, an164, ld165, st165, an165, ld166, st166, an166, ld167, st167, an167, ld168, st168, an168, ld169, st169, an169, ld170, st170, an170, ld171, st171, an171, ld172, st172, an172, ld173, st173, an173, ld174, st174, an174, ld175, st175, an175, ld176, st176, an176, ld177, st177, an177, ld178, st178, an178, ld179, st179, an179, ld180, st180, an180, ld181, st181, an181, ld182, st182, an182, ld183, st183, an183, ld184, st184, an184, ld185, st185, an185, ld186, st186, an186, ld187, st187, an187, ld188, st188, an188, ld189, st189, an189, ld190, st190, an190, ld191, st191, an191, ld192, st192, an192, ld193, st193, an193, ld194, st194, an194, ld195, st195, an195, ld196, st196, an196, ld197, st197, an197, Option.bind_some, if_true, if_false, n_0, n_1, n_2, n_3, n_4, n_5, n_6, n_7, n_8, n_9, n_10, n_12, n_15, n_20, n_24, n_32, n_48, n_57, n_59, n_80, n_97, n_99, n_100, n_122, n_680, n_700, n_999, n_1023, n_1024, iI_neg, iI_add, iI_sub, iI_lt, iI_le, iI_eq, Int.toNat_zero, E1.2.1.1.1.2.2, show T 0 4 ≤ (nr T : Int) by omega]
end
