/-! ===== layer 2: the text: the class reads a guest, a mark ===== -/
section
variable {T D D' : Tb} {I I' I'' : Nat → Nat → Int32} {J J' J'' : Nat → Nat → Int64} {b d v : Bool} {f k n i j e t s w M K r y z : Nat} {m g h a c o lo hi x wt rm un : Int} {S : Nat → Bool} {q : Int32}
def cDp (D : Tb) (d : Bool) (I : Nat → Nat → Int32) : Prop := ∀ r : Nat, r < D 0 4 → (I (ru d r) 0 = iI (D 5 r) ∧ I (ru d r) 1 = iI (D 6 r) ∧ I (ru d r) 2 = iI (D 7 r) ∧ I (ru d r) 3 = iI (D 8 r) ∧ I (ru d r) 4 = iI (D 9 r) ∧ I (ru d r) 5 = iI (if D 10 r = -1 then -1 else 100 + D 10 r)) ∧ ∀ x, x < 10 → I (cu d r) x = iI (bt 10 (cpl D r x) : Int)
/-- the class reads: what was read, where it stands -/
def crR (T D : Tb) (d : Bool) (t : Nat) (I : Nat → Nat → Int32) (J : Nat → Nat → Int64) : Prop := (cA T I ∧ tkC T t I J) ∧ (kwC J ∧ nmC D (nm D) I J) ∧ cC D d I ∧ cDp D d I
/-- what the reading leaves as it was -/
def pF (d : Bool) (I : Nat → Nat → Int32) (J : Nat → Nat → Int64) (I' : Nat → Nat → Int32) (J' : Nat → Nat → Int64) : Prop := (∀ o k, ¬ (o = 1 ∧ 2 ≤ k) → o ≠ 3 → o ≠ 5 → ¬ (ct d ≤ o ∧ o < ct d + 29) → I' o k = I o k) ∧ ∀ o k, o ≠ 1 → o ≠ 4 → J' o k = J o k
set_option maxHeartbeats 8000000 in
theorem pF.refl : pF d I J I J := ⟨fun _ _ _ _ _ _ => rfl, fun _ _ _ _ => rfl⟩
set_option maxHeartbeats 8000000 in
theorem pF.trans (h : pF d I J I' J') (h' : pF d I' J' I'' J'') : pF d I J I'' J'' := ⟨fun o k a1 a2 a3 a4 => (h'.1 o k a1 a2 a3 a4).trans (h.1 o k a1 a2 a3 a4), fun o k a1 a2 => (h'.2 o k a1 a2).trans (h.2 o k a1 a2)⟩
set_option maxHeartbeats 8000000 in
theorem pF.tx (h : txF I J I' J') : pF d I J I' J' := ⟨fun o k a1 _ _ _ => h.1 o k a1, fun o k a1 _ => h.2 o k a1⟩
set_option maxHeartbeats 8000000 in
theorem pF.wr (h : pF d I J I' J') {o : Nat} (ho : o = 3 ∨ o = 5 ∨ (ct d ≤ o ∧ o < ct d + 29)) : pF d I J (hup I' o k q) J' := ⟨fun p j a1 a2 a3 a4 => by
  rw [hup_obj _ _ _ (show p ≠ o by omega)]; exact h.1 p j a1 a2 a3 a4, h.2⟩
set_option maxHeartbeats 8000000 in
theorem pF.wl (h : pF d I J I' J') {v : Int64} : pF d I J I' (hup J' 4 k v) := ⟨h.1, fun p j a1 a2 => by
  rw [hup_obj _ _ _ a2]; exact h.2 p j a1 a2⟩
set_option maxHeartbeats 8000000 in
theorem cC.tx (h : cC D d I) (ha : txF I J I' J') : cC D d I' := by
  have := ct_or d
  exact h.agr ⟨ha.1 _ _ (by omega), ha.1 _ _ (by omega), ha.1 _ _ (by omega)⟩ (fun o ho k => ha.1 _ _ (by omega))
set_option maxHeartbeats 8000000 in
theorem cDp.agr (h : cDp D d I) (hT : D 0 4 ≤ 12) (ha : ∀ o k, ct d + 5 ≤ o → o < ct d + 29 → I' o k = I o k) : cDp D d I' := fun r hr => by
  obtain ⟨⟨h1, h2, h3, h4, h5, h6⟩, h7⟩ := h r hr
  have q1 : ct d + 5 ≤ ru d r ∧ ru d r < ct d + 29 := by unfold ru; omega
  have q2 : ct d + 5 ≤ cu d r ∧ cu d r < ct d + 29 := by unfold cu; omega
  exact ⟨⟨(ha _ _ q1.1 q1.2).trans h1, (ha _ _ q1.1 q1.2).trans h2, (ha _ _ q1.1 q1.2).trans h3, (ha _ _ q1.1 q1.2).trans h4, (ha _ _ q1.1 q1.2).trans h5, (ha _ _ q1.1 q1.2).trans h6⟩, fun x hx => (ha _ _ q2.1 q2.2).trans (h7 x hx)⟩
set_option maxHeartbeats 8000000 in
theorem cDp.tx (h : cDp D d I) (hT : D 0 4 ≤ 12) (ha : txF I J I' J') : cDp D d I' := by
  have := ct_or d
  exact h.agr hT fun o k a1 a2 => ha.1 _ _ (by omega)
/-- the answer of a reading -/
def rzC (T : Tb) (d : Bool) (q : Int32) (I : Nat → Nat → Int32) (J : Nat → Nat → Int64) (r : Rd) : Prop := Sum.elim (fun u : Nat => q = iI 0 ∧ I 1 3 = iI (u : Int)) (fun z : Nat × Tb => q = iI 1 ∧ crR T z.2 d z.1 I J) r
set_option maxHeartbeats 8000000 in
theorem cl_stopF (hk : tkC T t I J) (h : kd T t ≠ 3) : Reader_readStop S0 (some 3) (I, J, Pst b f) = some (iI 0, (I, J, Pst b f)) := by
  have hkr := kd_rg (T := T) (t := t)
  unfold Reader_readStop
  rw [rc3, Option.bind_some, gr3_0, Option.bind_some, gi1, hk.1.2.2, Option.bind_some, if_neg (by rw [n_3, iI_eq (by omega)]; exact h)]
  rfl
set_option maxHeartbeats 8000000 in
theorem cl_stopT (hA : cA T I) (hk : tkC T t I J) (ht : tvA T) (h : kd T t = 3) : ∃ I' J', Reader_readStop S0 (some 3) (I, J, Pst b f) = some (iI 1, (I', J', Pst b f)) ∧ txF I J I' J' ∧ tkC T (adv T t) I' J' := by
  obtain ⟨I1, J1, a1, a2, a3⟩ := cl_adv (b := b) (f := f) hA hk ht
  refine ⟨I1, J1, ?_, a2, a3⟩
  unfold Reader_readStop
  rw [rc3, Option.bind_some, gr3_0, Option.bind_some, gi1, hk.1.2.2, Option.bind_some, if_pos (by rw [h]; rfl), Option.bind_some, a1, Option.bind_some]
  rfl
set_option maxHeartbeats 8000000 in
theorem nmC_g (h : nmC D M I J) (h0 : 0 ≤ D 0 2) (h1 : I' 3 12 = iI (((ng D + M : Nat) : Int) + 1)) (h2 : ∀ k, k < ng D + M → J' 4 k = J 4 k ∧ I' 5 k = I 5 k) (h3 : J' 4 (ng D + M) = lI x ∧ I' 5 (ng D + M) = iI (ng D : Int)) : nmC (gAdd D x) M I' J' := by
  obtain ⟨n1, c, u, n2, n3, n4, n5⟩ := h
  have hng := gA_ng (x := x) h0
  refine ⟨by rw [h1, hng]; congr 1; omega, fun k => if k = ng D + M then x else c k, fun k => if k = ng D + M then (ng D : Int) else u k, fun k hk => ?_, fun k hk => ?_, fun i hi => ?_, fun i hi => ?_⟩
  · show J' 4 k = lI (if k = ng D + M then x else c k) ∧ I' 5 k = iI (if k = ng D + M then (ng D : Int) else u k)
    by_cases e : k = ng D + M
    · rw [if_pos e, if_pos e, e]; exact h3
    · rw [if_neg e, if_neg e, (h2 k (by omega)).1, (h2 k (by omega)).2]; exact n2 k (by omega)
  · show (∃ i, i < ng (gAdd D x) ∧ (if k = ng D + M then x else c k) = gAdd D x 16 i ∧ (if k = ng D + M then (ng D : Int) else u k) = (i : Int)) ∨ ∃ i, i < M ∧ (if k = ng D + M then x else c k) = gAdd D x 17 i ∧ (if k = ng D + M then (ng D : Int) else u k) = 100 + (i : Int)
    by_cases e : k = ng D + M
    · rw [if_pos e, if_pos e]
      exact Or.inl ⟨ng D, by omega, by rw [gA_16, if_pos rfl], rfl⟩
    · rw [if_neg e, if_neg e]
      rcases n3 k (by omega) with ⟨i, i1, i2, i3⟩ | ⟨i, i1, i2, i3⟩
      · exact Or.inl ⟨i, by omega, by rw [gA_16, if_neg (by omega)]; exact i2, i3⟩
      · exact Or.inr ⟨i, i1, by rw [gA_row (by omega) (by omega)]; exact i2, i3⟩
  · show ∃ k, k < ng (gAdd D x) + M ∧ (if k = ng D + M then x else c k) = gAdd D x 16 i
    by_cases e : i = ng D
    · exact ⟨ng D + M, by omega, by rw [if_pos rfl, gA_16, if_pos e]⟩
    · obtain ⟨k, k1, k2⟩ := n4 i (by omega)
      exact ⟨k, by omega, by rw [if_neg (by omega), gA_16, if_neg e]; exact k2⟩
  · show ∃ k, k < ng (gAdd D x) + M ∧ (if k = ng D + M then x else c k) = gAdd D x 17 i
    obtain ⟨k, k1, k2⟩ := n5 i hi
    exact ⟨k, by omega, by rw [if_neg (by omega), gA_row (by omega) (by omega)]; exact k2⟩
set_option maxHeartbeats 8000000 in
theorem nmC_m (h : nmC D M I J) (h1 : I' 3 12 = iI (((ng D + M : Nat) : Int) + 1)) (h2 : ∀ k, k < ng D + M → J' 4 k = J 4 k ∧ I' 5 k = I 5 k) (h3 : J' 4 (ng D + M) = lI x ∧ I' 5 (ng D + M) = iI (100 + (M : Int))) (hr : ∀ i, i < ng D → D' 16 i = D 16 i) (hn : ng D' = ng D) (hm : ∀ i, D' 17 i = if i = M then x else D 17 i) : nmC D' (M + 1) I' J' := by
  obtain ⟨n1, c, u, n2, n3, n4, n5⟩ := h
  refine ⟨by rw [h1, hn]; rfl, fun k => if k = ng D + M then x else c k, fun k => if k = ng D + M then 100 + (M : Int) else u k, fun k hk => ?_, fun k hk => ?_, fun i hi => ?_, fun i hi => ?_⟩
  · show J' 4 k = lI (if k = ng D + M then x else c k) ∧ I' 5 k = iI (if k = ng D + M then 100 + (M : Int) else u k)
    by_cases e : k = ng D + M
    · rw [if_pos e, if_pos e, e]; exact h3
    · rw [if_neg e, if_neg e, (h2 k (by omega)).1, (h2 k (by omega)).2]; exact n2 k (by omega)
  · show (∃ i, i < ng D' ∧ (if k = ng D + M then x else c k) = D' 16 i ∧ (if k = ng D + M then 100 + (M : Int) else u k) = (i : Int)) ∨ ∃ i, i < M + 1 ∧ (if k = ng D + M then x else c k) = D' 17 i ∧ (if k = ng D + M then 100 + (M : Int) else u k) = 100 + (i : Int)
    by_cases e : k = ng D + M
    · rw [if_pos e, if_pos e]
      exact Or.inr ⟨M, by omega, by rw [hm, if_pos rfl], rfl⟩
    · rw [if_neg e, if_neg e]
      rcases n3 k (by omega) with ⟨i, i1, i2, i3⟩ | ⟨i, i1, i2, i3⟩
      · exact Or.inl ⟨i, by omega, by rw [hr i i1]; exact i2, i3⟩
      · exact Or.inr ⟨i, by omega, by rw [hm, if_neg (by omega)]; exact i2, i3⟩
  · show ∃ k, k < ng D' + (M + 1) ∧ (if k = ng D + M then x else c k) = D' 16 i
    obtain ⟨k, k1, k2⟩ := n4 i (by omega)
    exact ⟨k, by omega, by rw [if_neg (by omega), hr i (by omega)]; exact k2⟩
  · show ∃ k, k < ng D' + (M + 1) ∧ (if k = ng D + M then x else c k) = D' 17 i
    by_cases e : i = M
    · exact ⟨ng D + M, by omega, by rw [if_pos rfl, hm, if_pos e]⟩
    · obtain ⟨k, k1, k2⟩ := n5 i (by omega)
      exact ⟨k, by omega, by rw [if_neg (by omega), hm, if_neg e]; exact k2⟩
set_option maxHeartbeats 8000000 in
theorem nwI_5 {k : Nat} : nwI I K x 5 k = if k = K then iI x else I 5 k := by
  unfold nwI
  rw [hup_obj _ _ _ (by omega)]
  unfold hup
  by_cases e : k = K
  · rw [if_pos ⟨rfl, e⟩, if_pos e]
  · rw [if_neg (fun q => e q.2), if_neg e]
set_option maxHeartbeats 8000000 in
theorem nwI_o {o k : Nat} (h5 : o ≠ 5) (h3 : o ≠ 3) : nwI I K x o k = I o k := by
  unfold nwI
  rw [hup_obj _ _ _ h3, hup_obj _ _ _ h5]
set_option maxHeartbeats 8000000 in
theorem cl_readGuest (C : crR T D d t I J) (dv : dV D) (ht : tvA T) : ∃ q I' J', Reader_readGuest S0 (some 3) (some (ct d)) (I, J, Pst b f) = some (q, (I', J', Pst b f)) ∧ pF d I J I' J' ∧ rzC T d q I' J' (rdG T D t) := by
  obtain ⟨⟨hA, hk⟩, ⟨hq, hn⟩, hC, hD⟩ := C
  obtain ⟨⟨c1, c2⟩, c3, c4⟩ := id dv
  have hcd := ct_or d
  have hngI : (ng D : Int) = D 0 2 := by unfold ng; omega
  have hnmI : (nm D : Int) = D 0 3 := by unfold nm; omega
  unfold rdG
  by_cases e0 : 10 ≤ D 0 2
  · rw [if_pos e0]
    refine ⟨iI 0, I, J, ?_, pF.refl, rfl, hk.1.1⟩
    unfold Reader_readGuest
    rw [rc3, Option.bind_some, gict, hC.1.1, Option.bind_some, if_neg (by rw [n_10, iI_lt (by omega)]; omega)]
    rfl
  · rw [if_neg e0]
    obtain ⟨I1, J1, a1, a2, a3⟩ := cl_adv (b := b) (f := f) hA hk ht
    have hA1 := a2.cA hA
    have hq1 := hq.tx a2
    have hn1 := hn.tx a2
    have hC1 := hC.tx a2
    have hD1 := hD.tx (by omega) a2
    obtain ⟨w1, w2⟩ := cl_newName (b := b) (f := f) (x := D 0 2) hA1 a3 ht hq1 hn1 c4 (by omega) (by omega)
    have hpre : ∀ Y, ((Reader_readNewName S0 (some 3) (iI (D 0 2)) (I1, J1, Pst b f)).bind fun w6 => if w6.1 = 0 then (some (0, w6.2)) else ((gI S0 0 4 w6.2 (some (ct d))).bind fun x8 => (pI S0 0 4 w6.2 (some (ct d)) (x8 + 1)).bind fun V9 => (Reader_readStop S0 (some 3) V9).bind fun w10 => some (w10.1 &&& 1, w10.2))) = Y → Reader_readGuest S0 (some 3) (some (ct d)) (I, J, Pst b f) = Y := fun Y hY => by
      unfold Reader_readGuest
      rw [rc3, Option.bind_some, gict, hC.1.1, Option.bind_some, if_pos (by rw [n_10, iI_lt (by omega)]; omega), gr3_0, Option.bind_some, a1, Option.bind_some, gict, hC1.1.1, Option.bind_some]
      exact hY
    cases ew : isNw T D (adv T t)
    · rw [if_neg (by decide)]
      refine ⟨iI 0, I1, J1, hpre _ ?_, pF.tx a2, rfl, a3.1.1⟩
      rw [w1 ew, Option.bind_some, if_pos (by rfl)]
      rfl
    · rw [if_pos rfl]
      obtain ⟨I2, J2, b1, b2, b3⟩ := w2 ew
      have hnw := isNw_t ew
      have hA2 : cA T I2 := b2.cA ⟨(nwI_o (by omega) (by omega)).trans hA1.1, fun k hk => (nwI_o (by omega) (by omega)).trans (hA1.2 k hk)⟩
      have hg4 : I2 (ct d) 4 = iI (D 0 2) := (b2.1 _ _ (by omega)).trans ((nwI_o (by omega) (by omega)).trans hC1.1.1)
      have hI3 : txF (hup (nwI I1 (ng D + nm D) (D 0 2)) (ct d) 4 (iI (D 0 2 + 1))) (hup J1 4 (ng D + nm D) (lI (nmd T (adv T t)))) (hup I2 (ct d) 4 (iI (D 0 2 + 1))) J2 := ⟨fun o k q => by
        unfold hup
        by_cases e : o = ct d ∧ k = 4
        · rw [if_pos e, if_pos e]
        · rw [if_neg e, if_neg e]; exact b2.1 o k q, b2.2⟩
      have hA3 : cA T (hup I2 (ct d) 4 (iI (D 0 2 + 1))) := ⟨(hup_obj _ _ _ (by omega)).trans hA2.1, fun k hk => (hup_obj _ _ _ (by omega)).trans (hA2.2 k hk)⟩
      have hk3 : tkC T (adv T (adv T t)) (hup I2 (ct d) 4 (iI (D 0 2 + 1))) J2 := ⟨⟨(hup_obj _ _ _ (by omega)).trans b3.1.1, (hup_obj _ _ _ (by omega)).trans b3.1.2.1, (hup_obj _ _ _ (by omega)).trans b3.1.2.2⟩, b3.2⟩
      have fr : pF d I J (hup I2 (ct d) 4 (iI (D 0 2 + 1))) J2 := (pF.tx a2).trans ((pF.wl (((pF.refl.wr (by omega)).wr (by omega)).wr (by omega))).trans (pF.tx hI3))
      by_cases es : kd T (adv T (adv T t)) = 3
      · rw [if_pos es]
        obtain ⟨I4, J4, s1, s2, s3⟩ := cl_stopT (b := b) (f := f) hA3 hk3 ht es
        have ts := hI3.trans s2
        have hcr : crR T (gAdd D (nmd T (adv T t))) d (adv T (adv T (adv T t))) I4 J4 := by
          refine ⟨⟨s2.cA hA3, s3⟩, ⟨?_, ?_⟩, ?_, ?_⟩
          · exact fun w hw => (ts.2 3 _ (by omega)).trans ((hup_obj _ _ _ (by omega)).trans (hq1 w hw))
          · rw [gA_nm]
            refine nmC_g hn1 c1.1.1 ?_ (fun k hk => ⟨?_, ?_⟩) ⟨?_, ?_⟩
            · rw [ts.1 3 12 (by omega), hup_obj _ _ _ (by omega)]; exact hup_same _ _ _ _
            · rw [ts.2 4 k (by omega), hup_ix _ _ _ (by omega)]
            · rw [ts.1 5 k (by omega), hup_obj _ _ _ (by omega), nwI_5, if_neg (by omega)]
            · rw [ts.2 4 _ (by omega), hup_same]
            · rw [ts.1 5 _ (by omega), hup_obj _ _ _ (by omega), nwI_5, if_pos rfl, hngI]
          · refine ⟨⟨?_, ?_, ?_⟩, fun m hm => ?_⟩
            · rw [ts.1 _ _ (by omega), hup_same, gA_2]
            · rw [ts.1 _ _ (by omega), hup_ix _ _ _ (by omega), nwI_o (by omega) (by omega), gA_0 (by omega)]; exact hC1.1.2.1
            · rw [ts.1 _ _ (by omega), hup_ix _ _ _ (by omega), nwI_o (by omega) (by omega), gA_0 (by omega)]; exact hC1.1.2.2
            · rw [gA_0 (by omega)] at hm
              rw [ts.1 _ _ (by omega), hup_obj _ _ _ (by omega), nwI_o (by omega) (by omega), gA_row (by omega) (by omega)]; exact hC1.2 m hm
          · have hDx : cDp D d I4 := hD1.agr (by omega) fun o k q1 q2 => by rw [ts.1 _ _ (by omega), hup_obj _ _ _ (by omega), nwI_o (by omega) (by omega)]
            intro r hr
            rw [gA_0 (by omega)] at hr
            have R := fun (o : Nat) (h0 : o ≠ 0) (h1 : o ≠ 16) => gA_row (D := D) (x := nmd T (adv T t)) h0 h1 r
            rw [R 5 (by omega) (by omega), R 6 (by omega) (by omega), R 7 (by omega) (by omega), R 8 (by omega) (by omega), R 9 (by omega) (by omega), R 10 (by omega) (by omega)]
            refine ⟨(hDx r hr).1, fun x hx => ?_⟩
            rw [(hDx r hr).2 x hx]
            exact sI_ext fun y _ => (cpl_cong c3 ⟨c1, c2⟩ hr (fun o h5 h10 => R o (by omega) (by omega)) (fun m hm => gA_row (by omega) (by omega) m) x y).symm
        refine ⟨iI 1, I4, J4, hpre _ ?_, fr.trans (pF.tx s2), rfl, hcr⟩
        rw [b1, Option.bind_some, if_neg (show ¬ iI 1 = 0 by decide), gict, hg4, Option.bind_some, n_1, iI_add, pict, Option.bind_some, s1, Option.bind_some]
        exact w11 _
      · rw [if_neg es]
        have hst := cl_stopF (b := b) (f := f) hk3 es
        refine ⟨iI 0, hup I2 (ct d) 4 (iI (D 0 2 + 1)), J2, hpre _ ?_, fr, rfl, hk3.1.1⟩
        rw [b1, Option.bind_some, if_neg (show ¬ iI 1 = 0 by decide), gict, hg4, Option.bind_some, n_1, iI_add, pict, Option.bind_some, hst, Option.bind_some]
        exact w01 _
end
