/-! ===== layer 2: what holds between the calls; what keeps it ===== -/
section
variable {T T' D D' : Tb} {I I' I'' : Nat → Nat → Int32} {J J' J'' : Nat → Nat → Int64} {b b' d v : Bool} {f k n i j e t s w M K r y u : Nat} {m g h a c o lo hi x wt rm un c1 c2 c1' c2' : Int} {S F G : Nat → Bool} {q : Int32} {z : Nat × Tb}
set_option maxRecDepth 20000 in
set_option maxHeartbeats 8000000 in
theorem rcK.up (h : rcK T c1 I) (hc : c1 ≤ c1') (hI : ∀ k, k < 4 → I' (ro k) 6 = I (ro k) 6 ∧ I' (ro k) 7 = I (ro k) 7) (hT : c1 = c1' → smT T T') : rcK T' c1' I' := fun k hk => by
  obtain ⟨c, r1, r2, r3⟩ := h k hk
  refine ⟨c, (hI k hk).1.trans r1, by omega, fun e => ?_⟩
  rw [(hI k hk).2, r3 (by omega), (hT (by omega)).bsr]
set_option maxRecDepth 20000 in
set_option maxHeartbeats 8000000 in
theorem fcK.up (h : fcK T c1 c2 I) (h1 : c1 ≤ c1') (h2 : c2 ≤ c2') (hI : Agr (fun o => (8 ≤ o ∧ o ≤ 46) ∧ o ≠ 17 ∧ o ≠ 27 ∧ o ≠ 37) I I') (hc : c2 = c2' → c1 = c1') (hT : c1 = c1' → smT T T' ∧ ∀ k : Nat, (k : Int) < T 0 1 → (k : Int) < T' 0 1 ∧ smR T T' (k : Int)) (hT2 : c2 = c2' → T' 13 = T 13 ∧ T' 14 = T 14 ∧ T' 15 = T 15) : fcK T' c1' c2' I' := fun k j hk hj => by
  obtain ⟨c, l, ⟨r1, r2, r3⟩, r4, r5⟩ := h k j hk hj
  have hfo : fo k j = 8 + 10 * k + 3 * j := rfl
  have hch : chg c1 c2 j ≤ chg c1' c2' j := by
    unfold chg
    split <;> assumption
  refine ⟨c, l, ⟨(hI _ (by omega) _).trans r1, r2, (hI _ (by omega) _).trans r3⟩, by omega, fun e => ?_⟩
  obtain ⟨q1, q2⟩ := r5 (by omega)
  have hee : chg c1 c2 j = chg c1' c2' j := by omega
  have e1 : c1 = c1' := by
    unfold chg at hee
    by_cases ej : j = 2
    · rw [if_pos ej, if_pos ej] at hee; exact hc hee
    · rw [if_neg ej, if_neg ej] at hee; exact hee
  obtain ⟨s1, s2⟩ := hT e1
  obtain ⟨s3, s4⟩ := s2 k q1
  have hf : fnd T' (k : Int) (nP T' (k : Int)) (j : Int) l = fnd T (k : Int) (nP T (k : Int)) (j : Int) l := by
    rw [show nP T' (k : Int) = nP T (k : Int) by unfold nP; rw [s4.2]]
    refine s1.fnd s4 (fun ej => hT2 ?_) _ _
    unfold chg at hee
    rw [if_pos (by omega), if_pos (by omega)] at hee
    exact hee
  refine ⟨s3, ?_⟩
  rw [hf]
  exact s1.fdC (q2.agr fun o ho k' => hI o (by omega) k')
/-- the class between two calls -/
def CI (T : Tb) (b : Bool) (c1 c2 : Int) (I : Nat → Nat → Int32) (J : Nat → Nat → Int64) : Prop := (EC T b I ∧ cK c1 c2 b I) ∧ (rcK T c1 I ∧ fcK T c1 c2 I) ∧ kwC J
set_option maxRecDepth 20000 in
set_option maxHeartbeats 8000000 in
theorem CI.keep (h : CI T b c1 c2 I J) (V : TV T) (ha : Agr (fun o => o < 47 ∨ (74 ≤ o ∧ o < 132)) I I') (hj : ∀ k, J' 3 k = J 3 k) : CI T b c1 c2 I' J' := by
  obtain ⟨⟨h1, h2⟩, ⟨h3, h4⟩, h5⟩ := h
  have hb := ct_or b
  refine ⟨⟨h1.agrf V (ha.sub fun o ho => by omega), (ha _ (by omega) _).trans h2.1, (ha _ (by omega) _).trans h2.2⟩, ⟨h3.up (Int.le_refl _) (fun k hk => ?_) (fun _ => smT.refl), h4.up (Int.le_refl _) (Int.le_refl _) (ha.sub fun o ho => by omega) (fun _ => rfl) (fun _ => ⟨smT.refl, fun k hk => ⟨hk, rfl, rfl⟩⟩) (fun _ => ⟨rfl, rfl, rfl⟩)⟩, fun w hw => (hj _).trans (h5 w hw)⟩
  have := ro_is k
  exact ⟨ha _ (by omega) _, ha _ (by omega) _⟩
set_option maxRecDepth 20000 in
set_option maxHeartbeats 8000000 in
theorem CI.up (h : CI T b c1 c2 I J) (hE : EC T' b' I') (hK : cK c1' c2' b' I') (h1 : c1 ≤ c1') (h2 : c2 ≤ c2') (ha : ∀ o k, 7 ≤ o → o ≤ 46 → ¬ (∃ i, o = ro i ∧ k ≤ 5) → I' o k = I o k) (hc : c2 = c2' → c1 = c1') (hT : c1 = c1' → smT T T' ∧ ∀ k : Nat, (k : Int) < T 0 1 → (k : Int) < T' 0 1 ∧ smR T T' (k : Int)) (hT2 : c2 = c2' → T' 13 = T 13 ∧ T' 14 = T 14 ∧ T' 15 = T 15) (hj : kwC J') : CI T' b' c1' c2' I' J' := by
  obtain ⟨-, ⟨h3, h4⟩, -⟩ := h
  refine ⟨⟨hE, hK⟩, ⟨h3.up h1 (fun k hk => ?_) (fun e => (hT e).1), h4.up h1 h2 (fun o ho k => ha o k (by omega) (by omega) ?_) hc hT hT2⟩, hj⟩
  · have := ro_is k
    exact ⟨ha _ _ (by omega) (by omega) (by rintro ⟨i, -, hi⟩; omega), ha _ _ (by omega) (by omega) (by rintro ⟨i, -, hi⟩; omega)⟩
  · rintro ⟨i, hi, -⟩
    have := ro_is i
    omega
set_option maxRecDepth 20000 in
set_option maxHeartbeats 8000000 in
theorem EM.keep (h : EM T I) (ha : ∀ o k, 132 ≤ o → I' o k = I o k) : EM T I' := by
  obtain ⟨⟨h1, h2⟩, ⟨h3, h4⟩, h5⟩ := h
  exact ⟨⟨h1.agr (ha _ _ (by omega)) (fun o ho k => ha _ _ (by omega)), h2.agr (ha _ _ (by omega)) (fun o ho k => ha _ _ (by omega))⟩, ⟨h3.agr (fun o ho k => ha _ _ (by omega)), h4.agr (fun o ho k => ha _ _ (by omega))⟩, h5.agr (fun o ho k => ha _ _ (by omega))⟩
set_option maxRecDepth 20000 in
set_option maxHeartbeats 8000000 in
theorem EM.fr {z s : Nat → Prop} (h : EM T I) (ha : frM z s I I') (h1 : ¬ z 1) (h26 : ¬ z 26) (hs : ∀ o, o < 172 → s o) : EM T I' := by
  obtain ⟨⟨e1, e2⟩, ⟨e3, e4⟩, e5⟩ := h
  obtain ⟨a1, a2⟩ := ha
  exact ⟨⟨e1.agr (a2 _ h1) (fun o ho k => a1 _ ⟨by omega, hs _ (by omega)⟩ _), e2.agr (a2 _ h26) (fun o ho k => a1 _ ⟨by omega, hs _ (by omega)⟩ _)⟩, ⟨e3.agr (fun o ho k => a1 _ ⟨by omega, hs _ (by omega)⟩ _), e4.agr (fun o ho k => a1 _ ⟨by omega, hs _ (by omega)⟩ _)⟩, e5.agr (fun o ho k => a1 _ ⟨by omega, hs _ (by omega)⟩ _)⟩
/-! the text, the rooms: the court is as it was -/
def smX (T T' : Tb) : Prop := (T' 0 2 = T 0 2 ∧ T' 0 3 = T 0 3 ∧ T' 0 4 = T 0 4) ∧ ∀ o, 4 ≤ o → o ≤ 15 → T' o = T o
set_option maxRecDepth 20000 in
set_option maxHeartbeats 8000000 in
theorem smX.sm (h : smX T T') : smT T T' := ⟨⟨h.1.1, h.1.2.2⟩, fun o h1 h2 => h.2 o h1 (by omega)⟩
set_option maxRecDepth 20000 in
set_option maxHeartbeats 8000000 in
theorem smX.cC (h : smX T T') : cC T' b I = cC T b I := by
  unfold _root_.Jvm.Pilot.CFirstInLaw_law_r9403_438a70.cC
  rw [h.1.1, h.1.2.1, h.1.2.2, h.2 4 (by omega) (by omega)]
set_option maxRecDepth 20000 in
set_option maxHeartbeats 8000000 in
theorem smX.cD (h : smX T T') : cD T' b I = cD T b I := by
  unfold _root_.Jvm.Pilot.CFirstInLaw_law_r9403_438a70.cD
  rw [h.1.2.2, h.sm.cpl, h.2 5 (by omega) (by omega), h.2 6 (by omega) (by omega), h.2 7 (by omega) (by omega), h.2 8 (by omega) (by omega), h.2 9 (by omega) (by omega), h.2 10 (by omega) (by omega), h.2 11 (by omega) (by omega)]
set_option maxRecDepth 20000 in
set_option maxHeartbeats 8000000 in
theorem smX.cE (h : smX T T') : cE T' b I = cE T b I := by
  unfold _root_.Jvm.Pilot.CFirstInLaw_law_r9403_438a70.cE bcom bsit
  rw [h.1.1, h.sm.ng, h.2 12 (by omega) (by omega), h.2 13 (by omega) (by omega), h.2 14 (by omega) (by omega), h.2 15 (by omega) (by omega)]
set_option maxRecDepth 20000 in
set_option maxHeartbeats 8000000 in
theorem smX.mC (h : smX T T') : mC T' I = mC T I := by
  unfold _root_.Jvm.Pilot.CFirstInLaw_law_r9403_438a70.mC
  rw [h.1.1, h.1.2.1, h.1.2.2, h.2 4 (by omega) (by omega)]
set_option maxRecDepth 20000 in
set_option maxHeartbeats 8000000 in
theorem smX.mD (h : smX T T') : mD T' I = mD T I := by
  unfold _root_.Jvm.Pilot.CFirstInLaw_law_r9403_438a70.mD
  rw [h.1.2.2, h.2 5 (by omega) (by omega), h.2 6 (by omega) (by omega), h.2 7 (by omega) (by omega), h.2 8 (by omega) (by omega), h.2 9 (by omega) (by omega), h.2 10 (by omega) (by omega), h.2 11 (by omega) (by omega)]
set_option maxRecDepth 20000 in
set_option maxHeartbeats 8000000 in
theorem smX.mE (h : smX T T') : mE T' I = mE T I := by
  unfold _root_.Jvm.Pilot.CFirstInLaw_law_r9403_438a70.mE
  rw [h.1.1, h.2 12 (by omega) (by omega), h.2 13 (by omega) (by omega), h.2 14 (by omega) (by omega), h.2 15 (by omega) (by omega)]
set_option maxRecDepth 20000 in
set_option maxHeartbeats 8000000 in
theorem smX.EC (h : smX T T') (E : EC T b I) (V : TV T) (hA : cA T' I') (hB : cB T' I') (ha : ∀ o k, 74 ≤ o → o < 132 → I' o k = I o k) : EC T' b I' := by
  obtain ⟨-, ⟨e3, e4⟩, e5⟩ := E
  have hb := ct_or b
  have h0 := V.2.1.1.1
  refine ⟨⟨hA, hB⟩, ⟨?_, ?_⟩, ?_⟩
  · rw [h.cC]; exact e3.agr ⟨ha _ _ (by omega) (by omega), ha _ _ (by omega) (by omega), ha _ _ (by omega) (by omega)⟩ (fun o ho k => ha _ _ (by omega) (by omega))
  · rw [h.cD]; exact e4.agr (fun o ho k => ha _ _ (by omega) (by omega)) (by omega)
  · rw [h.cE]; exact e5.agr ⟨ha _ _ (by omega) (by omega), ha _ _ (by omega) (by omega)⟩ (fun o ho k => ha _ _ (by omega) (by omega))
set_option maxRecDepth 20000 in
set_option maxHeartbeats 8000000 in
theorem smX.EM (h : smX T T') (E : EM T I) (hA : mA T' I') (hB : mB T' I') (ha : ∀ o k, 134 ≤ o → o ≤ 169 → I' o k = I o k) : EM T' I' := by
  obtain ⟨-, ⟨e3, e4⟩, e5⟩ := E
  refine ⟨⟨hA, hB⟩, ⟨?_, ?_⟩, ?_⟩
  · rw [h.mC]; exact e3.agr (fun o ho k => ha _ _ (by omega) (by omega))
  · rw [h.mD]; exact e4.agr (fun o ho k => ha _ _ (by omega) (by omega))
  · rw [h.mE]; exact e5.agr (fun o ho k => ha _ _ (by omega) (by omega))
/-- only the text is another -/
def smA (T T' : Tb) : Prop := ∀ o k, ¬ (o = 0 ∧ k = 0) → o ≠ 1 → T' o k = T o k
set_option maxRecDepth 20000 in
set_option maxHeartbeats 8000000 in
theorem smA.toX (h : smA T T') : smX T T' := ⟨⟨h _ _ (by omega) (by omega), h _ _ (by omega) (by omega), h _ _ (by omega) (by omega)⟩, fun o h1 h2 => funext fun k => h _ _ (by omega) (by omega)⟩
set_option maxRecDepth 20000 in
set_option maxHeartbeats 8000000 in
theorem smA.cB (h : smA T T') : cB T' I = cB T I := by
  unfold _root_.Jvm.Pilot.CFirstInLaw_law_r9403_438a70.cB
  rw [h 0 1 (by omega) (by omega), show T' 2 = T 2 from funext fun k => h _ _ (by omega) (by omega), show T' 3 = T 3 from funext fun k => h _ _ (by omega) (by omega)]
set_option maxRecDepth 20000 in
set_option maxHeartbeats 8000000 in
theorem smA.mB (h : smA T T') : mB T' I = mB T I := by
  unfold _root_.Jvm.Pilot.CFirstInLaw_law_r9403_438a70.mB
  rw [h 0 1 (by omega) (by omega), show T' 2 = T 2 from funext fun k => h _ _ (by omega) (by omega), show T' 3 = T 3 from funext fun k => h _ _ (by omega) (by omega)]
set_option maxRecDepth 20000 in
set_option maxHeartbeats 8000000 in
theorem smA.TV (h : smA T T') (V : TV T) (hA : tvA T') : TV T' := by
  obtain ⟨⟨vA, vB⟩, ⟨vC, vD⟩, vE, vF⟩ := V
  have r2 : T' 2 = T 2 := funext fun k => h _ _ (by omega) (by omega)
  have r3 : T' 3 = T 3 := funext fun k => h _ _ (by omega) (by omega)
  have r4 : T' 4 = T 4 := funext fun k => h _ _ (by omega) (by omega)
  have hx := h.toX
  refine ⟨⟨hA, ?_⟩, ⟨?_, ?_⟩, ?_, ?_⟩
  · unfold tvB at *
    rw [h 0 1 (by omega) (by omega), r2, r3]; exact vB
  · unfold tvC at *
    rw [hx.1.1, hx.1.2.1, hx.1.2.2, hx.sm.ng, r4]; exact vC
  · unfold tvD tvW at *
    rw [hx.1.1, hx.1.2.1, hx.1.2.2, hx.2 5 (by omega) (by omega), hx.2 6 (by omega) (by omega), hx.2 7 (by omega) (by omega), hx.2 8 (by omega) (by omega), hx.2 9 (by omega) (by omega), hx.2 10 (by omega) (by omega), hx.2 11 (by omega) (by omega)]; exact vD
  · unfold tvE at *
    rw [hx.1.1, h 0 1 (by omega) (by omega), r3, hx.2 12 (by omega) (by omega), hx.2 13 (by omega) (by omega), hx.2 14 (by omega) (by omega), hx.2 15 (by omega) (by omega)]; exact vE
  · unfold tvF at *
    rw [hx.1.1, hx.2 14 (by omega) (by omega), hx.2 15 (by omega) (by omega)]; exact vF
/-- what holds between two calls, after n of them -/
def IV (n : Nat) (V : hV) : Prop := ∃ T b f c1 c2 I J, V = (I, J, Pst b f) ∧ (TV T ∧ CI T b c1 c2 I J ∧ EM T I) ∧ (0 ≤ c1 ∧ c1 ≤ (n : Int)) ∧ 0 ≤ c2 ∧ c2 ≤ (n : Int)
/-- a call that asks -/
theorem st_ask {FC FM : hV → Option (Int32 × hV)} {V : hV} (R : Tb → Int) (hn : n < 5000) (h : IV n V) (hC : ∀ T b f c1 c2 I J, TV T → CI T b c1 c2 I J → ((0 ≤ c1 ∧ c1 < 100000) ∧ 0 ≤ c2 ∧ c2 < 100000) → ∃ I' f', FC (I, J, Pst b f) = some (iI (R T), (I', J, Pst b f')) ∧ CI T b c1 c2 I' J ∧ ∀ o k, 132 ≤ o → I' o k = I o k) (hM : ∀ T b f I J, TV T → EM T I → ∃ I', FM (I, J, Pst b f) = some (iI (R T), (I', J, Pst b f)) ∧ EM T I' ∧ ∀ o k, o < 132 → I' o k = I o k) : ∃ r V1 V2, FC V = some (r, V1) ∧ FM V1 = some (r, V2) ∧ IV (n + 1) V2 := by
  obtain ⟨T, b, f, c1, c2, I, J, rfl, ⟨h1, h2, h3⟩, h4, h5⟩ := h
  obtain ⟨I1, f1, a1, a2, a3⟩ := hC T b f c1 c2 I J h1 h2 (by omega)
  obtain ⟨I2, b1, b2, b3⟩ := hM T b f1 I1 J h1 (h3.keep a3)
  exact ⟨_, _, _, a1, b1, T, b, f1, c1, c2, I2, J, rfl, ⟨h1, a2.keep h1 (fun o ho k => b3 _ _ (by omega)) (fun _ => rfl), b2⟩, by omega, by omega⟩
set_option maxRecDepth 20000 in
set_option maxHeartbeats 8000000 in
theorem st_pure {FC FM : hV → Option Int32} {V : hV} (R : Tb → Int) (h : IV n V) (hC : ∀ T b f I J, TV T → EC T b I → FC (I, J, Pst b f) = some (iI (R T))) (hM : ∀ T b f I J, TV T → EM T I → FM (I, J, Pst b f) = some (iI (R T))) : ∃ r, FC V = some r ∧ FM V = some r := by
  obtain ⟨T, b, f, c1, c2, I, J, rfl, ⟨h1, h2, h3⟩, h4, h5⟩ := h
  exact ⟨_, hC T b f I J h1 h2.1.1, hM T b f I J h1 h3⟩
set_option maxRecDepth 20000 in
set_option maxHeartbeats 8000000 in
theorem IV.next {V : hV} (h : IV n V) : IV (n + 1) V := by
  obtain ⟨T, b, f, c1, c2, I, J, rfl, hh, h4, h5⟩ := h
  exact ⟨T, b, f, c1, c2, I, J, rfl, hh, by omega, by omega⟩
end
