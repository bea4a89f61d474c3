/-! ===== layer 2: fault and court on both sides ===== -/
section
variable {T D D' : Tb} {I I' I'' : Nat → Nat → Int32} {J J' J'' : Nat → Nat → Int64} {b d v : Bool} {f k n i j e t s w M K r y : Nat} {m g h a c o lo hi x wt rm un c1 c2 : Int} {S F G : Nat → Bool} {q : Int32} {z : Nat × Tb}
/-- a court that is opened -/
def opC (D : Tb) : Tb := fun o k => if o = 11 then 0 else if o = 12 then 1 else if o = 13 then 0 else if o = 14 ∨ o = 15 then -1 else if o = 0 ∧ k = 0 then 0 else D o k
set_option maxRecDepth 20000 in
set_option maxHeartbeats 8000000 in
theorem opC_o {o : Nat} (h1 : o ≠ 0) (h2 : o < 11 ∨ 15 < o) (k : Nat) : opC D o k = D o k := by
  unfold opC
  rw [if_neg (by omega), if_neg (by omega), if_neg (by omega), if_neg (by omega), if_neg (by omega)]
set_option maxRecDepth 20000 in
set_option maxHeartbeats 8000000 in
theorem opC_0 (h : k ≠ 0) : opC D 0 k = D 0 k := by
  unfold opC
  rw [if_neg (by omega), if_neg (by omega), if_neg (by omega), if_neg (by omega), if_neg (by omega)]
set_option maxRecDepth 20000 in
set_option maxHeartbeats 8000000 in
theorem opC_00 : opC D 0 0 = 0 := rfl
set_option maxRecDepth 20000 in
set_option maxHeartbeats 8000000 in
theorem opC_ng : ng (opC D) = ng D := by unfold ng; rw [opC_0 (by omega)]
set_option maxRecDepth 20000 in
set_option maxHeartbeats 8000000 in
theorem opC_nm : nm (opC D) = nm D := by unfold nm; rw [opC_0 (by omega)]
set_option maxRecDepth 20000 in
set_option maxHeartbeats 8000000 in
theorem opC_TV (V : TV T) (dv : dV D) (hk : kpD T D) : TV (opC D) := by
  obtain ⟨⟨vA, vB⟩, ⟨vC, vD⟩, vE, vF⟩ := V
  obtain ⟨⟨c1, c2⟩, c3, c4⟩ := dv
  obtain ⟨⟨h00, h01⟩, h1, h2, h3⟩ := hk
  refine ⟨⟨⟨by rw [opC_00]; omega, fun k hk => ?_⟩, ⟨by rw [opC_0 (by omega), h01]; exact vB.1, fun k hk => ?_⟩⟩, ⟨⟨by rw [opC_0 (by omega), opC_0 (by omega), opC_0 (by omega)]; exact c1, fun m hm => ?_⟩, fun r hr => ?_⟩, fun g hg => ⟨Or.inr rfl, Or.inl rfl, Or.inl ⟨rfl, rfl, rfl⟩⟩, fun g h hg hh e => absurd rfl e⟩
  · rw [opC_o (by omega) (by omega), h1]; exact vA.2 k hk
  · rw [opC_0 (by omega), h01] at hk
    rw [opC_o (by omega) (by omega), opC_o (by omega) (by omega), h2, h3]
    exact vB.2 k hk
  · rw [opC_0 (by omega)] at hm
    rw [opC_o (by omega) (by omega), opC_ng]
    exact c2 m hm
  · rw [opC_0 (by omega)] at hr
    obtain ⟨v1, v2, v3, v4, v5, v6, v7⟩ := c3 r hr
    have Q := fun (o : Nat) (h1 : o ≠ 0) (h2 : o < 11 ∨ 15 < o) => opC_o (D := D) h1 h2 r
    have hW : ∀ u, tvW D u → tvW (opC D) u := fun u hu => tvW_mono hu (by rw [opC_0 (by omega)]; omega) (by rw [opC_0 (by omega)]; omega)
    rw [Q 5 (by omega) (by omega), Q 6 (by omega) (by omega), Q 7 (by omega) (by omega), Q 8 (by omega) (by omega), Q 9 (by omega) (by omega), Q 10 (by omega) (by omega), opC_0 (by omega)]
    exact ⟨v1, hW _ v2, hW _ v3, v4, v5, v6, Or.inl rfl⟩
def coT (T : Tb) : Tb := (rdT T).elim (fun _ => T) (fun D => opC D)
def coR (T : Tb) : Int := (rdT T).elim (fun _ => -1) (fun D => D 0 2)
def coI (T : Tb) : Int := (rdT T).elim (fun _ => 0) (fun _ => 1)
set_option maxRecDepth 20000 in
set_option maxHeartbeats 8000000 in
theorem EC.pF (E : EC T b I) (V : TV T) (h : pF (!b) I J I' J') : EC T b I' := by
  obtain ⟨⟨eA, eB⟩, ⟨eC, eD⟩, eE⟩ := E
  obtain ⟨⟨vA, vB⟩, ⟨vC, vD⟩, vE, vF⟩ := V
  have h0 := vC.1
  have hc := ct_or b
  have hn := ct_not b
  have A := h.1
  refine ⟨⟨⟨(A 1 1 (by omega) (by omega) (by omega) (by omega)).trans eA.1, fun k hk => (A 2 k (by omega) (by omega) (by omega) (by omega)).trans (eA.2 k hk)⟩, eB.agr (A 0 9 (by omega) (by omega) (by omega) (by omega)) fun k hk => ?_⟩, ⟨eC.agr ⟨A _ _ (by omega) (by omega) (by omega) (by omega), A _ _ (by omega) (by omega) (by omega) (by omega), A _ _ (by omega) (by omega) (by omega) (by omega)⟩ (fun o ho k => A _ _ (by omega) (by omega) (by omega) (by omega)), eD.agr (fun o ho k => A _ _ (by omega) (by omega) (by omega) (by omega)) (by omega)⟩, eE.agr ⟨A _ _ (by omega) (by omega) (by omega) (by omega), A _ _ (by omega) (by omega) (by omega) (by omega)⟩ (fun o ho k => A _ _ (by omega) (by omega) (by omega) (by omega))⟩
  have := ro_is k
  exact ⟨A _ _ (by omega) (by omega) (by omega) (by omega), A _ _ (by omega) (by omega) (by omega) (by omega), A _ _ (by omega) (by omega) (by omega) (by omega)⟩
set_option maxRecDepth 20000 in
set_option maxHeartbeats 8000000 in
theorem kwC.pF (h : kwC J) (ha : pF d I J I' J') : kwC J' := fun w hw => (ha.2 3 _ (by omega) (by omega)).trans (h w hw)
set_option maxRecDepth 20000 in
set_option maxHeartbeats 8000000 in
theorem cl_fault (E : EC T b I) (V : TV T) (hq : kwC J) : ∃ I' J', Fi_fault S0 (some 0) (I, J, Pst b f) = some (iI (rdFa T), (I', J', Pst b f)) ∧ pF (!b) I J I' J' := by
  obtain ⟨I1, J1, a1, a2, a3⟩ := cl_readInto (d := !b) (b := b) (f := f) E.1.1 hq V.1.1
  refine ⟨I1, J1, ?_, a2⟩
  unfold Fi_fault
  rw [rc0, Option.bind_some, gr0_1, Option.bind_some, gr0_8, Option.bind_some, a1, Option.bind_some]
/-- what opening writes -/
theorem cl_opens (h4 : I (ct d) 4 = iI (n : Int)) (hn : n ≤ 10) (h9 : I e 9 = iI c1) (h10 : I e 10 = iI c2) (he : e = ct (!d)) : ∃ I', Court_open S0 (some (ct d)) (some e) (I, J, Pst b f) = some (I', J, Pst b f) ∧ (∀ o k, ¬ (o = ct d ∧ (k = 7 ∨ k = 8 ∨ k = 9 ∨ k = 10)) → o ≠ ct d + 3 → o ≠ ct d + 4 → ¬ ((∃ r, r < 12 ∧ o = ru d r) ∧ k = 6) → I' o k = I o k) ∧ (I' (ct d) 7 = iI (((2 ^ n : Nat) : Int) - 1) ∧ I' (ct d) 8 = iI 0 ∧ I' (ct d) 9 = iI (c1 + 1) ∧ I' (ct d) 10 = iI (c2 + 1)) ∧ (∀ k, k < 10 → I' (ct d + 3) k = iI (-1) ∧ I' (ct d + 4) k = iI (-1)) ∧ ∀ r, r < 12 → I' (ru d r) 6 = iI 0 := by
  subst he
  have hcd := ct_or d
  have hcn := ct_not d
  have hce := ct_or (!d)
  have hru : ∀ r, ru d r = ct d + 5 + 2 * r := fun r => rfl
  obtain ⟨I1, f1, f2, f3⟩ := fillI (J := J) (P := Pst b f) (I := hup (hup I (ct d) 7 (iI (((2 ^ n : Nat) : Int) - 1))) (ct d) 8 (iI 0)) (N := 10) (ob := ct d + 3) (vl := iI (-1)) (by omega) anctr (fun a I ha => stctr (by omega))
  obtain ⟨I2, g1, g2, g3⟩ := fillI (J := J) (P := Pst b f) (I := I1) (N := 10) (ob := ct d + 4) (vl := iI (-1)) (by omega) anctp (fun a I ha => stctp (by omega))
  have key := jheap (J := J) (P := Pst b f) (I := I2) (body := Court_open_L35 S0 (some (ct d))) (fun k I' => (∀ o j, ¬ ((∃ r, r < 12 ∧ o = ru d r) ∧ j = 6) → I' o j = I2 o j) ∧ ∀ r, r < k → I' (ru d r) 6 = iI 0) 0 12 ⟨fun _ _ _ => rfl, fun r hr => by omega⟩ (by omega) (by omega) (fun k I3 _ hk q1 => ?_) (fun I3 q1 => ?_)
  · obtain ⟨I3, k1, k2, k3⟩ := key
    have k1' : jloop (Court_open_L35 S0 (some (ct d))) jN (iI 0, (I2, J, Pst b f)) = some (I3, J, Pst b f) := k1
    have hnr : ∀ o, (∀ r, r < 12 → o ≠ ru d r) → ∀ j, I3 o j = I2 o j := fun o ho j => k2 o j fun q => by
      obtain ⟨⟨r, r1, r2⟩, _⟩ := q
      exact ho r r1 r2
    have o3 : ∀ o j, (∀ r, r < 12 → o ≠ ru d r) → o ≠ ct d + 3 → o ≠ ct d + 4 → I3 o j = hup (hup I (ct d) 7 (iI (((2 ^ n : Nat) : Int) - 1))) (ct d) 8 (iI 0) o j := fun o j q1 q2 q3 => (hnr o q1 j).trans ((g2 o q3 j).trans (f2 o q2 j))
    have e9 : I3 (ct (!d)) 9 = iI c1 := by
      rw [o3 _ _ (fun r hr => by rw [hru]; omega) (by omega) (by omega), hup_obj _ _ _ (by omega), hup_obj _ _ _ (by omega)]; exact h9
    have e10 : ∀ v, hup I3 (ct d) 9 v (ct (!d)) 10 = iI c2 := fun v => by
      rw [hup_obj _ _ _ (by omega), o3 _ _ (fun r hr => by rw [hru]; omega) (by omega) (by omega), hup_obj _ _ _ (by omega), hup_obj _ _ _ (by omega)]; exact h10
    have hsh : shl 1 (iI (n : Int)) = iI ((2 ^ n : Nat) : Int) := by rw [oneI _ (by omega), Int.toNat_natCast]
    refine ⟨hup (hup I3 (ct d) 9 (iI (c1 + 1))) (ct d) 10 (iI (c2 + 1)), ?_, fun o k q1 q2 q3 q4 => ?_, ⟨?_, ?_, ?_, ?_⟩, fun k hk => ⟨?_, ?_⟩, fun r hr => ?_⟩
    · unfold Court_open
      rw [rcct, Option.bind_some, gict, h4, Option.bind_some, hsh, show (-1 : Int32) = iI (-1) from rfl, n_1, iI_sub, pict, Option.bind_some, n_0, pict, Option.bind_some, grct_2, Option.bind_some, f1, Option.bind_some, grct_3, Option.bind_some, g1, Option.bind_some, k1', Option.bind_some, gict, e9, Option.bind_some, iI_add, pict, Option.bind_some, gict, e10, Option.bind_some, iI_add, pict, Option.bind_some]
    · have hu : ∀ (X : Nat → Nat → Int32) (kk : Nat) (v : Int32), (kk = 7 ∨ kk = 8 ∨ kk = 9 ∨ kk = 10) → hup X (ct d) kk v o k = X o k := fun X kk v hkk => by
        unfold hup
        rw [if_neg (fun q => q1 ⟨q.1, by omega⟩)]
      rw [hu _ _ _ (by omega), hu _ _ _ (by omega), k2 o k q4, g2 o q3, f2 o q2, hu _ _ _ (by omega), hu _ _ _ (by omega)]
    · rw [hup_ix _ _ _ (by omega), hup_ix _ _ _ (by omega), o3 _ _ (fun r hr => by rw [hru]; omega) (by omega) (by omega), hup_ix _ _ _ (by omega), hup_same]
    · rw [hup_ix _ _ _ (by omega), hup_ix _ _ _ (by omega), o3 _ _ (fun r hr => by rw [hru]; omega) (by omega) (by omega), hup_same]
    · rw [hup_ix _ _ _ (by omega), hup_same]
    · rw [hup_same]
    · rw [hup_obj _ _ _ (by omega), hup_obj _ _ _ (by omega), hnr _ (fun r hr => by rw [hru]; omega), g2 _ (by omega)]; exact f3 k hk
    · rw [hup_obj _ _ _ (by omega), hup_obj _ _ _ (by omega), hnr _ (fun r hr => by rw [hru]; omega)]; exact g3 k hk
    · have := hru r
      rw [hup_obj _ _ _ (by omega), hup_obj _ _ _ (by omega)]; exact k3 r hr
  · have har : aR S0 105 (I3, J, Pst b f) (some (ct d + 2)) (iI (k : Int)) = some (some (ru d k)) := by
      rw [arct (by omega)]; rfl
    have hpz : pZ S0 7 6 (I3, J, Pst b f) (some (ru d k)) (iI 0) = some (hup I3 (ru d k) 6 (iI 0), J, Pst b f) := pzru (b := false) hk
    refine ⟨hup I3 (ru d k) 6 (iI 0), ?_, fun o j q => ?_, fun r hr => ?_⟩
    · unfold Court_open_L35
      rw [grct_1, Option.bind_some, anctR, Option.bind_some, if_neg (by rw [iI_le (by omega)]; omega), Option.bind_some, har, Option.bind_some, n_0, hpz, Option.bind_some, n_1, iI_add]
    · unfold hup
      rw [if_neg (fun e => q ⟨⟨k, hk, e.1⟩, e.2⟩)]
      exact q1.1 o j q
    · by_cases e : r = k
      · rw [e, hup_same]
      · have h1 := hru r
        have h2 := hru k
        rw [hup_obj _ _ _ (by omega)]; exact q1.2 r (by omega)
  · unfold Court_open_L35
    rw [grct_1, Option.bind_some, anctR, Option.bind_some, if_pos (by rw [iI_le (by omega)]; omega)]
set_option maxRecDepth 20000 in
set_option maxHeartbeats 8000000 in
theorem Pst_c (b : Bool) (f : Nat) : hup (hup (Pst b f) 0 7 (some (ct (!b)))) 0 8 (some (ct b)) = Pst (!b) f := by
  funext o k
  unfold hup Pst
  by_cases e8 : o = 0 ∧ k = 8
  · obtain ⟨rfl, rfl⟩ := e8
    simp
  · by_cases e7 : o = 0 ∧ k = 7
    · obtain ⟨rfl, rfl⟩ := e7
      simp
    · simp only [e8, e7, if_false]
set_option maxRecDepth 20000 in
set_option maxHeartbeats 8000000 in
theorem bcom_opC : bcom (opC D) = 2 ^ ng D - 1 := by
  unfold bcom
  rw [opC_ng, ← bt_tt]
  exact bt_ext fun k _ => decide_eq_true rfl
set_option maxRecDepth 20000 in
set_option maxHeartbeats 8000000 in
theorem bsit_opC : bsit (opC D) = 0 := by
  unfold bsit
  rw [← bt_z (n := ng (opC D))]
  exact bt_ext fun k _ => decide_eq_false (by show ¬ (0 : Int) = 1; omega)
end
