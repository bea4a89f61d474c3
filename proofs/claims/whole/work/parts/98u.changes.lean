/-! ===== layer 2: the calls that change something, on both sides ===== -/
section
variable {T T' D D' : Tb} {I I' I'' : Nat → Nat → Int32} {J J' J'' : Nat → Nat → Int64} {b b' d v : Bool} {f k n i j e t s w M K r y u : Nat} {m g h a c o lo hi x wt rm un c1 c2 c1' c2' p l w' q' : Int} {V : hV}
/-- the text is another, the rest is as it was -/
theorem CI.txt (C : CI T b c1 c2 I J) (V : TV T) (h : smA T T') (hA : cA T' I') (ha : Agr (fun o => o ≠ 1 ∧ o ≠ 2) I I') : CI T' b c1 c2 I' J := by
  have hb := ct_or b
  have hx := h.toX
  refine C.up (hx.EC C.1.1 V hA ?_ (fun o k h1 h2 => ha o (by omega) k)) ⟨(ha _ (by omega) _).trans C.1.2.1, (ha _ (by omega) _).trans C.1.2.2⟩ (Int.le_refl _) (Int.le_refl _) (fun o k h1 h2 _ => ha o (by omega) k) (fun _ => rfl) (fun _ => ⟨hx.sm, fun k hk => ⟨by rw [h 0 1 (by omega) (by omega)]; exact hk, h _ _ (by omega) (by omega), h _ _ (by omega) (by omega)⟩⟩) (fun _ => ⟨hx.2 _ (by omega) (by omega), hx.2 _ (by omega) (by omega), hx.2 _ (by omega) (by omega)⟩) C.2.2
  rw [h.cB]
  exact C.1.1.1.2.agr (ha _ (by omega) _) fun k hk => by
    have := ro_is k
    exact ⟨ha _ (by omega) _, ha _ (by omega) _, ha _ (by omega) _⟩
set_option maxRecDepth 20000 in
set_option maxHeartbeats 8000000 in
theorem EM.txt (E : EM T I) (h : smA T T') (hA : mA T' I') (ha : Agr (fun o => o ≠ 132 ∧ o ≠ 133) I I') (h26 : I' 132 26 = I 132 26) : EM T' I' := by
  refine h.toX.EM E hA ?_ (fun o k h1 h2 => ha o (by omega) k)
  rw [h.mB]
  exact E.1.2.agr h26 (fun o ho k => ha o (by omega) k)
set_option maxRecDepth 20000 in
set_option maxHeartbeats 8000000 in
theorem st_feed (v1 v2 v3 v4 v5 : Int32) (h : IV n V) : ∃ r V1 V2, Fi_feed S0 (some 0) v1 v2 v3 v4 v5 V = some (r, V1) ∧ Mo_feed S0 (some 132) v1 v2 v3 v4 v5 V1 = some (r, V2) ∧ IV (n + 1) V2 := by
  obtain ⟨T, b, f, c1, c2, I, J, rfl, ⟨hV, hC, hE⟩, h4, h5⟩ := h
  obtain ⟨I1, a1, a2, a3⟩ := cl_feed (J := J) (b := b) (f := f) v1 v2 v3 v4 v5 hC.1.1.1.1 hV.1.1
  have E1 : EM T I1 := hE.keep fun o k ho => a3 o (by omega) k
  obtain ⟨I2, b1, b2, b3, b4⟩ := mo_feed (J := J) (b := b) (f := f) v1 v2 v3 v4 v5 E1.1.1 hV.1.1
  have ok := feT_ok v1 v2 v3 v4 v5 hV.1.1
  have hs : smA T (feT T v1 v2 v3 v4 v5) := ok.2
  have hV' := hs.TV hV ok.1
  exact ⟨_, _, _, a1, b1, _, b, f, c1, c2, I2, J, rfl, ⟨hV', (hC.txt hV hs a2 a3).keep hV' (b3.sub fun o ho => by omega) (fun _ => rfl), E1.txt hs b2 b3 (b4 _ (by omega))⟩, by omega, by omega⟩
set_option maxRecDepth 20000 in
set_option maxHeartbeats 8000000 in
theorem st_end (hx : rg x) (h : IV n V) : ∃ r V1 V2, Fi_end S0 (some 0) (iI x) V = some (r, V1) ∧ Mo_end S0 (some 132) (iI x) V1 = some (r, V2) ∧ IV (n + 1) V2 := by
  obtain ⟨T, b, f, c1, c2, I, J, rfl, ⟨hV, hC, hE⟩, h4, h5⟩ := h
  by_cases q : enQ T x
  · have a1 := cl_end1 (J := J) (b := b) (f := f) hC.1.1.1.1 hV.1.1 hx q
    have a3 : Agr (fun o => o ≠ 1 ∧ o ≠ 2) I (hup I 1 1 (iI x)) := (Agr.refl _ _).hup (by omega)
    have E1 : EM T (hup I 1 1 (iI x)) := hE.keep fun o k ho => a3 o (by omega) k
    have b1 := mo_end1 (J := J) (b := b) (f := f) E1.1.1 hV.1.1 hx q
    have b3 : Agr (fun o => o ≠ 132 ∧ o ≠ 133) (hup I 1 1 (iI x)) (hup (hup I 1 1 (iI x)) 132 1 (iI x)) := (Agr.refl _ _).hup (by omega)
    have hs : smA T (hup T 0 0 x) := fun o k h1 h2 => if_neg h1
    have hV' := tv_end hV q
    exact ⟨_, _, _, a1, b1, _, b, f, c1, c2, _, J, rfl, ⟨hV', (hC.txt hV hs (cA_end hC.1.1.1.1) a3).keep hV' (b3.sub fun o ho => by omega) (fun _ => rfl), E1.txt hs (mA_end E1.1.1) b3 (hup_ix _ _ _ (by omega))⟩, by omega, by omega⟩
  · exact ⟨_, _, _, cl_end0 hC.1.1.1.1 hV.1.1 hx q, mo_end0 hE.1.1 hV.1.1 hx q, T, b, f, c1, c2, I, J, rfl, ⟨hV, hC, hE⟩, by omega, by omega⟩
set_option maxRecDepth 20000 in
set_option maxHeartbeats 8000000 in
theorem st_room (hx : rg x) (hp : rg p) (h : IV n V) : ∃ r V1 V2, Fi_room S0 (some 0) (iI x) (iI p) V = some (r, V1) ∧ Mo_room S0 (some 132) (iI x) (iI p) V1 = some (r, V2) ∧ IV (n + 1) V2 := by
  obtain ⟨T, b, f, c1, c2, I, J, rfl, ⟨hV, hC, hE⟩, h4, h5⟩ := h
  by_cases q : rmQ T x p
  · have a1 := cl_room1 (J := J) (b := b) (f := f) hC.1.1.1.2 hV.1.2 hx hp q
    have h0 := hV.1.2.1
    have hb := ct_or b
    have hr := ro_is (T 0 1).toNat
    have hw : T 0 1 < 4 := q.2
    obtain ⟨I1, hI1⟩ : ∃ I1, I1 = hup (hup (hup I (ro (T 0 1).toNat) 4 (iI x)) (ro (T 0 1).toNat) 5 (iI p)) 0 9 (iI (T 0 1 + 1)) := ⟨_, rfl⟩
    have hB1 : cB (rmT T x p) I1 := by rw [hI1]; exact cB_room hC.1.1.1.2 hV.1.2 q
    rw [← hI1] at a1
    have A1 : ∀ o k, o ≠ 0 → o ≠ ro (T 0 1).toNat → I1 o k = I o k := fun o k h1 h2 => by rw [hI1, hup_obj _ _ _ h1, hup_obj _ _ _ h2, hup_obj _ _ _ h2]
    have A2 : ∀ o k, o ≠ 0 → k ≠ 4 → k ≠ 5 → I1 o k = I o k := fun o k h1 h2 h3 => by rw [hI1, hup_obj _ _ _ h1, hup_ix _ _ _ h3, hup_ix _ _ _ h2]
    have E1 : EM T I1 := hE.keep fun o k ho => A1 o k (by omega) (by omega)
    have b1 := mo_room1 (J := J) (b := b) (f := f) E1.1.2 hV.1.2 hx hp q
    obtain ⟨I2, hI2⟩ : ∃ I2, I2 = hup (hup (hup I1 170 (T 0 1).toNat (iI x)) 171 (T 0 1).toNat (iI p)) 132 26 (iI (T 0 1 + 1)) := ⟨_, rfl⟩
    have hB2 : mB (rmT T x p) I2 := by rw [hI2]; exact mB_room E1.1.2 hV.1.2 q
    rw [← hI2] at b1
    have B1 : ∀ o k, o ≠ 132 → o ≠ 170 → o ≠ 171 → I2 o k = I1 o k := fun o k h1 h2 h3 => by rw [hI2, hup_obj _ _ _ h1, hup_obj _ _ _ h3, hup_obj _ _ _ h2]
    have hT : ∀ o k, o ≠ 2 → o ≠ 3 → ¬ (o = 0 ∧ k = 1) → rmT T x p o k = T o k := fun o k h1 h2 h3 => by
      unfold rmT
      rw [show hup (hup (hup T 2 (T 0 1).toNat x) 3 (T 0 1).toNat p) 0 1 (T 0 1 + 1) o k = hup (hup T 2 (T 0 1).toNat x) 3 (T 0 1).toNat p o k from if_neg h3, hup_obj _ _ _ h2, hup_obj _ _ _ h1]
    have hs : smX T (rmT T x p) := ⟨⟨hT _ _ (by omega) (by omega) (by omega), hT _ _ (by omega) (by omega) (by omega), hT _ _ (by omega) (by omega) (by omega)⟩, fun o h1 h2 => funext fun k => hT _ _ (by omega) (by omega) (by omega)⟩
    have hcA : cA T I1 := hC.1.1.1.1.agr (fun o ho k => A1 o k (by omega) (by omega))
    have hcA' : cA (rmT T x p) I1 := by
      refine ⟨?_, fun k hk => ?_⟩
      · rw [hT _ _ (by omega) (by omega) (by omega)]; exact hcA.1
      · rw [hT _ _ (by omega) (by omega) (by omega)]; exact hcA.2 k hk
    have hmA : mA T I2 := E1.1.1.agr (by rw [hI2]; exact (hup_ix _ _ _ (by omega)).trans ((hup_obj _ _ _ (by omega)).trans (hup_obj _ _ _ (by omega)))) (fun o ho k => B1 o k (by omega) (by omega) (by omega))
    have hmA' : mA (rmT T x p) I2 := by
      refine ⟨?_, fun k hk => ?_⟩
      · rw [hT _ _ (by omega) (by omega) (by omega)]; exact hmA.1
      · rw [hT _ _ (by omega) (by omega) (by omega)]; exact hmA.2 k hk
    have hV' := tv_room hV q
    have C1 : CI (rmT T x p) b c1 c2 I1 J := by
      refine hC.up (hs.EC hC.1.1 hV hcA' hB1 (fun o k h1 h2 => A1 o k (by omega) (by omega))) ⟨(A1 _ _ (by omega) (by omega)).trans hC.1.2.1, (A1 _ _ (by omega) (by omega)).trans hC.1.2.2⟩ (Int.le_refl _) (Int.le_refl _) (fun o k h1 h2 h3 => ?_) (fun _ => rfl) (fun _ => ⟨hs.sm, fun k hk => ⟨?_, ?_, ?_⟩⟩) (fun _ => ⟨hs.2 _ (by omega) (by omega), hs.2 _ (by omega) (by omega), hs.2 _ (by omega) (by omega)⟩) hC.2.2
      · by_cases e : o = ro (T 0 1).toNat
        · exact A2 o k (by omega) (fun q => h3 ⟨_, e, by omega⟩) (fun q => h3 ⟨_, e, by omega⟩)
        · exact A1 o k (by omega) e
      · rw [rmT_01]; omega
      · rw [rmT_2, if_neg (by omega)]
      · rw [rmT_3, if_neg (by omega)]
    exact ⟨_, _, _, a1, b1, _, b, f, c1, c2, I2, J, rfl, ⟨hV', C1.keep hV' (fun o ho k => B1 o k (by omega) (by omega) (by omega)) (fun _ => rfl), hs.EM E1 hmA' hB2 (fun o k h1 h2 => B1 o k (by omega) (by omega) (by omega))⟩, by omega, by omega⟩
  · exact ⟨_, _, _, cl_room0 hC.1.1.1.2 hV.1.2 hx hp q, mo_room0 hE.1.2 hV.1.2 hx hp q, T, b, f, c1, c2, I, J, rfl, ⟨hV, hC, hE⟩, by omega, by omega⟩
/-- a change by which all that was found out is old -/
theorem CI.new (C : CI T b c1 c2 I J) (hE : EC T' b I') (hK : cK (c1 + 1) (c2 + 1) b I') (ha : Agr (outC b) I I') : CI T' b (c1 + 1) (c2 + 1) I' J := by
  have hb := ct_or b
  exact C.up hE hK (by omega) (by omega) (fun o k h1 h2 _ => ha o (by unfold outC; omega) k) (fun q => by omega) (fun q => by omega) (fun q => by omega) C.2.2
/-- a change of seats only -/
theorem CI.sit (C : CI T b c1 c2 I J) (hE : EC (gup T k c g a o) b I') (hK : cK c1 (c2 + 1) b I') (hc : c = T 12 k) (ha : Agr (outC b) I I') : CI (gup T k c g a o) b c1 (c2 + 1) I' J := by
  have hb := ct_or b
  have hs : smT T (gup T k c g a o) := by
    refine ⟨⟨rfl, rfl⟩, fun u h1 h2 => funext fun x => ?_⟩
    by_cases e : u = 12
    · rw [e, gup_12]
      by_cases e2 : x = k
      · rw [if_pos e2, e2, hc]
      · rw [if_neg e2]
    · unfold gup
      rw [hup_obj _ _ _ (by omega), hup_obj _ _ _ (by omega), hup_obj _ _ _ (by omega), hup_obj _ _ _ e]
  exact C.up hE hK (by omega) (by omega) (fun u k h1 h2 _ => ha u (by unfold outC; omega) k) (fun q => by omega) (fun _ => ⟨hs, fun k hk => ⟨hk, rfl, rfl⟩⟩) (fun q => by omega) C.2.2
set_option maxRecDepth 20000 in
set_option maxHeartbeats 8000000 in
theorem out_hi (ha : Agr (outC b) I I') : ∀ o k, 132 ≤ o → I' o k = I o k := fun o k ho => ha o (by have := ct_or b; unfold outC; omega) k
set_option maxRecDepth 20000 in
set_option maxHeartbeats 8000000 in
theorem st_rest (hg : rg g) (h : IV n V) : ∃ r V1 V2, Fi_rest S0 (some 0) (iI g) (bI v) V = some (r, V1) ∧ Mo_rest S0 (some 132) (iI g) (bI v) V1 = some (r, V2) ∧ IV (n + 1) V2 := by
  obtain ⟨T, b, f, c1, c2, I, J, rfl, ⟨hV, hC, hE⟩, h4, h5⟩ := h
  by_cases q : rsQ T g v
  · obtain ⟨I1, a1, a2, a3, a4⟩ := cl_rest1 (J := J) (f := f) hC.1.1 hV hC.1.2 hg q
    have E1 : EM T I1 := hE.keep (out_hi a4)
    obtain ⟨I2, b1, b2, b3⟩ := mo_rest1 (J := J) (b := b) (f := f) E1 hV hg q
    have hV' : TV (hup T 11 g.toNat (v01 v)) := tv_rest hV
    exact ⟨_, _, _, a1, b1, _, b, f, c1 + 1, c2 + 1, I2, J, rfl, ⟨hV', (hC.new a2 a3 a4).keep hV' (b3.sub fun o ho => by omega) (fun _ => rfl), b2⟩, by omega, by omega⟩
  · exact ⟨_, _, _, cl_rest0 hC.1.1 hV hg q, mo_rest0 hE hV hg q, T, b, f, c1, c2, I, J, rfl, ⟨hV, hC, hE⟩, by omega, by omega⟩
set_option maxRecDepth 20000 in
set_option maxHeartbeats 8000000 in
theorem st_comes (hg : rg g) (h : IV n V) : ∃ r V1 V2, Fi_comes S0 (some 0) (iI g) (bI v) V = some (r, V1) ∧ Mo_comes S0 (some 132) (iI g) (bI v) V1 = some (r, V2) ∧ IV (n + 1) V2 := by
  obtain ⟨T, b, f, c1, c2, I, J, rfl, ⟨hV, hC, hE⟩, h4, h5⟩ := h
  by_cases q : cmQ T g v
  · obtain ⟨I1, a1, a2, a3, a4⟩ := cl_comes1 (J := J) (f := f) hC.1.1 hV hC.1.2 hg q
    have E1 : EM T I1 := hE.keep (out_hi a4)
    obtain ⟨I2, b1, b2, b3⟩ := mo_comes1 (J := J) (b := b) (f := f) E1 hV hg q
    have hV' : TV (gup T g.toNat (v01 v) 0 (-1) (-1)) := tv_comes hV
    exact ⟨_, _, _, a1, b1, _, b, f, c1 + 1, c2 + 1, I2, J, rfl, ⟨hV', (hC.new a2 a3 a4).keep hV' (b3.sub fun o ho => by omega) (fun _ => rfl), b2⟩, by omega, by omega⟩
  · exact ⟨_, _, _, cl_comes0 hC.1.1 hV hg q, mo_comes0 hE hV hg q, T, b, f, c1, c2, I, J, rfl, ⟨hV, hC, hE⟩, by omega, by omega⟩
set_option maxRecDepth 20000 in
set_option maxHeartbeats 8000000 in
theorem st_seat (hg : rg g) (hm : rg m) (hp : rg p) (h : IV n V) : ∃ r V1 V2, Fi_seat S0 (some 0) (iI g) (iI m) (iI p) V = some (r, V1) ∧ Mo_seat S0 (some 132) (iI g) (iI m) (iI p) V1 = some (r, V2) ∧ IV (n + 1) V2 := by
  obtain ⟨T, b, f, c1, c2, I, J, rfl, ⟨hV, hC, hE⟩, h4, h5⟩ := h
  by_cases q : seQ T g m p
  · obtain ⟨I1, a1, a2, a3, a4⟩ := cl_seat1 (J := J) (f := f) hC.1.1 hV hC.1.2 hg hm hp q
    have E1 : EM T I1 := hE.keep (out_hi a4)
    obtain ⟨I2, b1, b2, b3⟩ := mo_seat1 (J := J) (b := b) (f := f) E1 hV hg hm hp q
    have hV' : TV (gup T g.toNat 1 0 m p) := tv_seat hV q
    exact ⟨_, _, _, a1, b1, _, b, f, c1, c2 + 1, I2, J, rfl, ⟨hV', (hC.sit a2 a3 q.1.1.2.symm a4).keep hV' (b3.sub fun o ho => by omega) (fun _ => rfl), b2⟩, by omega, by omega⟩
  · exact ⟨_, _, _, cl_seat0 hC.1.1 hV hg hm hp q, mo_seat0 hE hV hg hm hp q, T, b, f, c1, c2, I, J, rfl, ⟨hV, hC, hE⟩, by omega, by omega⟩
set_option maxRecDepth 20000 in
set_option maxHeartbeats 8000000 in
theorem st_leave (hg : rg g) (h : IV n V) : ∃ r V1 V2, Fi_leave S0 (some 0) (iI g) V = some (r, V1) ∧ Mo_leave S0 (some 132) (iI g) V1 = some (r, V2) ∧ IV (n + 1) V2 := by
  obtain ⟨T, b, f, c1, c2, I, J, rfl, ⟨hV, hC, hE⟩, h4, h5⟩ := h
  by_cases q : lvQ T g
  · obtain ⟨I1, a1, a2, a3, a4⟩ := cl_leave1 (J := J) (f := f) hC.1.1 hV hC.1.2 hg q
    have E1 : EM T I1 := hE.keep (out_hi a4)
    obtain ⟨I2, b1, b2, b3⟩ := mo_leave1 (J := J) (b := b) (f := f) E1 hV hg q
    have hV' : TV (gup T g.toNat (T 12 g.toNat) 0 (-1) (-1)) := tv_leave hV q.1.1
    exact ⟨_, _, _, a1, b1, _, b, f, c1, c2 + 1, I2, J, rfl, ⟨hV', (hC.sit a2 a3 rfl a4).keep hV' (b3.sub fun o ho => by omega) (fun _ => rfl), b2⟩, by omega, by omega⟩
  · exact ⟨_, _, _, cl_leave0 hC.1.1 hV hg q, mo_leave0 hE hV hg q, T, b, f, c1, c2, I, J, rfl, ⟨hV, hC, hE⟩, by omega, by omega⟩
set_option maxRecDepth 20000 in
set_option maxHeartbeats 8000000 in
theorem st_sits (hg : rg g) (h : IV n V) : ∃ r V1 V2, Fi_sits S0 (some 0) (iI g) (bI v) V = some (r, V1) ∧ Mo_sits S0 (some 132) (iI g) (bI v) V1 = some (r, V2) ∧ IV (n + 1) V2 := by
  obtain ⟨T, b, f, c1, c2, I, J, rfl, ⟨hV, hC, hE⟩, h4, h5⟩ := h
  by_cases q : stQ T g v
  · obtain ⟨I1, a1, a2, a3, a4⟩ := cl_sits1 (J := J) (f := f) hC.1.1 hV hC.1.2 hg q
    have E1 : EM T I1 := hE.keep (out_hi a4)
    obtain ⟨I2, b1, b2, b3⟩ := mo_sits1 (J := J) (b := b) (f := f) E1 hV hg q
    have hV' : TV (gup T g.toNat (T 12 g.toNat) (v01 v) (T 14 g.toNat) (T 15 g.toNat)) := tv_sits hV q.1.1 q.1.2
    exact ⟨_, _, _, a1, b1, _, b, f, c1, c2 + 1, I2, J, rfl, ⟨hV', (hC.sit a2 a3 rfl a4).keep hV' (b3.sub fun o ho => by omega) (fun _ => rfl), b2⟩, by omega, by omega⟩
  · exact ⟨_, _, _, cl_sits0 hC.1.1 hV hg q, mo_sits0 hE hV hg q, T, b, f, c1, c2, I, J, rfl, ⟨hV, hC, hE⟩, by omega, by omega⟩
set_option maxRecDepth 20000 in
set_option maxHeartbeats 8000000 in
theorem st_fault (h : IV n V) : ∃ r V1 V2, Fi_fault S0 (some 0) V = some (r, V1) ∧ Mo_fault S0 (some 132) V1 = some (r, V2) ∧ IV (n + 1) V2 := by
  obtain ⟨T, b, f, c1, c2, I, J, rfl, ⟨hV, hC, hE⟩, h4, h5⟩ := h
  obtain ⟨I1, J1, a1, a2⟩ := cl_fault (f := f) hC.1.1 hV hC.2.2
  have hb := ct_or b
  have hn := ct_not b
  have hd := ct_or (!b)
  have E1 : EM T I1 := hE.keep fun o k ho => a2.1 o k (by omega) (by omega) (by omega) (by omega)
  obtain ⟨I2, J2, b1, b2⟩ := mo_fault (J := J1) (b := b) (f := f) E1 hV
  have C1 : CI T b c1 c2 I1 J1 := hC.up (hC.1.1.pF hV a2) ⟨(a2.1 _ _ (by omega) (by omega) (by omega) (by omega)).trans hC.1.2.1, (a2.1 _ _ (by omega) (by omega) (by omega) (by omega)).trans hC.1.2.2⟩ (Int.le_refl _) (Int.le_refl _) (fun o k h1 h2 _ => a2.1 o k (by omega) (by omega) (by omega) (by omega)) (fun _ => rfl) (fun _ => ⟨smT.refl, fun k hk => ⟨hk, rfl, rfl⟩⟩) (fun _ => ⟨rfl, rfl, rfl⟩) (hC.2.2.pF a2)
  exact ⟨_, _, _, a1, b1, T, b, f, c1, c2, I2, J2, rfl, ⟨hV, C1.keep hV (fun o ho k => b2.1 o k (by omega) (rw_no (by omega)) (by omega)) (fun k => b2.2 _ _ (by omega) (by omega)), E1.mF b2⟩, by omega, by omega⟩
set_option maxRecDepth 20000 in
set_option maxHeartbeats 8000000 in
theorem st_court (h : IV n V) : ∃ r V1 V2, Fi_court S0 (some 0) V = some (r, V1) ∧ Mo_court S0 (some 132) V1 = some (r, V2) ∧ IV (n + 1) V2 := by
  obtain ⟨T, b, f, c1, c2, I, J, rfl, ⟨hV, hC, hE⟩, h4, h5⟩ := h
  have hfb := rdFa_ok hV.1.1
  obtain ⟨I1, J1, b', a1, ⟨a2, a3, a4, a5⟩, a6⟩ := cl_court (f := f) hC.1.1 hV hC.1.2 hC.2.2 hfb
  have E1 : EM T I1 := hE.keep fun o k ho => a6 o k (by omega)
  obtain ⟨I2, J2, b1, b2, b3, b4⟩ := mo_court (J := J1) (b := b') (f := f) E1 hV hfb
  have hI : coI T = 1 ∨ (coI T = 0 ∧ coT T = T) := by
    unfold coI coT
    cases rdT T with
    | inl u => exact Or.inr ⟨rfl, rfl⟩
    | inr D => exact Or.inl rfl
  have C1 : CI (coT T) b' (c1 + coI T) (c2 + coI T) I1 J1 := by
    refine hC.up a3 a4 (by omega) (by omega) (fun o k h1 h2 _ => a6 o k (by omega)) (fun q => by omega) (fun q => ?_) (fun q => ?_) a5
    · rcases hI with e | ⟨e, e2⟩
      · omega
      · rw [e2]; exact ⟨smT.refl, fun k hk => ⟨hk, rfl, rfl⟩⟩
    · rcases hI with e | ⟨e, e2⟩
      · omega
      · rw [e2]; exact ⟨rfl, rfl, rfl⟩
  exact ⟨_, _, _, a1, b1, _, b', f, _, _, I2, J2, rfl, ⟨a2, C1.keep a2 (fun o ho k => b3 o k (by omega)) (fun k => b4 _ _ (by omega)), b2⟩, by omega, by omega⟩
end
