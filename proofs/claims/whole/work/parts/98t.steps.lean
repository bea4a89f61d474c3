/-! ===== layer 2: each call, on both sides ===== -/
section
variable {T T' D D' : Tb} {I I' I'' : Nat → Nat → Int32} {J J' J'' : Nat → Nat → Int64} {b b' d v : Bool} {f k n i j e t s w M K r y u : Nat} {m g h a c o lo hi x wt rm un c1 c2 c1' c2' p l w' q' : Int} {V : hV}
set_option maxRecDepth 20000 in
set_option maxHeartbeats 8000000 in
theorem fr_lo {z s : Nat → Prop} (ha : frM z s I I') (hs : ∀ o, o < 132 → s o) : ∀ o k, o < 132 → I' o k = I o k := fun o k ho => ha.1 o ⟨by omega, hs o ho⟩ k
/-! calls that only read -/
set_option maxRecDepth 20000 in
set_option maxHeartbeats 8000000 in
theorem st_guest (h : IV n V) (hg : rg g) (hw : rg x) : ∃ r, Fi_guest S0 (some 0) (iI g) (iI x) V = some r ∧ Mo_guest S0 (some 132) (iI g) (iI x) V = some r :=
  st_pure (fun T => gsR T g x) h (fun T b f I J V E => cl_guest E V hg hw) (fun T b f I J V E => mo_guest E V hg hw)
set_option maxRecDepth 20000 in
set_option maxHeartbeats 8000000 in
theorem st_count (h : IV n V) (hw : rg x) : ∃ r, Fi_count S0 (some 0) (iI x) V = some r ∧ Mo_count S0 (some 132) (iI x) V = some r :=
  st_pure (fun T => ctR T x) h (fun T b f I J V E => cl_count E V hw) (fun T b f I J V E => mo_count E V hw)
set_option maxRecDepth 20000 in
set_option maxHeartbeats 8000000 in
theorem st_rule (h : IV n V) (hg : rg g) (hw : rg x) : ∃ r, Fi_rule S0 (some 0) (iI g) (iI x) V = some r ∧ Mo_rule S0 (some 132) (iI g) (iI x) V = some r :=
  st_pure (fun T => rlR T g x) h (fun T b f I J V E => cl_rule E V hg hw) (fun T b f I J V E => mo_rule E V hg hw)
set_option maxRecDepth 20000 in
set_option maxHeartbeats 8000000 in
theorem st_higher (h : IV n V) (hm : rg m) (hc : rg c) (ha : rg a) (ho : rg o) : ∃ r, Fi_higher S0 (some 0) (iI m) (iI c) (iI a) (iI o) V = some r ∧ Mo_higher S0 (some 132) (iI m) (iI c) (iI a) (iI o) V = some r :=
  st_pure (fun T => hgR T m c a o) h (fun T b f I J V E => cl_higher E V hm hc ha ho) (fun T b f I J V E => mo_higher E V hm hc ha ho)
set_option maxRecDepth 20000 in
set_option maxHeartbeats 8000000 in
theorem st_source (h : IV n V) (hm : rg m) (hx : rg g) (hy : rg x) : ∃ r, Fi_source S0 (some 0) (iI m) (iI g) (iI x) V = some r ∧ Mo_source S0 (some 132) (iI m) (iI g) (iI x) V = some r :=
  st_pure (fun T => soR T m g x) h (fun T b f I J V E => cl_source E V hm hx hy) (fun T b f I J V E => mo_source E V hm hx hy)
/-! calls that ask -/
set_option maxRecDepth 20000 in
set_option maxHeartbeats 8000000 in
theorem st_slights (hn : n < 5000) (h : IV n V) (hm : rg m) (hc : rg c) (hw : rg x) : ∃ r V1 V2, Fi_slights S0 (some 0) (iI m) (iI c) (iI x) V = some (r, V1) ∧ Mo_slights S0 (some 132) (iI m) (iI c) (iI x) V1 = some (r, V2) ∧ IV (n + 1) V2 := by
  refine st_ask (fun T => slR T m c x) hn h (fun T b f c1 c2 I J V C hh => ?_) (fun T b f I J V E => ?_)
  · obtain ⟨I', a1, a2⟩ := cl_slights C.1.1 V hm hc hw
    exact ⟨I', f, a1, C.keep V (a2.sub fun o ho => by omega) (fun _ => rfl), fun o k ho => a2 o (by omega) k⟩
  · obtain ⟨I', a1, a2⟩ := mo_slights E V hm hc hw
    exact ⟨I', a1, E.fr a2 (by decide) (by decide) (fun o ho => by omega), fr_lo a2 (fun o ho => by omega)⟩
set_option maxRecDepth 20000 in
set_option maxHeartbeats 8000000 in
theorem st_slight (hn : n < 5000) (h : IV n V) (hm : rg m) (hc : rg c) (hq : rg q') (hw : rg x) : ∃ r V1 V2, Fi_slight S0 (some 0) (iI m) (iI c) (iI q') (iI x) V = some (r, V1) ∧ Mo_slight S0 (some 132) (iI m) (iI c) (iI q') (iI x) V1 = some (r, V2) ∧ IV (n + 1) V2 := by
  refine st_ask (fun T => sgR T m c q' x) hn h (fun T b f c1 c2 I J V C hh => ?_) (fun T b f I J V E => ?_)
  · obtain ⟨I', a1, a2⟩ := cl_slight C.1.1 V hm hc hq hw
    exact ⟨I', f, a1, C.keep V (a2.sub fun o ho => by omega) (fun _ => rfl), fun o k ho => a2 o (by omega) k⟩
  · obtain ⟨I', a1, a2⟩ := mo_slight E V hm hc hq hw
    exact ⟨I', a1, E.fr a2 (by decide) (by decide) (fun o ho => by omega), fr_lo a2 (fun o ho => by omega)⟩
set_option maxRecDepth 20000 in
set_option maxHeartbeats 8000000 in
theorem st_minds (hn : n < 5000) (h : IV n V) (hm : rg m) (hc : rg c) (hw : rg x) : ∃ r V1 V2, Fi_minds S0 (some 0) (iI m) (iI c) (iI x) V = some (r, V1) ∧ Mo_minds S0 (some 132) (iI m) (iI c) (iI x) V1 = some (r, V2) ∧ IV (n + 1) V2 := by
  refine st_ask (fun T => mdR T m c x) hn h (fun T b f c1 c2 I J V C hh => ?_) (fun T b f I J V E => ?_)
  · obtain ⟨I', a1, a2⟩ := cl_minds C.1.1 V hm hc hw
    exact ⟨I', f, a1, C.keep V (a2.sub fun o ho => by omega) (fun _ => rfl), fun o k ho => a2 o (by omega) k⟩
  · obtain ⟨I', a1, a2⟩ := mo_minds E V hm hc hw
    exact ⟨I', a1, E.fr a2 (by decide) (by decide) (fun o ho => by omega), fr_lo a2 (fun o ho => by omega)⟩
set_option maxRecDepth 20000 in
set_option maxHeartbeats 8000000 in
theorem st_quarrels (hn : n < 5000) (h : IV n V) (hm : rg m) : ∃ r V1 V2, Fi_quarrels S0 (some 0) (iI m) V = some (r, V1) ∧ Mo_quarrels S0 (some 132) (iI m) V1 = some (r, V2) ∧ IV (n + 1) V2 := by
  refine st_ask (fun T => quR T m) hn h (fun T b f c1 c2 I J V C hh => ?_) (fun T b f I J V E => ?_)
  · obtain ⟨I', a1, a2⟩ := cl_quarrels C.1.1 V hm
    exact ⟨I', f, a1, C.keep V (a2.sub fun o ho => by omega) (fun _ => rfl), fun o k ho => a2 o (by omega) k⟩
  · obtain ⟨I', a1, a2⟩ := mo_quarrels E V hm
    exact ⟨I', a1, E.fr a2 (fun q => q) (fun q => q) (fun o ho => by omega), fr_lo a2 (fun o ho => by omega)⟩
set_option maxRecDepth 20000 in
set_option maxHeartbeats 8000000 in
theorem st_order (hn : n < 5000) (h : IV n V) (hm : rg m) (hw : rg x) : ∃ r V1 V2, Fi_order S0 (some 0) (iI m) (iI x) V = some (r, V1) ∧ Mo_order S0 (some 132) (iI m) (iI x) V1 = some (r, V2) ∧ IV (n + 1) V2 := by
  refine st_ask (fun T => odR T m x) hn h (fun T b f c1 c2 I J V C hh => ?_) (fun T b f I J V E => ?_)
  · obtain ⟨I', a1, a2⟩ := cl_order C.1.1 V hm hw
    exact ⟨I', f, a1, C.keep V (a2.sub fun o ho => by omega) (fun _ => rfl), fun o k ho => a2 o (by omega) k⟩
  · obtain ⟨I', a1, a2⟩ := mo_order E V hm hw
    exact ⟨I', a1, E.fr a2 (fun q => q) (fun q => q) (fun o ho => by omega), fr_lo a2 (fun o ho => by omega)⟩
set_option maxRecDepth 20000 in
set_option maxHeartbeats 8000000 in
theorem st_ring (hn : n < 5000) (h : IV n V) (hm : rg m) (hw : rg x) : ∃ r V1 V2, Fi_ring S0 (some 0) (iI m) (iI x) V = some (r, V1) ∧ Mo_ring S0 (some 132) (iI m) (iI x) V1 = some (r, V2) ∧ IV (n + 1) V2 := by
  refine st_ask (fun T => rnR T m x) hn h (fun T b f c1 c2 I J V C hh => ?_) (fun T b f I J V E => ?_)
  · obtain ⟨I', a1, a2⟩ := cl_ring C.1.1 V hm hw
    exact ⟨I', f, a1, C.keep V (a2.sub fun o ho => by omega) (fun _ => rfl), fun o k ho => a2 o (by omega) k⟩
  · obtain ⟨I', a1, a2⟩ := mo_ring E V hm hw
    exact ⟨I', a1, E.fr a2 (fun q => q) (fun q => q) (fun o ho => by omega), fr_lo a2 (fun o ho => by omega)⟩
set_option maxRecDepth 20000 in
set_option maxHeartbeats 8000000 in
theorem st_evened (hn : n < 5000) (h : IV n V) (hm : rg m) (hw : rg x) (hq : rg q') : ∃ r V1 V2, Fi_evened S0 (some 0) (iI m) (iI x) (iI q') V = some (r, V1) ∧ Mo_evened S0 (some 132) (iI m) (iI x) (iI q') V1 = some (r, V2) ∧ IV (n + 1) V2 := by
  refine st_ask (fun T => evR T m x q') hn h (fun T b f c1 c2 I J V C hh => ?_) (fun T b f I J V E => ?_)
  · obtain ⟨I', a1, a2⟩ := cl_evened C.1.1 V hm hw hq
    exact ⟨I', f, a1, C.keep V (a2.sub fun o ho => by omega) (fun _ => rfl), fun o k ho => a2 o (by omega) k⟩
  · obtain ⟨I', a1, a2⟩ := mo_evened E V hm hw hq
    exact ⟨I', a1, E.fr a2 (by decide) (by decide) (fun o ho => by omega), fr_lo a2 (fun o ho => by omega)⟩
set_option maxRecDepth 20000 in
set_option maxHeartbeats 8000000 in
theorem st_few (hn : n < 5000) (h : IV n V) (hm : rg m) (hw : rg x) : ∃ r V1 V2, Fi_few S0 (some 0) (iI m) (iI x) V = some (r, V1) ∧ Mo_few S0 (some 132) (iI m) (iI x) V1 = some (r, V2) ∧ IV (n + 1) V2 := by
  refine st_ask (fun T => fwR T m x) hn h (fun T b f c1 c2 I J V C hh => ?_) (fun T b f I J V E => ?_)
  · obtain ⟨I', a1, a2⟩ := cl_few C.1.1 V hm hw
    exact ⟨I', f, a1, C.keep V (a2.sub fun o ho => by omega) (fun _ => rfl), fun o k ho => a2 o (by omega) k⟩
  · obtain ⟨I', a1, a2⟩ := mo_few E V hm hw
    exact ⟨I', a1, E.fr a2 (by decide) (by decide) (fun o ho => by omega), fr_lo a2 (fun o ho => by omega)⟩
set_option maxRecDepth 20000 in
set_option maxHeartbeats 8000000 in
theorem st_rounds (hn : n < 5000) (h : IV n V) (hm : rg m) (hw : rg x) : ∃ r V1 V2, Fi_rounds S0 (some 0) (iI m) (iI x) V = some (r, V1) ∧ Mo_rounds S0 (some 132) (iI m) (iI x) V1 = some (r, V2) ∧ IV (n + 1) V2 := by
  refine st_ask (fun T => rdR T m x) hn h (fun T b f c1 c2 I J V C hh => ?_) (fun T b f I J V E => ?_)
  · obtain ⟨I', a1, a2⟩ := cl_rounds C.1.1 V hm hw
    exact ⟨I', f, a1, C.keep V (a2.sub fun o ho => by omega) (fun _ => rfl), fun o k ho => a2 o (by omega) k⟩
  · obtain ⟨I', a1, a2⟩ := mo_rounds E V hm hw
    exact ⟨I', a1, E.fr a2 (fun q => q) (fun q => q) (fun o ho => by omega), fr_lo a2 (fun o ho => by omega)⟩
/-! the searches -/
set_option maxRecDepth 20000 in
set_option maxHeartbeats 8000000 in
theorem CI.se (C : CI T b c1 c2 I J) (h : seK T c1 c2 b I I') : CI T b c1 c2 I' J ∧ ∀ o k, 132 ≤ o → I' o k = I o k := by
  obtain ⟨⟨h1, h2⟩, ⟨h3, h4⟩, h5⟩ := C
  obtain ⟨s1, s2, s3⟩ := h
  have hb := ct_or b
  refine ⟨⟨⟨s1, (s3 _ (by omega) _).trans h2.1, (s3 _ (by omega) _).trans h2.2⟩, ⟨h3.up (Int.le_refl _) (fun k hk => ?_) (fun _ => smT.refl), s2⟩, h5⟩, fun o k ho => s3 o (by omega) k⟩
  have := ro_is k
  exact ⟨s3 _ (by omega) _, s3 _ (by omega) _⟩
set_option maxRecDepth 20000 in
set_option maxHeartbeats 8000000 in
theorem st_least (hn : n < 5000) (h : IV n V) (hm : rg m) (hw : rg x) : ∃ r V1 V2, Fi_least S0 (some 0) (iI m) (iI x) V = some (r, V1) ∧ Mo_least S0 (some 132) (iI m) (iI x) V1 = some (r, V2) ∧ IV (n + 1) V2 := by
  refine st_ask (fun T => lsR T m x) hn h (fun T b f c1 c2 I J V C hh => ?_) (fun T b f I J V E => ?_)
  · obtain ⟨I', f', a1, a2⟩ := cl_lst C.1.1 V C.1.2 hh C.2.1.2 hm hw
    exact ⟨I', f', a1, C.se a2⟩
  · obtain ⟨I', a1, a2⟩ := mo_lst E V hm hw
    exact ⟨I', a1, E.fr a2 (by unfold zGT; omega) (by unfold zGT; omega) (fun o ho => by unfold sGT; omega), fr_lo a2 (fun o ho => by unfold sGT; omega)⟩
set_option maxRecDepth 20000 in
set_option maxHeartbeats 8000000 in
theorem st_best (hn : n < 5000) (h : IV n V) (hm : rg m) (hw : rg x) : ∃ r V1 V2, Fi_best S0 (some 0) (iI m) (iI x) (bI v) V = some (r, V1) ∧ Mo_best S0 (some 132) (iI m) (iI x) (bI v) V1 = some (r, V2) ∧ IV (n + 1) V2 := by
  refine st_ask (fun T => bsR T m x v) hn h (fun T b f c1 c2 I J V C hh => ?_) (fun T b f I J V E => ?_)
  · obtain ⟨I', f', a1, a2⟩ := cl_best C.1.1 V C.1.2 hh C.2.1.2 hm hw
    exact ⟨I', f', a1, C.se a2⟩
  · obtain ⟨I', a1, a2⟩ := mo_best E V hm hw
    exact ⟨I', a1, E.fr a2 (by unfold zGT; omega) (by unfold zGT; omega) (fun o ho => by unfold sGT; omega), fr_lo a2 (fun o ho => by unfold sGT; omega)⟩
set_option maxRecDepth 20000 in
set_option maxHeartbeats 8000000 in
theorem st_must (hn : n < 5000) (h : IV n V) (hm : rg m) (hw : rg x) : ∃ r V1 V2, Fi_must S0 (some 0) (iI m) (iI x) V = some (r, V1) ∧ Mo_must S0 (some 132) (iI m) (iI x) V1 = some (r, V2) ∧ IV (n + 1) V2 := by
  refine st_ask (fun T => muR T m x) hn h (fun T b f c1 c2 I J V C hh => ?_) (fun T b f I J V E => ?_)
  · obtain ⟨I', f', a1, a2⟩ := cl_must C.1.1 V C.1.2 hh C.2.1.2 hm hw
    exact ⟨I', f', a1, C.se a2⟩
  · obtain ⟨I', a1, a2⟩ := mo_must E V hm hw
    exact ⟨I', a1, E.fr a2 (by unfold zGT; omega) (by unfold zGT; omega) (fun o ho => by unfold sGT; omega), fr_lo a2 (fun o ho => by unfold sGT; omega)⟩
set_option maxRecDepth 20000 in
set_option maxHeartbeats 8000000 in
theorem st_free (hn : n < 5000) (h : IV n V) (hm : rg m) (hw : rg x) : ∃ r V1 V2, Fi_free S0 (some 0) (iI m) (iI x) V = some (r, V1) ∧ Mo_free S0 (some 132) (iI m) (iI x) V1 = some (r, V2) ∧ IV (n + 1) V2 := by
  refine st_ask (fun T => frR T m x) hn h (fun T b f c1 c2 I J V C hh => ?_) (fun T b f I J V E => ?_)
  · obtain ⟨I', f', a1, a2⟩ := cl_free C.1.1 V C.1.2 hh C.2.1.2 hm hw
    exact ⟨I', f', a1, C.se a2⟩
  · obtain ⟨I', a1, a2⟩ := mo_free E V hm hw
    exact ⟨I', a1, E.fr a2 (by unfold zGT; omega) (by unfold zGT; omega) (fun o ho => by unfold sGT; omega), fr_lo a2 (fun o ho => by unfold sGT; omega)⟩
set_option maxRecDepth 20000 in
set_option maxHeartbeats 8000000 in
theorem st_mended (hn : n < 5000) (h : IV n V) (hm : rg m) (hl : rg l) (hw : rg x) : ∃ r V1 V2, Fi_mended S0 (some 0) (iI m) (iI l) (iI x) V = some (r, V1) ∧ Mo_mended S0 (some 132) (iI m) (iI l) (iI x) V1 = some (r, V2) ∧ IV (n + 1) V2 := by
  refine st_ask (fun T => mnR T m l x) hn h (fun T b f c1 c2 I J V C hh => ?_) (fun T b f I J V E => ?_)
  · obtain ⟨I', f', a1, a2⟩ := cl_mended C.1.1 V C.1.2 hh C.2.1.2 hm hl hw
    exact ⟨I', f', a1, C.se a2⟩
  · obtain ⟨I', a1, a2⟩ := mo_mended E V hm hl hw
    exact ⟨I', a1, E.fr a2 (by unfold zGE; omega) (by unfold zGE; omega) (fun o ho => by unfold sGT; omega), fr_lo a2 (fun o ho => by unfold sGT; omega)⟩
/-! the lightest set -/
set_option maxRecDepth 20000 in
set_option maxHeartbeats 8000000 in
theorem cl_toRest0 (E : EC T b I) (V : TV T) (hm : rg m) (hw : rg x) (z : ¬ (isM T m ∧ 0 ≤ x ∧ x ≤ 1)) : Fi_toRest S0 (some 0) (iI m) (iI x) (I, J, Pst b f) = some (iI (-1), (I, J, Pst b f)) := by
  have eB := E.1.2
  have vB := V.1.2
  have hB := vB.1
  simp (maxSteps := 4000000) (disch := omega) only [Fi_toRest, rc0, gi0, gl0, pi0, pl0, pz0, pr0, gr0_0, gr0_1, gr0_2, gr0_3, gr0_4, gr0_5, gr0_6, gr0_7, gr0_8, rc1, gi1, gl1, pi1, pl1, pz1, pr1, gr1_0, rc3, gi3, gl3, pi3, pl3, pz3, pr3, gr3_0, gr3_10, gr3_11, rc47, gi47, gl47, pi47, pl47, pz47, pr47, gr47_0, gr47_1, gr47_2, gr47_3, gr47_4, gr47_5, gr47_6, rc55, gi55, gl55, pi55, pl55, pz55, pr55, gr55_0, gr55_1, rc58, gi58, gl58, pi58, pl58, pz58, pr58, gr58_0, gr58_1, rc61, gi61, gl61, pi61, pl61, pz61, pr61, gr61_0, gr61_1, gr61_2, gr61_7, rc62, gi62, gl62, pi62, pl62, pz62, pr62, gr62_0, gr62_1, gr62_2, gr62_3, gr62_4, gr62_5, ld2, st2, an2, ld4, st4, an4, ld5, st5, an5, an6, ld48, st48, an48, ld49, st49, an49, ld50, st50, an50, ld51, st51, an51, ld52, st52, an52, ld53, st53, an53, ld54, st54, an54, ld56, st56, an56, ld57, st57, an57, ld59, st59, an59, ld60, st60, an60, ld63, st63, an63, ld64, st64, an64, ld65, st65, an65, ld66, st66, an66, ld67, st67, an67, ld68, st68, an68, ld69, st69, an69, ld70, st70, an70, rcct, gict, glct, pict, plct, pzct, prct, grct_0, grct_1, grct_2, grct_3, ldctm, stctm, anctm, ldctr, stctr, anctr, ldctp, stctp, anctp, anctR, rcru, giru, glru, piru, plru, pzru, prru, grru_7, ldcu, stcu, ancu, arct, ar6, rcro, giro, piro, pzro, grro_1, grro_2, grro_3, rcfo, gifo, pifo, pzfo, grfo_0, grfo_1, ldfop, stfop, anfop, ldfoe, stfoe, anfoe, Option.bind_some, if_true, if_false, n_0, n_1, n_2, n_3, n_4, n_5, n_6, n_7, n_8, n_9, n_10, n_12, n_15, n_20, n_24, n_32, n_48, n_57, n_59, n_80, n_97, n_99, n_100, n_122, n_680, n_700, n_999, n_1023, n_1024, iI_neg, iI_add, iI_sub, iI_lt, iI_le, iI_eq, cl_roomOrNull eB vB hm]
  by_cases z1 : isM T m
  · simp only [iff_true_intro z1, Option.bind_some, if_true, if_false, reduceCtorEq]
    by_cases z2 : x < 0
    · simp only [z2, Option.bind_some, if_true, if_false]
    · have z3 : ¬ x ≤ 1 := fun q => z ⟨z1, by omega, q⟩
      simp only [z2, z3, Option.bind_some, if_true, if_false]
  · simp only [iff_false_intro z1, Option.bind_some, if_true, if_false]
set_option maxRecDepth 20000 in
set_option maxHeartbeats 8000000 in
theorem st_toRest (hn : n < 5000) (h : IV n V) (hm : rg m) (hw : rg x) : ∃ r V1 V2, Fi_toRest S0 (some 0) (iI m) (iI x) V = some (r, V1) ∧ Mo_toRest S0 (some 132) (iI m) (iI x) V1 = some (r, V2) ∧ IV (n + 1) V2 := by
  refine st_ask (fun T => trR T m x) hn h (fun T b f c1 c2 I J V C hh => ?_) (fun T b f I J V E => ?_)
  · by_cases z : isM T m ∧ 0 ≤ x ∧ x ≤ 1
    · obtain ⟨I', a1, a2, a3, a4⟩ := cl_toRest (J := J) (f := f) C.1.1 V C.1.2 hh.1 C.2.1.1 hm hw
      have hb := ct_or b
      have hr := ro_is m.toNat
      have hB := V.1.2.1
      refine ⟨I', f, a1, ⟨⟨a2, (a4 _ (by omega) _).trans C.1.2.1, (a4 _ (by omega) _).trans C.1.2.2⟩, ⟨a3, C.2.1.2.up (Int.le_refl _) (Int.le_refl _) (a4.sub fun o ho => by omega) (fun _ => rfl) (fun _ => ⟨smT.refl, fun k hk => ⟨hk, rfl, rfl⟩⟩) (fun _ => ⟨rfl, rfl, rfl⟩)⟩, C.2.2⟩, fun o k ho => a4 o (by omega) k⟩
    · refine ⟨I, f, ?_, C, fun _ _ _ => rfl⟩
      rw [show trR T m x = -1 from if_neg z]
      exact cl_toRest0 C.1.1 V hm hw z
  · obtain ⟨I', a1, a2⟩ := mo_toRest E V hm hw
    exact ⟨I', a1, E.fr a2 (fun q => q) (fun q => q) (fun o ho => by omega), fr_lo a2 (fun o ho => by omega)⟩
end
