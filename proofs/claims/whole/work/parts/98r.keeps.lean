/-! ===== layer 2: a fault's place is small; what the lightest set and a search depend on ===== -/
section
variable {T T' D D' : Tb} {I I' I'' : Nat → Nat → Int32} {J J' J'' : Nat → Nat → Int64} {b d v : Bool} {f k n i j e t s w M K r y u : Nat} {m g h a c o lo hi x wt rm un c1 c2 : Int} {S F G : Nat → Bool} {q : Int32} {z : Nat × Tb}
set_option maxRecDepth 20000 in
set_option maxHeartbeats 8000000 in
theorem rdG_no (hl : t ≤ tN T) (h : rdG T D t = .inl u) : u ≤ tN T := by
  have l1 := adv_le hl
  have l2 := adv_le l1.2
  unfold rdG at h
  (repeat' split at h) <;> first | (cases h; omega) | (cases h)
set_option maxRecDepth 20000 in
set_option maxHeartbeats 8000000 in
theorem rdS_no : ∀ (n : Nat) (S : Nat → Bool) (t : Nat), t ≤ tN T → rdS T D n S t = .inl u → u ≤ tN T
  | 0, S, t, h, e => by
    unfold rdS at e
    cases e
    exact h
  | n + 1, S, t, h, e => by
    unfold rdS at e
    have ha := adv_le h
    by_cases e1 : gOf D (nmd T t) ≠ -1 ∧ S (gOf D (nmd T t)).toNat = false
    · rw [if_pos e1] at e
      by_cases e2 : nmd T (adv T t) = -1
      · rw [if_pos e2] at e
        cases e
      · rw [if_neg e2] at e
        exact rdS_no n _ _ ha.2 e
    · rw [if_neg e1] at e
      cases e
      exact h
set_option maxRecDepth 20000 in
set_option maxHeartbeats 8000000 in
theorem rdM_no (hl : t ≤ tN T) (h : rdM T D t = .inl u) : u ≤ tN T := by
  have l1 := adv_le hl
  have l2 := adv_le l1.2
  have l3 := adv_le l2.2
  unfold rdM at h
  by_cases e0 : 5 ≤ D 0 3
  · rw [if_pos e0] at h; cases h; exact hl
  · rw [if_neg e0] at h
    by_cases e1 : isNw T D (adv T t) = true
    · rw [if_pos e1] at h
      by_cases e2 : isW T 2 (adv T (adv T t)) = true
      · rw [if_pos e2] at h
        cases er : rdS T D 11 (fun _ => false) (adv T (adv T (adv T t))) with
        | inl u' =>
          rw [er] at h
          have h' : (Sum.inl u' : Rd) = .inl u := h
          cases h'
          exact rdS_no 11 _ _ l3.2 er
        | inr y =>
          rw [er] at h
          have h' : (if kd T y.1 = 3 then (.inr (adv T y.1, mAdd D (nmd T (adv T t)) y.2) : Rd) else .inl y.1) = .inl u := h
          have ly := rdS_le 11 _ _ y l3.2 er
          by_cases e3 : kd T y.1 = 3
          · rw [if_pos e3] at h'; cases h'
          · rw [if_neg e3] at h'; cases h'; exact ly.2
      · rw [if_neg e2] at h; cases h; omega
    · rw [if_neg e1] at h; cases h; omega
set_option maxRecDepth 20000 in
set_option maxHeartbeats 8000000 in
theorem rdRm_no (hl : t ≤ tN T) (h : rdRm T t = .inl u) : u ≤ tN T := by
  have l1 := adv_le hl
  unfold rdRm at h
  (repeat' split at h) <;> first | (cases h; omega) | (cases h)
set_option maxRecDepth 20000 in
set_option maxHeartbeats 8000000 in
theorem rdUn_no (hl : t ≤ tN T) (h : rdUn T D t = .inl u) : u ≤ tN T := by
  have l1 := adv_le hl
  unfold rdUn at h
  (repeat' split at h) <;> first | (cases h; omega) | (cases h)
set_option maxRecDepth 20000 in
set_option maxHeartbeats 8000000 in
theorem rdR2_no (hl : t ≤ tN T) (h : rdR2 T D w a c wt t = .inl u) : u ≤ tN T := by
  unfold rdR2 at h
  cases e1 : rdRm T t with
  | inl u' =>
    rw [e1] at h
    have h' : (Sum.inl u' : Rd) = .inl u := h
    cases h'
    exact rdRm_no hl e1
  | inr y =>
    rw [e1] at h
    have l1 := rdRm_le hl e1
    have h1 : (rdUn T D y.1).elim (fun u => (.inl u : Rd)) (fun x => if kd T x.1 = 3 then .inr (adv T x.1, rAdd D w a c wt y.2 x.2) else .inl x.1) = .inl u := h
    cases e2 : rdUn T D y.1 with
    | inl u' =>
      rw [e2] at h1
      have h' : (Sum.inl u' : Rd) = .inl u := h1
      cases h'
      exact rdUn_no l1.2 e2
    | inr x =>
      rw [e2] at h1
      have l2 := rdUn_le l1.2 e2
      have h' : (if kd T x.1 = 3 then (.inr (adv T x.1, rAdd D w a c wt y.2 x.2) : Rd) else .inl x.1) = .inl u := h1
      by_cases e3 : kd T x.1 = 3
      · rw [if_pos e3] at h'; cases h'
      · rw [if_neg e3] at h'; cases h'; exact l2.2
set_option maxRecDepth 20000 in
set_option maxHeartbeats 8000000 in
theorem rdRu_no (hl : t ≤ tN T) (h : rdRu T D w t = .inl u) : u ≤ tN T := by
  have l1 := adv_le hl
  have l2 := adv_le l1.2
  have l3 := adv_le l2.2
  have l4 := adv_le l3.2
  have l5 := adv_le l4.2
  unfold rdRu at h
  by_cases e0 : 12 ≤ D 0 4
  · rw [if_pos e0] at h; cases h; exact hl
  · rw [if_neg e0] at h
    by_cases e1 : mea D (nm D) (nmd T (adv T t)) = -1
    · rw [if_pos e1] at h; cases h; omega
    · rw [if_neg e1] at h
      by_cases e2 : mea D (nm D) (nmd T (adv T (adv T t))) = -1
      · rw [if_pos e2] at h; cases h; omega
      · rw [if_neg e2] at h
        by_cases e3 : isW T 6 (adv T (adv T (adv T t))) = true
        · rw [if_pos e3] at h
          by_cases e4 : isN T 1 9 (adv T (adv T (adv T (adv T t)))) = true
          · rw [if_pos e4] at h; exact rdR2_no l5.2 h
          · rw [if_neg e4] at h; cases h; omega
        · rw [if_neg e3] at h; cases h; omega
set_option maxRecDepth 20000 in
set_option maxHeartbeats 8000000 in
theorem rdL_no (hl : t ≤ tN T) (h : rdL T D t = .inl u) : u ≤ tN T := by
  unfold rdL at h
  by_cases e0 : isW T 0 t = true
  · rw [if_pos e0] at h; exact rdG_no hl h
  · rw [if_neg e0] at h
    by_cases e1 : isW T 1 t = true
    · rw [if_pos e1] at h; exact rdM_no hl h
    · rw [if_neg e1] at h
      by_cases e3 : isW T 3 t = true
      · rw [if_pos e3] at h; exact rdRu_no hl h
      · rw [if_neg e3] at h
        by_cases e4 : isW T 4 t = true
        · rw [if_pos e4] at h; exact rdRu_no hl h
        · rw [if_neg e4] at h
          by_cases e5 : isW T 5 t = true
          · rw [if_pos e5] at h; exact rdRu_no hl h
          · rw [if_neg e5] at h; cases h; exact hl
set_option maxRecDepth 20000 in
set_option maxHeartbeats 8000000 in
theorem rdA_no (ht : tvA T) : ∀ (n t : Nat) (D : Tb), t ≤ tN T → dV D → rdA T n t D = .inl u → u ≤ tN T
  | 0, t, D, hl, dv, h => by
    unfold rdA at h
    cases h
    exact hl
  | n + 1, t, D, hl, dv, h => by
    unfold rdA at h
    by_cases e : tN T ≤ t
    · rw [if_pos e] at h
      by_cases e2 : D 0 2 = 0
      · rw [if_pos e2] at h; cases h; exact hl
      · rw [if_neg e2] at h; cases h
    · rw [if_neg e] at h
      cases er : rdL T D t with
      | inl u' =>
        rw [er] at h
        have h' : (Sum.inl u' : Nat ⊕ Tb) = .inl u := h
        cases h'
        exact rdL_no hl er
      | inr z =>
        rw [er] at h
        obtain ⟨o1, o2, o3⟩ := rdL_ok dv ht (by omega) er
        exact rdA_no ht n z.1 z.2 o2.2 o1 h
set_option maxRecDepth 20000 in
set_option maxHeartbeats 8000000 in
theorem rdFa_ok (ht : tvA T) : rg (rdFa T) := by
  have h1 := rdFa_rg (T := T)
  have h2 := tN_le ht
  have h3 : rdFa T ≤ 700 := by
    unfold rdFa
    cases e : rdT T with
    | inl u =>
      have := rdA_no ht 701 (skp T 0) (D0 T) (skp_le (Nat.zero_le _)).2 dV_D0 e
      show (u : Int) ≤ 700
      omega
    | inr D => show (-1 : Int) ≤ 700; omega
  unfold rg
  omega
/-! what the lightest set depends on -/
/-- the same guests, marks, rules and rests, the same who come -/
def smT (T T' : Tb) : Prop := (T' 0 2 = T 0 2 ∧ T' 0 4 = T 0 4) ∧ ∀ o, 4 ≤ o → o ≤ 12 → T' o = T o
set_option maxRecDepth 20000 in
set_option maxHeartbeats 8000000 in
theorem smT.mem (h : smT T T') : mem T' = mem T := by
  funext a c
  unfold _root_.Jvm.Pilot.CFirstInLaw_law_r9403_438a70.mem
  rw [h.2 4 (by omega) (by omega)]
set_option maxRecDepth 20000 in
set_option maxHeartbeats 8000000 in
theorem smT.isOf (h : smT T T') : isOf T' = isOf T := by
  funext a c
  unfold _root_.Jvm.Pilot.CFirstInLaw_law_r9403_438a70.isOf
  rw [h.mem]
set_option maxRecDepth 20000 in
set_option maxHeartbeats 8000000 in
theorem smT.cup (h : smT T T') : cup T' = cup T := by
  funext a c e
  unfold _root_.Jvm.Pilot.CFirstInLaw_law_r9403_438a70.cup
  rw [h.isOf, h.mem, h.2 6 (by omega) (by omega), h.2 7 (by omega) (by omega), h.2 10 (by omega) (by omega)]
set_option maxRecDepth 20000 in
set_option maxHeartbeats 8000000 in
theorem smT.hcu (h : smT T T') : hcu T' = hcu T := by
  funext a c e
  unfold _root_.Jvm.Pilot.CFirstInLaw_law_r9403_438a70.hcu
  rw [h.cup, h.2 5 (by omega) (by omega)]
set_option maxRecDepth 20000 in
set_option maxHeartbeats 8000000 in
theorem smT.cpl (h : smT T T') : cpl T' = cpl T := by
  funext a c e
  unfold _root_.Jvm.Pilot.CFirstInLaw_law_r9403_438a70.cpl
  rw [h.hcu, h.2 5 (by omega) (by omega)]
set_option maxRecDepth 20000 in
set_option maxHeartbeats 8000000 in
theorem smT.ng (h : smT T T') : ng T' = ng T := by
  unfold _root_.Jvm.Pilot.CFirstInLaw_law_r9403_438a70.ng
  rw [h.1.1]
set_option maxRecDepth 20000 in
set_option maxHeartbeats 8000000 in
theorem smT.nr (h : smT T T') : nr T' = nr T := by
  unfold _root_.Jvm.Pilot.CFirstInLaw_law_r9403_438a70.nr
  rw [h.1.2]
set_option maxRecDepth 20000 in
set_option maxHeartbeats 8000000 in
theorem smT.ctn (h : smT T T') : ctn T' = ctn T := by
  funext a c
  unfold _root_.Jvm.Pilot.CFirstInLaw_law_r9403_438a70.ctn
  rw [h.2 11 (by omega) (by omega), h.2 9 (by omega) (by omega)]
set_option maxRecDepth 20000 in
set_option maxHeartbeats 8000000 in
theorem smT.com (h : smT T T') : com T' = com T := by
  funext a
  unfold _root_.Jvm.Pilot.CFirstInLaw_law_r9403_438a70.com
  rw [h.2 12 (by omega) (by omega)]
set_option maxRecDepth 20000 in
set_option maxHeartbeats 8000000 in
theorem smT.ctf (h : smT T T') : ctf T' = ctf T := by
  funext a c e g
  unfold _root_.Jvm.Pilot.CFirstInLaw_law_r9403_438a70.ctf
  rw [h.ctn, h.com, h.hcu]
set_option maxRecDepth 20000 in
set_option maxHeartbeats 8000000 in
theorem smT.srcP (h : smT T T') : srcP T' = srcP T := by
  funext a c e g k
  unfold _root_.Jvm.Pilot.CFirstInLaw_law_r9403_438a70.srcP
  rw [h.ctf, h.2 5 (by omega) (by omega)]
set_option maxRecDepth 20000 in
set_option maxHeartbeats 8000000 in
theorem smT.cmb (h : smT T T') : cmb T' = cmb T := by
  funext a
  unfold _root_.Jvm.Pilot.CFirstInLaw_law_r9403_438a70.cmb
  rw [h.ng, h.com]
set_option maxRecDepth 20000 in
set_option maxHeartbeats 8000000 in
theorem smT.abv (h : smT T T') : abv T' = abv T := by
  funext a c e g
  unfold _root_.Jvm.Pilot.CFirstInLaw_law_r9403_438a70.abv
  rw [h.nr, h.srcP]
set_option maxRecDepth 20000 in
set_option maxHeartbeats 8000000 in
theorem smT.wsm (h : smT T T') (a : Nat) : ∀ k, wsm T' a k = wsm T a k
  | 0 => rfl
  | k + 1 => by
    unfold _root_.Jvm.Pilot.CFirstInLaw_law_r9403_438a70.wsm
    rw [h.wsm a k, h.2 8 (by omega) (by omega)]
set_option maxRecDepth 20000 in
set_option maxHeartbeats 8000000 in
theorem smT.wof (h : smT T T') (a : Nat) : wof T' a = wof T a := by
  unfold _root_.Jvm.Pilot.CFirstInLaw_law_r9403_438a70.wof
  rw [h.nr, h.wsm]
set_option maxRecDepth 20000 in
set_option maxHeartbeats 8000000 in
theorem smT.bet (h : smT T T') (a c : Nat) : bet T' a c = bet T a c := by
  unfold _root_.Jvm.Pilot.CFirstInLaw_law_r9403_438a70.bet
  rw [h.wof, h.wof]
set_option maxRecDepth 20000 in
set_option maxHeartbeats 8000000 in
theorem smT.okr (h : smT T T') (a : Int) (c : Nat) : okr T' a c = okr T a c := by
  unfold _root_.Jvm.Pilot.CFirstInLaw_law_r9403_438a70.okr
  rw [h.abv]
set_option maxRecDepth 20000 in
set_option maxHeartbeats 8000000 in
theorem smT.lb (h : smT T T') (m : Int) (R : Nat) : ∀ k, lb T' m R k = lb T m R k
  | 0 => rfl
  | k + 1 => by
    unfold _root_.Jvm.Pilot.CFirstInLaw_law_r9403_438a70.lb
    rw [h.lb m R k, h.bet, h.okr]
set_option maxRecDepth 20000 in
set_option maxHeartbeats 8000000 in
theorem smT.hcp (h : smT T T') : hcp T' = hcp T := by
  funext a
  unfold _root_.Jvm.Pilot.CFirstInLaw_law_r9403_438a70.hcp
  rw [h.cmb, h.cpl]
set_option maxRecDepth 20000 in
set_option maxHeartbeats 8000000 in
theorem smT.rkr (h : smT T T') (m : Int) : rkr T' m = rkr T m := by
  funext a
  unfold _root_.Jvm.Pilot.CFirstInLaw_law_r9403_438a70.rkr
  rw [h.ctn, h.hcp, h.2 5 (by omega) (by omega)]
set_option maxRecDepth 20000 in
set_option maxHeartbeats 8000000 in
theorem smT.RR (h : smT T T') (m : Int) : RR T' m = RR T m := by
  unfold _root_.Jvm.Pilot.CFirstInLaw_law_r9403_438a70.RR
  rw [h.nr, h.rkr]
set_option maxRecDepth 20000 in
set_option maxHeartbeats 8000000 in
theorem smT.bsr (h : smT T T') (m : Int) : bsr T' m = bsr T m := by
  unfold _root_.Jvm.Pilot.CFirstInLaw_law_r9403_438a70.bsr
  rw [h.RR, h.lb]
/-! what a search depends on -/
set_option maxRecDepth 20000 in
set_option maxHeartbeats 8000000 in
theorem smT.nK (h : smT T T') : nK T' = nK T := by
  unfold _root_.Jvm.Pilot.CFirstInLaw_law_r9403_438a70.nK
  rw [h.cmb]
set_option maxRecDepth 20000 in
set_option maxHeartbeats 8000000 in
theorem smT.mg (h : smT T T') : mg T' = mg T := by
  funext a
  unfold _root_.Jvm.Pilot.CFirstInLaw_law_r9403_438a70.mg
  rw [h.cmb]
set_option maxRecDepth 20000 in
set_option maxHeartbeats 8000000 in
theorem smT.cw1 (h : smT T T') : cw1 T' = cw1 T := by
  funext a c e g
  unfold _root_.Jvm.Pilot.CFirstInLaw_law_r9403_438a70.cw1
  rw [h.cpl, h.mg, h.2 5 (by omega) (by omega)]
set_option maxRecDepth 20000 in
set_option maxHeartbeats 8000000 in
theorem smT.cw2 (h : smT T T') : cw2 T' = cw2 T := by
  funext a c e g
  unfold _root_.Jvm.Pilot.CFirstInLaw_law_r9403_438a70.cw2
  rw [h.cpl, h.mg, h.2 5 (by omega) (by omega)]
set_option maxRecDepth 20000 in
set_option maxHeartbeats 8000000 in
theorem smT.cW (h : smT T T') (m : Int) : ∀ r, cW T' m r = cW T m r
  | 0 => rfl
  | r + 1 => by
    funext i j w
    unfold _root_.Jvm.Pilot.CFirstInLaw_law_r9403_438a70.cW
    unfold incF
    rw [h.cW m r, h.ctn, h.cw1, h.cw2, h.2 8 (by omega) (by omega)]
set_option maxRecDepth 20000 in
set_option maxHeartbeats 8000000 in
theorem smT.cH (h : smT T T') (m : Int) : ∀ r, cH T' m r = cH T m r
  | 0 => rfl
  | r + 1 => by
    funext i j w
    unfold _root_.Jvm.Pilot.CFirstInLaw_law_r9403_438a70.cH
    unfold incG
    rw [h.cH m r, h.ctn, h.cw1, h.cw2, h.2 8 (by omega) (by omega)]
/-- the room m is the same -/
def smR (T T' : Tb) (m : Int) : Prop := T' 2 m.toNat = T 2 m.toNat ∧ T' 3 m.toNat = T 3 m.toNat
set_option maxRecDepth 20000 in
set_option maxHeartbeats 8000000 in
theorem smR.wyT (h : smR T T' m) : wyT T' m = wyT T m := by
  funext p q
  unfold _root_.Jvm.Pilot.CFirstInLaw_law_r9403_438a70.wyT hgT beT
  rw [h.1, h.2]
set_option maxRecDepth 20000 in
set_option maxHeartbeats 8000000 in
theorem smT.wAt (h : smT T T') (h2 : smR T T' m) (pl : Nat → Nat) (i p : Nat) : ∀ k, wAt T' m pl i p k = wAt T m pl i p k
  | 0 => rfl
  | k + 1 => by
    unfold _root_.Jvm.Pilot.CFirstInLaw_law_r9403_438a70.wAt
    unfold wW
    rw [h.wAt h2 pl i p k, h.cW, h.nr, h2.wyT]
set_option maxRecDepth 20000 in
set_option maxHeartbeats 8000000 in
theorem smT.hAt (h : smT T T') (h2 : smR T T' m) (pl : Nat → Nat) (i p : Nat) : ∀ k, hAt T' m pl i p k = hAt T m pl i p k
  | 0 => rfl
  | k + 1 => by
    unfold _root_.Jvm.Pilot.CFirstInLaw_law_r9403_438a70.hAt
    unfold wH
    rw [h.hAt h2 pl i p k, h.cH, h.nr, h2.wyT]
set_option maxRecDepth 20000 in
set_option maxHeartbeats 8000000 in
theorem smT.sFd (h : smT T T') (h2 : smR T T' m) (n : Nat) (g lim : Int) (hom : Nat → Int) (sty : Nat → Bool) : ∀ (d : Nat) (tk : Nat → Bool) (pl : Nat → Nat) (w ih mv : Int) (st : FdS), sFd T' m n g lim hom sty d tk pl w ih mv st = sFd T m n g lim hom sty d tk pl w ih mv st
  | 0, tk, pl, w, ih, mv, st => rfl
  | d + 1, tk, pl, w, ih, mv, st => by
    unfold _root_.Jvm.Pilot.CFirstInLaw_law_r9403_438a70.sFd
    congr 1
    funext p st'
    rw [h.nK, h.wAt h2, h.hAt h2, h.sFd h2 n g lim hom sty d]
set_option maxRecDepth 20000 in
set_option maxHeartbeats 8000000 in
theorem smT.fnd (h : smT T T') (h2 : smR T T' m) (h3 : g = 2 → T' 13 = T 13 ∧ T' 14 = T 14 ∧ T' 15 = T 15) (n : Nat) (lim : Int) : fnd T' m n g lim = fnd T m n g lim := by
  have e1 : homF T' m g = homF T m g := by
    funext i
    unfold homF
    by_cases e : g = 2
    · rw [h.mg, (h3 e).2.1, (h3 e).2.2]
    · rw [if_neg (fun q => e q.1), if_neg (fun q => e q.1)]
  have e2 : styF T' m g = styF T m g := by
    funext i
    unfold styF
    by_cases e : g = 2
    · rw [h.nK, h.mg, (h3 e).1, (h3 e).2.1]
    · rw [decide_eq_false (show ¬ ((g = 2 ∧ T' 14 (_root_.Jvm.Pilot.CFirstInLaw_law_r9403_438a70.mg T' i) = m) ∧ T' 13 (_root_.Jvm.Pilot.CFirstInLaw_law_r9403_438a70.mg T' i) = 1) from fun q => e q.1.1), decide_eq_false (show ¬ ((g = 2 ∧ T 14 (_root_.Jvm.Pilot.CFirstInLaw_law_r9403_438a70.mg T i) = m) ∧ T 13 (_root_.Jvm.Pilot.CFirstInLaw_law_r9403_438a70.mg T i) = 1) from fun q => e q.1.1), Bool.and_false, Bool.and_false]
  unfold _root_.Jvm.Pilot.CFirstInLaw_law_r9403_438a70.fnd
  rw [h.sFd h2, e1, e2, h.nK]
set_option maxRecDepth 20000 in
set_option maxHeartbeats 8000000 in
theorem smT.fdC (h : smT T T') {lim : Int} {st : FdS} (q : fdC T f lim st I) : fdC T' f lim st I := by
  unfold _root_.Jvm.Pilot.CFirstInLaw_law_r9403_438a70.fdC at *
  rw [h.cmb]
  exact q
set_option maxRecDepth 20000 in
set_option maxHeartbeats 8000000 in
theorem smT.refl : smT T T := ⟨⟨rfl, rfl⟩, fun _ _ _ => rfl⟩
end
