/-! ===== layer 2: seatings: all of them gone through, model's side ===== -/
section
variable {T : Tb} {I I' I'' I0 : Nat → Nat → Int32} {J : Nat → Nat → Int64} {b : Bool} {f k n i j x y p q r d : Nat} {m g w h a o lim mv : Int} {tk sty : Nat → Bool} {pl : Nat → Nat} {hom : Nat → Int} {V0 V1 V2 : hV} {σ : Type}
def mx2 (h a : Int) : Int := if h < a then a else h
/-- all seatings from the turn nK - d on, whatever is told of one -/
def sGd (T : Tb) (m : Int) (n : Nat) (leaf : (Nat → Nat) → Int → Int → σ → σ) (ok : Nat → Nat → Bool) : Nat → (Nat → Bool) → (Nat → Nat) → Int → Int → σ → σ
  | 0, _, pl, w, h, s => leaf pl w h s
  | d + 1, tk, pl, w, h, s => fl (fun p s => if tk p = false ∧ ok (nK T - (d + 1)) p = true then sGd T m n leaf ok d (tku tk p) (plu pl (nK T - (d + 1)) p) (w + wAt T m pl (nK T - (d + 1)) p (nK T - (d + 1))) (mx2 h (hAt T m pl (nK T - (d + 1)) p (nK T - (d + 1)))) s else s) n s
set_option maxHeartbeats 8000000 in
theorem fl_pair {α β : Type} {F : Nat → α → α} {G : Nat → β → β} {u : α} {v : β} : ∀ n, fl (fun p (s : α × β) => (F p s.1, G p s.2)) n (u, v) = (fl F n u, fl G n v)
  | 0 => rfl
  | n + 1 => by
    show (fun (s : α × β) => (F n s.1, G n s.2)) (fl (fun p (s : α × β) => (F p s.1, G p s.2)) n (u, v)) = _
    rw [fl_pair n]
    rfl
/-- the least and the mildest at once -/
def lf2 (pl : Nat → Nat) (w h : Int) (s : FdS × FdS) : FdS × FdS := (lfn 0 0 w 0 0 pl s.1, lfn 1 0 w h 0 pl s.2)
set_option maxHeartbeats 8000000 in
theorem sG_2 (hh : ∀ i, hom i = -1) (hs : ∀ i, sty i = false) : ∀ (d : Nat) (tk : Nat → Bool) (pl : Nat → Nat) (w h : Int) (u v : FdS), sGd T m n lf2 (fun _ _ => true) d tk pl w h (u, v) = (sFd T m n 0 0 hom sty d tk pl w 0 0 u, sFd T m n 1 0 hom sty d tk pl w h 0 v)
  | 0, tk, pl, w, h, u, v => rfl
  | d + 1, tk, pl, w, h, u, v => by
    have hF : (fun p (s : FdS × FdS) => if tk p = false ∧ true = true then sGd T m n lf2 (fun _ _ => true) d (tku tk p) (plu pl (nK T - (d + 1)) p) (w + wAt T m pl (nK T - (d + 1)) p (nK T - (d + 1))) (mx2 h (hAt T m pl (nK T - (d + 1)) p (nK T - (d + 1)))) s else s) = (fun p (s : FdS × FdS) => ((if tk p = false ∧ okS sty hom (nK T - (d + 1)) p = true then sFd T m n 0 0 hom sty d (tku tk p) (plu pl (nK T - (d + 1)) p) (w + wAt T m pl (nK T - (d + 1)) p (nK T - (d + 1))) (nwH 0 0 (hAt T m pl (nK T - (d + 1)) p (nK T - (d + 1)))) (0 + mvA hom (nK T - (d + 1)) p) s.1 else s.1), (if tk p = false ∧ okS sty hom (nK T - (d + 1)) p = true then sFd T m n 1 0 hom sty d (tku tk p) (plu pl (nK T - (d + 1)) p) (w + wAt T m pl (nK T - (d + 1)) p (nK T - (d + 1))) (nwH 1 h (hAt T m pl (nK T - (d + 1)) p (nK T - (d + 1)))) (0 + mvA hom (nK T - (d + 1)) p) s.2 else s.2))) := by
      funext p s
      have e1 : okS sty hom (nK T - (d + 1)) p = true := by unfold okS; rw [hs]; rfl
      have e2 : mvA hom (nK T - (d + 1)) p = 0 := by unfold mvA; rw [if_pos (Or.inl (hh _))]
      have e3 : ∀ a, nwH 0 0 a = 0 := fun a => by unfold nwH; rw [if_neg (by decide)]
      have e4 : ∀ a, nwH 1 h a = mx2 h a := fun a => by unfold nwH mx2; rw [if_pos rfl]
      rw [e2, e3, e4, e1, Int.add_zero]
      by_cases e : tk p = false
      · rw [if_pos ⟨e, rfl⟩, if_pos ⟨e, rfl⟩, if_pos ⟨e, rfl⟩]
        exact sG_2 hh hs d _ _ _ _ s.1 s.2
      · rw [if_neg fun q => e q.1, if_neg fun q => e q.1, if_neg fun q => e q.1]
    show fl (fun p (s : FdS × FdS) => if tk p = false ∧ true = true then sGd T m n lf2 (fun _ _ => true) d (tku tk p) (plu pl (nK T - (d + 1)) p) (w + wAt T m pl (nK T - (d + 1)) p (nK T - (d + 1))) (mx2 h (hAt T m pl (nK T - (d + 1)) p (nK T - (d + 1)))) s else s) n (u, v) = _
    rw [hF]
    exact fl_pair (F := fun p s => if tk p = false ∧ okS sty hom (nK T - (d + 1)) p = true then sFd T m n 0 0 hom sty d (tku tk p) (plu pl (nK T - (d + 1)) p) (w + wAt T m pl (nK T - (d + 1)) p (nK T - (d + 1))) (nwH 0 0 (hAt T m pl (nK T - (d + 1)) p (nK T - (d + 1)))) (0 + mvA hom (nK T - (d + 1)) p) s else s) (G := fun p s => if tk p = false ∧ okS sty hom (nK T - (d + 1)) p = true then sFd T m n 1 0 hom sty d (tku tk p) (plu pl (nK T - (d + 1)) p) (w + wAt T m pl (nK T - (d + 1)) p (nK T - (d + 1))) (nwH 1 h (hAt T m pl (nK T - (d + 1)) p (nK T - (d + 1)))) (0 + mvA hom (nK T - (d + 1)) p) s else s) n
def mvS (hom : Nat → Int) (pl : Nat → Nat) : Nat → Int
  | 0 => 0
  | k + 1 => mvS hom pl k + mvA hom k (pl k)
set_option maxHeartbeats 8000000 in
theorem mvS_ext {pl' : Nat → Nat} : ∀ {k : Nat}, (∀ j, j < k → pl j = pl' j) → mvS hom pl k = mvS hom pl' k
  | 0, _ => rfl
  | k + 1, h => by
    show mvS hom pl k + mvA hom k (pl k) = mvS hom pl' k + mvA hom k (pl' k)
    rw [mvS_ext fun j hj => h j (by omega), h k (by omega)]
set_option maxHeartbeats 8000000 in
theorem mvS_rg : ∀ k : Nat, 0 ≤ mvS hom pl k ∧ mvS hom pl k ≤ k
  | 0 => by simp [mvS]
  | k + 1 => by
    have := mvS_rg k
    show 0 ≤ mvS hom pl k + mvA hom k (pl k) ∧ mvS hom pl k + mvA hom k (pl k) ≤ _
    unfold mvA
    split <;> omega
/-- the mended -/
def lfE (T : Tb) (hom : Nat → Int) (lim : Int) (pl : Nat → Nat) (w _h : Int) (s : FdS) : FdS := lfn 2 lim w 0 (mvS hom pl (nK T)) pl s
set_option maxHeartbeats 8000000 in
theorem sG_E : ∀ (d : Nat) (tk : Nat → Bool) (pl : Nat → Nat) (w h : Int) (u : FdS), d ≤ nK T → sGd T m n (lfE T hom lim) (okS sty hom) d tk pl w h u = sFd T m n 2 lim hom sty d tk pl w 0 (mvS hom pl (nK T - d)) u
  | 0, tk, pl, w, h, u, _ => rfl
  | d + 1, tk, pl, w, h, u, hd => by
    refine fl_ext fun p s hp => ?_
    by_cases e : tk p = false ∧ okS sty hom (nK T - (d + 1)) p = true
    · rw [if_pos e, if_pos e, sG_E d _ _ _ _ _ (by omega)]
      have e1 : nK T - d = (nK T - (d + 1)) + 1 := by omega
      have e2 : mvS hom (plu pl (nK T - (d + 1)) p) (nK T - d) = mvS hom pl (nK T - (d + 1)) + mvA hom (nK T - (d + 1)) p := by
        rw [e1]
        show mvS hom (plu pl (nK T - (d + 1)) p) (nK T - (d + 1)) + mvA hom (nK T - (d + 1)) (plu pl (nK T - (d + 1)) p (nK T - (d + 1))) = _
        rw [mvS_ext (pl' := pl) fun j hj => by unfold plu; rw [if_neg (by omega)]]
        unfold plu
        rw [if_pos rfl]
      rw [e2]
      rfl
    · rw [if_neg e, if_neg e]
/-! the model -/
abbrev zD (k : Nat) : Prop := k = 54 ∨ k = 55 ∨ k = 56 ∨ k = 57 ∨ k = 59
abbrev sD (o : Nat) : Prop := o < 189 ∨ 194 < o
set_option maxHeartbeats 8000000 in
theorem mo_addUp (V : TV T) (hw : wtM T m n I) (h8 : n ≤ 8) (hK : nK T ≤ 7) (hi : i < nK T) (hp : p < n) (hpl : ∀ j, j < i → I 189 j = iI (pl j : Int) ∧ pl j < n ∧ pl j ≠ p) (hh : 0 ≤ h ∧ h ≤ 1000) : jloop (Mo_seatsFrom_L69 S0 (some 132) (iI (i : Int)) (iI (p : Int), V0) (I, J, Pst b f)) jN (iI w, iI h, iI 0) = some (iI (w + wAt T m pl i p i), iI (mx2 h (hAt T m pl i p i))) := by
  obtain ⟨⟨vA, vB⟩, ⟨vC, vD⟩, vE, vF⟩ := V
  refine jfun (fun k => (iI (w + wAt T m pl i p k), iI (mx2 h (hAt T m pl i p k)), iI (k : Int))) i ?_ (fun k hk => ?_) ?_ (by omega)
  · show _ = (iI (w + 0), iI (mx2 h 0), _)
    have : mx2 h 0 = h := by unfold mx2; rw [if_neg (by omega)]
    rw [Int.add_zero, this]
    rfl
  · obtain ⟨a1, a2, a3⟩ := hpl k hk
    have a4 := hw k i (pl k) p (by omega) hk hi a2 hp a3
    have hidx : ((iI 80 * ((iI 8 * iI (k : Int)) + iI (pl k : Int))) + (iI 8 * iI (i : Int))) + iI (p : Int) = iI (kx k i (pl k) p : Int) := by
      rw [iI_mul, iI_mul, iI_add, iI_mul, iI_add, iI_add]
      exact congrArg iI (by unfold kx; omega)
    have hkb : kx k i (pl k) p < 6400 := by unfold kx; omega
    have r1 := hAt_rg (m := m) (pl := pl) (i := i) (p := p) vC vD k
    have r2 := wH_rg (m := m) vC vD k i (wyT T m (pl k) p)
    have hm2 : 0 ≤ mx2 h (hAt T m pl i p k) ∧ mx2 h (hAt T m pl i p k) ≤ 1000 := by unfold mx2; split <;> omega
    have hmx : Jd_max (iI (mx2 h (hAt T m pl i p k))) (iI (wH T m k i (wyT T m (pl k) p))) = iI (mx2 h (hAt T m pl i p (k + 1))) := by
      rw [maxI (by omega)]
      congr 1
      show _ = mx2 h (if hAt T m pl i p k < wH T m k i (wyT T m (pl k) p) then wH T m k i (wyT T m (pl k) p) else hAt T m pl i p k)
      generalize wH T m k i (wyT T m (pl k) p) = B
      generalize hAt T m pl i p k = A
      unfold mx2
      (repeat' split) <;> omega
    simp (maxSteps := 4000000) (disch := omega) only [Mo_seatsFrom_L69, rc132, gi132, gl132, pi132, pl132, pz132, pr132, gr132_0, gr132_6, gr132_7, gr132_8, gr132_9, gr132_10, gr132_11, gr132_12, gr132_13, gr132_14, gr132_15, gr132_16, gr132_17, gr132_18, gr132_19, gr132_20, gr132_21, gr132_22, gr132_23, gr132_24, gr132_25, gr132_27, gr132_28, gr132_29, gr132_30, gr132_32, gr132_33, gr132_34, gr132_35, gr132_36, gr132_37, gr132_38, gr132_39, gr132_40, gr132_41, gr132_42, gr132_44, gr132_45, gr132_46, gr132_47, gr132_48, gr132_49, gr132_50, gr132_51, gr132_61, gr132_62, gr132_63, ar134_0, ar134_1, ar137_0, ar137_1, ar140_0, ar140_1, ar143_0, ar143_1, ar146_0, ar146_1, ar149_0, ar149_1, ar152_0, ar152_1, ar155_0, ar155_1, ar158_0, ar158_1, ar164_0, ar164_1, ar164_2, ar164_3, ar164_4, ar164_5, ar164_6, ar164_7, ar164_8, ld133, st133, an133, an134, ld135, st135, an135, ld136, st136, an136, an137, ld138, st138, an138, ld139, st139, an139, an140, ld141, st141, an141, ld142, st142, an142, an143, ld144, st144, an144, ld145, st145, an145, an146, ld147, st147, an147, ld148, st148, an148, an149, ld150, st150, an150, ld151, st151, an151, an152, ld153, st153, an153, ld154, st154, an154, an155, ld156, st156, an156, ld157, st157, an157, an158, ld159, st159, an159, ld160, st160, an160, ld161, st161, an161, ld162, st162, an162, ld163, st163, an163, an164, ld165, st165, an165, ld166, st166, an166, ld167, st167, an167, ld168, st168, an168, ld169, st169, an169, ld170, st170, an170, ld171, st171, an171, ld172, st172, an172, ld173, st173, an173, ld174, st174, an174, ld175, st175, an175, ld176, st176, an176, ld177, st177, an177, ld178, st178, an178, ld179, st179, an179, ld180, st180, an180, ld181, st181, an181, ld182, st182, an182, ld183, st183, an183, ld184, st184, an184, ld185, st185, an185, ld186, st186, an186, ld187, st187, an187, ld188, st188, an188, ld189, st189, an189, ld190, st190, an190, ld191, st191, an191, ld192, st192, an192, ld193, st193, an193, ld194, st194, an194, ld195, st195, an195, ld196, st196, an196, ld197, st197, an197, Option.bind_some, if_true, if_false, n_1, show (80 : Int32) = iI 80 from rfl, n_8, iI_le, show ¬ (i : Int) ≤ (k : Int) by omega, Int.toNat_natCast, a1, hidx, a4.1, a4.2, hmx, iI_add]
    show some (Sum.inl (iI (w + wAt T m pl i p k + wW T m k i (wyT T m (pl k) p)), _, _)) = some (Sum.inl (iI (w + (wAt T m pl i p k + wW T m k i (wyT T m (pl k) p))), _, _))
    rw [Int.add_assoc]
    rfl
  · simp (maxSteps := 4000000) (disch := omega) only [Mo_seatsFrom_L69, Option.bind_some, if_true, if_false, iI_le, show (i : Int) ≤ (i : Int) by omega]
set_option maxHeartbeats 8000000 in
theorem wtD.fr {D : Nat → Nat → Nat → Nat → Prop} (h : wtD T m n D I) (ha : frM zD sD I I') : wtD T m n D I' := fun i j p q hd a1 a2 a3 a4 a5 => ⟨(ha.1 187 ⟨by omega, by omega⟩ _).trans (h i j p q hd a1 a2 a3 a4 a5).1, (ha.1 188 ⟨by omega, by omega⟩ _).trans (h i j p q hd a1 a2 a3 a4 a5).2⟩
set_option maxHeartbeats 8000000 in
theorem mo_seat (V : TV T) (h8 : n ≤ 8) (hK : nK T ≤ 7) (hb : mbM T I0) (hw0 : wtM T m n I0) (h52 : I0 132 52 = iI (n : Int)) (leaf : (Nat → Nat) → Int → Int → σ → σ) (ok : Nat → Nat → Bool) (Rl : σ → (Nat → Nat → Int32) → Prop) (hR : ∀ s I i v, Rl s I → Rl s (hup I 189 i v)) (hleaf : ∀ pl w h s I, frM zD sD I0 I → Rl s I → (∀ j, j < nK T → I 189 j = iI (pl j : Int) ∧ pl j < n) → (0 ≤ w ∧ w ≤ 100000) → (0 ≤ h ∧ h ≤ 1000) → ∃ I', Mo_meets S0 (some 132) (iI w) (iI h) (I, J, Pst b f) = some (I', J, Pst b f) ∧ frM zD sD I0 I' ∧ (∀ j, I' 189 j = I 189 j) ∧ Rl (leaf pl w h s) I') (hok : ∀ i p I, i < nK T → p < n → frM zD sD I0 I → Mo_staysElsewhere S0 (some 132) (iI (i : Int)) (iI (p : Int)) (I, J, Pst b f) = some (bI (!ok i p))) : ∀ (d nn : Nat) (tk : Nat → Bool) (pl : Nat → Nat) (w h : Int) (s : σ) (I : Nat → Nat → Int32), d ≤ nK T → d < nn → frM zD sD I0 I → Rl s I → stT n (nK T - d) tk pl → (∀ j, j < nK T - d → I 189 j = iI (pl j : Int)) → (0 ≤ w ∧ w ≤ 7000 * ((nK T - d : Nat) : Int)) → (0 ≤ h ∧ h ≤ 9) → ∃ I', Mo_seatsFrom S0 nn (some 132) (iI ((nK T - d : Nat) : Int)) (iI (bt 8 tk : Int)) (iI w) (iI h) (I, J, Pst b f) = some (I', J, Pst b f) ∧ frM zD sD I0 I' ∧ (∀ j, j < nK T - d → I' 189 j = I 189 j) ∧ Rl (sGd T m n leaf ok d tk pl w h s) I'
  | 0, nn, tk, pl, w, h, s, I, hd, hnn, ha, hs, hst, h189, hw, hh => by
    obtain ⟨nn, rfl⟩ : ∃ z, nn = z + 1 := ⟨nn - 1, by omega⟩
    have h43 : I 132 43 = iI (nK T : Int) := (ha.2 43 (by omega)).trans hb.1
    obtain ⟨I1, a1, a2, a3, a4⟩ := hleaf pl w h s I ha hs (fun j hj => ⟨h189 j (by omega), (hst j (by omega)).2⟩) (by omega) (by omega)
    refine ⟨I1, ?_, a2, fun j _ => a3 j, a4⟩
    show Mo_seatsFrom_B S0 (Mo_seatsFrom S0 nn) _ _ _ _ _ _ = _
    unfold Mo_seatsFrom_B
    rw [rc132, Option.bind_some, gi132, Option.bind_some, h43, Nat.sub_zero, if_pos rfl, a1, Option.bind_some]
  | d + 1, nn, tk, pl, w, h, s, I, hd, hnn, ha, hs, hst, h189, hw, hh => by
    obtain ⟨nn, rfl⟩ : ∃ z, nn = z + 1 := ⟨nn - 1, by omega⟩
    have h43 : I 132 43 = iI (nK T : Int) := (ha.2 43 (by omega)).trans hb.1
    obtain ⟨⟨vA, vB⟩, ⟨vC, vD⟩, vE, vF⟩ := id V
    obtain ⟨i, hi⟩ : ∃ i, i = nK T - (d + 1) := ⟨_, rfl⟩
    obtain ⟨G, hG⟩ : ∃ G : Nat → σ → σ, G = fun p s => if tk p = false ∧ ok i p = true then sGd T m n leaf ok d (tku tk p) (plu pl i p) (w + wAt T m pl i p i) (mx2 h (hAt T m pl i p i)) s else s := ⟨_, rfl⟩
    have hsF : ∀ s, sGd T m n leaf ok (d + 1) tk pl w h s = fl G n s := fun s => by rw [hG, hi]; rfl
    rw [hsF]
    rw [← hi] at hst h189 hw ⊢
    have hi1 : i < nK T := by omega
    have eid : nK T - d = i + 1 := by omega
    have key := jheap (J := J) (P := Pst b f) (I := I) (body := Mo_seatsFrom_L19 S0 (Mo_seatsFrom S0 nn) (some 132) (iI (i : Int)) (iI (bt 8 tk : Int)) (iI w) (iI h)) (fun k I' => frM zD sD I0 I' ∧ (∀ j, j < i → I' 189 j = I 189 j) ∧ Rl (fl G k s) I') 0 n ⟨ha, fun _ _ => rfl, hs⟩ (by omega) (by omega) (fun k I1 _ hkn q1 => ?_) (fun I1 q1 => ?_)
    · obtain ⟨I2, e1, e2, e3, e4⟩ := key
      refine ⟨I2, ?_, e2, e3, e4⟩
      have e1' : jloop (Mo_seatsFrom_L19 S0 (Mo_seatsFrom S0 nn) (some 132) (iI (i : Int)) (iI (bt 8 tk : Int)) (iI w) (iI h)) jN (0, (I, J, Pst b f)) = some (I2, J, Pst b f) := e1
      show Mo_seatsFrom_B S0 (Mo_seatsFrom S0 nn) _ _ _ _ _ _ = _
      unfold Mo_seatsFrom_B
      rw [rc132, Option.bind_some, gi132, Option.bind_some, h43, if_neg (by rw [iI_eq (by omega)]; omega), e1', Option.bind_some]
    · obtain ⟨q1, q2, q3⟩ := q1
      have h52k : I1 132 52 = iI (n : Int) := (q1.2 52 (by omega)).trans h52
      have h191 : ∀ j, j < i → I1 189 j = iI (pl j : Int) := fun j hj => (q2 j hj).trans (h189 j hj)
      have c1 : ¬ (n : Int) ≤ (k : Int) := by omega
      have hbl : bt 8 tk < 2 ^ 8 := bt_lt _ _
      have hsh := shrA (bt 8 tk) k (by omega) (by omega)
      rw [bt_bit, decide_eq_true (show k < 8 by omega), Bool.true_and] at hsh
      have hok1 := hok i k I1 hi1 hkn q1
      have hGk : fl G (k + 1) s = if tk k = false ∧ ok i k = true then sGd T m n leaf ok d (tku tk k) (plu pl i k) (w + wAt T m pl i k i) (mx2 h (hAt T m pl i k i)) (fl G k s) else fl G k s := by
        show G k (fl G k s) = _
        rw [hG]
      cases et : tk k
      · cases eo : ok i k
        · rw [et, eo, if_neg (by simp)] at hGk
          rw [eo] at hok1
          rw [et] at hsh
          refine ⟨I1, ?_, q1, q2, by rw [hGk]; exact q3⟩
          simp (maxSteps := 4000000) (disch := omega) only [Mo_seatsFrom_L19, rc132, gi132, gl132, pi132, pl132, pz132, pr132, gr132_0, gr132_6, gr132_7, gr132_8, gr132_9, gr132_10, gr132_11, gr132_12, gr132_13, gr132_14, gr132_15, gr132_16, gr132_17, gr132_18, gr132_19, gr132_20, gr132_21, gr132_22, gr132_23, gr132_24, gr132_25, gr132_27, gr132_28, gr132_29, gr132_30, gr132_32, gr132_33, gr132_34, gr132_35, gr132_36, gr132_37, gr132_38, gr132_39, gr132_40, gr132_41, gr132_42, gr132_44, gr132_45, gr132_46, gr132_47, gr132_48, gr132_49, gr132_50, gr132_51, gr132_61, gr132_62, gr132_63, ar134_0, ar134_1, ar137_0, ar137_1, ar140_0, ar140_1, ar143_0, ar143_1, ar146_0, ar146_1, ar149_0, ar149_1, ar152_0, ar152_1, ar155_0, ar155_1, ar158_0, ar158_1, ar164_0, ar164_1, ar164_2, ar164_3, ar164_4, ar164_5, ar164_6, ar164_7, ar164_8, ld133, st133, an133, an134, ld135, st135, an135, ld136, st136, an136, an137, ld138, st138, an138, ld139, st139, an139, an140, ld141, st141, an141, ld142, st142, an142, an143, ld144, st144, an144, ld145, st145, an145, an146, ld147, st147, an147, ld148, st148, an148, an149, ld150, st150, an150, ld151, st151, an151, an152, ld153, st153, an153, ld154, st154, an154, an155, ld156, st156, an156, ld157, st157, an157, an158, ld159, st159, an159, ld160, st160, an160, ld161, st161, an161, ld162, st162, an162, ld163, st163, an163, an164, ld165, st165, an165, ld166, st166, an166, ld167, st167, an167, ld168, st168, an168, ld169, st169, an169, ld170, st170, an170, ld171, st171, an171, ld172, st172, an172, ld173, st173, an173, ld174, st174, an174, ld175, st175, an175, ld176, st176, an176, ld177, st177, an177, ld178, st178, an178, ld179, st179, an179, ld180, st180, an180, ld181, st181, an181, ld182, st182, an182, ld183, st183, an183, ld184, st184, an184, ld185, st185, an185, ld186, st186, an186, ld187, st187, an187, ld188, st188, an188, ld189, st189, an189, ld190, st190, an190, ld191, st191, an191, ld192, st192, an192, ld193, st193, an193, ld194, st194, an194, ld195, st195, an195, ld196, st196, an196, ld197, st197, an197, Option.bind_some, if_true, if_false, n_0, n_1, iI_add, iI_le, h52k, c1, hsh, bI_1, Bool.false_eq_true, hok1, bI_0, Bool.not_false, Bool.true_eq_false]
        · rw [et, eo, if_pos ⟨rfl, rfl⟩] at hGk
          rw [eo] at hok1
          rw [et] at hsh
          have hpl1 : ∀ j, j < i → hup I1 189 i (iI (k : Int)) 189 j = iI (pl j : Int) ∧ pl j < n ∧ pl j ≠ k := fun j hj => by
            refine ⟨by rw [hup_ix _ _ _ (by omega)]; exact h191 j hj, (hst j hj).2, fun e => ?_⟩
            have := (hst j hj).1
            rw [e, et] at this
            cases this
          have fr1 : frM zD sD I0 (hup I1 189 i (iI (k : Int))) := q1.wr (by omega) (by omega)
          have hau := mo_addUp (J := J) (b := b) (f := f) (w := w) (h := h) (V0 := (I1, J, Pst b f)) V (hw0.fr fr1) h8 hK hi1 hkn hpl1 (by omega)
          have wr := wAt_rg (m := m) (pl := pl) (i := i) (p := k) vC vD i
          have hr := hAt_rg (m := m) (pl := pl) (i := i) (p := k) vC vD i
          have hmr : 0 ≤ mx2 h (hAt T m pl i k i) ∧ mx2 h (hAt T m pl i k i) ≤ 9 := by unfold mx2; split <;> omega
          have hor : iI (bt 8 tk : Int) ||| iI (bt 8 (fun y => decide (y = k)) : Int) = iI (bt 8 (tku tk k) : Int) := sI_or _ _ _
          obtain ⟨I4, a1, a2, a3, a4⟩ := mo_seat V h8 hK hb hw0 h52 leaf ok Rl hR hleaf hok d nn (tku tk k) (plu pl i k) (w + wAt T m pl i k i) (mx2 h (hAt T m pl i k i)) (fl G k s) (hup I1 189 i (iI (k : Int))) (by omega) (by omega) fr1 (hR _ _ _ _ q3) (by rw [eid]; exact stT_s hst hkn) (fun j hj => by
            by_cases e : j = i
            · subst e; rw [hup_same]; simp [plu]
            · rw [hup_ix _ _ _ e, h191 j (by omega)]; simp [plu, e]) (by omega) (by omega)
          rw [eid, show ((i + 1 : Nat) : Int) = (i : Int) + 1 by omega] at a1
          refine ⟨I4, ?_, a2, fun j hj => ?_, by rw [hGk]; exact a4⟩
          · simp (maxSteps := 4000000) (disch := omega) only [Mo_seatsFrom_L19, rc132, gi132, gl132, pi132, pl132, pz132, pr132, gr132_0, gr132_6, gr132_7, gr132_8, gr132_9, gr132_10, gr132_11, gr132_12, gr132_13, gr132_14, gr132_15, gr132_16, gr132_17, gr132_18, gr132_19, gr132_20, gr132_21, gr132_22, gr132_23, gr132_24, gr132_25, gr132_27, gr132_28, gr132_29, gr132_30, gr132_32, gr132_33, gr132_34, gr132_35, gr132_36, gr132_37, gr132_38, gr132_39, gr132_40, gr132_41, gr132_42, gr132_44, gr132_45, gr132_46, gr132_47, gr132_48, gr132_49, gr132_50, gr132_51, gr132_61, gr132_62, gr132_63, ar134_0, ar134_1, ar137_0, ar137_1, ar140_0, ar140_1, ar143_0, ar143_1, ar146_0, ar146_1, ar149_0, ar149_1, ar152_0, ar152_1, ar155_0, ar155_1, ar158_0, ar158_1, ar164_0, ar164_1, ar164_2, ar164_3, ar164_4, ar164_5, ar164_6, ar164_7, ar164_8, ld133, st133, an133, an134, ld135, st135, an135, ld136, st136, an136, an137, ld138, st138, an138, ld139, st139, an139, an140, ld141, st141, an141, ld142, st142, an142, an143, ld144, st144, an144, ld145, st145, an145, an146, ld147, st147, an147, ld148, st148, an148, an149, ld150, st150, an150, ld151, st151, an151, an152, ld153, st153, an153, ld154, st154, an154, an155, ld156, st156, an156, ld157, st157, an157, an158, ld159, st159, an159, ld160, st160, an160, ld161, st161, an161, ld162, st162, an162, ld163, st163, an163, an164, ld165, st165, an165, ld166, st166, an166, ld167, st167, an167, ld168, st168, an168, ld169, st169, an169, ld170, st170, an170, ld171, st171, an171, ld172, st172, an172, ld173, st173, an173, ld174, st174, an174, ld175, st175, an175, ld176, st176, an176, ld177, st177, an177, ld178, st178, an178, ld179, st179, an179, ld180, st180, an180, ld181, st181, an181, ld182, st182, an182, ld183, st183, an183, ld184, st184, an184, ld185, st185, an185, ld186, st186, an186, ld187, st187, an187, ld188, st188, an188, ld189, st189, an189, ld190, st190, an190, ld191, st191, an191, ld192, st192, an192, ld193, st193, an193, ld194, st194, an194, ld195, st195, an195, ld196, st196, an196, ld197, st197, an197, Option.bind_some, if_true, if_false, n_0, n_1, iI_add, iI_le, Int.toNat_natCast, h52k, c1, hsh, bI_1, Bool.false_eq_true, hok1, bI_0, Bool.not_true, hau, sI_one8 (show k < 8 by omega), hor, a1]
          · rw [a3 j (by omega), hup_ix _ _ _ (by omega)]; exact q2 j hj
      · rw [et, if_neg (by simp)] at hGk
        rw [et] at hsh
        refine ⟨I1, ?_, q1, q2, by rw [hGk]; exact q3⟩
        simp (maxSteps := 4000000) (disch := omega) only [Mo_seatsFrom_L19, rc132, gi132, gl132, pi132, pl132, pz132, pr132, gr132_0, gr132_6, gr132_7, gr132_8, gr132_9, gr132_10, gr132_11, gr132_12, gr132_13, gr132_14, gr132_15, gr132_16, gr132_17, gr132_18, gr132_19, gr132_20, gr132_21, gr132_22, gr132_23, gr132_24, gr132_25, gr132_27, gr132_28, gr132_29, gr132_30, gr132_32, gr132_33, gr132_34, gr132_35, gr132_36, gr132_37, gr132_38, gr132_39, gr132_40, gr132_41, gr132_42, gr132_44, gr132_45, gr132_46, gr132_47, gr132_48, gr132_49, gr132_50, gr132_51, gr132_61, gr132_62, gr132_63, ar134_0, ar134_1, ar137_0, ar137_1, ar140_0, ar140_1, ar143_0, ar143_1, ar146_0, ar146_1, ar149_0, ar149_1, ar152_0, ar152_1, ar155_0, ar155_1, ar158_0, ar158_1, ar164_0, ar164_1, ar164_2, ar164_3, ar164_4, ar164_5, ar164_6, ar164_7, ar164_8, ld133, st133, an133, an134, ld135, st135, an135, ld136, st136, an136, an137, ld138, st138, an138, ld139, st139, an139, an140, ld141, st141, an141, ld142, st142, an142, an143, ld144, st144, an144, ld145, st145, an145, an146, ld147, st147, an147, ld148, st148, an148, an149, ld150, st150, an150, ld151, st151, an151, an152, ld153, st153, an153, ld154, st154, an154, an155, ld156, st156, an156, ld157, st157, an157, an158, ld159, st159, an159, ld160, st160, an160, ld161, st161, an161, ld162, st162, an162, ld163, st163, an163, an164, ld165, st165, an165, ld166, st166, an166, ld167, st167, an167, ld168, st168, an168, ld169, st169, an169, ld170, st170, an170, ld171, st171, an171, ld172, st172, an172, ld173, st173, an173, ld174, st174, an174, ld175, st175, an175, ld176, st176, an176, ld177, st177, an177, ld178, st178, an178, ld179, st179, an179, ld180, st180, an180, ld181, st181, an181, ld182, st182, an182, ld183, st183, an183, ld184, st184, an184, ld185, st185, an185, ld186, st186, an186, ld187, st187, an187, ld188, st188, an188, ld189, st189, an189, ld190, st190, an190, ld191, st191, an191, ld192, st192, an192, ld193, st193, an193, ld194, st194, an194, ld195, st195, an195, ld196, st196, an196, ld197, st197, an197, Option.bind_some, if_true, if_false, n_0, n_1, iI_add, iI_le, h52k, c1, hsh, bI_1]
    · have h52k : I1 132 52 = iI (n : Int) := (q1.1.2 52 (by omega)).trans h52
      simp (maxSteps := 4000000) (disch := omega) only [Mo_seatsFrom_L19, rc132, gi132, gl132, pi132, pl132, pz132, pr132, gr132_0, gr132_6, gr132_7, gr132_8, gr132_9, gr132_10, gr132_11, gr132_12, gr132_13, gr132_14, gr132_15, gr132_16, gr132_17, gr132_18, gr132_19, gr132_20, gr132_21, gr132_22, gr132_23, gr132_24, gr132_25, gr132_27, gr132_28, gr132_29, gr132_30, gr132_32, gr132_33, gr132_34, gr132_35, gr132_36, gr132_37, gr132_38, gr132_39, gr132_40, gr132_41, gr132_42, gr132_44, gr132_45, gr132_46, gr132_47, gr132_48, gr132_49, gr132_50, gr132_51, gr132_61, gr132_62, gr132_63, ar134_0, ar134_1, ar137_0, ar137_1, ar140_0, ar140_1, ar143_0, ar143_1, ar146_0, ar146_1, ar149_0, ar149_1, ar152_0, ar152_1, ar155_0, ar155_1, ar158_0, ar158_1, ar164_0, ar164_1, ar164_2, ar164_3, ar164_4, ar164_5, ar164_6, ar164_7, ar164_8, ld133, st133, an133, an134, ld135, st135, an135, ld136, st136, an136, an137, ld138, st138, an138, ld139, st139, an139, an140, ld141, st141, an141, ld142, st142, an142, an143, ld144, st144, an144, ld145, st145, an145, an146, ld147, st147, an147, ld148, st148, an148, an149, ld150, st150, an150, ld151, st151, an151, an152, ld153, st153, an153, ld154, st154, an154, an155, ld156, st156, an156, ld157, st157, an157, an158, ld159, st159, an159, ld160, st160, an160, ld161, st161, an161, ld162, st162, an162, ld163, st163, an163, an164, ld165, st165, an165, ld166, st166, an166, ld167, st167, an167, ld168, st168, an168, ld169, st169, an169, ld170, st170, an170, ld171, st171, an171, ld172, st172, an172, ld173, st173, an173, ld174, st174, an174, ld175, st175, an175, ld176, st176, an176, ld177, st177, an177, ld178, st178, an178, ld179, st179, an179, ld180, st180, an180, ld181, st181, an181, ld182, st182, an182, ld183, st183, an183, ld184, st184, an184, ld185, st185, an185, ld186, st186, an186, ld187, st187, an187, ld188, st188, an188, ld189, st189, an189, ld190, st190, an190, ld191, st191, an191, ld192, st192, an192, ld193, st193, an193, ld194, st194, an194, ld195, st195, an195, ld196, st196, an196, ld197, st197, an197, Option.bind_some, if_true, if_false, iI_le, h52k, show (n : Int) ≤ (n : Int) by omega]
end
