/-! ===== layer 2: the text: what it says, pure; names in the class ===== -/
section
variable {T D D' : Tb} {I I' I'' : Nat → Nat → Int32} {J J' J'' : Nat → Nat → Int64} {b d v : Bool} {f k n i j e t s w M K : Nat} {m g h a c o lo hi x : Int} {P : Nat → Nat → Option Nat}
def gOf (D : Tb) (n : Int) : Int := if fst_ (ng D) (fun i => decide (D 16 i = n)) < ng D then (fst_ (ng D) (fun i => decide (D 16 i = n)) : Int) else -1
def mOf (D : Tb) (M : Nat) (n : Int) : Int := if fst_ M (fun i => decide (D 17 i = n)) < M then (fst_ M (fun i => decide (D 17 i = n)) : Int) else -1
def mea (D : Tb) (M : Nat) (n : Int) : Int := if gOf D n = -1 then (if mOf D M n = -1 then -1 else 100 + mOf D M n) else gOf D n
def isNw (T D : Tb) (t : Nat) : Bool := decide (nmd T t ≠ -1) && decide (mea D (nm D) (nmd T t) = -1)
abbrev Rd : Type := Nat ⊕ (Nat × Tb)
def gAdd (D : Tb) (n : Int) : Tb := hup (hup D 16 (ng D) n) 0 2 (D 0 2 + 1)
def rdG (T D : Tb) (t : Nat) : Rd := if 10 ≤ D 0 2 then .inl t else if isNw T D (adv T t) = true then (if kd T (adv T (adv T t)) = 3 then .inr (adv T (adv T (adv T t)), gAdd D (nmd T (adv T t))) else .inl (adv T (adv T t))) else .inl (adv T t)
def sAd (S : Nat → Bool) (g y : Nat) : Bool := S y || decide (y = g)
/-- the guests of a mark -/
def rdS (T D : Tb) : Nat → (Nat → Bool) → Nat → Nat ⊕ (Nat × (Nat → Bool))
  | 0, _, t => .inl t
  | n + 1, S, t => if gOf D (nmd T t) ≠ -1 ∧ S (gOf D (nmd T t)).toNat = false then (if nmd T (adv T t) = -1 then .inr (adv T t, sAd S (gOf D (nmd T t)).toNat) else rdS T D n (sAd S (gOf D (nmd T t)).toNat) (adv T t)) else .inl t
def mAdd (D : Tb) (n : Int) (S : Nat → Bool) : Tb := hup (hup (hup D 17 (nm D) n) 4 (nm D) (bt 10 S : Int)) 0 3 (D 0 3 + 1)
def rdM (T D : Tb) (t : Nat) : Rd := if 5 ≤ D 0 3 then .inl t else if isNw T D (adv T t) = true then (if isW T 2 (adv T (adv T t)) = true then (rdS T D 11 (fun _ => false) (adv T (adv T (adv T t)))).elim (fun u => .inl u) (fun z => if kd T z.1 = 3 then .inr (adv T z.1, mAdd D (nmd T (adv T t)) z.2) else .inl z.1) else .inl (adv T (adv T t))) else .inl (adv T t)
def rAdd (D : Tb) (w : Nat) (a c wt rm un : Int) : Tb := hup (hup (hup (hup (hup (hup (hup (hup D 5 (nr D) (w : Int)) 6 (nr D) a) 7 (nr D) c) 8 (nr D) wt) 9 (nr D) rm) 10 (nr D) un) 11 (nr D) 0) 0 4 (D 0 4 + 1)
def rdRm (T : Tb) (t : Nat) : Nat ⊕ (Nat × Int) := if isW T 7 t = true then (if isN T 0 3 (adv T t) = true then .inr (adv T (adv T t), cd T (adv T t)) else .inl (adv T t)) else .inr (t, -1)
def rdUn (T D : Tb) (t : Nat) : Nat ⊕ (Nat × Int) := if isW T 8 t = true then (if mOf D (nm D) (nmd T (adv T t)) = -1 then .inl (adv T t) else .inr (adv T (adv T t), mOf D (nm D) (nmd T (adv T t)))) else .inr (t, -1)
def rdR2 (T D : Tb) (w : Nat) (a c wt : Int) (t : Nat) : Rd := (rdRm T t).elim (fun u => .inl u) (fun z => (rdUn T D z.1).elim (fun u => .inl u) (fun y => if kd T y.1 = 3 then .inr (adv T y.1, rAdd D w a c wt z.2 y.2) else .inl y.1))
def rdRu (T D : Tb) (w t : Nat) : Rd := if 12 ≤ D 0 4 then .inl t else if mea D (nm D) (nmd T (adv T t)) = -1 then .inl (adv T t) else if mea D (nm D) (nmd T (adv T (adv T t))) = -1 then .inl (adv T (adv T t)) else if isW T 6 (adv T (adv T (adv T t))) = true then (if isN T 1 9 (adv T (adv T (adv T (adv T t)))) = true then rdR2 T D w (mea D (nm D) (nmd T (adv T t))) (mea D (nm D) (nmd T (adv T (adv T t)))) (cd T (adv T (adv T (adv T (adv T t))))) (adv T (adv T (adv T (adv T (adv T t))))) else .inl (adv T (adv T (adv T (adv T t))))) else .inl (adv T (adv T (adv T t)))
def rdL (T D : Tb) (t : Nat) : Rd := if isW T 0 t = true then rdG T D t else if isW T 1 t = true then rdM T D t else if isW T 3 t = true then rdRu T D 0 t else if isW T 4 t = true then rdRu T D 1 t else if isW T 5 t = true then rdRu T D 2 t else .inl t
def rdA (T : Tb) : Nat → Nat → Tb → Nat ⊕ Tb
  | 0, t, _ => .inl t
  | n + 1, t, D => if tN T ≤ t then (if D 0 2 = 0 then .inl t else .inr D) else (rdL T D t).elim (fun u => .inl u) (fun z => rdA T n z.1 z.2)
def D0 (T : Tb) : Tb := hup (hup (hup T 0 2 0) 0 3 0) 0 4 0
def rdT (T : Tb) : Nat ⊕ Tb := rdA T 701 (skp T 0) (D0 T)
/-! names -/
def okN (c : Int) : Prop := 0 ≤ c ∧ c < HUG ∧ isKy c = false
def nmV (D : Tb) (M : Nat) : Prop := ((∀ i, i < ng D → okN (D 16 i)) ∧ ∀ i, i < M → okN (D 17 i)) ∧ (∀ i j, i < ng D → j < ng D → D 16 i = D 16 j → i = j) ∧ (∀ i j, i < M → j < M → D 17 i = D 17 j → i = j) ∧ ∀ i j, i < ng D → j < M → D 16 i ≠ D 17 j
set_option maxHeartbeats 8000000 in
theorem gOf_rg : -1 ≤ gOf D x ∧ gOf D x < ng D := by
  unfold gOf
  split <;> omega
set_option maxHeartbeats 8000000 in
theorem mOf_rg : -1 ≤ mOf D M x ∧ mOf D M x < M := by
  unfold mOf
  split <;> omega
set_option maxHeartbeats 8000000 in
theorem mea_rg : (-1 ≤ mea D M x ∧ mea D M x < ng D) ∨ (100 ≤ mea D M x ∧ mea D M x < 100 + M) := by
  have h1 := gOf_rg (D := D) (x := x)
  have h2 := mOf_rg (D := D) (M := M) (x := x)
  unfold mea
  (repeat' split) <;> omega
set_option maxHeartbeats 8000000 in
theorem gOf_in (h : gOf D x ≠ -1) : (gOf D x).toNat < ng D ∧ D 16 (gOf D x).toNat = x := by
  unfold gOf at *
  by_cases q : fst_ (ng D) (fun i => decide (D 16 i = x)) < ng D
  · rw [if_pos q] at h ⊢
    have := fst_is q
    rw [Int.toNat_natCast]
    exact ⟨q, by simpa using this⟩
  · rw [if_neg q] at h; exact absurd rfl h
set_option maxHeartbeats 8000000 in
theorem mOf_in (h : mOf D M x ≠ -1) : (mOf D M x).toNat < M ∧ D 17 (mOf D M x).toNat = x := by
  unfold mOf at *
  by_cases q : fst_ M (fun i => decide (D 17 i = x)) < M
  · rw [if_pos q] at h ⊢
    have := fst_is q
    rw [Int.toNat_natCast]
    exact ⟨q, by simpa using this⟩
  · rw [if_neg q] at h; exact absurd rfl h
set_option maxHeartbeats 8000000 in
theorem gOf_no (h : gOf D x = -1) (hi : i < ng D) : D 16 i ≠ x := fun e => by
  unfold gOf at h
  have : fst_ (ng D) (fun i => decide (D 16 i = x)) < ng D := fst_any.mpr (anyb_iff.mpr ⟨i, hi, decide_eq_true e⟩)
  rw [if_pos this] at h
  omega
set_option maxHeartbeats 8000000 in
theorem mOf_no (h : mOf D M x = -1) (hi : i < M) : D 17 i ≠ x := fun e => by
  unfold mOf at h
  have : fst_ M (fun i => decide (D 17 i = x)) < M := fst_any.mpr (anyb_iff.mpr ⟨i, hi, decide_eq_true e⟩)
  rw [if_pos this] at h
  omega
set_option maxHeartbeats 8000000 in
theorem gOf_eq (hv : nmV D M) (hi : i < ng D) : gOf D (D 16 i) = (i : Int) := by
  have h1 : gOf D (D 16 i) ≠ -1 := fun q => gOf_no q hi rfl
  have h2 := gOf_in h1
  have h3 := hv.2.1 _ _ h2.1 hi h2.2
  have h4 := gOf_rg (D := D) (x := D 16 i)
  omega
set_option maxHeartbeats 8000000 in
theorem gOf_mk (hv : nmV D M) (hi : i < M) : gOf D (D 17 i) = -1 := Classical.byContradiction fun q => hv.2.2.2 _ _ (gOf_in q).1 hi (gOf_in q).2
set_option maxHeartbeats 8000000 in
theorem mOf_eq (hv : nmV D M) (hi : i < M) : mOf D M (D 17 i) = (i : Int) := by
  have h1 : mOf D M (D 17 i) ≠ -1 := fun q => mOf_no q hi rfl
  have h2 := mOf_in h1
  have h3 := hv.2.2.1 _ _ h2.1 hi h2.2
  have h4 := mOf_rg (D := D) (M := M) (x := D 17 i)
  omega
set_option maxHeartbeats 8000000 in
theorem mea_no : (mea D M x = -1) = (gOf D x = -1 ∧ mOf D M x = -1) := by
  have h1 := gOf_rg (D := D) (x := x)
  have h2 := mOf_rg (D := D) (M := M) (x := x)
  refine propext ⟨fun e => ?_, fun e => ?_⟩
  · unfold mea at e
    by_cases q : gOf D x = -1
    · rw [if_pos q] at e
      refine ⟨q, ?_⟩
      by_cases q2 : mOf D M x = -1
      · exact q2
      · rw [if_neg q2] at e; omega
    · rw [if_neg q] at e; exact absurd e q
  · unfold mea; rw [if_pos e.1, if_pos e.2]
set_option maxHeartbeats 8000000 in
theorem mea_neg (hv : nmV D M) : mea D M (-1) = -1 := by
  rw [mea_no]
  refine ⟨Classical.byContradiction fun q => ?_, Classical.byContradiction fun q => ?_⟩
  · have h := hv.1.1 _ (gOf_in q).1
    rw [(gOf_in q).2] at h
    have := h.1
    omega
  · have h := hv.1.2 _ (mOf_in q).1
    rw [(mOf_in q).2] at h
    have := h.1
    omega
/-- the class's names -/
def nmC (D : Tb) (M : Nat) (I : Nat → Nat → Int32) (J : Nat → Nat → Int64) : Prop := I 3 12 = iI ((ng D + M : Nat) : Int) ∧ ∃ c u : Nat → Int, (∀ k, k < ng D + M → J 4 k = lI (c k) ∧ I 5 k = iI (u k)) ∧ (∀ k, k < ng D + M → (∃ i : Nat, i < ng D ∧ c k = D 16 i ∧ u k = (i : Int)) ∨ ∃ i : Nat, i < M ∧ c k = D 17 i ∧ u k = 100 + (i : Int)) ∧ (∀ i, i < ng D → ∃ k, k < ng D + M ∧ c k = D 16 i) ∧ ∀ i, i < M → ∃ k, k < ng D + M ∧ c k = D 17 i
set_option maxHeartbeats 8000000 in
theorem cl_meaning (hk : tkC T t I J) (ht : tvA T) (hn : nmC D M I J) (hv : nmV D M) (hg : ng D + M ≤ 15) : Reader_meaning S0 (some 3) (I, J, Pst b f) = some (iI (mea D M (nmd T t))) := by
  obtain ⟨n1, c, u, n2, n3, n4, n5⟩ := hn
  have hr := cd_rg (t := t) ht
  have hok : ∀ k, k < ng D + M → okN (c k) := fun k hk' => by
    rcases n3 k hk' with ⟨i, i1, i2, _⟩ | ⟨i, i1, i2, _⟩
    · rw [i2]; exact hv.1.1 i i1
    · rw [i2]; exact hv.1.2 i i1
  have hse := jsearch (body := Reader_meaning_L2 S0 (some 3) (I, J, Pst b f)) (ng D + M) (fun k => decide (kd T t = 1 ∧ cd T t = c k)) (fun k => iI (u k)) (fun k hk' => ?_) ?_ (by omega)
  · have hse' : jloop (Reader_meaning_L2 S0 (some 3) (I, J, Pst b f)) jN 0 = _ := hse
    unfold Reader_meaning
    rw [rc3, Option.bind_some, hse', Option.bind_some]
    by_cases q : fst_ (ng D + M) (fun k => decide (kd T t = 1 ∧ cd T t = c k)) < ng D + M
    · have h1 := fst_is q
      rw [if_pos q, Sum.elim_inr]
      generalize fst_ (ng D + M) (fun k => decide (kd T t = 1 ∧ cd T t = c k)) = k at *
      simp only [decide_eq_true_eq] at h1
      have h2 := hok k q
      have hnm : nmd T t = c k := by
        unfold nmd
        rw [if_pos ⟨h1.1, by rw [h1.2]; exact h2.2.1, by rw [h1.2]; exact h2.2.2⟩, h1.2]
      rw [hnm]
      rcases n3 k q with ⟨i, i1, i2, i3⟩ | ⟨i, i1, i2, i3⟩
      · unfold mea
        rw [i2, i3, gOf_eq hv i1, if_neg (by omega)]
      · unfold mea
        rw [i2, i3, gOf_mk hv i1, if_pos rfl, mOf_eq hv i1, if_neg (by omega)]
    · rw [if_neg q, Sum.elim_inl]
      have hno : ∀ k, k < ng D + M → ¬ (kd T t = 1 ∧ cd T t = c k) := fun k hk' y => q (fst_any.mpr (anyb_iff.mpr ⟨k, hk', decide_eq_true y⟩))
      have hm : mea D M (nmd T t) = -1 := by
        by_cases y : nmd T t = -1
        · rw [y]; exact mea_neg hv
        · have hkd : kd T t = 1 ∧ nmd T t = cd T t := by
            unfold nmd at y ⊢
            by_cases z : kd T t = 1 ∧ cd T t < HUG ∧ isKy (cd T t) = false
            · rw [if_pos z]; exact ⟨z.1, rfl⟩
            · rw [if_neg z] at y; exact absurd rfl y
          rw [mea_no]
          refine ⟨Classical.byContradiction fun z => ?_, Classical.byContradiction fun z => ?_⟩
          · obtain ⟨k, k1, k2⟩ := n4 _ (gOf_in z).1
            exact hno k k1 ⟨hkd.1, by rw [k2, (gOf_in z).2, hkd.2]⟩
          · obtain ⟨k, k1, k2⟩ := n5 _ (mOf_in z).1
            exact hno k k1 ⟨hkd.1, by rw [k2, (mOf_in z).2, hkd.2]⟩
      rw [hm, n_1, iI_neg]
  · have h2 := n2 k hk'
    have h3 := hok k hk'
    have hw := cl_isW (b := b) (f := f) (c := c k) hk ht ⟨h3.1, by have := h3.2.1; omega⟩
    unfold Reader_meaning_L2
    rw [gi3, n1, Option.bind_some, if_neg (by rw [iI_le (by omega)]; omega), if_neg (by rw [n_15, iI_le (by omega)]; omega), gr3_0, Option.bind_some, gr3_10, Option.bind_some, ld4 (by omega), Int.toNat_natCast, h2.1, Option.bind_some, hw, Option.bind_some]
    by_cases q : kd T t = 1 ∧ cd T t = c k
    · rw [decide_eq_true q, if_neg (by decide), gr3_11, Option.bind_some, ld5 (by omega), Int.toNat_natCast, h2.2, Option.bind_some]; rfl
    · rw [decide_eq_false q, if_pos (by rfl), n_1, iI_add]; rfl
  · unfold Reader_meaning_L2
    rw [gi3, n1, Option.bind_some, if_pos (by rw [iI_le (by omega)]; omega)]
set_option maxHeartbeats 8000000 in
theorem cl_adv (hA : cA T I) (hk : tkC T t I J) (ht : tvA T) : ∃ I' J', Text_advance S0 (some 1) (I, J, Pst b f) = some (I', J', Pst b f) ∧ txF I J I' J' ∧ tkC T (adv T t) I' J' := cl_advance hA ht hk.1.2.1 (tEn_le hk.2.2).2
set_option maxHeartbeats 8000000 in
theorem kwC.tx (h : kwC J) (ha : txF I J I' J') : kwC J' := fun w hw => (ha.2 3 _ (by omega)).trans (h w hw)
set_option maxHeartbeats 8000000 in
theorem nmC.tx (h : nmC D M I J) (ha : txF I J I' J') : nmC D M I' J' := by
  obtain ⟨n1, c, u, n2, n3⟩ := h
  exact ⟨(ha.1 3 12 (by omega)).trans n1, c, u, fun k hk => ⟨(ha.2 4 k (by omega)).trans (n2 k hk).1, (ha.1 5 k (by omega)).trans (n2 k hk).2⟩, n3⟩
/-- a new name in the class -/
def nwI (I : Nat → Nat → Int32) (K : Nat) (x : Int) : Nat → Nat → Int32 := hup (hup I 5 K (iI x)) 3 12 (iI ((K : Int) + 1))
set_option maxHeartbeats 8000000 in
theorem cl_newName (hA : cA T I) (hk : tkC T t I J) (ht : tvA T) (hq : kwC J) (hn : nmC D (nm D) I J) (hv : nmV D (nm D)) (hg : ng D + nm D < 15) (hx : rg x) : (isNw T D t = false → Reader_readNewName S0 (some 3) (iI x) (I, J, Pst b f) = some (iI 0, (I, J, Pst b f))) ∧ (isNw T D t = true → ∃ I' J', Reader_readNewName S0 (some 3) (iI x) (I, J, Pst b f) = some (iI 1, (I', J', Pst b f)) ∧ txF (nwI I (ng D + nm D) x) (hup J 4 (ng D + nm D) (lI (nmd T t))) I' J' ∧ tkC T (adv T t) I' J') := by
  have hm := cl_meaning (b := b) (f := f) hk ht hn hv (by omega)
  have hr := cd_rg (t := t) ht
  have hr2 := nmd_rg (t := t) ht
  have hkr := kd_rg (T := T) (t := t)
  have hky := cl_isKeyword (I := I) (b := b) (f := f) (c := cd T t) hq hr
  have hmr := mea_rg (D := D) (M := nm D) (x := nmd T t)
  have n1 := hn.1
  have hj8 : ((if iI (kd T t) = (1 : Int32) then ((some (some 1) : Option (Option Nat)).bind fun x24 => (gL S0 10 5 (I, J, Pst b f) x24).bind fun x25 => if 0 ≤ (lg_cmp x25 1099511627776) then (some 0) else (some 1)) else (some 0)) : Option Int32) = some (bI (decide (kd T t = 1 ∧ cd T t < HUG))) := by
    by_cases e : kd T t = 1
    · rw [if_pos (by rw [e]; rfl), Option.bind_some, gl1, hk.2.1, Option.bind_some, show (1099511627776 : Int64) = lI HUG from rfl, cmpI (by unfold HUG at *; omega)]
      by_cases e2 : cd T t < HUG
      · rw [if_pos e2, if_neg (by decide), decide_eq_true ⟨e, e2⟩]; rfl
      · rw [if_neg e2, decide_eq_false (fun q => e2 q.2)]
        by_cases e3 : cd T t = HUG
        · rw [if_pos e3, if_pos (by decide)]; rfl
        · rw [if_neg e3, if_pos (by decide)]; rfl
    · rw [if_neg (by rw [n_1, iI_eq (by omega)]; exact e), decide_eq_false (fun q => e q.1)]; rfl
  have hpre : Reader_readNewName S0 (some 3) (iI x) (I, J, Pst b f) = (if bI (decide (kd T t = 1 ∧ cd T t < HUG)) = 0 then (some (0, (I, J, Pst b f))) else (if bI (isKy (cd T t)) = 0 then (if iI (mea D (nm D) (nmd T t)) = (-1) then (if iI ((ng D + nm D : Nat) : Int) < 0 then (some (0, (I, J, Pst b f))) else (if iI ((ng D + nm D : Nat) : Int) < 15 then ((gR S0 5 10 (I, J, Pst b f) (some 3)).bind fun x11 => (some (iI ((ng D + nm D : Nat) : Int))).bind fun x12 => (some (some 1) : Option (Option Nat)).bind fun x13 => (gL S0 10 5 (I, J, Pst b f) x13).bind fun x14 => (sL S0 (I, J, Pst b f) x11 x12 x14).bind fun V15 => (gR S0 5 11 V15 (some 3)).bind fun x16 => (gI S0 5 12 V15 (some 3)).bind fun x17 => (sI S0 V15 x16 x17 (iI x)).bind fun V18 => (gI S0 5 12 V18 (some 3)).bind fun x19 => (pI S0 5 12 V18 (some 3) (x19 + 1)).bind fun V20 => (gR S0 5 0 V20 (some 3)).bind fun x21 => (Text_advance S0 x21 V20).bind fun V22 => some (1, V22)) else (some (0, (I, J, Pst b f))))) else (some (0, (I, J, Pst b f)))) else (some (0, (I, J, Pst b f))))) := by
    unfold Reader_readNewName
    rw [rc3, Option.bind_some, gr3_0, Option.bind_some, gi1, hk.1.2.2, Option.bind_some, hj8, Option.bind_some, Option.bind_some, gl1, hk.2.1, Option.bind_some, hky, Option.bind_some, hm, Option.bind_some, gi3, n1, Option.bind_some, Option.bind_some]
  refine ⟨fun hw => ?_, fun hw => ?_⟩
  · rw [hpre]
    by_cases e1 : kd T t = 1 ∧ cd T t < HUG
    · rw [decide_eq_true e1, if_neg (by decide)]
      cases e2 : isKy (cd T t)
      · rw [if_pos (by rfl)]
        have hnm : nmd T t = cd T t := if_pos ⟨e1.1, e1.2, e2⟩
        have e3 : ¬ mea D (nm D) (nmd T t) = -1 := fun q => by
          unfold isNw at hw
          rw [decide_eq_true q, decide_eq_true (show nmd T t ≠ -1 by omega)] at hw
          cases hw
        have hng : ng D ≤ 15 := by omega
        rw [if_neg (by rw [n_1, iI_neg, iI_eq (by omega)]; exact e3)]
        rfl
      · rw [if_neg (by decide)]; rfl
    · rw [decide_eq_false e1, if_pos (by rfl)]; rfl
  · unfold isNw at hw
    simp only [Bool.and_eq_true, decide_eq_true_eq] at hw
    have hnm : (kd T t = 1 ∧ cd T t < HUG ∧ isKy (cd T t) = false) ∧ nmd T t = cd T t := by
      by_cases q : kd T t = 1 ∧ cd T t < HUG ∧ isKy (cd T t) = false
      · exact ⟨q, if_pos q⟩
      · exact absurd (if_neg q) hw.1
    have hAn : cA T (nwI I (ng D + nm D) x) := ⟨by unfold nwI; simp [hup]; exact hA.1, fun k hk => by unfold nwI; simp [hup]; exact hA.2 k hk⟩
    have hkn : tkC T t (nwI I (ng D + nm D) x) (hup J 4 (ng D + nm D) (lI (nmd T t))) := ⟨⟨by unfold nwI; simp [hup]; exact hk.1.1, by unfold nwI; simp [hup]; exact hk.1.2.1, by unfold nwI; simp [hup]; exact hk.1.2.2⟩, by rw [hup_obj _ _ _ (by omega)]; exact hk.2.1, hk.2.2⟩
    obtain ⟨I1, J1, a1, a2, a3⟩ := cl_adv (b := b) (f := f) hAn hkn ht
    refine ⟨I1, J1, ?_, a2, a3⟩
    have g12 : hup I 5 (ng D + nm D) (iI x) 3 12 = iI ((ng D + nm D : Nat) : Int) := by rw [hup_obj _ _ _ (by omega)]; exact n1
    have a1' : Text_advance S0 (some 1) (hup (hup I 5 (ng D + nm D) (iI x)) 3 12 (iI (((ng D + nm D : Nat) : Int) + 1)), hup J 4 (ng D + nm D) (lI (cd T t)), Pst b f) = some (I1, J1, Pst b f) := by
      rw [← hnm.2]; exact a1
    rw [hpre, decide_eq_true ⟨hnm.1.1, hnm.1.2.1⟩, if_neg (by decide), hnm.1.2.2, if_pos (by rfl), hw.2, if_pos (by rfl), if_neg (by rw [n_0, iI_lt (by omega)]; omega), if_pos (by rw [n_15, iI_lt (by omega)]; omega), gr3_10, Option.bind_some, Option.bind_some, Option.bind_some, gl1, hk.2.1, Option.bind_some, st4 (by omega), Int.toNat_natCast, Option.bind_some, gr3_11, Option.bind_some, gi3, n1, Option.bind_some, st5 (by omega), Int.toNat_natCast, Option.bind_some, gi3, g12, Option.bind_some, n_1, iI_add, pi3, Option.bind_some, gr3_0, Option.bind_some, a1', Option.bind_some]
end
