/-! ===== fields and arrays: reads and writes of the abstract heap (none: the machine would throw), and their laws ===== -/
/-- the cell r is an object of class c -/
def rc (S : hS) (c : Nat) (r : Option Nat) : Option Nat := match r with
  | none => none
  | some o => if o < S.1 ∧ (S.2 o).1 = c then some o else none
theorem rc_spec {S : hS} {c o : Nat} {r : Option Nat} (h : rc S c r = some o) : r = some o ∧ o < S.1 ∧ (S.2 o).1 = c := by
  cases r with
  | none => cases h
  | some q =>
    unfold rc at h
    by_cases hq : q < S.1 ∧ (S.2 q).1 = c
    · simp only [if_pos hq] at h
      cases h
      exact ⟨rfl, hq⟩
    · simp only [if_neg hq] at h
      cases h
/-- the place i of the array r, of kind k -/
def rx (S : hS) (k : Nat) (r : Option Nat) (i : Int32) : Option Nat := match r with
  | none => none
  | some o => if o < S.1 ∧ (S.2 o).1 = k ∧ ¬ i < 0 ∧ i.toNatClampNeg < (S.2 o).2 then some o else none
theorem rx_spec {S : hS} {k o : Nat} {i : Int32} {r : Option Nat} (h : rx S k r i = some o) : r = some o ∧ o < S.1 ∧ (S.2 o).1 = k ∧ ¬ i < 0 ∧ i.toNatClampNeg < (S.2 o).2 := by
  cases r with
  | none => cases h
  | some q =>
    unfold rx at h
    by_cases hq : q < S.1 ∧ (S.2 q).1 = k ∧ ¬ i < 0 ∧ i.toNatClampNeg < (S.2 q).2
    · simp only [if_pos hq] at h
      cases h
      exact ⟨rfl, hq⟩
    · simp only [if_neg hq] at h
      cases h
def gI (S : hS) (c k : Nat) (V : hV) (r : Option Nat) : Option Int32 := (rc S c r).map fun o => V.1 o k
def gL (S : hS) (c k : Nat) (V : hV) (r : Option Nat) : Option Int64 := (rc S c r).map fun o => V.2.1 o k
def gR (S : hS) (c k : Nat) (V : hV) (r : Option Nat) : Option (Option Nat) := (rc S c r).map fun o => V.2.2 o k
def pI (S : hS) (c k : Nat) (V : hV) (r : Option Nat) (x : Int32) : Option hV := (rc S c r).map fun o => (hup V.1 o k x, V.2)
def pZ (S : hS) (c k : Nat) (V : hV) (r : Option Nat) (x : Int32) : Option hV := if x = 0 ∨ x = 1 then (rc S c r).map fun o => (hup V.1 o k x, V.2) else none
def pL (S : hS) (c k : Nat) (V : hV) (r : Option Nat) (x : Int64) : Option hV := (rc S c r).map fun o => (V.1, hup V.2.1 o k x, V.2.2)
def pR (S : hS) (c k : Nat) (V : hV) (r : Option Nat) (x : Option Nat) : Option hV := (rc S c r).map fun o => (V.1, V.2.1, hup V.2.2 o k x)
def aI (S : hS) (V : hV) (r : Option Nat) (i : Int32) : Option Int32 := (rx S 100 r i).map fun o => V.1 o i.toNatClampNeg
def aB (S : hS) (V : hV) (r : Option Nat) (i : Int32) : Option Int32 := (rx S 101 r i).map fun o => V.1 o i.toNatClampNeg
def aZ (S : hS) (V : hV) (r : Option Nat) (i : Int32) : Option Int32 := (rx S 102 r i).map fun o => V.1 o i.toNatClampNeg
def aL (S : hS) (V : hV) (r : Option Nat) (i : Int32) : Option Int64 := (rx S 103 r i).map fun o => V.2.1 o i.toNatClampNeg
def aR (S : hS) (k : Nat) (V : hV) (r : Option Nat) (i : Int32) : Option (Option Nat) := (rx S k r i).map fun o => V.2.2 o i.toNatClampNeg
def sI (S : hS) (V : hV) (r : Option Nat) (i x : Int32) : Option hV := (rx S 100 r i).map fun o => (hup V.1 o i.toNatClampNeg x, V.2)
def sB (S : hS) (V : hV) (r : Option Nat) (i x : Int32) : Option hV := (rx S 101 r i).map fun o => (hup V.1 o i.toNatClampNeg (i2bv x), V.2)
def sZ (S : hS) (V : hV) (r : Option Nat) (i x : Int32) : Option hV := (rx S 102 r i).map fun o => (hup V.1 o i.toNatClampNeg (x &&& 1), V.2)
def sL (S : hS) (V : hV) (r : Option Nat) (i : Int32) (x : Int64) : Option hV := (rx S 103 r i).map fun o => (V.1, hup V.2.1 o i.toNatClampNeg x, V.2.2)
/-- the length of the array r -/
def aN (S : hS) (r : Option Nat) : Option Int32 := match r with
  | none => none
  | some o => if o < S.1 ∧ 100 ≤ (S.2 o).1 ∧ (S.2 o).1 < 109 then some (Int32.ofNat (S.2 o).2) else none
/-- the pool's entry n of the class own is the field k of the class c -/
def jFL (own : String) (n c k : Nat) : Prop := Cond.fieldLink own n (cT c k).1 (cT c k).2.1 (cT c k).2.2.1 ∈ gw ∧ c < 13 ∧ k < nF c
theorem adr_lt {G : jG} {o : Nat} (h : o < 1000000) : adr G o = jgb G + o := if_pos h
theorem cv_ref {G : jG} {o : Nat} (h : o < 1000000) : cv G (ar (some o)) = .ref (jgb G + o) := by
  show va_rf ((some o).map (adr G)) = _
  simp [va_rf, adr_lt h]
section
variable {G : jG} {M : jM} {Q : jQ} {cs ss pc : Nat} {ls : List (Nat × AV)} {st : List AV} {h : hS × hV}
theorem wd_obj {H : Heap} {c o : Nat} (hw : wd G h H) (hc : c < 13) (ho : o < h.1.1) (hk : (h.1.2 o).1 = c) : t_OB (jgb G + o) (jgC G c) (nF c) (jgI G c) H (fun i => cv G (fv (cTy c i) h.2 o i)) := by
  have h3 := hw.2.2.1 o ho
  unfold wcell at h3
  rw [hk, if_pos (by omega)] at h3
  exact h3
theorem wd_arr {H : Heap} {k o : Nat} (hw : wd G h H) (hc : 100 ≤ k) (ho : o < h.1.1) (hk : (h.1.2 o).1 = k) : H[jgb G + o]? = some (arrV (jgA G k) (h.1.2 o).2 (fun j => cv G (fv (aTy k) h.2 o j))) := by
  have h3 := hw.2.2.1 o ho
  unfold wcell at h3
  rw [hk, if_neg (by omega)] at h3
  exact h3
theorem j_get {n : Nat} (c k : Nat) {o : Nat} {r : Option Nat} (hd : decode (jmc M) pc = .ok (.getfield n, 3)) (hf : jFL (jmo M) n c k) (hr : rc h.1 c r = some o) (kk : jJ G M Q cs ss (pc + 3) ls (fv (cTy c k) h.2 o k :: st) h) : jJ G M Q cs ss pc ls (ar r :: st) h := by
  intro p e s m args below meth c0 C H locs la hw hL hl
  obtain ⟨rfl, ho, hk⟩ := rc_spec hr
  obtain ⟨hlink, hc, hkn⟩ := hf
  obtain ⟨cell, q1, q2, q3, q4⟩ := wd_obj hw hc ho hk
  obtain ⟨hx, hb, -, -, hown, hts, -, hKn, -⟩ := id C
  obtain ⟨hS, hfc, kC, hkC, hkind⟩ := hKn.1 c hc
  obtain ⟨cf, kf, fi, f, hi, hsl⟩ := hS k hkn
  have kk := kk p e s m args below meth c0 C H locs la hw hL hl
  have ho2 : o < 1000000 := by have := hw.2.1; omega
  show W p (jgl G) e (jmR M) s m args below meth c0 H locs cs ss (Q below args s) (F0 m pc la (cv G (ar (some o)) :: st.map (cv G)))
  rw [cv_ref ho2]
  exact W.getf hx hb hown (hts _ hlink) hi (u_facts hfc hkC (u_lays hts (c_lay c hc) hkn) hi).1 q1 (by rw [q3]; exact fun h => by cases h) (by rw [hsl]; exact q4 k hkn) rfl rfl hd kk
theorem j_put {n : Nat} (c k : Nat) {o : Nat} {v : AV} (V' : hV) (hd : decode (jmc M) pc = .ok (.putfield n, 3)) (hf : jFL (jmo M) n c k) (ho : o < h.1.1 ∧ (h.1.2 o).1 = c) (hfin : (cT c k).2.2.2 = false ∨ ((cT c k).2.2.2 = true ∧ (jmy M).name = "<init>" ∧ (cT c k).1 = jmo M))
    (hn : narrow (cTy c k) (cv G v) = cv G v) (hfit : fits (cTy c k) (cv G v) = true) (hnew : fv (cTy c k) V' o k = v) (hsame : ∀ i, i ≠ k → ∀ ty, fv ty V' o i = fv ty h.2 o i) (hoth : ∀ q, q ≠ o → ∀ i, V'.1 q i = h.2.1 q i ∧ V'.2.1 q i = h.2.2.1 q i ∧ V'.2.2 q i = h.2.2.2 q i)
    (kk : jJ G M Q cs ss (pc + 3) ls st (h.1, V')) : jJ G M Q cs ss pc ls (v :: ar (some o) :: st) h := by
  intro p e s m args below meth c0 C H locs la hw hL hl
  obtain ⟨ho, hk⟩ := ho
  obtain ⟨hlink, hc, hkn⟩ := hf
  obtain ⟨cell, q1, q2, q3, q4⟩ := wd_obj hw hc ho hk
  obtain ⟨hx, hb, -, -, hown, hts, -, hKn, hnm⟩ := id C
  obtain ⟨hS, hfc, kC, hkC, hkind⟩ := hKn.1 c hc
  obtain ⟨cf, kf, fi, f, hi, hsl⟩ := hS k hkn
  have hlay := hts _ (c_lay c hc _ (u_in_lay hkn))
  have hst := (u_facts hfc hkC (u_lays hts (c_lay c hc) hkn) hi).1
  have ho2 : o < 1000000 := by have := hw.2.1; omega
  have hap : ∀ x y, x < nF c → y < nF c → x ≠ y → (jgI G c) x ≠ (jgI G c) y := by
    intro x y hx hy hne
    obtain ⟨_, _, _, fa, hia, ea⟩ := hS x hx
    obtain ⟨_, _, _, fb, hib, eb⟩ := hS y hy
    rw [← ea, ← eb]
    refine u_apart (u_lays hts (c_lay c hc) hx) (u_lays hts (c_lay c hc) hy) hia hib ?_
    rw [(State.fieldFound?_type hia (c_ty c hc x hx)).1, (State.fieldFound?_type hib (c_ty c hc y hy)).1]
    exact c_nm c hc x hx y hy hne
  have hty := c_ty c hc k hkn
  show W p (jgl G) e (jmR M) s m args below meth c0 H locs cs ss (Q below args s) (F0 m pc la (cv G v :: cv G (ar (some o)) :: st.map (cv G)))
  rw [cv_ref ho2]
  have fin : ∀ H' : Heap, H'[jgb G + o]? = some (cell.setSlot f.slot (cv G v)) → H'.size = H.size → (∀ q, q ≠ jgb G + o → H'[q]? = H[q]?) → W p (jgl G) e (jmR M) s m args below meth c0 H' (locs ++ [⟨jgb G + o, f.slot⟩]) cs ss (Q below args s) (F0 m (pc + 3) la (st.map (cv G))) := by
    intro H' e1 e2 e3
    refine kk p e s m args below meth c0 C H' _ la (wd_put (V := h.2) hw e2 e3 hoth (fun _ => ?_)) (fun q hq => ?_) hl
    · unfold wcell
      rw [hk, if_pos (by omega)]
      rw [hsl] at e1
      refine t_OB.to (V := updV (fun i => cv G (fv (cTy c i) h.2 o i)) k (cv G v)) ⟨_, e1, q2, q3, t_set q4 hap hkn (cv G v)⟩ (fun i hi => ?_)
      by_cases e : i = k
      · subst e; simp [updV, hnew]
      · simp [updV, e, hsame i e]
    · rcases List.mem_append.mp hq with h1 | h1
      · exact hL q h1
      · rw [List.mem_singleton.mp h1]; exact Nat.le_add_right _ _
  unfold u_lay at hlay
  rcases hfin with hfin | ⟨hfin, hin, hdecl⟩
  · rw [if_neg (by rw [hfin]; decide)] at hlay
    exact W.putK hx hb (f := f) ⟨hown, hts _ hlink, ⟨_, _, _, hi⟩, hst⟩ (by rw [q2]; exact u_store hfc hkC hkind hlay hi hty hn hfit) q1 q3 (by rw [hsl]; exact k2_hasslot (q4 k hkn)) rfl rfl hd fin
  · rw [if_pos hfin] at hlay
    have hcf : m.cls = cf := by
      obtain ⟨_, _, c', _, _, _, -, -, hf', -, -, -, hown2, -⟩ := Cond.laysFinal_spec hlay
      have e1 : c' = cf := by have := hi.symm.trans hf'; simp at this; exact this.1.symm
      rw [hdecl] at hown2
      rw [← e1]; exact Option.some.inj (hown.symm.trans hown2)
    exact W.putFinK hx hb hown (hts _ hlink) hi hst hcf (hnm.trans hin) (by rw [q2]; exact u_fits hfc hkC hkind (Or.inr hlay) hi hty hn hfit) q1 q3 (by rw [hsl]; exact k2_hasslot (q4 k hkn)) rfl rfl hd fin
theorem j_getI {n c k : Nat} {r : Option Nat} {x : Int32} (hd : decode (jmc M) pc = .ok (.getfield n, 3)) (hf : jFL (jmo M) n c k) (hg : gI h.1 c k h.2 r = some x) (ht : ∀ (V : hV) (o : Nat), fv (cTy c k) V o k = ai (V.1 o k)) (kk : jJ G M Q cs ss (pc + 3) ls (ai x :: st) h) : jJ G M Q cs ss pc ls (ar r :: st) h := by
  obtain ⟨o, ho, rfl⟩ := Option.map_eq_some_iff.mp hg
  exact j_get c k hd hf ho (by rw [ht]; exact kk)
theorem j_getL {n c k : Nat} {r : Option Nat} {x : Int64} (hd : decode (jmc M) pc = .ok (.getfield n, 3)) (hf : jFL (jmo M) n c k) (hg : gL h.1 c k h.2 r = some x) (ht : ∀ (V : hV) (o : Nat), fv (cTy c k) V o k = al (V.2.1 o k)) (kk : jJ G M Q cs ss (pc + 3) ls (al x :: st) h) : jJ G M Q cs ss pc ls (ar r :: st) h := by
  obtain ⟨o, ho, rfl⟩ := Option.map_eq_some_iff.mp hg
  exact j_get c k hd hf ho (by rw [ht]; exact kk)
theorem j_getR {n c k : Nat} {r : Option Nat} {x : Option Nat} (hd : decode (jmc M) pc = .ok (.getfield n, 3)) (hf : jFL (jmo M) n c k) (hg : gR h.1 c k h.2 r = some x) (ht : ∀ (V : hV) (o : Nat), fv (cTy c k) V o k = ar (V.2.2 o k)) (kk : jJ G M Q cs ss (pc + 3) ls (ar x :: st) h) : jJ G M Q cs ss pc ls (ar r :: st) h := by
  obtain ⟨o, ho, rfl⟩ := Option.map_eq_some_iff.mp hg
  exact j_get c k hd hf ho (by rw [ht]; exact kk)
theorem j_putI {n c k : Nat} {r : Option Nat} {x : Int32} {V' : hV} (hd : decode (jmc M) pc = .ok (.putfield n, 3)) (hf : jFL (jmo M) n c k) (hp : pI h.1 c k h.2 r x = some V') (hty : cTy c k = .int) (hfin : (cT c k).2.2.2 = false ∨ ((cT c k).2.2.2 = true ∧ (jmy M).name = "<init>" ∧ (cT c k).1 = jmo M)) (kk : jJ G M Q cs ss (pc + 3) ls st (h.1, V')) : jJ G M Q cs ss pc ls (ai x :: ar r :: st) h := by
  obtain ⟨o, ho, rfl⟩ := Option.map_eq_some_iff.mp hp
  obtain ⟨rfl, h1, h2⟩ := rc_spec ho
  refine j_put c k (hup h.2.1 o k x, h.2.2) hd hf ⟨h1, h2⟩ hfin (by rw [hty]; rfl) (by rw [hty]; rfl) (by rw [hty]; show ai (hup h.2.1 o k x o k) = _; rw [hup_same]) (fun i hi ty => fv_congr ty (hup_ix _ _ _ hi) rfl rfl) (fun q hq i => ⟨hup_obj _ _ _ hq, rfl, rfl⟩) kk
theorem j_putZ {n c k : Nat} {r : Option Nat} {x : Int32} {V' : hV} (hd : decode (jmc M) pc = .ok (.putfield n, 3)) (hf : jFL (jmo M) n c k) (hp : pZ h.1 c k h.2 r x = some V') (hty : cTy c k = .boolean) (hfin : (cT c k).2.2.2 = false ∨ ((cT c k).2.2.2 = true ∧ (jmy M).name = "<init>" ∧ (cT c k).1 = jmo M)) (kk : jJ G M Q cs ss (pc + 3) ls st (h.1, V')) : jJ G M Q cs ss pc ls (ai x :: ar r :: st) h := by
  unfold pZ at hp
  by_cases hx : x = 0 ∨ x = 1
  · rw [if_pos hx] at hp
    obtain ⟨o, ho, rfl⟩ := Option.map_eq_some_iff.mp hp
    obtain ⟨rfl, h1, h2⟩ := rc_spec ho
    refine j_put c k (hup h.2.1 o k x, h.2.2) hd hf ⟨h1, h2⟩ hfin (by rw [hty]; rcases hx with rfl | rfl <;> rfl) (by rw [hty]; rcases hx with rfl | rfl <;> rfl) (by rw [hty]; show ai (hup h.2.1 o k x o k) = _; rw [hup_same]) (fun i hi ty => fv_congr ty (hup_ix _ _ _ hi) rfl rfl) (fun q hq i => ⟨hup_obj _ _ _ hq, rfl, rfl⟩) kk
  · rw [if_neg hx] at hp; cases hp
theorem j_putL {n c k : Nat} {r : Option Nat} {x : Int64} {V' : hV} (hd : decode (jmc M) pc = .ok (.putfield n, 3)) (hf : jFL (jmo M) n c k) (hp : pL h.1 c k h.2 r x = some V') (hty : cTy c k = .long) (hfin : (cT c k).2.2.2 = false ∨ ((cT c k).2.2.2 = true ∧ (jmy M).name = "<init>" ∧ (cT c k).1 = jmo M)) (kk : jJ G M Q cs ss (pc + 3) ls st (h.1, V')) : jJ G M Q cs ss pc ls (al x :: ar r :: st) h := by
  obtain ⟨o, ho, rfl⟩ := Option.map_eq_some_iff.mp hp
  obtain ⟨rfl, h1, h2⟩ := rc_spec ho
  refine j_put c k (h.2.1, hup h.2.2.1 o k x, h.2.2.2) hd hf ⟨h1, h2⟩ hfin (by rw [hty]; rfl) (by rw [hty]; rfl) (by rw [hty]; show al (hup h.2.2.1 o k x o k) = _; rw [hup_same]) (fun i hi ty => fv_congr ty rfl (hup_ix _ _ _ hi) rfl) (fun q hq i => ⟨rfl, hup_obj _ _ _ hq, rfl⟩) kk
theorem j_putR {n c k : Nat} {r : Option Nat} {x : Option Nat} {V' : hV} (hd : decode (jmc M) pc = .ok (.putfield n, 3)) (hf : jFL (jmo M) n c k) (hp : pR h.1 c k h.2 r x = some V') (hty : (∃ q, cTy c k = .object q) ∨ ∃ q, cTy c k = .array q) (hfin : (cT c k).2.2.2 = false ∨ ((cT c k).2.2.2 = true ∧ (jmy M).name = "<init>" ∧ (cT c k).1 = jmo M)) (kk : jJ G M Q cs ss (pc + 3) ls st (h.1, V')) : jJ G M Q cs ss pc ls (ar x :: ar r :: st) h := by
  obtain ⟨o, ho, rfl⟩ := Option.map_eq_some_iff.mp hp
  obtain ⟨rfl, h1, h2⟩ := rc_spec ho
  have e : ∀ V : hV, fv (cTy c k) V o k = ar (V.2.2 o k) := by
    intro V
    rcases hty with ⟨q, hty⟩ | ⟨q, hty⟩ <;> rw [hty] <;> rfl
  refine j_put c k (h.2.1, h.2.2.1, hup h.2.2.2 o k x) hd hf ⟨h1, h2⟩ hfin (by rcases hty with ⟨q, hty⟩ | ⟨q, hty⟩ <;> rw [hty] <;> cases x <;> rfl) (by rcases hty with ⟨q, hty⟩ | ⟨q, hty⟩ <;> rw [hty] <;> cases x <;> rfl) (by rw [e]; show ar (hup h.2.2.2 o k x o k) = _; rw [hup_same]) (fun i hi ty => fv_congr ty rfl rfl (hup_ix _ _ _ hi)) (fun q hq i => ⟨rfl, rfl, hup_obj _ _ _ hq⟩) kk
theorem j_aldI {r : Option Nat} {i : Int32} {x : Int32} (hd : decode (jmc M) pc = .ok (.iaload, 1)) (hg : aI h.1 h.2 r i = some x) (kk : jJ G M Q cs ss (pc + 1) ls (ai x :: st) h) : jJ G M Q cs ss pc ls (ai i :: ar r :: st) h := by
  intro p e s m args below meth c0 C H locs la hw hL hl
  obtain ⟨o, ho, rfl⟩ := Option.map_eq_some_iff.mp hg
  obtain ⟨rfl, h1, h2, h3, h4⟩ := rx_spec ho
  have ho2 : o < 1000000 := by have := hw.2.1; omega
  have hcell := wd_arr hw (by omega) h1 h2
  have kk := kk p e s m args below meth c0 C H locs la hw hL hl
  show W p (jgl G) e (jmR M) s m args below meth c0 H locs cs ss (Q below args s) (F0 m pc la (.int i :: cv G (ar (some o)) :: st.map (cv G)))
  rw [cv_ref ho2]
  exact W.iald C.1 C.2.1 hcell ((C.2.2.2.2.2.2.2.1.2.1 100 (by omega) (by omega)).1 _ _) (fun q => by cases q) (by rw [arrV_size]; rintro (q | q); exact h3 q; omega) (arrV_read _ _ h4) rfl rfl hd kk
theorem j_aldB {r : Option Nat} {i : Int32} {x : Int32} (hd : decode (jmc M) pc = .ok (.baload, 1)) (hg : aB h.1 h.2 r i = some x) (kk : jJ G M Q cs ss (pc + 1) ls (ai x :: st) h) : jJ G M Q cs ss pc ls (ai i :: ar r :: st) h := by
  intro p e s m args below meth c0 C H locs la hw hL hl
  obtain ⟨o, ho, rfl⟩ := Option.map_eq_some_iff.mp hg
  obtain ⟨rfl, h1, h2, h3, h4⟩ := rx_spec ho
  have ho2 : o < 1000000 := by have := hw.2.1; omega
  have hcell := wd_arr hw (by omega) h1 h2
  have kk := kk p e s m args below meth c0 C H locs la hw hL hl
  show W p (jgl G) e (jmR M) s m args below meth c0 H locs cs ss (Q below args s) (F0 m pc la (.int i :: cv G (ar (some o)) :: st.map (cv G)))
  rw [cv_ref ho2]
  exact W.bald C.1 C.2.1 hcell ((C.2.2.2.2.2.2.2.1.2.1 101 (by omega) (by omega)).1 _ _) (fun q => by cases q) (by rw [arrV_size]; rintro (q | q); exact h3 q; omega) (arrV_read _ _ h4) rfl rfl hd kk
theorem j_aldZ {r : Option Nat} {i : Int32} {x : Int32} (hd : decode (jmc M) pc = .ok (.baload, 1)) (hg : aZ h.1 h.2 r i = some x) (kk : jJ G M Q cs ss (pc + 1) ls (ai x :: st) h) : jJ G M Q cs ss pc ls (ai i :: ar r :: st) h := by
  intro p e s m args below meth c0 C H locs la hw hL hl
  obtain ⟨o, ho, rfl⟩ := Option.map_eq_some_iff.mp hg
  obtain ⟨rfl, h1, h2, h3, h4⟩ := rx_spec ho
  have ho2 : o < 1000000 := by have := hw.2.1; omega
  have hcell := wd_arr hw (by omega) h1 h2
  have kk := kk p e s m args below meth c0 C H locs la hw hL hl
  show W p (jgl G) e (jmR M) s m args below meth c0 H locs cs ss (Q below args s) (F0 m pc la (.int i :: cv G (ar (some o)) :: st.map (cv G)))
  rw [cv_ref ho2]
  exact W.zald C.1 C.2.1 hcell ((C.2.2.2.2.2.2.2.1.2.1 102 (by omega) (by omega)).1 _ _) (fun q => by cases q) (by rw [arrV_size]; rintro (q | q); exact h3 q; omega) (arrV_read _ _ h4) rfl rfl hd kk
theorem j_aldL {r : Option Nat} {i : Int32} {x : Int64} (hd : decode (jmc M) pc = .ok (.laload, 1)) (hg : aL h.1 h.2 r i = some x) (kk : jJ G M Q cs ss (pc + 1) ls (al x :: st) h) : jJ G M Q cs ss pc ls (ai i :: ar r :: st) h := by
  intro p e s m args below meth c0 C H locs la hw hL hl
  obtain ⟨o, ho, rfl⟩ := Option.map_eq_some_iff.mp hg
  obtain ⟨rfl, h1, h2, h3, h4⟩ := rx_spec ho
  have ho2 : o < 1000000 := by have := hw.2.1; omega
  have hcell := wd_arr hw (by omega) h1 h2
  have kk := kk p e s m args below meth c0 C H locs la hw hL hl
  show W p (jgl G) e (jmR M) s m args below meth c0 H locs cs ss (Q below args s) (F0 m pc la (.int i :: cv G (ar (some o)) :: st.map (cv G)))
  rw [cv_ref ho2]
  exact W.lald C.1 C.2.1 hcell ((C.2.2.2.2.2.2.2.1.2.1 103 (by omega) (by omega)).1 _ _) (fun q => by cases q) (by rw [arrV_size]; rintro (q | q); exact h3 q; omega) (arrV_read _ _ h4) rfl rfl hd kk
theorem j_aldR (k : Nat) {r x : Option Nat} {i : Int32} (hd : decode (jmc M) pc = .ok (.aaload, 1)) (hk : 104 ≤ k ∧ k < 109) (hg : aR h.1 k h.2 r i = some x) (kk : jJ G M Q cs ss (pc + 1) ls (ar x :: st) h) : jJ G M Q cs ss pc ls (ai i :: ar r :: st) h := by
  intro p e s m args below meth c0 C H locs la hw hL hl
  obtain ⟨o, ho, rfl⟩ := Option.map_eq_some_iff.mp hg
  obtain ⟨rfl, h1, h2, h3, h4⟩ := rx_spec ho
  have ho2 : o < 1000000 := by have := hw.2.1; omega
  have hcell := wd_arr hw (by omega) h1 h2
  have kk := kk p e s m args below meth c0 C H locs la hw hL hl
  show W p (jgl G) e (jmR M) s m args below meth c0 H locs cs ss (Q below args s) (F0 m pc la (.int i :: cv G (ar (some o)) :: st.map (cv G)))
  rw [cv_ref ho2]
  have hty : (aTy k).isReference = true ∧ fv (aTy k) h.2 o i.toNatClampNeg = ar (h.2.2.2 o i.toNatClampNeg) := by
    obtain ⟨a, b⟩ := hk
    rcases (by omega : k = 104 ∨ k = 105 ∨ k = 106 ∨ k = 107 ∨ k = 108) with rfl | rfl | rfl | rfl | rfl <;> exact ⟨rfl, rfl⟩
  exact W.aald C.1 C.2.1 hcell ((C.2.2.2.2.2.2.2.1.2.1 k (by omega) (by omega)).1 _ _) hty.1 (fun q => by cases q) (by rw [arrV_size]; rintro (q | q); exact h3 q; omega) ((arrV_read _ _ h4).trans (by rw [hty.2])) rfl rfl hd kk
theorem j_alen {r : Option Nat} {x : Int32} (hd : decode (jmc M) pc = .ok (.arraylength, 1)) (hg : aN h.1 r = some x) (kk : jJ G M Q cs ss (pc + 1) ls (ai x :: st) h) : jJ G M Q cs ss pc ls (ar r :: st) h := by
  intro p e s m args below meth c0 C H locs la hw hL hl
  cases r with
  | none => cases hg
  | some o =>
    unfold aN at hg
    by_cases hq : o < h.1.1 ∧ 100 ≤ (h.1.2 o).1 ∧ (h.1.2 o).1 < 109
    · simp only [if_pos hq] at hg
      cases hg
      obtain ⟨h1, h2, h3⟩ := hq
      have ho2 : o < 1000000 := by have := hw.2.1; omega
      have hcell := wd_arr hw h2 h1 rfl
      have kk := kk p e s m args below meth c0 C H locs la hw hL hl
      show W p (jgl G) e (jmR M) s m args below meth c0 H locs cs ss (Q below args s) (F0 m pc la (cv G (ar (some o)) :: st.map (cv G)))
      rw [cv_ref ho2]
      exact W.alen (n := Int32.ofNat (h.1.2 o).2) C.1 C.2.1 hcell ((C.2.2.2.2.2.2.2.1.2.1 _ h2 h3).1 _ _) (by rw [arrV_size] <;> rfl) rfl rfl hd kk
    · simp only [if_neg hq] at hg
      cases hg
theorem wd_ast {S : hS} {V V' : hV} {H H1 : Heap} {k o j : Nat} {x : AV} (hw : wd G (S, V) H) (hk1 : 100 ≤ k) (hk : (S.2 o).1 = k) (hz : H1.size = H.size) (hq : ∀ q : Nat, q ≠ jgb G + o → H1[q]? = H[q]?) (hv : ∀ q, q ≠ o → ∀ i, V'.1 q i = V.1 q i ∧ V'.2.1 q i = V.2.1 q i ∧ V'.2.2 q i = V.2.2 q i)
    (hn : H1[jgb G + o]? = some ((arrV (jgA G k) (S.2 o).2 (fun j => cv G (fv (aTy k) V o j))).setSlot j (cv G x))) (hnew : fv (aTy k) V' o j = x) (hold : ∀ i, i ≠ j → fv (aTy k) V' o i = fv (aTy k) V o i) : wd G (S, V') H1 := by
  refine wd_put hw hz hq hv (fun _ => ?_)
  unfold wcell
  rw [hk, if_neg (by omega), hn, arrV_store]
  congr 2
  funext i
  by_cases e : i = j
  · subst e; simp [updV, hnew]
  · simp [updV, e, hold i e]
theorem j_astI {r : Option Nat} {i : Int32} {x : Int32} {V' : hV} (hd : decode (jmc M) pc = .ok (.iastore, 1)) (hg : sI h.1 h.2 r i x = some V') (kk : jJ G M Q cs ss (pc + 1) ls st (h.1, V')) : jJ G M Q cs ss pc ls (ai x :: ai i :: ar r :: st) h := by
  intro p e s m args below meth c0 C H locs la hw hL hl
  obtain ⟨o, ho, rfl⟩ := Option.map_eq_some_iff.mp hg
  obtain ⟨rfl, h1, h2, h3, h4⟩ := rx_spec ho
  have ho2 : o < 1000000 := by have := hw.2.1; omega
  have hcell := wd_arr hw (by omega) h1 h2
  show W p (jgl G) e (jmR M) s m args below meth c0 H locs cs ss (Q below args s) (F0 m pc la (.int x :: .int i :: cv G (ar (some o)) :: st.map (cv G)))
  rw [cv_ref ho2]
  refine W.iast C.1 C.2.1 hcell ((C.2.2.2.2.2.2.2.1.2.1 100 (by omega) (by omega)).1 _ _) (fun q => by cases q) (by rw [arrV_size]; rintro (q | q); exact h3 q; omega) rfl rfl hd (fun H1 e1 e2 e3 => ?_)
  refine kk p e s m args below meth c0 C H1 _ la (wd_ast (k := 100) (o := o) (j := i.toNatClampNeg) (x := ai (x)) (V := h.2) hw (by omega) h2 e2 e3 (fun q hq i => ⟨hup_obj _ _ _ hq, rfl, rfl⟩) ?_ ?_ (fun i hi => fv_congr _ (hup_ix _ _ _ hi) rfl rfl)) (fun q hq => ?_) hl
  · rw [e1]
    rfl
  · show ai (hup _ o _ _ o _) = _
    rw [hup_same]
  · rcases List.mem_append.mp hq with q1 | q1
    · exact hL q q1
    · rw [List.mem_singleton.mp q1]; exact Nat.le_add_right _ _
theorem j_astB {r : Option Nat} {i : Int32} {x : Int32} {V' : hV} (hd : decode (jmc M) pc = .ok (.bastore, 1)) (hg : sB h.1 h.2 r i x = some V') (kk : jJ G M Q cs ss (pc + 1) ls st (h.1, V')) : jJ G M Q cs ss pc ls (ai x :: ai i :: ar r :: st) h := by
  intro p e s m args below meth c0 C H locs la hw hL hl
  obtain ⟨o, ho, rfl⟩ := Option.map_eq_some_iff.mp hg
  obtain ⟨rfl, h1, h2, h3, h4⟩ := rx_spec ho
  have ho2 : o < 1000000 := by have := hw.2.1; omega
  have hcell := wd_arr hw (by omega) h1 h2
  show W p (jgl G) e (jmR M) s m args below meth c0 H locs cs ss (Q below args s) (F0 m pc la (.int x :: .int i :: cv G (ar (some o)) :: st.map (cv G)))
  rw [cv_ref ho2]
  refine W.bast C.1 C.2.1 hcell ((C.2.2.2.2.2.2.2.1.2.1 101 (by omega) (by omega)).1 _ _) (fun q => by cases q) (by rw [arrV_size]; rintro (q | q); exact h3 q; omega) rfl rfl hd (fun H1 e1 e2 e3 => ?_)
  refine kk p e s m args below meth c0 C H1 _ la (wd_ast (k := 101) (o := o) (j := i.toNatClampNeg) (x := ai (i2bv x)) (V := h.2) hw (by omega) h2 e2 e3 (fun q hq i => ⟨hup_obj _ _ _ hq, rfl, rfl⟩) ?_ ?_ (fun i hi => fv_congr _ (hup_ix _ _ _ hi) rfl rfl)) (fun q hq => ?_) hl
  · rw [e1]
    rfl
  · show ai (hup _ o _ _ o _) = _
    rw [hup_same]
  · rcases List.mem_append.mp hq with q1 | q1
    · exact hL q q1
    · rw [List.mem_singleton.mp q1]; exact Nat.le_add_right _ _
theorem j_astZ {r : Option Nat} {i : Int32} {x : Int32} {V' : hV} (hd : decode (jmc M) pc = .ok (.bastore, 1)) (hg : sZ h.1 h.2 r i x = some V') (kk : jJ G M Q cs ss (pc + 1) ls st (h.1, V')) : jJ G M Q cs ss pc ls (ai x :: ai i :: ar r :: st) h := by
  intro p e s m args below meth c0 C H locs la hw hL hl
  obtain ⟨o, ho, rfl⟩ := Option.map_eq_some_iff.mp hg
  obtain ⟨rfl, h1, h2, h3, h4⟩ := rx_spec ho
  have ho2 : o < 1000000 := by have := hw.2.1; omega
  have hcell := wd_arr hw (by omega) h1 h2
  show W p (jgl G) e (jmR M) s m args below meth c0 H locs cs ss (Q below args s) (F0 m pc la (.int x :: .int i :: cv G (ar (some o)) :: st.map (cv G)))
  rw [cv_ref ho2]
  refine W.zast C.1 C.2.1 hcell ((C.2.2.2.2.2.2.2.1.2.1 102 (by omega) (by omega)).1 _ _) (fun q => by cases q) (by rw [arrV_size]; rintro (q | q); exact h3 q; omega) rfl rfl hd (fun H1 e1 e2 e3 => ?_)
  refine kk p e s m args below meth c0 C H1 _ la (wd_ast (k := 102) (o := o) (j := i.toNatClampNeg) (x := ai (x &&& 1)) (V := h.2) hw (by omega) h2 e2 e3 (fun q hq i => ⟨hup_obj _ _ _ hq, rfl, rfl⟩) ?_ ?_ (fun i hi => fv_congr _ (hup_ix _ _ _ hi) rfl rfl)) (fun q hq => ?_) hl
  · rw [e1]
    rfl
  · show ai (hup _ o _ _ o _) = _
    rw [hup_same]
  · rcases List.mem_append.mp hq with q1 | q1
    · exact hL q q1
    · rw [List.mem_singleton.mp q1]; exact Nat.le_add_right _ _
theorem j_astL {r : Option Nat} {i : Int32} {x : Int64} {V' : hV} (hd : decode (jmc M) pc = .ok (.lastore, 1)) (hg : sL h.1 h.2 r i x = some V') (kk : jJ G M Q cs ss (pc + 1) ls st (h.1, V')) : jJ G M Q cs ss pc ls (al x :: ai i :: ar r :: st) h := by
  intro p e s m args below meth c0 C H locs la hw hL hl
  obtain ⟨o, ho, rfl⟩ := Option.map_eq_some_iff.mp hg
  obtain ⟨rfl, h1, h2, h3, h4⟩ := rx_spec ho
  have ho2 : o < 1000000 := by have := hw.2.1; omega
  have hcell := wd_arr hw (by omega) h1 h2
  show W p (jgl G) e (jmR M) s m args below meth c0 H locs cs ss (Q below args s) (F0 m pc la (.long x :: .int i :: cv G (ar (some o)) :: st.map (cv G)))
  rw [cv_ref ho2]
  refine W.last C.1 C.2.1 hcell ((C.2.2.2.2.2.2.2.1.2.1 103 (by omega) (by omega)).1 _ _) (fun q => by cases q) (by rw [arrV_size]; rintro (q | q); exact h3 q; omega) rfl rfl hd (fun H1 e1 e2 e3 => ?_)
  refine kk p e s m args below meth c0 C H1 _ la (wd_ast (k := 103) (o := o) (j := i.toNatClampNeg) (x := al (x)) (V := h.2) hw (by omega) h2 e2 e3 (fun q hq i => ⟨rfl, hup_obj _ _ _ hq, rfl⟩) ?_ ?_ (fun i hi => fv_congr _ rfl (hup_ix _ _ _ hi) rfl)) (fun q hq => ?_) hl
  · rw [e1]
    rfl
  · show al (hup _ o _ _ o _) = _
    rw [hup_same]
  · rcases List.mem_append.mp hq with q1 | q1
    · exact hL q q1
    · rw [List.mem_singleton.mp q1]; exact Nat.le_add_right _ _
end
