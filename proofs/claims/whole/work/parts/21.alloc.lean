/-! ===== cells that are made ===== -/
def fill0 (V : hV) (n : Nat) : hV := (fun o k => if o = n then 0 else V.1 o k, fun o k => if o = n then 0 else V.2.1 o k, fun o k => if o = n then none else V.2.2 o k)
/-- one more cell, of this kind and length, empty -/
def nw (k : Nat × Nat) (h : hS × hV) : hS × hV := ((h.1.1 + 1, va_up h.1.2 h.1.1 k), fill0 h.2 h.1.1)
/-- an array of two rows of n places -/
def nwM (ko ki n : Nat) (h : hS × hV) : hS × hV :=
  let h1 := nw (ki, n) (nw (ki, n) (nw (ko, 2) h))
  (h1.1, h1.2.1, h1.2.2.1, hup (hup h1.2.2.2 h.1.1 0 (some (h.1.1 + 1))) h.1.1 1 (some (h.1.1 + 2)))
def nwO (k : Nat × Nat) (h : hS × hV) : Option (hS × hV) := if h.1.1 < 900000 then some (nw k h) else none
theorem nwO_spec {k : Nat × Nat} {h h' : hS × hV} (hg : nwO k h = some h') : h.1.1 < 900000 ∧ h' = nw k h := by
  unfold nwO at hg
  by_cases hc : h.1.1 < 900000
  · rw [if_pos hc] at hg; exact ⟨hc, (Option.some.inj hg).symm⟩
  · rw [if_neg hc] at hg; cases hg
theorem nwO_lt {k : Nat × Nat} {h h' : hS × hV} (hg : nwO k h = some h') : h.1.1 < 1000000 := Nat.lt_trans (nwO_spec hg).1 (by decide)
def nwMO (ko ki n : Nat) (h : hS × hV) : Option (hS × hV) := if h.1.1 < 900000 then some (nwM ko ki n h) else none
theorem nwMO_spec {ko ki n : Nat} {h h' : hS × hV} (hg : nwMO ko ki n h = some h') : h.1.1 < 900000 ∧ h' = nwM ko ki n h := by
  unfold nwMO at hg
  by_cases hc : h.1.1 < 900000
  · rw [if_pos hc] at hg; exact ⟨hc, (Option.some.inj hg).symm⟩
  · rw [if_neg hc] at hg; cases hg
/-- guards of the loops that make cells -/
def jgd (i : Int32) (n : Nat) : Option Unit := if i.toNatClampNeg ≤ n then some () else none
def jgs (i : Int32) (n : Nat) : Option Unit := if ¬ i < 0 ∧ i.toNatClampNeg < n ∧ n < 1000 then some () else none
theorem jgd_all {i : Int32} {n : Nat} {u : Unit} (h : jgd i n = some u) {a k b : Nat} (hb : a + k * n = b := by rfl) : a + k * i.toNatClampNeg ≤ b := by
  unfold jgd at h
  by_cases hc : i.toNatClampNeg ≤ n
  · subst hb
    exact Nat.add_le_add_left (Nat.mul_le_mul_left k hc) a
  · rw [if_neg hc] at h; cases h
theorem jgs_spec {i : Int32} {n : Nat} {u : Unit} (h : jgs i n = some u) : ¬ i < 0 ∧ i.toNatClampNeg < n ∧ n < 1000 := by
  unfold jgs at h
  by_cases hc : ¬ i < 0 ∧ i.toNatClampNeg < n ∧ n < 1000
  · exact hc
  · rw [if_neg hc] at h; cases h
theorem jgs_lt {i : Int32} {n : Nat} {u : Unit} (h : jgs i n = some u) : i.toNatClampNeg < n := (jgs_spec h).2.1
theorem jgs_next {i : Int32} {n : Nat} {u : Unit} (h : jgs i n = some u) {a k : Nat} : a + k * i.toNatClampNeg + k ≤ a + k * (i + 1).toNatClampNeg := by
  obtain ⟨h1, h2, h3⟩ := jgs_spec h
  obtain ⟨j, hj, rfl⟩ := nI_of h1
  rw [nI_clamp hj] at h2 ⊢
  rw [nI_1, nI_clamp (by omega), Nat.mul_succ]
  omega
theorem jrm {a k i N R e : Nat} (h : i < N) (he : e ≤ k) (hR : a + k * N ≤ R) : a + k * i + e ≤ R := by
  have h1 : k * i + k ≤ k * N := by
    rw [← Nat.mul_succ]
    exact Nat.mul_le_mul_left k h
  omega
theorem jrm2 {a k i N R e f : Nat} (h : i < N) (he : e + f ≤ k) (hR : a + k * N ≤ R) : a + k * i + e + f ≤ R := by
  have h1 := jrm (e := e + f) h he hR
  omega
theorem rc_self {S : hS} {c x o : Nat} (h : rc S c (some x) = some o) : x < S.1 ∧ (S.2 x).1 = c := by
  obtain ⟨e, h1, h2⟩ := rc_spec h
  cases e
  exact ⟨h1, h2⟩
theorem c_nofl : ∀ c, c < 13 → ∀ i, i < nF c → cTy c i ≠ .float ∧ cTy c i ≠ .double := by decide +kernel
theorem fv_fill (G : jG) (ty : FieldType) (h : ty ≠ .float ∧ ty ≠ .double) (V : hV) (n i : Nat) : defaultValue ty = cv G (fv ty (fill0 V n) n i) := by
  cases ty <;> first | exact absurd rfl h.1 | exact absurd rfl h.2 | (simp [fill0, fv, cv, va_rf, defaultValue])
theorem wcell_obj {G : jG} {S : hS} {V : hV} {H : Heap} {k c n : Nat} (e : S.2 k = (c, n)) (hc : c < 100) (h : t_OB (jgb G + k) (jgC G c) (nF c) (jgI G c) H (fun i => cv G (fv (cTy c i) V k i))) : wcell G S V H k := by
  unfold wcell
  rw [e, if_pos hc]
  exact h
theorem wcell_arr {G : jG} {S : hS} {V : hV} {H : Heap} {k c n : Nat} (e : S.2 k = (c, n)) (hc : ¬ c < 100) (h : H[jgb G + k]? = some (arrV (jgA G c) n (fun j => cv G (fv (aTy c) V k j)))) : wcell G S V H k := by
  unfold wcell
  rw [e, if_neg hc]
  exact h
theorem wcell_same {G : jG} {S S' : hS} {V : hV} {H : Heap} {k : Nat} (e : S'.2 k = S.2 k) (h : wcell G S V H k) : wcell G S' V H k := by
  unfold wcell at h ⊢
  rw [e]
  exact h
theorem wd_push {G : jG} {S : hS} {V V' : hV} {k : Nat × Nat} {H H1 : Heap} (hw : wd G (S, V) H) (hlt : S.1 < 900000) (hz : H1.size = H.size + 1) (hq : ∀ q : Nat, q < H.size → H1[q]? = H[q]?) (hv : ∀ o, o ≠ S.1 → ∀ i, V'.1 o i = V.1 o i ∧ V'.2.1 o i = V.2.1 o i ∧ V'.2.2 o i = V.2.2 o i) (hn : wcell G (S.1 + 1, va_up S.2 S.1 k) V' H1 S.1) : wd G ((S.1 + 1, va_up S.2 S.1 k), V') H1 := by
  obtain ⟨h1, h2, h3, h4⟩ := hw
  have h1 : H.size = jgb G + S.1 := h1
  refine ⟨?_, ?_, fun o ho => ?_, fun q hlt => (hq q (by omega)).trans (h4 q hlt)⟩
  · show H1.size = jgb G + (S.1 + 1)
    omega
  · show S.1 + 1 ≤ 1000000
    omega
  · by_cases e : o = S.1
    · subst e; exact hn
    · have ho' : o < S.1 + 1 := ho
      have hc : wcell G S V' H1 o := wcell_kept (h3 o (by show o < S.1; omega)) (hq _ (by omega)) (hv o e)
      exact wcell_same (va_up_ne _ _ e) hc
theorem fill0_ne {V : hV} {n o : Nat} (h : o ≠ n) (i : Nat) : (fill0 V n).1 o i = V.1 o i ∧ (fill0 V n).2.1 o i = V.2.1 o i ∧ (fill0 V n).2.2 o i = V.2.2 o i := by
  simp [fill0, h]
section
variable {G : jG} {M : jM} {Q : jQ} {cs ss pc : Nat} {ls : List (Nat × AV)} {st : List AV} {h : hS × hV}
theorem j_widen {cs' ss' : Nat} (h1 : cs ≤ cs') (h2 : ss ≤ ss') (kk : jJ G M Q cs' ss' pc ls st h) : jJ G M Q cs ss pc ls st h := by
  intro p e s m args below meth c0 C H locs la hw hL hl
  exact W.widen h1 h2 (kk p e s m args below meth c0 C H locs la hw hL hl)
theorem j_objInit {n o : Nat} (hd : decode (jmc M) pc = .ok (.invokespecial n, 3)) (hl : Cond.methodLink (jmo M) n objectInit ∈ gw) (ho : o < h.1.1) (hrs : (st.map jcat).sum ≤ 8) (hR : 1 ≤ (jmR M).frames ∧ 20 ≤ (jmR M).locals) (kk : jJ G M Q cs ss (pc + 3) ls st h) : jJ G M Q cs ss pc ls (ar (some o) :: st) h := by
  intro p e s m args below meth c0 C H locs la hw hL hl0
  have kk := kk p e s m args below meth c0 C H locs la hw hL hl0
  have hts := C.2.2.2.2.2.1
  show W p (jgl G) e (jmR M) s m args below meth c0 H locs cs ss (Q below args s) (F0 m pc la (cv G (ar (some o)) :: st.map (cv G)))
  rw [cv_ref (by have := hw.2.1; omega)]
  refine W.objInit C.1 C.2.1 C.2.2.2.2.1 (hts _ hl) (hts _ (gt1 28 rfl rfl)) (hts _ (gt1 29 rfl rfl)) rfl (hl0.1.trans C.2.2.2.1.symm) rfl hd hR.1 ?_ kk
  have := lv_room (m := m) (pc := pc) (ls := la) (rest := ([] : List Value)) (jsum (G := G) hrs)
  have e1 : (F0 m pc la (.ref (jgb G + o) :: st.map (cv G))).monitorRoom = 0 := rfl
  rw [e1]
  have := jsum (G := G) hrs
  omega
theorem j_new {n : Nat} (c : Nat) {h' : hS × hV} (hd : decode (jmc M) pc = .ok (.new n, 3)) (hc : c < 13) (hl : Cond.classLink (jmo M) n (cN c) ∈ gw) (hg : nwO (c, 0) h = some h') (hR : cs + 1 ≤ (jmR M).cells ∧ ss + nF c ≤ (jmR M).slots) (kk : jJ G M Q (cs + 1) (ss + nF c) (pc + 3) ls (ar (some h.1.1) :: st) h') : jJ G M Q cs ss pc ls st h := by
  intro p e s m args below meth c0 C H locs la hw hL hl0
  obtain ⟨hlt, rfl⟩ := nwO_spec hg
  have hts := C.2.2.2.2.2.1
  have hKn := C.2.2.2.2.2.2.2.1.1 c hc
  have hsz : H.size = jgb G + h.1.1 := hw.1
  refine W.newcK C.1 C.2.1 C.2.2.2.2.1 (hts _ hl) (hts _ (c_inst c hc)) (hts _ (c_init c hc)) rfl hd hR.1 hR.2 hKn.2.1 hsz (fun H1 kC hkC e1 z1 o1 => ?_)
  have kk := kk p e s m args below meth c0 C H1 locs la (wd_push (V := h.2) hw hlt (by omega) (fun q hq => o1 q (by omega)) (fun o ho i => fill0_ne ho i) ?_) hL hl0
  · have kk : W p (jgl G) e (jmR M) s m args below meth c0 H1 locs (cs + 1) (ss + nF c) (Q below args s) (F0 m (pc + 3) la (cv G (ar (some h.1.1)) :: st.map (cv G))) := kk
    rw [cv_ref (by omega)] at kk
    exact kk
  · exact wcell_obj (va_up_self _ _ _) (by omega) ((u_born (cTy c) hts (c_lay c hc) hKn hkC e1 (c_ty c hc)).to (fun j hj => fv_fill G _ (c_nofl c hc j hj) h.2 h.1.1 j))
theorem j_newa {at0 : ArrayType} (k : Nat) {h' : hS × hV} {n : Int32} {N : Nat} (hd : decode (jmc M) pc = .ok (.newarray at0, 2)) (hk : (100 ≤ k ∧ k < 104) ∧ newarray.typeOf at0 = aTy k) (hl : Cond.arrayClass (newarray.typeOf at0) ∈ gw) (hg : nwO (k, N) h = some h') (hn : ¬ n < 0 ∧ n.toNatClampNeg = N ∧ N ≤ 10000) (hR : cs + 1 ≤ (jmR M).cells ∧ ss + N ≤ (jmR M).slots) (kk : jJ G M Q (cs + 1) (ss + N) (pc + 2) ls (ar (some h.1.1) :: st) h') : jJ G M Q cs ss pc ls (ai n :: st) h := by
  intro p e s m args below meth c0 C H locs la hw hL hl0
  obtain ⟨hlt, rfl⟩ := nwO_spec hg
  have hts := C.2.2.2.2.2.1
  have hA := C.2.2.2.2.2.2.2.1.2.1 k hk.1.1 (by omega)
  have hsz : H.size = jgb G + h.1.1 := hw.1
  refine va_newaK C.1 C.2.1 (hts _ hl) rfl hd rfl hn.1 hn.2.1 ?_ hR.1 hR.2 hsz (fun H1 cA e1 z1 o1 hAr hNm => ?_)
  · have hb : componentBytes (newarray.typeOf at0) ≤ 8 := by cases at0 <;> decide
    have h1 : N * componentBytes (newarray.typeOf at0) ≤ 10000 * 8 := Nat.mul_le_mul hn.2.2 hb
    omega
  · have hcA : cA = jgA G k := by
      rw [hk.2] at hNm
      have h2 := hA.2
      obtain ⟨⟨k1, k2⟩, -⟩ := hk
      rcases (by omega : k = 100 ∨ k = 101 ∨ k = 102 ∨ k = 103) with rfl | rfl | rfl | rfl <;> exact Option.some.inj (hNm.symm.trans h2)
    subst hcA
    have kk := kk p e s m args below meth c0 C H1 locs la (wd_push (V := h.2) hw hlt (by omega) (fun q hq => o1 q (by omega)) (fun o ho i => fill0_ne ho i) ?_) hL hl0
    · have kk : W p (jgl G) e (jmR M) s m args below meth c0 H1 locs (cs + 1) (ss + N) (Q below args s) (F0 m (pc + 2) la (cv G (ar (some h.1.1)) :: st.map (cv G))) := kk
      rw [cv_ref (by omega)] at kk
      exact kk
    · refine wcell_arr (va_up_self _ _ _) (by omega) ?_
      rw [e1, hk.2]
      refine congrArg some (congrArg (arrV (jgA G k) N) (funext fun j => ?_))
      refine fv_fill G _ ?_ h.2 h.1.1 j
      obtain ⟨⟨k1, k2⟩, -⟩ := hk
      rcases (by omega : k = 100 ∨ k = 101 ∨ k = 102 ∨ k = 103) with rfl | rfl | rfl | rfl <;> exact ⟨by simp [aTy], by simp [aTy]⟩
theorem j_anew {m0 : Nat} (k : Nat) {E : String} {h' : hS × hV} {n : Int32} {N : Nat} (hd : decode (jmc M) pc = .ok (.anewarray m0, 3)) (hk : (104 ≤ k ∧ k < 107) ∧ aTy k = .object E) (hl : Cond.classLink (jmo M) m0 E ∈ gw) (hao : ∀ s, jKn G s → va_AO E s) (hg : nwO (k, N) h = some h') (hn : ¬ n < 0 ∧ n.toNatClampNeg = N ∧ N ≤ 10000) (hR : cs + 1 ≤ (jmR M).cells ∧ ss + N ≤ (jmR M).slots) (kk : jJ G M Q (cs + 1) (ss + N) (pc + 3) ls (ar (some h.1.1) :: st) h') : jJ G M Q cs ss pc ls (ai n :: st) h := by
  intro p e s m args below meth c0 C H locs la hw hL hl0
  obtain ⟨hlt, rfl⟩ := nwO_spec hg
  have hts := C.2.2.2.2.2.1
  have hA := C.2.2.2.2.2.2.2.1.2.1 k (by omega) (by omega)
  have hsz : H.size = jgb G + h.1.1 := hw.1
  obtain ⟨hn0, rfl, hn2⟩ := hn
  refine W.anew C.1 C.2.1 C.2.2.2.2.1 (hts _ hl) (hao s C.2.2.2.2.2.2.2.1).use rfl hd rfl hn0 (by omega) hR.1 hR.2 (fun cA kA comp g1 g2 g3 g4 => ?_)
  have hcA : cA = jgA G k := by
    have h2 := hA.2
    rw [hk.2] at h2
    obtain ⟨_, _, _, _, _, h5⟩ := h2
    exact Option.some.inj (g1.symm.trans h5)
  subst hcA
  rw [arrV_new]
  have hpush : ∀ q : Nat, q < H.size → (H.push (arrV (jgA G k) n.toNatClampNeg (fun _ => .null)))[q]? = H[q]? := fun q hq => by rw [Array.getElem?_push, if_neg (Nat.ne_of_lt hq)]
  have kk := kk p e s m args below meth c0 C (H.push (arrV (jgA G k) n.toNatClampNeg (fun _ => .null))) locs la (wd_push (V := h.2) hw hlt (by simp) hpush (fun o ho i => fill0_ne ho i) ?_) hL hl0
  · have kk : W p (jgl G) e (jmR M) s m args below meth c0 (H.push (arrV (jgA G k) n.toNatClampNeg (fun _ => .null))) locs (cs + 1) (ss + n.toNatClampNeg) (Q below args s) (F0 m (pc + 3) la (cv G (ar (some h.1.1)) :: st.map (cv G))) := kk
    rw [cv_ref (by omega), ← hsz] at kk
    exact kk
  · refine wcell_arr (va_up_self _ _ _) (by omega) ?_
    rw [← hsz, Array.getElem?_push, if_pos rfl]
    refine congrArg some (congrArg (arrV (jgA G k) n.toNatClampNeg) (funext fun j => ?_))
    rw [hk.2]
    simp [fill0, fv, cv, va_rf]
theorem j_ldcS {n i : Nat} {tx : String} (hd : decode (jmc M) pc = .ok (.ldc n, 2)) (hq : (jmo M, n, tx, i) ∈ sRefs) (kk : jJ G M Q cs ss (pc + 2) ls (ar (some (1000000 + i)) :: st) h) : jJ G M Q cs ss pc ls st h := by
  intro p e s m args below meth c0 C H locs la hw hL hl0
  have kk := kk p e s m args below meth c0 C H locs la hw hL hl0
  have kk : W p (jgl G) e (jmR M) s m args below meth c0 H locs cs ss (Q below args s) (F0 m (pc + 2) la (cv G (ar (some (1000000 + i))) :: st.map (cv G))) := kk
  rw [cv_str] at kk
  exact va_ldcS C.1 C.2.1 C.2.2.2.2.1 (C.2.2.2.2.2.2.2.1.2.2.2.2.1 _ hq) hd kk
end
theorem jouter (c : ClassId) (N h0 : Nat) : ∀ i : Nat, Jvm.Free.Multi.outerC c N h0 i = arrV c N (fun j => if j < i then .ref (h0 + 1 + j) else .null)
  | 0 => by
    show ({ cls := c, slots := Array.replicate N .null, vm := .none } : Cell) = _
    rw [arrV_new]
    exact congrArg (arrV c N) (funext fun j => by simp)
  | i + 1 => by
    show (Jvm.Free.Multi.outerC c N h0 i).setSlot i (.ref (h0 + 1 + i)) = _
    rw [jouter c N h0 i, arrV_store]
    congr 1
    funext j
    by_cases e : j = i
    · subst e; simp [updV]
    · by_cases h : j < i
      · simp [updV, e, h, Nat.lt_succ_of_lt h]
      · simp [updV, e, h, show ¬ j < i + 1 by omega]
def aS (S : hS) (k : Nat) (V : hV) (r : Option Nat) (i : Int32) (x : Option Nat) : Option hV := (rx S k r i).map fun o => (V.1, V.2.1, hup V.2.2 o i.toNatClampNeg x)
section
variable {G : jG} {M : jM} {Q : jQ} {cs ss pc : Nat} {ls : List (Nat × AV)} {st : List AV} {h : hS × hV}
theorem j_aast0 (k : Nat) {E : String} {r : Option Nat} {x a : Nat} {i : Int32} {V' : hV} (hd : decode (jmc M) pc = .ok (.aastore, 1)) (hk : (104 ≤ k ∧ k < 107) ∧ aTy k = .object E) (hcv : cv G (ar (some x)) = .ref a) (hx : ∀ (s : State) (H : Heap), jKn G s → wd G h H → ∃ cell : Cell, H[a]? = some cell ∧ cell.vm.isStatics = false ∧ s.vm.findClass E = some cell.cls) (hg : aS h.1 k h.2 r i (some x) = some V') (kk : jJ G M Q cs ss (pc + 1) ls st (h.1, V')) : jJ G M Q cs ss pc ls (ar (some x) :: ai i :: ar r :: st) h := by
  intro p e s m args below meth c0 C H locs la hw hL hl0
  obtain ⟨o, ho, rfl⟩ := Option.map_eq_some_iff.mp hg
  obtain ⟨rfl, h1, h2, h3, h4⟩ := rx_spec ho
  have ho2 : o < 1000000 := by have := hw.2.1; omega
  have hcell := wd_arr hw (by omega) h1 h2
  obtain ⟨cellV, g1, g2, g3⟩ := hx s H C.2.2.2.2.2.2.2.1 hw
  have hA := C.2.2.2.2.2.2.2.1.2.1 k (by omega) (by omega)
  obtain ⟨kC, hkC, -⟩ := Vm.findClass_spec g3
  have hRA := hA.2
  rw [hk.2] at hRA
  obtain ⟨kA, comp, k1, k2, k3, -⟩ := hRA
  have hcomp : comp = cellV.cls := Option.some.inj (k3.symm.trans g3)
  subst hcomp
  show W p (jgl G) e (jmR M) s m args below meth c0 H locs cs ss (Q below args s) (F0 m pc la (cv G (ar (some x)) :: .int i :: cv G (ar (some o)) :: st.map (cv G)))
  rw [hcv, cv_ref ho2]
  refine W.aast C.1 C.2.1 hcell (fun q h => by cases h) (fun h => by cases h) k1 k2 rfl hkC ⟨h3, by rw [arrV_size]; exact h4⟩ g1 (fun q h => by rw [h] at g2; cases g2) hkC (va_asg _ _) rfl rfl hd (fun H1 e1 e2 e3 => ?_)
  refine kk p e s m args below meth c0 C H1 _ la (wd_ast (k := k) (o := o) (j := i.toNatClampNeg) (x := ar (some x)) (V := h.2) hw (by omega) h2 e2 e3 (fun q hq i => ⟨rfl, rfl, hup_obj _ _ _ hq⟩) ?_ ?_ (fun i hi => fv_congr _ rfl rfl (hup_ix _ _ _ hi))) (fun q hq => ?_) hl0
  · rw [e1, hcv]
  · rw [hk.2]
    show ar (hup _ o _ _ o _) = _
    rw [hup_same]
  · rcases List.mem_append.mp hq with q1 | q1
    · exact hL q q1
    · rw [List.mem_singleton.mp q1]; exact Nat.le_add_right _ _
theorem j_aastO (k c : Nat) {r : Option Nat} {x : Nat} {i : Int32} {V' : hV} (hd : decode (jmc M) pc = .ok (.aastore, 1)) (hk : (104 ≤ k ∧ k < 107) ∧ aTy k = .object (cN c)) (hc : c < 13) (hx : x < h.1.1 ∧ (h.1.2 x).1 = c) (hg : aS h.1 k h.2 r i (some x) = some V') (kk : jJ G M Q cs ss (pc + 1) ls st (h.1, V')) : jJ G M Q cs ss pc ls (ar (some x) :: ai i :: ar r :: st) h := by
  intro p e s m args below meth c0 C H locs la hw hL hl0
  refine j_aast0 k hd hk (cv_ref (by have := hw.2.1; omega)) (fun s H hK hw => ?_) hg kk p e s m args below meth c0 C H locs la hw hL hl0
  obtain ⟨cell, q1, q2, q3, -⟩ := wd_obj hw hc hx.1 hx.2
  exact ⟨cell, q1, by rw [q3]; rfl, by rw [q2]; exact (hK.1 c hc).2.1⟩
theorem j_aastS {r : Option Nat} {n : Nat} {i : Int32} {V' : hV} (hd : decode (jmc M) pc = .ok (.aastore, 1)) (hn : n < 9) (hg : aS h.1 106 h.2 r i (some (1000000 + n)) = some V') (kk : jJ G M Q cs ss (pc + 1) ls st (h.1, V')) : jJ G M Q cs ss pc ls (ar (some (1000000 + n)) :: ai i :: ar r :: st) h := by
  refine j_aast0 106 hd ⟨⟨by omega, by omega⟩, rfl⟩ (cv_str n) (fun s H hK hw => ?_) hg kk
  obtain ⟨cell, q1, q2, q3, -⟩ := ((hK.2.2.2.1.1 n hn).1).kept (wd_old hw)
  exact ⟨cell, q1, q2, q3⟩
theorem wd_two {S S' : hS} {V V' : hV} {H : Heap} (hS : S'.1 = S.1 ∧ ∀ o, o < S.1 → S'.2 o = S.2 o) (hv : ∀ o, o < S.1 → ∀ i, V'.1 o i = V.1 o i ∧ V'.2.1 o i = V.2.1 o i ∧ V'.2.2 o i = V.2.2 o i) (hw : wd G (S, V) H) : wd G (S', V') H := by
  obtain ⟨h1, h2, h3, h4⟩ := hw
  refine ⟨by show H.size = jgb G + S'.1; rw [hS.1]; exact h1, by show S'.1 ≤ 1000000; rw [hS.1]; exact h2, fun k hk => ?_, h4⟩
  have hk' : k < S.1 := by rw [← hS.1]; exact hk
  have hc := wcell_kept (V' := V') (h3 k hk') rfl (hv k hk')
  exact wcell_same (hS.2 k hk') hc
theorem j_mna {m0 : Nat} (ko ki : Nat) {ty : FieldType} {h' : hS × hV} {k : Int32} {K : Nat} (hd : decode (jmc M) pc = .ok (.multianewarray m0 2, 4)) (ht : aTy ko = .array ty ∧ aTy ki = ty) (hk : (ko = 107 ∧ ki = 100) ∨ (ko = 108 ∧ ki = 103)) (hl : Cond.classLink (jmo M) m0 ("[" ++ (FieldType.array ty).toString) ∈ gw) (hl2 : Cond.arrayClass ty ∈ gw) (hao : ∀ s, jKn G s → jAO ty s) (hg : nwMO ko ki K h = some h') (hn : ¬ k < 0 ∧ k.toNatClampNeg = K ∧ K ≤ 10000) (hR : cs + 3 ≤ (jmR M).cells ∧ ss + (2 + 2 * K) ≤ (jmR M).slots) (kk : jJ G M Q (cs + 3) (ss + (2 + 2 * K)) (pc + 4) ls (ar (some h.1.1) :: st) h') : jJ G M Q cs ss pc ls (ai k :: ai 2 :: st) h := by
  intro p e s m args below meth c0 C H locs la hw hL hl0
  obtain ⟨hlt, rfl⟩ := nwMO_spec hg
  have hts := C.2.2.2.2.2.1
  have hKn := C.2.2.2.2.2.2.2.1
  have hAo := hKn.2.1 ko (by omega) (by omega)
  have hAi := hKn.2.1 ki (by omega) (by omega)
  have hsz : H.size = jgb G + h.1.1 := hw.1
  obtain ⟨hn0, rfl, hn2⟩ := hn
  have h2 : (2 : Int32).toNatClampNeg = 2 := by decide
  intro T hT Xs
  have hb : componentBytes ty ≤ 8 ∧ fits ty (defaultValue ty) = true ∧ (defaultValue ty).isDefault = true ∧ (ty ≠ .float ∧ ty ≠ .double) := by
    rw [← ht.2]
    rcases hk with ⟨-, rfl⟩ | ⟨-, rfl⟩ <;> exact ⟨by decide, by decide, by decide, by simp [aTy], by simp [aTy]⟩
  obtain ⟨vm₁, cA, comp, -, fA, fC, -, -, X', step⟩ := Xs.multianewarray2F C.1 C.2.2.2.2.1 (hts _ hl) (hao s hKn) (hts _ hl2) (g := F0 m pc la (.int k :: .int 2 :: st.map (cv G))) rfl (by rw [C.2.1]; exact hd) rfl (by decide) hn0 (by decide) (by
    have := Nat.mul_le_mul hn2 hb.1
    omega) (by omega) hb.2.1 hb.2.2.1 (by rw [h2]; exact hR.1) (by rw [h2]; exact hR.2)
  rw [h2] at X' step
  have ecA : cA = jgA G ko := by
    have h5 := hAo.2
    rw [ht.1] at h5
    exact Option.some.inj (fA.symm.trans h5)
  have ecI : comp = jgA G ki := by
    have h5 := hAi.2
    rw [ht.2] at h5
    have h6 : s.vm.findClass ("[" ++ ty.toString) = some (jgA G ki) := by
      rw [← ht.2] at h5 ⊢
      rcases hk with ⟨-, rfl⟩ | ⟨-, rfl⟩ <;> exact h5
    have h7 : (FieldType.array ty).toString = "[" ++ ty.toString := by
      rw [← ht.2]
      rcases hk with ⟨-, rfl⟩ | ⟨-, rfl⟩ <;> decide
    rw [h7] at fC
    exact Option.some.inj (fC.symm.trans h6)
  subst ecA
  subst ecI
  generalize hF : Jvm.Free.Multi.fill (T.setVm vm₁) (jgA G ko) (jgA G ki) 2 k.toNatClampNeg (defaultValue ty) 2 = F at X' step
  have hTh : (T.setVm vm₁).heap = H := hT
  obtain ⟨f1, f2, -, -⟩ := Jvm.Free.Multi.fill_facts (T.setVm vm₁) (jgA G ko) (jgA G ki) 2 k.toNatClampNeg (defaultValue ty) 2
  rw [hF, hTh] at f1 f2
  have hold : ∀ x : Nat, x < H.size → F.heap[x]? = H[x]? := fun x hx => by
    have := Jvm.Free.Multi.fill_old (T.setVm vm₁) (jgA G ko) (jgA G ki) 2 k.toNatClampNeg (defaultValue ty) (a := x) (by rw [hTh]; exact hx) 2
    rw [hF, hTh] at this
    exact this
  have hrow : ∀ j : Nat, j < 2 → F.heap[H.size + 1 + j]? = some (arrV (jgA G ki) k.toNatClampNeg (fun _ => defaultValue ty)) := fun j hj => by
    have := Jvm.Free.Multi.fill_inner (T.setVm vm₁) (jgA G ko) (jgA G ki) 2 k.toNatClampNeg (defaultValue ty) 2 j hj
    rw [hF, hTh] at this
    rw [this]
    congr 1
    exact arrV_new _ _ _
  rw [jouter] at f2
  have sh : ∀ o, (nwM ko ki k.toNatClampNeg h).1.2 o = if o = h.1.1 + 1 + 1 then (ki, k.toNatClampNeg) else if o = h.1.1 + 1 then (ki, k.toNatClampNeg) else if o = h.1.1 then (ko, 2) else h.1.2 o := fun o => rfl
  have vi : ∀ o i, (nwM ko ki k.toNatClampNeg h).2.1 o i = if o = h.1.1 + 1 + 1 then 0 else if o = h.1.1 + 1 then 0 else if o = h.1.1 then 0 else h.2.1 o i := fun o i => rfl
  have vl : ∀ o i, (nwM ko ki k.toNatClampNeg h).2.2.1 o i = if o = h.1.1 + 1 + 1 then 0 else if o = h.1.1 + 1 then 0 else if o = h.1.1 then 0 else h.2.2.1 o i := fun o i => rfl
  have vr : ∀ o i, (nwM ko ki k.toNatClampNeg h).2.2.2 o i = if o = h.1.1 ∧ i = 1 then some (h.1.1 + 2) else if o = h.1.1 ∧ i = 0 then some (h.1.1 + 1) else if o = h.1.1 + 1 + 1 then none else if o = h.1.1 + 1 then none else if o = h.1.1 then none else h.2.2.2 o i := fun o i => rfl
  have hin : ∀ o, (o = h.1.1 + 1 + 1 ∨ o = h.1.1 + 1) → wcell G (nwM ko ki k.toNatClampNeg h).1 (nwM ko ki k.toNatClampNeg h).2 F.heap o := by
    intro o ho
    have es : (nwM ko ki k.toNatClampNeg h).1.2 o = (ki, k.toNatClampNeg) := by
      rw [sh]
      rcases ho with ho | ho
      · rw [if_pos ho]
      · rw [if_neg (by omega), if_pos ho]
    refine wcell_arr es (by omega) ?_
    have hh : F.heap[jgb G + o]? = some (arrV (jgA G ki) k.toNatClampNeg (fun _ => defaultValue ty)) := by
      rcases ho with ho | ho
      · have := hrow 1 (by omega)
        rw [show jgb G + o = H.size + 1 + 1 by omega]
        exact this
      · have := hrow 0 (by omega)
        rw [show jgb G + o = H.size + 1 + 0 by omega]
        exact this
    rw [hh]
    congr 2
    funext j
    have z1 : (nwM ko ki k.toNatClampNeg h).2.1 o j = 0 := by
      rw [vi]
      rcases ho with ho | ho
      · rw [if_pos ho]
      · rw [if_neg (by omega), if_pos ho]
    have z2 : (nwM ko ki k.toNatClampNeg h).2.2.1 o j = 0 := by
      rw [vl]
      rcases ho with ho | ho
      · rw [if_pos ho]
      · rw [if_neg (by omega), if_pos ho]
    show defaultValue ty = cv G (fv (aTy ki) _ o j)
    rw [← ht.2]
    rcases hk with ⟨-, rfl⟩ | ⟨-, rfl⟩
    · show Value.int 0 = Value.int ((nwM ko 100 k.toNatClampNeg h).2.1 o j)
      rw [z1]
    · show Value.long 0 = Value.long ((nwM ko 103 k.toNatClampNeg h).2.2.1 o j)
      rw [z2]
  have hwd : wd G (nwM ko ki k.toNatClampNeg h) F.heap := by
    refine ⟨?_, ?_, fun o ho => ?_, fun q hq => (hold q (by omega)).trans (hw.2.2.2 q hq)⟩
    · show F.heap.size = jgb G + (h.1.1 + 1 + 1 + 1)
      omega
    · show h.1.1 + 1 + 1 + 1 ≤ 1000000
      omega
    · have ho : o < h.1.1 + 1 + 1 + 1 := ho
      by_cases e2 : o = h.1.1 + 1 + 1
      · exact hin o (Or.inl e2)
      · by_cases e1 : o = h.1.1 + 1
        · exact hin o (Or.inr e1)
        · by_cases e0 : o = h.1.1
          · refine wcell_arr (n := 2) (c := ko) (by rw [sh, if_neg e2, if_neg e1, if_pos e0]) (by omega) ?_
            rw [show jgb G + o = H.size by omega, f2, ht.1]
            congr 2
            funext j
            show (if j < 2 then Value.ref (H.size + 1 + j) else Value.null) = va_rf (((nwM ko ki k.toNatClampNeg h).2.2.2 o j).map (adr G))
            rw [vr]
            by_cases j1 : j = 1
            · subst j1
              rw [if_pos (show 1 < 2 by omega), if_pos ⟨e0, rfl⟩]
              show Value.ref _ = Value.ref (adr G (h.1.1 + 2))
              rw [adr_lt (by omega)]
              exact congrArg Value.ref (show (H.size + 1 + 1 : Nat) = jgb G + (h.1.1 + 2) by omega)
            · by_cases j0 : j = 0
              · subst j0
                rw [if_pos (show 0 < 2 by omega), if_neg (fun q => j1 q.2), if_pos ⟨e0, rfl⟩]
                show Value.ref _ = Value.ref (adr G (h.1.1 + 1))
                rw [adr_lt (by omega)]
                exact congrArg Value.ref (show (H.size + 1 + 0 : Nat) = jgb G + (h.1.1 + 1) by omega)
              · rw [if_neg (show ¬ j < 2 by omega), if_neg (fun q => j1 q.2), if_neg (fun q => j0 q.2), if_neg e2, if_neg e1, if_pos e0]
                rfl
          · have hc := wcell_kept (V' := (nwM ko ki k.toNatClampNeg h).2) (hw.2.2.1 o (by omega)) (hold _ (by omega)) (fun i => ⟨by rw [vi, if_neg e2, if_neg e1, if_neg e0], by rw [vl, if_neg e2, if_neg e1, if_neg e0], by rw [vr, if_neg (fun q => e0 q.1), if_neg (fun q => e0 q.1), if_neg e2, if_neg e1, if_neg e0]⟩)
            have es : (nwM ko ki k.toNatClampNeg h).1.2 o = h.1.2 o := by rw [sh, if_neg e2, if_neg e1, if_neg e0]
            exact wcell_same es hc
  have kk := kk p e s m args below meth c0 C F.heap locs la hwd hL hl0
  have kk : W p (jgl G) e (jmR M) s m args below meth c0 F.heap locs (cs + 3) (ss + (2 + 2 * k.toNatClampNeg)) (Q below args s) (F0 m (pc + 4) la (cv G (ar (some h.1.1)) :: st.map (cv G))) := kk
  rw [cv_ref (by omega)] at kk
  have X2 : Stand p (jgl G) e (jmR M) s m args below meth c0 F locs (cs + 3) (ss + (2 + 2 * k.toNatClampNeg)) := by
    rw [show cs + 3 = cs + 1 + 2 by omega, show ss + (2 + 2 * k.toNatClampNeg) = ss + 2 + 2 * k.toNatClampNeg by omega]
    exact X'
  obtain ⟨t, a1, b1⟩ := kk F rfl X2
  refine ⟨t, step t ?_, b1⟩
  rw [hT, hsz]
  exact a1
end
