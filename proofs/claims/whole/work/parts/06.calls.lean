/-! ===== calls ===== -/
def jcat (v : AV) : Nat := if isL v then 2 else 1
theorem cv_jcat (G : jG) (v : AV) : (cv G v).category = jcat v := by
  rcases v with x | x | x
  · rfl
  · rfl
  · cases x <;> rfl
def jOK (M : jM) (n : Nat) : Prop := Cond.code (jmy M) (jmc M) (jmn M) (jmr M) ∈ gw ∧ Cond.initialized (jmy M).cls ∈ gw ∧ ((jmy M).cls ≠ "java/lang/invoke/MethodHandle" ∧ (jmy M).cls ≠ "java/lang/invoke/VarHandle" ∧ (parseMethodDescriptor (jmy M).desc).map (fun d => d.parameters.length) = some n)
def jOKV (M : jM) (n : Nat) : Prop := jOK M n ∧ Cond.instanceMethod (jmy M) ∈ gw ∧ Cond.selects (jmy M).cls (jmy M) (jmy M) ∈ gw ∧ (jmy M).cls = cN (jmC M) ∧ jmC M < 13
def jOKS (M : jM) (n : Nat) : Prop := jOK M n ∧ Cond.static (jmy M) ∈ gw
def jOKI (M : jM) (n : Nat) : Prop := jOK M n ∧ Cond.instanceMethod (jmy M) ∈ gw ∧ (jmy M).name = "<init>"
/-- the callee's room fits the caller's -/
def jFit (M : jM) (R : Room) (cs ss : Nat) : Prop := ((jmR M).cells = jmk M ∧ (jmR M).slots = jms M) ∧ ((jmR M).frames + 1 ≤ R.frames ∧ 8 + (jmn M + 11) + (jmR M).locals ≤ R.locals) ∧ (cs + jmk M ≤ R.cells ∧ ss + jms M ≤ R.slots)
theorem gw_ok {M : jM} (h : Cond.code (jmy M) (jmc M) (jmn M) (jmr M) ∈ gw) : GoodIn gw (jWs M) := by
  intro w hw
  rcases List.mem_cons.mp hw with rfl | hw
  · exact ⟨h, gw_good h⟩
  · exact ⟨hw, gw_good hw⟩
section
variable {G : jG} {M : jM} {Q : jQ} {cs ss pc : Nat} {ls : List (Nat × AV)} {st : List AV} {h : hS × hV}
theorem jblind {G : jG} {h : hS × hV} {vs : List Value} : FrameBlind (va_Pc vs (fun U => wd G h U.heap ∧ jKn G U)) := by
  intro a U g mk q
  obtain ⟨q0, q1, q2⟩ := q
  exact ⟨q0, q1, jKn.same (U := U.calling g mk a) rfl q2⟩
theorem j_cont {p : Program} {e : Env} {s : State} {m : MethodId} {args : Array Value} {below : List Frame} {meth : Method} {c : Code} {R : Room} {H : Heap} {locs : List Loc} {la : Array Slot} {mc ms pc : Nat} {st0 rest : List Value} {a : Array Value} {o : Option AV} {h' : hS × hV} {Qw : State → Prop}
    (hr : va_Run p (jgl G) e R s m args below meth c H locs cs ss mc ms (F0 m pc la st0) rest (jQc G o h' a) (fun q => jgb G ≤ q)) (hL : ∀ q ∈ locs, jgb G ≤ q.base)
    (kk : ∀ (H1 : Heap) (locs1 : List Loc), wd G h' H1 → (∀ q ∈ locs1, jgb G ≤ q.base) → W p (jgl G) e R s m args below meth c H1 locs1 (cs + mc) (ss + ms) Qw (F0 m (pc + 3) la ((o.map (cv G)).toList ++ rest))) : W p (jgl G) e R s m args below meth c H locs cs ss Qw (F0 m pc la st0) := by
  intro T hT X
  obtain ⟨v, st₀, t, T', L, h0, X', hLb, e1, e2, ⟨hv, hwd⟩, stp⟩ := hr T hT X
  cases hv
  obtain ⟨t2, a1, b1⟩ := kk T'.heap (locs ++ L) (by rw [e1]; exact hwd) (fun q hq => by
    rcases List.mem_append.mp hq with z | z
    · exact hL q z
    · exact hLb q z) T' rfl X'
  exact ⟨t2, stp t2 a1, b1⟩
theorem jstack {G : jG} {As rest : List AV} {b : AV} : (As.reverse ++ b :: rest).map (cv G) = (As.map (cv G)).reverse ++ cv G b :: rest.map (cv G) := by
  rw [List.map_append, List.map_reverse, List.map_cons]
theorem jtoList {G : jG} {o : Option AV} {rest : List AV} : (o.map (cv G)).toList ++ rest.map (cv G) = (o.toList ++ rest).map (cv G) := by
  cases o <;> rfl
theorem jsum {G : jG} {rest : List AV} (h : (rest.map jcat).sum ≤ 8) : ((rest.map (cv G)).map fun v => v.category).sum ≤ 8 := by
  rw [List.map_map]
  have e : ((fun v : Value => v.category) ∘ cv G) = jcat := funext (cv_jcat G)
  rw [e]; exact h
theorem j_callV (M2 : jM) (n : Nat) {idx cs' ss' : Nat} (As : List AV) {rest : List AV} {r : Option Nat} {b : Nat} {o : Option AV} {h' : hS × hV} (hd : decode (jmc M) pc = .ok (.invokevirtual idx, 3)) (hl : Cond.methodLink (jmo M) idx (jmy M2) ∈ gw) (hok : jOKV M2 n) (hfit : jFit M2 (jmR M) cs ss) (hst : st = As.reverse ++ ar r :: rest) (hn : As.length = n) (hrs : (rest.map jcat).sum ≤ 8) (hcs : cs + jmk M2 = cs' ∧ ss + jms M2 = ss')
    (hrc : rc h.1 (jmC M2) r = some b) (hC : jC G M2 (ar r :: As) h o h') (kk : jJ G M Q cs' ss' (pc + 3) ls (o.toList ++ rest) h') : jJ G M Q cs ss pc ls st h := by
  intro p e s m args below meth c0 C H locs la hw hL hl0
  obtain ⟨rfl, h1, h2⟩ := rc_spec hrc
  obtain ⟨⟨k1, k2, k3⟩, k4, k5, k6, k7⟩ := hok
  obtain ⟨rfl, rfl⟩ := hcs
  obtain ⟨⟨f1, f2⟩, f3, f4⟩ := hfit
  subst hst
  have hts := C.2.2.2.2.2.1
  have hb2 : b < 1000000 := by have := hw.2.1; omega
  obtain ⟨cell, q1, q2, q3, -⟩ := wd_obj hw k7 h1 h2
  have hcl := (C.2.2.2.2.2.2.2.1.1 (jmC M2) k7).2.1
  rw [jstack]
  refine j_cont (va_runV (C := (jmy M2).cls) (b := jgb G + b) (As := As.map (cv G)) (rest := rest.map (cv G)) ⟨C.1, C.2.1, C.2.2.2.1, C.2.2.2.2.1, hts⟩ hC ⟨callB_of n hts (gw_ok k1) rfl f1 f2 (hts _ k2) (hts _ hl) k3 f3, hts _ k4, hts _ k5⟩ ⟨jblind, ⟨cell, q1, by rw [q3]; rfl, by rw [k6, q2]; exact hcl⟩, fun U hU hW => ⟨by rw [List.map_cons, cv_ref hb2], by rw [hU]; exact hw, jKn.warm hW C.2.2.2.2.2.2.2.1⟩⟩ rfl (by rw [List.length_map]; exact hn) hl0.1 (by show _ = _; rw [cv_ref hb2]) (lv_room (jsum hrs)) hd f4) hL (fun H1 locs1 hw1 hL1 => ?_)
  rw [jtoList]
  exact kk p e s m args below meth c0 C H1 locs1 la hw1 hL1 hl0
theorem j_callVN (M2 : jM) (n : Nat) {idx cs' ss' : Nat} {host : String} (As : List AV) {rest : List AV} {r : Option Nat} {b : Nat} {o : Option AV} {h' : hS × hV} (hd : decode (jmc M) pc = .ok (.invokevirtual idx, 3)) (hl : (jmo M, idx, jmy M2, host) ∈ nws) (hok : jOKV M2 n) (hfit : jFit M2 (jmR M) cs ss) (hst : st = As.reverse ++ ar r :: rest) (hn : As.length = n) (hrs : (rest.map jcat).sum ≤ 8) (hcs : cs + jmk M2 = cs' ∧ ss + jms M2 = ss')
    (hrc : rc h.1 (jmC M2) r = some b) (hC : jC G M2 (ar r :: As) h o h') (kk : jJ G M Q cs' ss' (pc + 3) ls (o.toList ++ rest) h') : jJ G M Q cs ss pc ls st h := by
  intro p e s m args below meth c0 C H locs la hw hL hl0
  obtain ⟨rfl, h1, h2⟩ := rc_spec hrc
  obtain ⟨⟨k1, k2, k3⟩, k4, k5, k6, k7⟩ := hok
  obtain ⟨rfl, rfl⟩ := hcs
  obtain ⟨⟨f1, f2⟩, f3, f4⟩ := hfit
  subst hst
  have hts := C.2.2.2.2.2.1
  have hb2 : b < 1000000 := by have := hw.2.1; omega
  obtain ⟨cell, q1, q2, q3, -⟩ := wd_obj hw k7 h1 h2
  have hcl := (C.2.2.2.2.2.2.2.1.1 (jmC M2) k7).2.1
  have hw0 : Cond.code (jmy M2) (jmc M2) (jmn M2) (jmr M2) ∈ jWs M2 := List.mem_cons_self
  rw [jstack]
  refine j_cont (va_runVN (C := (jmy M2).cls) (host := host) (b := jgb G + b) (As := As.map (cv G)) (rest := rest.map (cv G)) ⟨C.1, C.2.1, C.2.2.2.1, C.2.2.2.2.1, hts⟩ hC ⟨⟨⟨f1, f2, f3.1, f3.2, pay_in hts (gw_ok k1), hw0⟩, hts _ k1, hts _ k2, ⟨k3.1, k3.2.1⟩, fun sig hs => by have h2 := k3.2.2; rw [hs] at h2; exact (Option.some.inj h2).symm, va_Nw.use rfl (C.2.2.2.2.2.2.2.1.2.2.1.1 _ hl)⟩, hts _ k4, hts _ k5⟩ ⟨jblind, ⟨cell, q1, by rw [q3]; rfl, by rw [k6, q2]; exact hcl⟩, fun U hU hW => ⟨by rw [List.map_cons, cv_ref hb2], by rw [hU]; exact hw, jKn.warm hW C.2.2.2.2.2.2.2.1⟩⟩ rfl (by rw [List.length_map]; exact hn) hl0.1 (by show _ = _; rw [cv_ref hb2]) (lv_room (jsum hrs)) hd f4) hL (fun H1 locs1 hw1 hL1 => ?_)
  rw [jtoList]
  exact kk p e s m args below meth c0 C H1 locs1 la hw1 hL1 hl0
theorem jstackS {G : jG} {As rest : List AV} : (As.reverse ++ rest).map (cv G) = (As.map (cv G)).reverse ++ rest.map (cv G) := by
  rw [List.map_append, List.map_reverse]
theorem j_callS (M2 : jM) (n : Nat) {idx cs' ss' : Nat} (As : List AV) {rest : List AV} {o : Option AV} {h' : hS × hV} (hd : decode (jmc M) pc = .ok (.invokestatic idx, 3)) (hl : Cond.methodLink (jmo M) idx (jmy M2) ∈ gw) (hok : jOKS M2 n) (hfit : jFit M2 (jmR M) cs ss) (hst : st = As.reverse ++ rest) (hn : As.length = n) (hrs : (rest.map jcat).sum ≤ 8) (hcs : cs + jmk M2 = cs' ∧ ss + jms M2 = ss')
    (hC : jC G M2 As h o h') (kk : jJ G M Q cs' ss' (pc + 3) ls (o.toList ++ rest) h') : jJ G M Q cs ss pc ls st h := by
  intro p e s m args below meth c0 C H locs la hw hL hl0
  obtain ⟨⟨k1, k2, k3⟩, k4⟩ := hok
  obtain ⟨rfl, rfl⟩ := hcs
  obtain ⟨⟨f1, f2⟩, f3, f4⟩ := hfit
  subst hst
  have hts := C.2.2.2.2.2.1
  rw [jstackS]
  refine j_cont (va_runS (As := As.map (cv G)) (rest := rest.map (cv G)) ⟨C.1, C.2.1, C.2.2.2.1, C.2.2.2.2.1, hts⟩ hC ⟨callB_of n hts (gw_ok k1) rfl f1 f2 (hts _ k2) (hts _ hl) k3 f3, hts _ k4⟩ ⟨jblind, fun U hU hW => ⟨rfl, by rw [hU]; exact hw, jKn.warm hW C.2.2.2.2.2.2.2.1⟩⟩ rfl (by rw [List.length_map]; exact hn) hl0.1 rfl (lv_room (jsum hrs)) hd f4) hL (fun H1 locs1 hw1 hL1 => ?_)
  rw [jtoList]
  exact kk p e s m args below meth c0 C H1 locs1 la hw1 hL1 hl0
theorem j_callSN (M2 : jM) (n : Nat) {idx cs' ss' : Nat} {host : String} (As : List AV) {rest : List AV} {o : Option AV} {h' : hS × hV} (hd : decode (jmc M) pc = .ok (.invokestatic idx, 3)) (hl : (jmo M, idx, jmy M2, host) ∈ nws) (hok : jOKS M2 n) (hfit : jFit M2 (jmR M) cs ss) (hst : st = As.reverse ++ rest) (hn : As.length = n) (hrs : (rest.map jcat).sum ≤ 8) (hcs : cs + jmk M2 = cs' ∧ ss + jms M2 = ss')
    (hC : jC G M2 As h o h') (kk : jJ G M Q cs' ss' (pc + 3) ls (o.toList ++ rest) h') : jJ G M Q cs ss pc ls st h := by
  intro p e s m args below meth c0 C H locs la hw hL hl0
  obtain ⟨⟨k1, k2, k3⟩, k4⟩ := hok
  obtain ⟨rfl, rfl⟩ := hcs
  obtain ⟨⟨f1, f2⟩, f3, f4⟩ := hfit
  subst hst
  have hts := C.2.2.2.2.2.1
  have hw0 : Cond.code (jmy M2) (jmc M2) (jmn M2) (jmr M2) ∈ jWs M2 := List.mem_cons_self
  rw [jstackS]
  refine j_cont (va_runSN (host := host) (As := As.map (cv G)) (rest := rest.map (cv G)) ⟨C.1, C.2.1, C.2.2.2.1, C.2.2.2.2.1, hts⟩ hC ⟨⟨⟨f1, f2, f3.1, f3.2, pay_in hts (gw_ok k1), hw0⟩, hts _ k1, hts _ k2, ⟨k3.1, k3.2.1⟩, fun sig hs => by have h2 := k3.2.2; rw [hs] at h2; exact (Option.some.inj h2).symm, va_Nw.use rfl (C.2.2.2.2.2.2.2.1.2.2.1.1 _ hl)⟩, hts _ k4, trivial⟩ ⟨jblind, fun U hU hW => ⟨rfl, by rw [hU]; exact hw, jKn.warm hW C.2.2.2.2.2.2.2.1⟩⟩ rfl (by rw [List.length_map]; exact hn) hl0.1 rfl (lv_room (jsum hrs)) hd f4) hL (fun H1 locs1 hw1 hL1 => ?_)
  rw [jtoList]
  exact kk p e s m args below meth c0 C H1 locs1 la hw1 hL1 hl0
theorem j_callI (M2 : jM) (n : Nat) {idx cs' ss' b : Nat} (As : List AV) {rest : List AV} {h' : hS × hV} (hd : decode (jmc M) pc = .ok (.invokespecial idx, 3)) (hl : Cond.methodLink (jmo M) idx (jmy M2) ∈ gw) (hr : jmr M2 = none) (hok : jOKI M2 n) (hfit : jFit M2 (jmR M) cs ss) (hst : st = As.reverse ++ ar (some b) :: rest) (hn : As.length = n) (hrs : (rest.map jcat).sum ≤ 8) (hcs : cs + jmk M2 = cs' ∧ ss + jms M2 = ss') (hb : b < 1000000)
    (hC : jC G M2 (ar (some b) :: As) h none h') (kk : jJ G M Q cs' ss' (pc + 3) ls rest h') : jJ G M Q cs ss pc ls st h := by
  intro p e s m args below meth c0 C H locs la hw hL hl0
  obtain ⟨⟨k1, k2, k3⟩, k4, k5⟩ := hok
  obtain ⟨rfl, rfl⟩ := hcs
  obtain ⟨⟨f1, f2⟩, f3, f4⟩ := hfit
  subst hst
  have hts := C.2.2.2.2.2.1
  rw [jstack]
  refine j_cont (va_runI (maxL := jmn M2) (bytes := jmc M2) (b := jgb G + b) (As := As.map (cv G)) (rest := rest.map (cv G)) ⟨C.1, C.2.1, C.2.2.2.1, C.2.2.2.2.1, hts⟩ hC ⟨callB_of n hts (gw_ok k1) (by rw [← hr]; rfl) f1 f2 (hts _ k2) (hts _ hl) k3 f3, k5, hts _ k4⟩ ⟨jblind, fun U hU hW => ⟨by rw [List.map_cons, cv_ref hb], by rw [hU]; exact hw, jKn.warm hW C.2.2.2.2.2.2.2.1⟩⟩ rfl (by rw [List.length_map]; exact hn) hl0.1 (by show _ = _; rw [cv_ref hb]) (lv_room (jsum hrs)) hd f4) hL (fun H1 locs1 hw1 hL1 => ?_)
  rw [jtoList]
  exact kk p e s m args below meth c0 C H1 locs1 la hw1 hL1 hl0
theorem j_callIN (M2 : jM) (n : Nat) {idx cs' ss' b : Nat} {host : String} (As : List AV) {rest : List AV} {h' : hS × hV} (hd : decode (jmc M) pc = .ok (.invokespecial idx, 3)) (hl : (jmo M, idx, jmy M2, host) ∈ nws) (hr : jmr M2 = none) (hok : jOKI M2 n) (hfit : jFit M2 (jmR M) cs ss) (hst : st = As.reverse ++ ar (some b) :: rest) (hn : As.length = n) (hrs : (rest.map jcat).sum ≤ 8) (hcs : cs + jmk M2 = cs' ∧ ss + jms M2 = ss') (hb : b < 1000000)
    (hC : jC G M2 (ar (some b) :: As) h none h') (kk : jJ G M Q cs' ss' (pc + 3) ls rest h') : jJ G M Q cs ss pc ls st h := by
  intro p e s m args below meth c0 C H locs la hw hL hl0
  obtain ⟨⟨k1, k2, k3⟩, k4, k5⟩ := hok
  obtain ⟨rfl, rfl⟩ := hcs
  obtain ⟨⟨f1, f2⟩, f3, f4⟩ := hfit
  subst hst
  have hts := C.2.2.2.2.2.1
  have hw0 : Cond.code (jmy M2) (jmc M2) (jmn M2) none ∈ jWs M2 := by rw [← hr]; exact List.mem_cons_self
  have k1' : Cond.code (jmy M2) (jmc M2) (jmn M2) none ∈ gw := by rw [← hr]; exact k1
  rw [jstack]
  refine j_cont (va_runIN (host := host) (maxL := jmn M2) (bytes := jmc M2) (b := jgb G + b) (As := As.map (cv G)) (rest := rest.map (cv G)) ⟨C.1, C.2.1, C.2.2.2.1, C.2.2.2.2.1, hts⟩ hC ⟨⟨⟨f1, f2, f3.1, f3.2, pay_in hts (gw_ok k1), hw0⟩, hts _ k1', hts _ k2, ⟨k3.1, k3.2.1⟩, fun sig hs => by have h2 := k3.2.2; rw [hs] at h2; exact (Option.some.inj h2).symm, va_Nw.use rfl (C.2.2.2.2.2.2.2.1.2.2.1.1 _ hl)⟩, k5, hts _ k4⟩ ⟨jblind, fun U hU hW => ⟨by rw [List.map_cons, cv_ref hb], by rw [hU]; exact hw, jKn.warm hW C.2.2.2.2.2.2.2.1⟩⟩ rfl (by rw [List.length_map]; exact hn) hl0.1 (by show _ = _; rw [cv_ref hb]) (lv_room (jsum hrs)) hd f4) hL (fun H1 locs1 hw1 hL1 => ?_)
  rw [jtoList]
  exact kk p e s m args below meth c0 C H1 locs1 la hw1 hL1 hl0
end
/-! ===== loops and sequences of the pure texts ===== -/
/-- the most turns that a loop of mine is given -/
def jN : Nat := 5000
def jloop {σ ρ : Type} (body : σ → Option (σ ⊕ ρ)) : Nat → σ → Option ρ
  | 0, _ => none
  | n + 1, s => match body s with
    | none => none
    | some (.inl s') => jloop body n s'
    | some (.inr r) => some r
theorem jloop_J {σ ρ : Type} {body : σ → Option (σ ⊕ ρ)} {C : σ → Prop} {r : ρ} (hs : ∀ (s : σ) (x : σ ⊕ ρ), body s = some x → (∀ s', x = .inl s' → C s') → (∀ r', x = .inr r' → r' = r) → C s) : ∀ (n : Nat) (s : σ), jloop body n s = some r → C s
  | 0, s, h => by cases h
  | n + 1, s, h => by
    cases hb : body s with
    | none => simp [jloop, hb] at h
    | some x =>
      cases x with
      | inl s' =>
        simp only [jloop, hb] at h
        exact hs s _ hb (fun q hq => by cases hq; exact jloop_J hs n s' h) (fun q hq => by cases hq)
      | inr r' =>
        simp only [jloop, hb] at h
        cases h
        exact hs s _ hb (fun q hq => by cases hq) (fun q hq => by cases hq; rfl)
theorem jbind {α β : Type} {x : Option α} {f : α → Option β} {b : β} (h : x.bind f = some b) : ∃ a, x = some a ∧ f a = some b := Option.bind_eq_some_iff.mp h
