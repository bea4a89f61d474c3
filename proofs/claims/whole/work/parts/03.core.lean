/-! ===== the abstract heap, and a judgement over it: what the machine does from a place on, whatever the addresses ===== -/
/-- a value: an int, a long, a reference -/
abbrev AV : Type := Int32 ⊕ Int64 ⊕ Option Nat
abbrev ai (x : Int32) : AV := Sum.inl x
abbrev al (x : Int64) : AV := Sum.inr (Sum.inl x)
abbrev ar (x : Option Nat) : AV := Sum.inr (Sum.inr x)
def isL : AV → Bool
  | .inr (.inl _) => true
  | _ => false
/-- the shape: how many cells, of which kind (below 100: an object of that class; 100 on: an array) and length each -/
abbrev hS : Type := Nat × (Nat → Nat × Nat)
/-- what the cells hold: ints, longs, references, by cell and place -/
abbrev hV : Type := (Nat → Nat → Int32) × (Nat → Nat → Int64) × (Nat → Nat → Option Nat)
def hup {α : Type} (f : Nat → Nat → α) (o k : Nat) (v : α) : Nat → Nat → α := fun a b => if a = o ∧ b = k then v else f a b
theorem hup_same {α : Type} (f : Nat → Nat → α) (o k : Nat) (v : α) : hup f o k v o k = v := by simp [hup]
theorem hup_obj {α : Type} (f : Nat → Nat → α) {o k a : Nat} (v : α) (b : Nat) (h : a ≠ o) : hup f o k v a b = f a b := by simp [hup, h]
theorem hup_ix {α : Type} (f : Nat → Nat → α) {o k b : Nat} (v : α) (a : Nat) (h : b ≠ k) : hup f o k v a b = f a b := by simp [hup, h]
/-- the start: launch, first address of mine, class numbers, slots, array classes, the Strings' addresses, the heap ahead -/
abbrev jG : Type := Launch × Nat × (Nat → ClassId) × (Nat → Nat → Nat) × (Nat → ClassId) × (Nat → Nat) × Heap × Nat × (Nat → Int32)
def jgl (G : jG) : Launch := G.1
def jgb (G : jG) : Nat := G.2.1
def jgC (G : jG) : Nat → ClassId := G.2.2.1
def jgI (G : jG) : Nat → Nat → Nat := G.2.2.2.1
def jgA (G : jG) : Nat → ClassId := G.2.2.2.2.1
def jgK (G : jG) : Nat → Nat := G.2.2.2.2.2.1
def jgH (G : jG) : Heap := G.2.2.2.2.2.2.1
/-- the script: its length, its ints -/
def jgL (G : jG) : Nat := G.2.2.2.2.2.2.2.1
def jgX (G : jG) : Nat → Int32 := G.2.2.2.2.2.2.2.2
/-- a method: class, name, code, locals, what it returns, room, cells, slots, number of its class (99: static) -/
abbrev jM : Type := String × MethodName × ByteArray × Nat × Option FieldType × Room × Nat × Nat × Nat
def jmo (M : jM) : String := M.1
def jmy (M : jM) : MethodName := M.2.1
def jmc (M : jM) : ByteArray := M.2.2.1
def jmn (M : jM) : Nat := M.2.2.2.1
def jmr (M : jM) : Option FieldType := M.2.2.2.2.1
def jmR (M : jM) : Room := M.2.2.2.2.2.1
def jmk (M : jM) : Nat := M.2.2.2.2.2.2.1
def jms (M : jM) : Nat := M.2.2.2.2.2.2.2.1
def jmC (M : jM) : Nat := M.2.2.2.2.2.2.2.2
def jWs (M : jM) : List Cond := Cond.code (jmy M) (jmc M) (jmn M) (jmr M) :: gw
def adr (G : jG) (k : Nat) : Nat := if k < 1000000 then jgb G + k else jgK G (k - 1000000)
def cv (G : jG) : AV → Value
  | .inl x => .int x
  | .inr (.inl x) => .long x
  | .inr (.inr r) => va_rf (r.map (adr G))
def fv (ty : FieldType) (V : hV) (o k : Nat) : AV := match ty with
  | .long => al (V.2.1 o k)
  | .object _ => ar (V.2.2 o k)
  | .array _ => ar (V.2.2 o k)
  | _ => ai (V.1 o k)
theorem fv_congr (ty : FieldType) {V V' : hV} {o k : Nat} (h1 : V.1 o k = V'.1 o k) (h2 : V.2.1 o k = V'.2.1 o k) (h3 : V.2.2 o k = V'.2.2 o k) : fv ty V o k = fv ty V' o k := by
  unfold fv
  split <;> simp [h1, h2, h3]
def wcell (G : jG) (S : hS) (V : hV) (H : Heap) (k : Nat) : Prop :=
  if (S.2 k).1 < 100 then t_OB (jgb G + k) (jgC G (S.2 k).1) (nF (S.2 k).1) (jgI G (S.2 k).1) H (fun i => cv G (fv (cTy (S.2 k).1 i) V k i))
  else H[jgb G + k]? = some (arrV (jgA G (S.2 k).1) (S.2 k).2 (fun j => cv G (fv (aTy (S.2 k).1) V k j)))
def wd (G : jG) (h : hS × hV) (H : Heap) : Prop :=
  H.size = jgb G + h.1.1 ∧ h.1.1 ≤ 1000000 ∧ (∀ k, k < h.1.1 → wcell G h.1 h.2 H k) ∧ ∀ q : Nat, q < jgb G → H[q]? = (jgH G)[q]?
theorem wcell_kept {G : jG} {S : hS} {V V' : hV} {H H1 : Heap} {k : Nat} (h : wcell G S V H k) (hq : H1[jgb G + k]? = H[jgb G + k]?) (hv : ∀ i, V'.1 k i = V.1 k i ∧ V'.2.1 k i = V.2.1 k i ∧ V'.2.2 k i = V.2.2 k i) : wcell G S V' H1 k := by
  have e : ∀ ty i, fv ty V' k i = fv ty V k i := fun ty i => fv_congr ty (hv i).1 (hv i).2.1 (hv i).2.2
  unfold wcell at h ⊢
  simp only [e]
  by_cases hk : (S.2 k).1 < 100
  · rw [if_pos hk] at h ⊢
    exact h.kept hq
  · rw [if_neg hk] at h ⊢
    rw [hq]; exact h
theorem wd_put {G : jG} {S : hS} {V V' : hV} {H H1 : Heap} {o : Nat} (hw : wd G (S, V) H) (hz : H1.size = H.size) (hq : ∀ q : Nat, q ≠ jgb G + o → H1[q]? = H[q]?) (hv : ∀ k, k ≠ o → ∀ i, V'.1 k i = V.1 k i ∧ V'.2.1 k i = V.2.1 k i ∧ V'.2.2 k i = V.2.2 k i) (hn : o < S.1 → wcell G S V' H1 o) : wd G (S, V') H1 := by
  obtain ⟨h1, h2, h3, h4⟩ := hw
  refine ⟨hz.trans h1, h2, fun k hk => ?_, fun q hlt => (hq q (by omega)).trans (h4 q hlt)⟩
  by_cases e : k = o
  · subst e; exact hn hk
  · exact wcell_kept (h3 k hk) (hq _ (by omega)) (hv k e)
/-- what the tables say of the classes -/
def jStr (G : jG) (s : State) : Prop := vk_S 9 sLen sByt (jgK G) (fun i => jgK G (100 + i)) (fun q => jgb G ≤ q) s (jgH G) ∧ (∀ q ∈ sRefs, vk_R q.1 q.2.1 q.2.2.1 (jgK G q.2.2.2) s) ∧ va_Z "java/lang/String" "COMPACT_STRINGS" "Z" (.int 1) (fun q => jgb G ≤ q) s (jgH G) ∧
  (va_Z "jdk/internal/util/Preconditions" "SIOOBE_FORMATTER" "Ljava/util/function/BiFunction;" .null (fun q => jgb G ≤ q) s (jgH G) ∨ va_Z "jdk/internal/util/Preconditions" "SIOOBE_FORMATTER" "Ljava/util/function/BiFunction;" (.ref (jgK G 200)) (fun q => jgb G ≤ q) s (jgH G))
/-- rows of rows -/
def jAO (t : FieldType) (s : State) : Prop := (Cond.arrayOver (.array t)).before #[] s = true
theorem jAO.moved {t : FieldType} {u U : State} (hvm : u.vm.Alike U.vm) (h : jAO t u) : jAO t U := by
  obtain ⟨comp, c, k, h1, h2, h3, h4, h5⟩ := arrayOverA_spec h
  obtain ⟨k', hk', he⟩ := hvm.2.2 _ _ h3
  have hkind : k'.kind = .array comp (.array t) := by rw [he]; exact h4
  have f1 : U.vm.findClass (FieldType.array t).toString = some comp := by rw [hvm.findClass]; exact h1
  have f2 : U.vm.findClass ("[" ++ (FieldType.array t).toString) = some c := by rw [hvm.findClass]; exact h5
  unfold jAO Cond.before Cond.holds
  simp only [Cond.value, f1, Option.bind_some, beq_iff_eq]
  rw [Option.bind_eq_some_iff]
  refine ⟨c, (hvm.findIdx?_eqK _ (fun _ => rfl)).trans h2, ?_⟩
  simp [hk', hkind, f2]
def jX (G : jG) (s : State) : Prop := va_AO "FirstIn$Room" s ∧ va_AO "FirstIn$Rule" s ∧ va_AO "java/lang/String" s ∧ jAO .int s ∧ jAO .long s ∧ va_X (jgK G 300) (jgL G) (jgX G) s (jgH G) ∧ jgK G 300 < jgb G
theorem jX.moved {G : jG} {u U : State} (hvm : u.vm.Alike U.vm) (h : jX G u) : jX G U := by
  obtain ⟨h1, h2, h3, h4, h5, h6, h7⟩ := h
  exact ⟨h1.moved hvm, h2.moved hvm, h3.moved hvm, h4.moved hvm, h5.moved hvm, h6.moved hvm, h7⟩
def jKn (G : jG) (s : State) : Prop := (∀ c, c < 13 → u_Kn s (cN c) (cT c) (nF c) (jgC G c) (jgI G c)) ∧ (∀ k, 100 ≤ k → k < 109 → ArrOfT s (jgA G k) (aTy k) ∧ va_RA s (jgA G k) (aTy k)) ∧ ((∀ q ∈ nws, va_Nw (.methodLinkNest q.1 q.2.1 q.2.2.1 q.2.2.2) s) ∧ jX G s) ∧ jStr G s
theorem jKn.warm {G : jG} {s U : State} (hW : s.WarmedH U.vm) (h : jKn G s) : jKn G U := by
  obtain ⟨h1, h2, ⟨h0, h9⟩, h3, h4, h5, h6⟩ := h
  exact ⟨fun c hc => u_Kn_moved hW.alike (h1 c hc), fun k a b => ⟨arrOfT_moved hW.alike (h2 k a b).1, (h2 k a b).2.moved hW.alike⟩, ⟨fun q hq => va_Nw.warmM hW (h0 q hq), h9.moved hW.alike⟩, h3.moved hW.alike, fun q hq => (h4 q hq).warm hW, h5.moved hW.alike, h6.imp (fun q => q.moved hW.alike) (fun q => q.moved hW.alike)⟩
theorem jKn.same {G : jG} {s U : State} (hv : U.vm = s.vm) (h : jKn G s) : jKn G U := by
  obtain ⟨h1, h2, ⟨h0, h9⟩, h3, h4, h5, h6⟩ := h
  have ha : s.vm.Alike U.vm := by rw [hv]; exact Vm.Alike.refl _
  exact ⟨fun c hc => u_Kn_moved ha (h1 c hc), fun k a b => ⟨arrOfT_moved ha (h2 k a b).1, (h2 k a b).2.moved ha⟩, ⟨fun q hq => va_Nw.same rfl hv.symm (h0 q hq), h9.moved ha⟩, h3.moved ha, fun q hq => (h4 q hq).same hv, h5.moved ha, h6.imp (fun q => q.moved ha) (fun q => q.moved ha)⟩
def jctx (G : jG) (M : jM) (p : Program) (s : State) (m : MethodId) (args : Array Value) (meth : Method) (c : Code) : Prop :=
  p.tables.exec = Jvm.exec ∧ c.code = jmc M ∧ meth.sig.returnType = jmr M ∧ c.maxLocals = jmn M ∧ s.vm.findClass (jmo M) = some m.cls ∧ (∀ w ∈ gw, w.before args s = true) ∧ meth.locks = false ∧ jKn G s ∧ meth.name = (jmy M).name
abbrev jQ : Type := List Frame → Array Value → State → State → Prop
def lmap (G : jG) (ls : List (Nat × AV)) : List (Nat × Value) := ls.map (fun q => (q.1, cv G q.2))
/-- from the place pc, with these locals, this stack, this heap, the machine comes to Q -/
def jJ (G : jG) (M : jM) (Q : jQ) (cs ss pc : Nat) (ls : List (Nat × AV)) (st : List AV) (h : hS × hV) : Prop :=
  ∀ (p : Program) (e : Env) (s : State) (m : MethodId) (args : Array Value) (below : List Frame) (meth : Method) (c : Code), jctx G M p s m args meth c →
    ∀ (H : Heap) (locs : List Loc) (la : Array Slot), wd G h H → (∀ q ∈ locs, jgb G ≤ q.base) → lv_has la (jmn M) (lmap G ls) →
      W p (jgl G) e (jmR M) s m args below meth c H locs cs ss (Q below args s) (F0 m pc la (st.map (cv G)))
/-- a contract: with these arguments and this heap the method comes back with o, and the heap is h' -/
def jQc (G : jG) (o : Option AV) (h' : hS × hV) : Array Value → State → Outcome → State → Prop := fun _ _ oc t => oc = .returned (o.map (cv G)) ∧ wd G h' t.heap
def jC (G : jG) (M : jM) (As : List AV) (h : hS × hV) (o : Option AV) (h' : hS × hV) : Prop :=
  Met (jgl G) (jmy M) (jWs M) (jmR M) (va_Pc (As.map (cv G)) (fun U => wd G h U.heap ∧ jKn G U)) (jQc G o h') (jmk M) (jms M) (fun q => jgb G ≤ q)
def jEnd (G : jG) (M : jM) (o : Option AV) (h' : hS × hV) : jQ := fun below args s => MQ below (jQc G o h') args s (jmk M) (jms M) (fun q => jgb G ≤ q)
def jget (ls : List (Nat × AV)) (i : Nat) : Option AV := (ls.find? (fun q => q.1 == i)).map (·.2)
theorem jget_mem {ls : List (Nat × AV)} {i : Nat} {v : AV} (h : jget ls i = some v) : (i, v) ∈ ls := by
  unfold jget at h
  obtain ⟨q, hq, rfl⟩ := Option.map_eq_some_iff.mp h
  have h1 := List.find?_some hq
  have h2 := List.mem_of_find?_eq_some hq
  have e : q.1 = i := by simpa using h1
  subst e
  exact h2
theorem lmap_at {G : jG} {ls : List (Nat × AV)} {la : Array Slot} {nL i : Nat} {v : AV} (hl : lv_has la nL (lmap G ls)) (h : jget ls i = some v) : la[i]? = some (.val (cv G v)) :=
  hl.2.2 (i, cv G v) (List.mem_map.mpr ⟨(i, v), jget_mem h, rfl⟩)
def jset (ls : List (Nat × AV)) (i : Nat) (v : AV) : List (Nat × AV) := (i, v) :: ls.filter (fun q => !(q.1 == i) && !(q.1 + 1 == i && isL q.2))
def jset2 (ls : List (Nat × AV)) (i : Nat) (v : AV) : List (Nat × AV) := (i, v) :: ls.filter (fun q => !(q.1 == i) && (!(q.1 == i + 1) && !(q.1 + 1 == i && isL q.2)))
theorem cv_cat (G : jG) (v : AV) : ((cv G v).category == 2) = isL v := by
  rcases v with x | x | x
  · rfl
  · rfl
  · cases x <;> rfl
theorem lmap_set {G : jG} {ls : List (Nat × AV)} {i : Nat} {v : AV} : (i, cv G v) :: (lmap G ls).filter (fun q => !(q.1 == i) && !(q.1 + 1 == i && q.2.category == 2)) = lmap G (jset ls i v) := by
  unfold lmap jset
  rw [List.map_cons, List.filter_map]
  congr 2
  apply List.filter_congr
  intro q hq
  simp only [Function.comp, cv_cat]
theorem lmap_set2 {G : jG} {ls : List (Nat × AV)} {i : Nat} {v : AV} : (i, cv G v) :: (lmap G ls).filter (fun q => !(q.1 == i) && (!(q.1 == i + 1) && !(q.1 + 1 == i && q.2.category == 2))) = lmap G (jset2 ls i v) := by
  unfold lmap jset2
  rw [List.map_cons, List.filter_map]
  congr 2
  apply List.filter_congr
  intro q hq
  simp only [Function.comp, cv_cat]
/-- fewer locals, in another order -/
theorem j_sub {G : jG} {M : jM} {Q : jQ} {cs ss pc : Nat} {ls ls' : List (Nat × AV)} {st : List AV} {h : hS × hV} (hs : ls'.map (fun q => jget ls q.1) = ls'.map (fun q => some q.2)) (kk : jJ G M Q cs ss pc ls' st h) : jJ G M Q cs ss pc ls st h := by
  intro p e s m args below meth c C H locs la hw hL hl
  refine kk p e s m args below meth c C H locs la hw hL ⟨hl.1, hl.2.1, fun q hq => ?_⟩
  obtain ⟨r, hr, rfl⟩ := List.mem_map.mp hq
  have h1 : ∀ x ∈ ls', jget ls x.1 = some x.2 := List.map_inj_left.mp hs
  exact lmap_at hl (h1 r hr)
/-! entry -/
def jargs : Nat → List AV → List (Nat × AV)
  | _, [] => []
  | i, v :: vs => (i, v) :: jargs (if isL v then i + 2 else i + 1) vs
theorem jargs_map (G : jG) : ∀ (As : List AV) (i : Nat), lv_args i (As.map (cv G)) = lmap G (jargs i As)
  | [], _ => rfl
  | v :: vs, i => by
    show (i, cv G v) :: lv_args (if (cv G v).category = 2 then i + 2 else i + 1) (vs.map (cv G)) = (i, cv G v) :: lmap G (jargs (if isL v then i + 2 else i + 1) vs)
    rw [jargs_map G vs]
    have h := cv_cat G v
    by_cases hc : (cv G v).category = 2
    · have : isL v = true := by rw [← h]; simpa using hc
      rw [if_pos hc, this]; rfl
    · have : isL v = false := by rw [← h]; simpa using hc
      rw [if_neg hc, this]; rfl
def jlen : List AV → Nat
  | [] => 0
  | v :: vs => (if isL v then 2 else 1) + jlen vs
theorem jlen_map (G : jG) : ∀ (As : List AV), (lg_sl (As.map (cv G))).length = jlen As
  | [] => rfl
  | v :: vs => by
    have ih := jlen_map G vs
    have h := cv_cat G v
    unfold lg_sl at ih ⊢
    rw [List.map_cons, List.flatMap_cons, List.length_append, ih]
    by_cases hc : (cv G v).category = 2
    · have : isL v = true := by rw [← h]; simpa using hc
      simp [jlen, hc, this]
    · have : isL v = false := by rw [← h]; simpa using hc
      simp [jlen, hc, this]
/-- a contract out of a walk -/
theorem jC_of {G : jG} {M : jM} {As : List AV} {h h' : hS × hV} {o : Option AV} (hy : plainFor (jmy M) = true) (ho : jmo M = (jmy M).cls) (hn : jlen As ≤ jmn M) (hJ : jJ G M (jEnd G M o h') 0 0 0 (jargs 0 As) [] h) : jC G M As h o h' := by
  refine va_MetF (cc := jmc M) (maxL := jmn M) (ret := jmr M) hy rfl ?_
  intro p e s m args below meth c s₁ B hml hv
  obtain ⟨rfl, hw, hK⟩ := hv
  have hts := atoms_spec (ws := jWs M) B.pre
  have hown : s.vm.findClass (jmo M) = some m.cls := by rw [ho]; exact findClass_of_methodNamed B.named
  have hl := lv_entry (As.map (cv G)) (n := jmn M) (by rw [jlen_map]; exact hn)
  rw [jargs_map] at hl
  rw [lg_entry_eq]
  exact hJ p e s m _ below meth c ⟨B.exec, B.bytes, B.returns, hml, hown, fun w hw => hts w (List.mem_cons_of_mem _ hw), B.notSynchronized, hK, (name_of_methodNamed B.named B.method).1⟩ s.heap [] _ hw (fun q hq => by cases hq) hl
