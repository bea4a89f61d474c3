/-! ===== the law's entry: out of what the Statement gives, the start jG ===== -/
def sIxR : List Nat := [9, 23, 28, 33, 38, 43, 48, 53, 58]
def sIxM : List Nat := [56, 58, 60, 62, 64, 66, 68, 70, 72]
def sTx : List String := ["guest", "mark", "is", "above", "even", "apart", "by", "in", "unless"]
def tmR (i : Nat) : Term := .string "FirstIn$Reader" (sIxR.getD i 0)
def tmM (i : Nat) : Term := .string "FirstInModel" (sIxM.getD i 0)
def gvn : List Cond := flatC (Jvm.Cond.and given_1 narrow_1)
theorem st_ex : ∀ i, i < 9 → Cond.exactly (tmR i) "java/lang/String" ∈ gvn := by decide +kernel
theorem st_co : ∀ i, i < 9 → Cond.eq (.field (tmR i) "java/lang/String" "coder" "B") (.int 0) ∈ gvn := by decide +kernel
theorem st_ar : ∀ i, i < 9 → Cond.arrayOf (.field (tmR i) "java/lang/String" "value" "[B") .byte ∈ gvn := by decide +kernel
theorem st_le : ∀ i, i < 9 → Cond.eq (.length (.field (tmR i) "java/lang/String" "value" "[B")) (.int (Int32.ofNat (sLen.getD i 0))) ∈ gvn := by decide +kernel
theorem st_el : ∀ i, i < 9 → ∀ j, j < sLen.getD i 0 → Cond.eq (.elem (.field (tmR i) "java/lang/String" "value" "[B") (.int (Int32.ofNat j))) (.int ((sByt.getD i []).getD j 0)) ∈ gvn := by decide +kernel
theorem st_ne : ∀ i, i < 9 → ∀ j, j < 9 → i ≠ j → Cond.not (.eq (tmR i) (tmR j)) ∈ gvn ∨ Cond.not (.eq (tmR j) (tmR i)) ∈ gvn := by decide +kernel
theorem st_eq : ∀ i, i < 9 → Cond.eq (tmR i) (tmM i) ∈ gvn ∨ Cond.eq (tmM i) (tmR i) ∈ gvn := by decide +kernel
theorem st_len : ∀ i, i < 9 → sLen.getD i 0 < 2 ^ 31 := by decide
theorem st_cs : Cond.eq (.static "java/lang/String" "COMPACT_STRINGS" "Z") (.int 1) ∈ gvn := by decide +kernel
theorem st_si : Cond.isRef (.static "jdk/internal/util/Preconditions" "SIOOBE_FORMATTER" "Ljava/util/function/BiFunction;") ∈ gvn := by decide +kernel
theorem st_refR : ∀ i, i < 9 → Cond.stringRef "FirstIn$Reader" (sIxR.getD i 0) (sTx.getD i "") ∈ tables_1 := by decide +kernel
theorem st_refM : ∀ i, i < 9 → Cond.stringRef "FirstInModel" (sIxM.getD i 0) (sTx.getD i "") ∈ tables_1 := by decide +kernel
theorem st_refs : ∀ q ∈ sRefs, ∃ i, i < 9 ∧ q.2.2.2 = i ∧ ((q.1 = "FirstIn$Reader" ∧ q.2.1 = sIxR.getD i 0) ∨ (q.1 = "FirstInModel" ∧ q.2.1 = sIxM.getD i 0)) ∧ q.2.2.1 = sTx.getD i "" := by
  have h : ∀ k, k < 18 → ∃ i, i < 9 ∧ (sRefs.getD k ("", 0, "", 0)).2.2.2 = i ∧ (((sRefs.getD k ("", 0, "", 0)).1 = "FirstIn$Reader" ∧ (sRefs.getD k ("", 0, "", 0)).2.1 = sIxR.getD i 0) ∨ ((sRefs.getD k ("", 0, "", 0)).1 = "FirstInModel" ∧ (sRefs.getD k ("", 0, "", 0)).2.1 = sIxM.getD i 0)) ∧ (sRefs.getD k ("", 0, "", 0)).2.2.1 = sTx.getD i "" := by
    intro k hk
    refine ⟨(sRefs.getD k ("", 0, "", 0)).2.2.2, ?_, rfl, ?_⟩
    · revert k; decide
    · revert k; decide
  intro q hq
  obtain ⟨k, hk⟩ := List.getElem?_of_mem hq
  have hl : k < 18 := (List.getElem?_eq_some_iff.mp hk).1
  have e : sRefs.getD k ("", 0, "", 0) = q := by rw [List.getD_eq_getElem?_getD, hk]; rfl
  rw [← e]
  exact h k hl
theorem nws_in : ∀ q ∈ nws, Cond.methodLinkNest q.1 q.2.1 q.2.2.1 q.2.2.2 ∈ tables_1 := by decide +kernel
theorem jarr {s : State} {args : Array Value} (hts : ∀ w ∈ lw_tbl, w.before args s = true) (k : Nat) (h1 : 100 ≤ k) (h2 : k < 109) : ∃ cA : ClassId, ArrOfT s cA (aTy k) ∧ va_RA s cA (aTy k) := by
  rcases (by omega : k = 100 ∨ k = 101 ∨ k = 102 ∨ k = 103 ∨ k = 104 ∨ k = 105 ∨ k = 106 ∨ k = 107 ∨ k = 108) with rfl | rfl | rfl | rfl | rfl | rfl | rfl | rfl | rfl
  · obtain ⟨c, k, comp, g1, g2, g3⟩ := Cond.arrayClass_spec (hts _ (gt1_in (List.mem_of_getElem? (i := 169) rfl)) : (Cond.arrayClass .int).before args s = true)
    exact ⟨c, fun n z => ⟨fun k h => (by cases h), k, g2, comp, g3⟩, g1⟩
  · obtain ⟨c, k, comp, g1, g2, g3⟩ := Cond.arrayClass_spec (hts _ (gt1_in (List.mem_of_getElem? (i := 59) rfl)) : (Cond.arrayClass .byte).before args s = true)
    exact ⟨c, fun n z => ⟨fun k h => (by cases h), k, g2, comp, g3⟩, g1⟩
  · obtain ⟨c, k, comp, g1, g2, g3⟩ := Cond.arrayClass_spec (hts _ (gt6_in (List.mem_of_getElem? (i := 213) rfl)) : (Cond.arrayClass .boolean).before args s = true)
    exact ⟨c, fun n z => ⟨fun k h => (by cases h), k, g2, comp, g3⟩, g1⟩
  · obtain ⟨c, k, comp, g1, g2, g3⟩ := Cond.arrayClass_spec (hts _ (gt1_in (List.mem_of_getElem? (i := 168) rfl)) : (Cond.arrayClass .long).before args s = true)
    exact ⟨c, fun n z => ⟨fun k h => (by cases h), k, g2, comp, g3⟩, g1⟩
  · obtain ⟨comp, c, k, g1, g2, g3, g4, g5⟩ := Cond.arrayOver_spec (hts _ (gt1_in (List.mem_of_getElem? (i := 171) rfl)) : (Cond.arrayOver (.object "FirstIn$Room")).before args s = true)
    exact ⟨c, fun n z => ⟨fun k h => (by cases h), k, g3, comp, g4⟩, k, comp, g3, g4, g1, g5⟩
  · obtain ⟨comp, c, k, g1, g2, g3, g4, g5⟩ := Cond.arrayOver_spec (hts _ (gt2_in (List.mem_of_getElem? (i := 196) rfl)) : (Cond.arrayOver (.object "FirstIn$Rule")).before args s = true)
    exact ⟨c, fun n z => ⟨fun k h => (by cases h), k, g3, comp, g4⟩, k, comp, g3, g4, g1, g5⟩
  · obtain ⟨comp, c, k, g1, g2, g3, g4, g5⟩ := Cond.arrayOver_spec (hts _ (gt6_in (List.mem_of_getElem? (i := 10) rfl)) : (Cond.arrayOver (.object "java/lang/String")).before args s = true)
    exact ⟨c, fun n z => ⟨fun k h => (by cases h), k, g3, comp, g4⟩, k, comp, g3, g4, g1, g5⟩
  · obtain ⟨comp, c, k, g1, g2, g3, g4, g5⟩ := arrayOverA_spec (hts _ (gt6_in (List.mem_of_getElem? (i := 8) rfl)) : (Cond.arrayOver (.array .int)).before args s = true)
    exact ⟨c, fun n z => ⟨fun k h => (by cases h), k, g3, comp, g4⟩, g5⟩
  · obtain ⟨comp, c, k, g1, g2, g3, g4, g5⟩ := arrayOverA_spec (hts _ (gt6_in (List.mem_of_getElem? (i := 6) rfl)) : (Cond.arrayOver (.array .long)).before args s = true)
    exact ⟨c, fun n z => ⟨fun k h => (by cases h), k, g3, comp, g4⟩, g5⟩
set_option maxHeartbeats 4000000 in
/-- the law, from its entry, where its text answers 1 -/
theorem start_of {p : Program} {e : Env} {s : State} {m : MethodId} {below : List Frame} {meth : Method} {c : Code} (l : Launch) {b L : Nat} {xs : Nat → Int32} (hlaw : Law L xs = some 1) (C0 : lw_At p s m meth c b L xs) : W p l e room_1 s m #[Value.ref b] below meth c s.heap [] 0 0 (lw_Z below #[Value.ref b] s) (entryFrame m ([Value.ref b] : List Value).toArray 4) := by
  obtain ⟨hx, hb, hr, hml, hown, hts, hX, hbl, hlocks, hgv⟩ := C0
  have hgs : ∀ w ∈ gvn, w.before #[Value.ref b] s = true := flat_of_before _ hgv
  have htb : ∀ w ∈ tables_1, w.before #[Value.ref b] s = true := fun w hw => hts w (List.mem_append_right _ hw)
  have hA : ∀ a : Nat, a < s.heap.size → ¬ (fun q => s.heap.size ≤ q) a := fun a ha => Nat.not_le.mpr ha
  have hK0 : ∀ k : Nat, ∃ q : ClassId × (Nat → Nat), k < 13 → u_Kn s (cN k) (cT k) (nF k) q.1 q.2 := by
    intro k
    by_cases hk : k < 13
    · obtain ⟨cC, iS, h⟩ := u_known (C := cN k) (T := cT k) (N := nF k) (n := nF k) hts (fun w hw => gw_sub (c_lay k hk w hw)) (hts _ (gw_sub (c_inst k hk)))
      exact ⟨(cC, iS), fun _ => h⟩
    · exact ⟨(0, fun _ => 0), fun h => absurd h hk⟩
  obtain ⟨fK, hfK⟩ := Classical.axiomOfChoice hK0
  have hA0 : ∀ k : Nat, ∃ cA : ClassId, 100 ≤ k → k < 109 → ArrOfT s cA (aTy k) ∧ va_RA s cA (aTy k) := by
    intro k
    by_cases hk : 100 ≤ k ∧ k < 109
    · obtain ⟨cA, h⟩ := jarr hts k hk.1 hk.2
      exact ⟨cA, fun _ _ => h⟩
    · exact ⟨0, fun h1 h2 => absurd ⟨h1, h2⟩ hk⟩
  obtain ⟨fA, hfA⟩ := Classical.axiomOfChoice hA0
  obtain ⟨adK, adV, hStr, hEv⟩ := vk_Sof (args := #[Value.ref b]) (s := s) (N := 9) (tm := tmR) (len := sLen) (byt := sByt) (A := fun q => s.heap.size ≤ q) st_len (fun i hi => hgs _ (st_ex i hi)) (fun i hi => hgs _ (st_co i hi)) (fun i hi => hgs _ (st_ar i hi)) (fun i hi => hgs _ (st_le i hi)) (fun i hi j hj => hgs _ (st_el i hi j hj)) (fun i j hi hj hne => (st_ne i hi j hj hne).imp (hgs _) (hgs _)) hA
  have hZs : va_Zq "jdk/internal/util/Preconditions" "SIOOBE_FORMATTER" "Ljava/util/function/BiFunction;" (fun q => s.heap.size ≤ q) s s.heap := va_Zqof (hts _ (gt1_in (List.mem_of_getElem? (i := 96) rfl))) (hts _ (gt1_in (List.mem_of_getElem? (i := 6) rfl))) (hgs _ st_si) hA
  have hZc : va_Z "java/lang/String" "COMPACT_STRINGS" "Z" (.int 1) (fun q => s.heap.size ≤ q) s s.heap := va_Zof (hts _ (gt1_in (List.mem_of_getElem? (i := 79) rfl))) (hts _ (gt1_in (List.mem_of_getElem? (i := 4) rfl))) (va_eqt (hgs _ st_cs)) hA
  obtain ⟨t0, hZt⟩ : ∃ t0 : Nat, va_Z "jdk/internal/util/Preconditions" "SIOOBE_FORMATTER" "Ljava/util/function/BiFunction;" .null (fun q => s.heap.size ≤ q) s s.heap ∨ va_Z "jdk/internal/util/Preconditions" "SIOOBE_FORMATTER" "Ljava/util/function/BiFunction;" (.ref t0) (fun q => s.heap.size ≤ q) s s.heap := by
    rcases hZs with h | ⟨t, h⟩
    · exact ⟨0, Or.inl h⟩
    · exact ⟨t, Or.inr h⟩
  let fk : Nat → Nat := fun i => if i < 100 then adK i else if i < 200 then adV (i - 100) else if i < 300 then t0 else b
  let G : jG := (l, s.heap.size, fun k => (fK k).1, fun k => (fK k).2, fA, fk, s.heap, L, xs)
  have e1 : ∀ i, i < 9 → jgK G i = adK i := fun i hi => if_pos (by omega)
  have e2 : ∀ i, i < 9 → jgK G (100 + i) = adV i := fun i hi => by
    show (if 100 + i < 100 then adK (100 + i) else if 100 + i < 200 then adV (100 + i - 100) else if 100 + i < 300 then t0 else b) = _
    rw [if_neg (by omega), if_pos (by omega), Nat.add_sub_cancel_left]
  have e3 : jgK G 200 = t0 := rfl
  have e4 : jgK G 300 = b := rfl
  have hKn : jKn G s := by
    refine ⟨fun k hk => hfK k hk, fun k h1 h2 => hfA k h1 h2, ⟨fun q hq => va_Nw.of rfl (htb _ (nws_in q hq)), ?_⟩, ⟨?_, ?_⟩, ?_, hZc, ?_⟩
    · refine ⟨va_AO.of (hts _ (gt1_in (List.mem_of_getElem? (i := 171) rfl))), va_AO.of (hts _ (gt2_in (List.mem_of_getElem? (i := 196) rfl))), va_AO.of (hts _ (gt6_in (List.mem_of_getElem? (i := 10) rfl))), hts _ (gt6_in (List.mem_of_getElem? (i := 8) rfl)), hts _ (gt6_in (List.mem_of_getElem? (i := 6) rfl)), ?_, ?_⟩
      · rw [e4]; exact hX
      · rw [e4]; exact hbl
    · intro i hi
      obtain ⟨g1, g2, g3, g4⟩ := hStr.1 i hi
      refine ⟨by rw [e1 i hi]; exact g1, by rw [e1 i hi]; exact g2, ?_, ?_⟩
      · show va_OF _ _ _ (.ref (jgK G (100 + i))) (jgK G i) _ s _
        rw [e1 i hi, e2 i hi]
        exact g3
      · show va_T .byte (jgK G (100 + i)) _ _ _ s _
        rw [e2 i hi]
        exact g4
    · intro i j hi hj h
      rw [e1 i hi, e1 j hj] at h
      exact hStr.2 i j hi hj h
    · intro q hq
      obtain ⟨i, hi, h1, h2, h3⟩ := st_refs q hq
      rw [h1, h3, e1 i hi]
      rcases h2 with ⟨h4, h5⟩ | ⟨h4, h5⟩
      · rw [h4, h5]
        exact vk_R.of (htb _ (st_refR i hi)) (hEv i hi)
      · rw [h4, h5]
        refine vk_R.of (htb _ (st_refM i hi)) ?_
        rcases st_eq i hi with h6 | h6
        · exact va_eqR (hgs _ h6) (hEv i hi)
        · exact va_eqv (hgs _ h6) (hEv i hi)
    · rw [e3]; exact hZt
  have hw : wd G hE s.heap := ⟨rfl, Nat.zero_le _, fun k hk => absurd hk (Nat.not_lt_zero _), fun q _ => rfl⟩
  have hl := lv_entry ([Value.ref b] : List Value) (n := 4) (nle rfl)
  rw [lg_entry_eq]
  have ecv : cv G (ar (some (1000000 + 300))) = .ref b := by rw [cv_str, e4]
  have hJ := c_Law (G := G) (nm := meth.name) (b := b) rfl rfl hlaw p e s m #[Value.ref b] below meth c ⟨hx, hb, hr, hml, hown, fun w hw => hts w (gw_sub hw), hlocks, hKn, rfl⟩ s.heap [] _ hw (fun q hq => by cases hq) (by
    show lv_has _ 4 [(0, cv G (ar (some (1000000 + 300))))]
    rw [ecv]
    exact hl)
  intro T hT X
  obtain ⟨t, a1, b1⟩ := hJ T hT X
  exact ⟨t, a1, b1 rfl rfl⟩
