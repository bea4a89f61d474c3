/-! ===== layer 2: loops that write; the list of slights ===== -/
section
variable {T : Tb} {I I' : Nat → Nat → Int32} {J : Nat → Nat → Int64} {b v : Bool} {f k : Nat} {P : Nat → Nat → Option Nat} {a g w c1 c2 c s p m n q o : Int} {r x y : Nat}
theorem jheap_aux {body : Int32 × hV → Option ((Int32 × hV) ⊕ hV)} (Q : Nat → (Nat → Nat → Int32) → Prop) (N : Nat) (lo : Nat) (hs : ∀ k I, lo ≤ k → k < N → Q k I → ∃ I', body (iI (k : Int), (I, J, P)) = some (.inl (iI ((k : Int) + 1), (I', J, P))) ∧ Q (k + 1) I') (he : ∀ I, Q N I → body (iI (N : Int), (I, J, P)) = some (.inr (I, J, P))) : ∀ (d at_ fu : Nat) (I0 : Nat → Nat → Int32), lo ≤ at_ → at_ + d = N → d < fu → Q at_ I0 → ∃ I', jloop body fu (iI (at_ : Int), (I0, J, P)) = some (I', J, P) ∧ Q N I'
  | 0, at_, fu, I0, _, h1, h2, hq => by
    obtain ⟨fu, rfl⟩ : ∃ z, fu = z + 1 := ⟨fu - 1, by omega⟩
    have e : at_ = N := by omega
    subst e
    exact ⟨I0, jl_e (he I0 hq), hq⟩
  | d + 1, at_, fu, I0, h0, h1, h2, hq => by
    obtain ⟨fu, rfl⟩ : ∃ z, fu = z + 1 := ⟨fu - 1, by omega⟩
    obtain ⟨I1, e1, q1⟩ := hs at_ I0 h0 (by omega) hq
    obtain ⟨I2, e2, q2⟩ := jheap_aux Q N lo hs he d (at_ + 1) fu I1 (by omega) (by omega) (by omega) q1
    exact ⟨I2, (jl_s e1).trans e2, q2⟩
/-- a counting loop that writes ints -/
theorem jheap {body : Int32 × hV → Option ((Int32 × hV) ⊕ hV)} (Q : Nat → (Nat → Nat → Int32) → Prop) (lo N : Nat) (h0 : Q lo I) (hl : lo ≤ N) (hN : N < 5000) (hs : ∀ k I, lo ≤ k → k < N → Q k I → ∃ I', body (iI (k : Int), (I, J, P)) = some (.inl (iI ((k : Int) + 1), (I', J, P))) ∧ Q (k + 1) I') (he : ∀ I, Q N I → body (iI (N : Int), (I, J, P)) = some (.inr (I, J, P))) : ∃ I', jloop body jN (iI (lo : Int), (I, J, P)) = some (I', J, P) ∧ Q N I' :=
  jheap_aux Q N lo hs he (N - lo) lo jN I (Nat.le_refl _) (by omega) (by unfold jN; omega) h0
theorem EC.agr (E : EC T b I) (V : TV T) (ha : Agr (fun o => o ≤ 46 ∨ 74 ≤ o ∧ o < 132) I I') : EC T b I' := by
  obtain ⟨⟨eA, eB⟩, ⟨eC, eD⟩, eE⟩ := E
  obtain ⟨⟨vA, vB⟩, ⟨vC, vD⟩, vE, vF⟩ := V
  have h0 := vC.1
  have hc := ct_or b
  refine ⟨⟨eA.agr (ha.sub fun o h => by omega), eB.agr (ha 0 (by omega) 9) fun k hk => ?_⟩, ⟨eC.agr ⟨ha _ (by omega) _, ha _ (by omega) _, ha _ (by omega) _⟩ (ha.sub fun o h => by omega), eD.agr (ha.sub fun o h => by omega) (by omega)⟩, eE.agr ⟨ha _ (by omega) _, ha _ (by omega) _⟩ (ha.sub fun o h => by omega)⟩
  have : ro k ≤ 46 := by unfold ro; omega
  exact ⟨ha _ (by omega) _, ha _ (by omega) _, ha _ (by omega) _⟩
theorem EM.agr (E : EM T I) (h1 : I' 132 1 = I 132 1) (h2 : I' 132 26 = I 132 26) (ha : Agr (fun o => 133 ≤ o ∧ o ≤ 171) I I') : EM T I' := by
  obtain ⟨⟨eA, eB⟩, ⟨eC, eD⟩, eE⟩ := E
  exact ⟨⟨eA.agr h1 (ha.sub fun o h => by omega), eB.agr h2 (ha.sub fun o h => by omega)⟩, ⟨eC.agr (ha.sub fun o h => by omega), eD.agr (ha.sub fun o h => by omega)⟩, eE.agr (ha.sub fun o h => by omega)⟩
theorem cK.agr (h : cK c1 c2 b I) (ha : Agr (fun o => 74 ≤ o ∧ o < 132) I I') : cK c1 c2 b I' := by
  have hc := ct_or b
  exact ⟨(ha _ (by omega) _).trans h.1, (ha _ (by omega) _).trans h.2⟩
/-! the list of slights -/
abbrev S3 : Type := Nat × Nat × Nat
def sl3 (p : Nat → Bool) (r x k : Nat) : List S3 := match k with
  | 0 => []
  | k + 1 => sl3 p r x k ++ if p k then [(r, x, k)] else []
def sl2 (p : Nat → Nat → Bool) (r n k : Nat) : List S3 := match k with
  | 0 => []
  | k + 1 => sl2 p r n k ++ sl3 (p k) r k n
def sl1 (p : Nat → Nat → Nat → Bool) (n k : Nat) : List S3 := match k with
  | 0 => []
  | k + 1 => sl1 p n k ++ sl2 (p k) k n n
theorem sl3_no {p : Nat → Bool} : ∀ {k : Nat}, (∀ y, y < k → p y = false) → sl3 p r x k = []
  | 0, _ => rfl
  | k + 1, h => by
    unfold sl3
    rw [sl3_no (k := k) fun y hy => h y (by omega), h k (by omega)]; rfl
theorem sl3_out {p : Nat → Bool} (n : Nat) (h : ∀ y, n ≤ y → p y = false) : ∀ d, sl3 p r x (n + d) = sl3 p r x n
  | 0 => rfl
  | d + 1 => by
    show (sl3 p r x (n + d) ++ if p (n + d) = true then [(r, x, n + d)] else []) = _
    rw [sl3_out n h d, h (n + d) (by omega)]
    simp
theorem sl2_no {p : Nat → Nat → Bool} (n : Nat) : ∀ {k : Nat}, (∀ x y, p x y = false) → sl2 p r n k = []
  | 0, _ => rfl
  | k + 1, h => by
    unfold sl2
    rw [sl2_no n (k := k) h, sl3_no fun y _ => h k y]; rfl
theorem sl2_out {p : Nat → Nat → Bool} (N n : Nat) (h : ∀ x y, n ≤ x → p x y = false) : ∀ d, sl2 p r N (n + d) = sl2 p r N n
  | 0 => rfl
  | d + 1 => by
    show sl2 p r N (n + d) ++ sl3 (p (n + d)) r (n + d) N = _
    rw [sl2_out N n h d, sl3_no fun y _ => h (n + d) y (by omega)]
    simp
theorem sl2_w {p : Nat → Nat → Bool} (n d : Nat) (h : ∀ x y, n ≤ y → p x y = false) : ∀ k, sl2 p r (n + d) k = sl2 p r n k
  | 0 => rfl
  | k + 1 => by
    show sl2 p r (n + d) k ++ sl3 (p k) r k (n + d) = sl2 p r n k ++ sl3 (p k) r k n
    rw [sl2_w n d h k, sl3_out n (h k) d]
theorem sl3_len (p : Nat → Bool) : ∀ k, (sl3 p r x k).length ≤ k
  | 0 => Nat.le_refl 0
  | k + 1 => by
    have := sl3_len p k
    unfold sl3
    rw [List.length_append]
    split
    · simp only [List.length_cons, List.length_nil]; omega
    · simp only [List.length_nil]; omega
theorem sl2_len (p : Nat → Nat → Bool) (h : k ≤ 10) : ∀ j, (sl2 p r k j).length ≤ 10 * j
  | 0 => Nat.le_refl 0
  | j + 1 => by
    have h1 := sl2_len p h j
    have h2 := sl3_len (p j) (r := r) (x := j) k
    unfold sl2
    rw [List.length_append]; omega
theorem sl1_len (p : Nat → Nat → Nat → Bool) (h : k ≤ 10) : ∀ j, (sl1 p k j).length ≤ 100 * j
  | 0 => Nat.le_refl 0
  | j + 1 => by
    have h1 := sl1_len p h j
    have h2 := sl2_len (p j) h (r := j) k
    unfold sl1
    rw [List.length_append]; omega
/-- all of it keeps to q -/
theorem sl3_all {p : Nat → Bool} {q : S3 → Prop} : ∀ {k : Nat}, (∀ y, y < k → p y = true → q (r, x, y)) → ∀ t ∈ sl3 p r x k, q t
  | 0, _, t, ht => by cases ht
  | k + 1, h, t, ht => by
    unfold sl3 at ht
    rcases List.mem_append.mp ht with z | z
    · exact sl3_all (k := k) (fun y hy => h y (by omega)) t z
    · cases e : p k
      · rw [e] at z; simp at z
      · rw [e] at z
        simp only [if_true, List.mem_singleton] at z
        rw [z]; exact h k (by omega) e
end
