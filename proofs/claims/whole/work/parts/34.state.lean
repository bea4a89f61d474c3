/-! ===== layer 2: the state both keep, and where each keeps it ===== -/
/-- what is known: 0: length of the text, rooms, guests, marks, rules; 1: bytes; 2, 3: kinds and places of the rooms; 4: members of the marks; 5..10: kind, one, other, weight, room, unless of the rules; 11: rests; 12..15: coming, sitting, room, place of the guests -/
abbrev Tb : Type := Nat → Nat → Int
section
variable {T : Tb} {I I' : Nat → Nat → Int32} {b : Bool}
/-- the mark m is given to g -/
def mem (T : Tb) (m g : Nat) : Bool := (T 4 m).toNat.testBit g
def isOf (T : Tb) (w : Int) (g : Nat) : Bool := if w < 100 then decide (w = g) else mem T (w - 100).toNat g
def cup (T : Tb) (r x y : Nat) : Bool := decide (x ≠ y) && (isOf T (T 6 r) x && (isOf T (T 7 r) y && (decide (T 10 r = -1) || !mem T (T 10 r).toNat y)))
/-- the rule r has the couple x, y -/
def hcu (T : Tb) (r x y : Nat) : Bool := cup T r x y || (decide (T 5 r ≠ 0) && cup T r y x)
/-- as the class keeps it: the lower of the two ahead, unless one is above -/
def cpl (T : Tb) (r x y : Nat) : Bool := hcu T r x y && (decide (T 5 r = 0) || decide (x < y))
def ng (T : Tb) : Nat := (T 0 2).toNat
def bcom (T : Tb) : Nat := bt (ng T) (fun g => decide (T 12 g = 1))
def bsit (T : Tb) : Nat := bt (ng T) (fun g => decide (T 13 g = 1))
def tvA (T : Tb) : Prop := (0 ≤ T 0 0 ∧ T 0 0 ≤ 700) ∧ (∀ k, k < 700 → -128 ≤ T 1 k ∧ T 1 k < 128)
def tvB (T : Tb) : Prop := (0 ≤ T 0 1 ∧ T 0 1 ≤ 4) ∧ (∀ k : Nat, k < T 0 1 → (0 ≤ T 2 k ∧ T 2 k ≤ 4) ∧ 1 ≤ T 3 k ∧ T 3 k ≤ 10)
def tvC (T : Tb) : Prop := ((0 ≤ T 0 2 ∧ T 0 2 ≤ 10) ∧ (0 ≤ T 0 3 ∧ T 0 3 ≤ 5) ∧ (0 ≤ T 0 4 ∧ T 0 4 ≤ 12)) ∧ (∀ m : Nat, m < T 0 3 → 0 ≤ T 4 m ∧ (T 4 m).toNat < 2 ^ ng T)
def tvW (T : Tb) (w : Int) : Prop := (0 ≤ w ∧ w < T 0 2) ∨ (100 ≤ w ∧ w < 100 + T 0 3)
def tvD (T : Tb) : Prop := ∀ r : Nat, r < T 0 4 → (0 ≤ T 5 r ∧ T 5 r ≤ 2) ∧ tvW T (T 6 r) ∧ tvW T (T 7 r) ∧ (1 ≤ T 8 r ∧ T 8 r ≤ 9) ∧ (-1 ≤ T 9 r ∧ T 9 r ≤ 3) ∧ (-1 ≤ T 10 r ∧ T 10 r < T 0 3) ∧ (T 11 r = 0 ∨ T 11 r = 1)
def tvE (T : Tb) : Prop := ∀ g : Nat, g < T 0 2 → (T 12 g = 0 ∨ T 12 g = 1) ∧ (T 13 g = 0 ∨ T 13 g = 1) ∧ ((T 14 g = -1 ∧ T 15 g = -1 ∧ T 13 g = 0) ∨ ((0 ≤ T 14 g ∧ T 14 g < T 0 1) ∧ (0 ≤ T 15 g ∧ T 15 g < T 3 (T 14 g).toNat) ∧ T 12 g = 1))
def tvF (T : Tb) : Prop := ∀ g h : Nat, g < T 0 2 → h < T 0 2 → T 14 g ≠ -1 → T 14 g = T 14 h → T 15 g = T 15 h → g = h
/-- the class's cells -/
def cA (T : Tb) (I : Nat → Nat → Int32) : Prop := I 1 1 = iI (T 0 0) ∧ ∀ k, k < 700 → I 2 k = iI (T 1 k)
def cB (T : Tb) (I : Nat → Nat → Int32) : Prop := I 0 9 = iI (T 0 1) ∧ ∀ k : Nat, k < 4 → I (ro k) 0 = iI k ∧ (k < T 0 1 → I (ro k) 4 = iI (T 2 k) ∧ I (ro k) 5 = iI (T 3 k))
def cC (T : Tb) (b : Bool) (I : Nat → Nat → Int32) : Prop := (I (ct b) 4 = iI (T 0 2) ∧ I (ct b) 5 = iI (T 0 3) ∧ I (ct b) 6 = iI (T 0 4)) ∧ (∀ m : Nat, m < T 0 3 → I (ct b + 1) m = iI ((T 4 m).toNat : Int))
def cD (T : Tb) (b : Bool) (I : Nat → Nat → Int32) : Prop := ∀ r : Nat, r < T 0 4 → I (ru b r) 0 = iI (T 5 r) ∧ I (ru b r) 1 = iI (T 6 r) ∧ I (ru b r) 2 = iI (T 7 r) ∧ I (ru b r) 3 = iI (T 8 r) ∧ I (ru b r) 4 = iI (T 9 r) ∧ I (ru b r) 5 = iI (if T 10 r = -1 then -1 else 100 + T 10 r) ∧ I (ru b r) 6 = iI (T 11 r) ∧ ∀ x, x < 10 → I (cu b r) x = iI (bt 10 (cpl T r x) : Int)
def cE (T : Tb) (b : Bool) (I : Nat → Nat → Int32) : Prop := (I (ct b) 7 = iI (bcom T : Int) ∧ I (ct b) 8 = iI (bsit T : Int)) ∧ ∀ g : Nat, g < T 0 2 → I (ct b + 3) g = iI (T 14 g) ∧ I (ct b + 4) g = iI (T 15 g)
/-- the model's cells -/
def mA (T : Tb) (I : Nat → Nat → Int32) : Prop := I 132 1 = iI (T 0 0) ∧ ∀ k, k < 700 → I 133 k = iI (T 1 k)
def mB (T : Tb) (I : Nat → Nat → Int32) : Prop := I 132 26 = iI (T 0 1) ∧ ∀ k : Nat, k < T 0 1 → I 170 k = iI (T 2 k) ∧ I 171 k = iI (T 3 k)
def mC (T : Tb) (I : Nat → Nat → Int32) : Prop := (I 161 0 = iI (T 0 2) ∧ I 162 0 = iI (T 0 3) ∧ I 163 0 = iI (T 0 4)) ∧ (∀ m : Nat, m < T 0 3 → I 141 m = iI ((T 4 m).toNat : Int))
def mD (T : Tb) (I : Nat → Nat → Int32) : Prop := ∀ r : Nat, r < T 0 4 → I 144 r = iI (T 5 r) ∧ I 147 r = iI (T 6 r) ∧ I 150 r = iI (T 7 r) ∧ I 153 r = iI (T 8 r) ∧ I 156 r = iI (T 9 r) ∧ I 159 r = iI (T 10 r) ∧ I 165 r = iI (T 11 r)
def mE (T : Tb) (I : Nat → Nat → Int32) : Prop := ∀ g : Nat, g < T 0 2 → I 166 g = iI (T 12 g) ∧ I 167 g = iI (T 13 g) ∧ I 168 g = iI (T 14 g) ∧ I 169 g = iI (T 15 g)
def TV (T : Tb) : Prop := (tvA T ∧ tvB T) ∧ (tvC T ∧ tvD T) ∧ tvE T ∧ tvF T
def EC (T : Tb) (b : Bool) (I : Nat → Nat → Int32) : Prop := (cA T I ∧ cB T I) ∧ (cC T b I ∧ cD T b I) ∧ cE T b I
def EM (T : Tb) (I : Nat → Nat → Int32) : Prop := (mA T I ∧ mB T I) ∧ (mC T I ∧ mD T I) ∧ mE T I
/-- the same in the cells of which s holds -/
def Agr (s : Nat → Prop) (I I' : Nat → Nat → Int32) : Prop := ∀ o, s o → ∀ k, I' o k = I o k
theorem Agr.refl (s : Nat → Prop) (I : Nat → Nat → Int32) : Agr s I I := fun _ _ _ => rfl
theorem Agr.trans {s : Nat → Prop} {I I' I'' : Nat → Nat → Int32} (h : Agr s I I') (h' : Agr s I' I'') : Agr s I I'' := fun o ho k => (h' o ho k).trans (h o ho k)
theorem Agr.sub {s s' : Nat → Prop} (h : Agr s I I') (hs : ∀ o, s' o → s o) : Agr s' I I' := fun o ho k => h o (hs o ho) k
theorem Agr.hup {s : Nat → Prop} {o k : Nat} {v : Int32} (h : Agr s I I') (ho : ¬ s o) : Agr s I (hup I' o k v) := fun q hq j => by
  have e : q ≠ o := fun e => ho (e ▸ hq)
  rw [hup_obj _ _ _ e]; exact h q hq j
theorem cA.agr (h : cA T I) (ha : Agr (fun o => o = 1 ∨ o = 2) I I') : cA T I' := ⟨(ha 1 (Or.inl rfl) 1).trans h.1, fun k hk => (ha 2 (Or.inr rfl) k).trans (h.2 k hk)⟩
theorem mA.agr (h : mA T I) (h1 : I' 132 1 = I 132 1) (ha : Agr (fun o => o = 133) I I') : mA T I' := ⟨h1.trans h.1, fun k hk => (ha _ rfl k).trans (h.2 k hk)⟩
theorem mB.agr (h : mB T I) (h1 : I' 132 26 = I 132 26) (ha : Agr (fun o => o = 170 ∨ o = 171) I I') : mB T I' := ⟨h1.trans h.1, fun k hk => ⟨(ha _ (Or.inl rfl) k).trans (h.2 k hk).1, (ha _ (Or.inr rfl) k).trans (h.2 k hk).2⟩⟩
theorem mC.agr (h : mC T I) (ha : Agr (fun o => o = 141 ∨ o = 161 ∨ o = 162 ∨ o = 163) I I') : mC T I' := ⟨⟨(ha 161 (by omega) 0).trans h.1.1, (ha 162 (by omega) 0).trans h.1.2.1, (ha 163 (by omega) 0).trans h.1.2.2⟩, fun k hk => (ha 141 (by omega) k).trans (h.2 k hk)⟩
theorem mD.agr (h : mD T I) (ha : Agr (fun o => 144 ≤ o ∧ o ≤ 165) I I') : mD T I' := fun r hr => by
  obtain ⟨h1, h2, h3, h4, h5, h6, h7⟩ := h r hr
  exact ⟨(ha _ (by omega) r).trans h1, (ha _ (by omega) r).trans h2, (ha _ (by omega) r).trans h3, (ha _ (by omega) r).trans h4, (ha _ (by omega) r).trans h5, (ha _ (by omega) r).trans h6, (ha _ (by omega) r).trans h7⟩
theorem mE.agr (h : mE T I) (ha : Agr (fun o => 166 ≤ o ∧ o ≤ 169) I I') : mE T I' := fun r hr => by
  obtain ⟨h1, h2, h3, h4⟩ := h r hr
  exact ⟨(ha _ (by omega) r).trans h1, (ha _ (by omega) r).trans h2, (ha _ (by omega) r).trans h3, (ha _ (by omega) r).trans h4⟩
theorem cB.agr (h : cB T I) (h1 : I' 0 9 = I 0 9) (ha : ∀ k, k < 4 → I' (ro k) 0 = I (ro k) 0 ∧ I' (ro k) 4 = I (ro k) 4 ∧ I' (ro k) 5 = I (ro k) 5) : cB T I' := ⟨h1.trans h.1, fun k hk => by
  obtain ⟨a1, a2, a3⟩ := ha k hk
  obtain ⟨b1, b2⟩ := h.2 k hk
  exact ⟨a1.trans b1, fun q => ⟨a2.trans (b2 q).1, a3.trans (b2 q).2⟩⟩⟩
theorem cC.agr (h : cC T b I) (h1 : I' (ct b) 4 = I (ct b) 4 ∧ I' (ct b) 5 = I (ct b) 5 ∧ I' (ct b) 6 = I (ct b) 6) (ha : Agr (fun o => o = ct b + 1) I I') : cC T b I' := ⟨⟨h1.1.trans h.1.1, h1.2.1.trans h.1.2.1, h1.2.2.trans h.1.2.2⟩, fun k hk => (ha _ rfl k).trans (h.2 k hk)⟩
theorem cD.agr (h : cD T b I) (ha : Agr (fun o => ct b + 5 ≤ o ∧ o < ct b + 29) I I') (hT : T 0 4 ≤ 12) : cD T b I' := fun r hr => by
  obtain ⟨h1, h2, h3, h4, h5, h6, h7, h8⟩ := h r hr
  have q : ct b + 5 ≤ ru b r ∧ ru b r < ct b + 29 := by unfold ru; omega
  have q2 : ct b + 5 ≤ cu b r ∧ cu b r < ct b + 29 := by unfold cu; omega
  exact ⟨(ha _ q _).trans h1, (ha _ q _).trans h2, (ha _ q _).trans h3, (ha _ q _).trans h4, (ha _ q _).trans h5, (ha _ q _).trans h6, (ha _ q _).trans h7, fun x hx => (ha _ q2 x).trans (h8 x hx)⟩
theorem cE.agr (h : cE T b I) (h1 : I' (ct b) 7 = I (ct b) 7 ∧ I' (ct b) 8 = I (ct b) 8) (ha : Agr (fun o => o = ct b + 3 ∨ o = ct b + 4) I I') : cE T b I' := ⟨⟨h1.1.trans h.1.1, h1.2.trans h.1.2⟩, fun g hg => ⟨(ha _ (Or.inl rfl) g).trans (h.2 g hg).1, (ha _ (Or.inr rfl) g).trans (h.2 g hg).2⟩⟩
end
