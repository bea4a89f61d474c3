/-! ===== reading and writing the known cells: printed by wip/whole/gen/gen32.py ===== -/
variable {I : Nat → Nat → Int32} {J : Nat → Nat → Int64} {P : Nat → Nat → Option Nat} {b d : Bool} {f k j r c o n : Nat} {a : Int} {x : Int32} {y : Int64} {z : Option Nat}
def ct (b : Bool) : Nat := if b then 74 else 103
def ru (b : Bool) (r : Nat) : Nat := ct b + 5 + 2 * r
def cu (b : Bool) (r : Nat) : Nat := ct b + 6 + 2 * r
def ro (k : Nat) : Nat := 7 + 10 * k
def fo (k j : Nat) : Nat := 8 + 10 * k + 3 * j
theorem ct_or (b : Bool) : ct b = 74 ∨ ct b = 103 := by cases b <;> decide
theorem ct_not (b : Bool) : ct b + ct (!b) = 177 := by cases b <;> decide
/-- the references: which court is the court, which found the search is at -/
def Pst (b : Bool) (f : Nat) : Nat → Nat → Option Nat := fun o k => if o = 0 ∧ k = 7 then some (ct b) else if o = 0 ∧ k = 8 then some (ct (!b)) else if o = 61 ∧ k = 7 then some f else P0 o k
theorem okc (h : o < 198) (h1 : (tS.getD o (0, 0)).1 = c) : rc S0 c (some o) = some o := by
  have e : (S0.2 o).1 = c := by rw [S0_t o h]; exact h1
  have e1 : o < S0.1 := by rw [S0_n.1]; exact h
  simp [rc, e, e1]
theorem okx {t : Nat} (h : o < 198) (h1 : tS.getD o (0, 0) = (t, n)) (ha : 0 ≤ a ∧ a < n) (hn : n < 100000) : rx S0 t (some o) (iI a) = some o ∧ (iI a).toNatClampNeg = a.toNat := by
  have hr : rg a := by unfold rg; omega
  have e : S0.2 o = (t, n) := by rw [S0_t o h]; exact h1
  have e1 : o < S0.1 := by rw [S0_n.1]; exact h
  have hc := iI_clamp hr
  have hq : ¬ iI a < 0 := by rw [n_0, iI_lt ⟨hr, by unfold rg; omega⟩]; omega
  refine ⟨?_, hc⟩
  have hl : a.toNat < n := by omega
  simp [rx, e, e1, hc, hq, hl]
theorem okn {t : Nat} (h : o < 198) (h1 : tS.getD o (0, 0) = (t, n)) (ht : 100 ≤ t ∧ t < 109) (hn : n < 100000) : aN S0 (some o) = some (iI n) := by
  have e : S0.2 o = (t, n) := by rw [S0_t o h]; exact h1
  have e1 : o < S0.1 := by rw [S0_n.1]; exact h
  have e2 : iI n = Int32.ofNat n := Int32.ofInt_eq_ofNat
  simp [aN, e, e1, ht.1, ht.2, e2]
theorem okp (h : (o, k, n) ∈ tP) (h1 : ¬ (o = 0 ∧ k = 7)) (h2 : ¬ (o = 0 ∧ k = 8)) (h3 : ¬ (o = 61 ∧ k = 7)) : Pst b f o k = some n := by
  unfold Pst
  rw [if_neg h1, if_neg h2, if_neg h3]
  exact P0_t _ h
theorem rc0 : rc S0 11 (some 0) = some (0) := okc (by decide) (by decide)
theorem gi0 : gI S0 11 k (I, J, P) (some 0) = some (I 0 k) := by simp [gI, rc0]
theorem gl0 : gL S0 11 k (I, J, P) (some 0) = some (J 0 k) := by simp [gL, rc0]
theorem pi0 : pI S0 11 k (I, J, P) (some 0) x = some (hup I 0 k x, J, P) := by simp [pI, rc0]
theorem pl0 : pL S0 11 k (I, J, P) (some 0) y = some (I, hup J 0 k y, P) := by simp [pL, rc0]
theorem pz0 : pZ S0 11 k (I, J, P) (some 0) (bI b) = some (hup I 0 k (bI b), J, P) := by simp [pZ, rc0, bI_ok]
theorem pr0 : pR S0 11 k (I, J, P) (some 0) z = some (I, J, hup P 0 k z) := by simp [pR, rc0]
theorem gr0_0 : gR S0 11 0 (I, J, Pst b f) (some 0) = some (some 1) := by simp [gR, rc0, okp (show (0, 0, 1) ∈ tP by decide) (by decide) (by decide) (by decide)]
theorem gr0_1 : gR S0 11 1 (I, J, Pst b f) (some 0) = some (some 3) := by simp [gR, rc0, okp (show (0, 1, 3) ∈ tP by decide) (by decide) (by decide) (by decide)]
theorem gr0_2 : gR S0 11 2 (I, J, Pst b f) (some 0) = some (some 6) := by simp [gR, rc0, okp (show (0, 2, 6) ∈ tP by decide) (by decide) (by decide) (by decide)]
theorem gr0_3 : gR S0 11 3 (I, J, Pst b f) (some 0) = some (some 47) := by simp [gR, rc0, okp (show (0, 3, 47) ∈ tP by decide) (by decide) (by decide) (by decide)]
theorem gr0_4 : gR S0 11 4 (I, J, Pst b f) (some 0) = some (some 55) := by simp [gR, rc0, okp (show (0, 4, 55) ∈ tP by decide) (by decide) (by decide) (by decide)]
theorem gr0_5 : gR S0 11 5 (I, J, Pst b f) (some 0) = some (some 58) := by simp [gR, rc0, okp (show (0, 5, 58) ∈ tP by decide) (by decide) (by decide) (by decide)]
theorem gr0_6 : gR S0 11 6 (I, J, Pst b f) (some 0) = some (some 61) := by simp [gR, rc0, okp (show (0, 6, 61) ∈ tP by decide) (by decide) (by decide) (by decide)]
theorem gr0_7 : gR S0 11 7 (I, J, Pst b f) (some 0) = some (some (ct b)) := by simp [gR, rc0, Pst]
theorem gr0_8 : gR S0 11 8 (I, J, Pst b f) (some 0) = some (some (ct (!b))) := by simp [gR, rc0, Pst]
theorem rc1 : rc S0 10 (some 1) = some (1) := okc (by decide) (by decide)
theorem gi1 : gI S0 10 k (I, J, P) (some 1) = some (I 1 k) := by simp [gI, rc1]
theorem gl1 : gL S0 10 k (I, J, P) (some 1) = some (J 1 k) := by simp [gL, rc1]
theorem pi1 : pI S0 10 k (I, J, P) (some 1) x = some (hup I 1 k x, J, P) := by simp [pI, rc1]
theorem pl1 : pL S0 10 k (I, J, P) (some 1) y = some (I, hup J 1 k y, P) := by simp [pL, rc1]
theorem pz1 : pZ S0 10 k (I, J, P) (some 1) (bI b) = some (hup I 1 k (bI b), J, P) := by simp [pZ, rc1, bI_ok]
theorem pr1 : pR S0 10 k (I, J, P) (some 1) z = some (I, J, hup P 1 k z) := by simp [pR, rc1]
theorem gr1_0 : gR S0 10 0 (I, J, Pst b f) (some 1) = some (some 2) := by simp [gR, rc1, okp (show (1, 0, 2) ∈ tP by decide) (by decide) (by decide) (by decide)]
theorem rc3 : rc S0 5 (some 3) = some (3) := okc (by decide) (by decide)
theorem gi3 : gI S0 5 k (I, J, P) (some 3) = some (I 3 k) := by simp [gI, rc3]
theorem gl3 : gL S0 5 k (I, J, P) (some 3) = some (J 3 k) := by simp [gL, rc3]
theorem pi3 : pI S0 5 k (I, J, P) (some 3) x = some (hup I 3 k x, J, P) := by simp [pI, rc3]
theorem pl3 : pL S0 5 k (I, J, P) (some 3) y = some (I, hup J 3 k y, P) := by simp [pL, rc3]
theorem pz3 : pZ S0 5 k (I, J, P) (some 3) (bI b) = some (hup I 3 k (bI b), J, P) := by simp [pZ, rc3, bI_ok]
theorem pr3 : pR S0 5 k (I, J, P) (some 3) z = some (I, J, hup P 3 k z) := by simp [pR, rc3]
theorem gr3_0 : gR S0 5 0 (I, J, Pst b f) (some 3) = some (some 1) := by simp [gR, rc3, okp (show (3, 0, 1) ∈ tP by decide) (by decide) (by decide) (by decide)]
theorem gr3_10 : gR S0 5 10 (I, J, Pst b f) (some 3) = some (some 4) := by simp [gR, rc3, okp (show (3, 10, 4) ∈ tP by decide) (by decide) (by decide) (by decide)]
theorem gr3_11 : gR S0 5 11 (I, J, Pst b f) (some 3) = some (some 5) := by simp [gR, rc3, okp (show (3, 11, 5) ∈ tP by decide) (by decide) (by decide) (by decide)]
theorem rc47 : rc S0 4 (some 47) = some (47) := okc (by decide) (by decide)
theorem gi47 : gI S0 4 k (I, J, P) (some 47) = some (I 47 k) := by simp [gI, rc47]
theorem gl47 : gL S0 4 k (I, J, P) (some 47) = some (J 47 k) := by simp [gL, rc47]
theorem pi47 : pI S0 4 k (I, J, P) (some 47) x = some (hup I 47 k x, J, P) := by simp [pI, rc47]
theorem pl47 : pL S0 4 k (I, J, P) (some 47) y = some (I, hup J 47 k y, P) := by simp [pL, rc47]
theorem pz47 : pZ S0 4 k (I, J, P) (some 47) (bI b) = some (hup I 47 k (bI b), J, P) := by simp [pZ, rc47, bI_ok]
theorem pr47 : pR S0 4 k (I, J, P) (some 47) z = some (I, J, hup P 47 k z) := by simp [pR, rc47]
theorem gr47_0 : gR S0 4 0 (I, J, Pst b f) (some 47) = some (some 48) := by simp [gR, rc47, okp (show (47, 0, 48) ∈ tP by decide) (by decide) (by decide) (by decide)]
theorem gr47_1 : gR S0 4 1 (I, J, Pst b f) (some 47) = some (some 49) := by simp [gR, rc47, okp (show (47, 1, 49) ∈ tP by decide) (by decide) (by decide) (by decide)]
theorem gr47_2 : gR S0 4 2 (I, J, Pst b f) (some 47) = some (some 50) := by simp [gR, rc47, okp (show (47, 2, 50) ∈ tP by decide) (by decide) (by decide) (by decide)]
theorem gr47_3 : gR S0 4 3 (I, J, Pst b f) (some 47) = some (some 51) := by simp [gR, rc47, okp (show (47, 3, 51) ∈ tP by decide) (by decide) (by decide) (by decide)]
theorem gr47_4 : gR S0 4 4 (I, J, Pst b f) (some 47) = some (some 52) := by simp [gR, rc47, okp (show (47, 4, 52) ∈ tP by decide) (by decide) (by decide) (by decide)]
theorem gr47_5 : gR S0 4 5 (I, J, Pst b f) (some 47) = some (some 53) := by simp [gR, rc47, okp (show (47, 5, 53) ∈ tP by decide) (by decide) (by decide) (by decide)]
theorem gr47_6 : gR S0 4 6 (I, J, Pst b f) (some 47) = some (some 54) := by simp [gR, rc47, okp (show (47, 6, 54) ∈ tP by decide) (by decide) (by decide) (by decide)]
theorem rc55 : rc S0 9 (some 55) = some (55) := okc (by decide) (by decide)
theorem gi55 : gI S0 9 k (I, J, P) (some 55) = some (I 55 k) := by simp [gI, rc55]
theorem gl55 : gL S0 9 k (I, J, P) (some 55) = some (J 55 k) := by simp [gL, rc55]
theorem pi55 : pI S0 9 k (I, J, P) (some 55) x = some (hup I 55 k x, J, P) := by simp [pI, rc55]
theorem pl55 : pL S0 9 k (I, J, P) (some 55) y = some (I, hup J 55 k y, P) := by simp [pL, rc55]
theorem pz55 : pZ S0 9 k (I, J, P) (some 55) (bI b) = some (hup I 55 k (bI b), J, P) := by simp [pZ, rc55, bI_ok]
theorem pr55 : pR S0 9 k (I, J, P) (some 55) z = some (I, J, hup P 55 k z) := by simp [pR, rc55]
theorem gr55_0 : gR S0 9 0 (I, J, Pst b f) (some 55) = some (some 56) := by simp [gR, rc55, okp (show (55, 0, 56) ∈ tP by decide) (by decide) (by decide) (by decide)]
theorem gr55_1 : gR S0 9 1 (I, J, Pst b f) (some 55) = some (some 57) := by simp [gR, rc55, okp (show (55, 1, 57) ∈ tP by decide) (by decide) (by decide) (by decide)]
theorem rc58 : rc S0 1 (some 58) = some (58) := okc (by decide) (by decide)
theorem gi58 : gI S0 1 k (I, J, P) (some 58) = some (I 58 k) := by simp [gI, rc58]
theorem gl58 : gL S0 1 k (I, J, P) (some 58) = some (J 58 k) := by simp [gL, rc58]
theorem pi58 : pI S0 1 k (I, J, P) (some 58) x = some (hup I 58 k x, J, P) := by simp [pI, rc58]
theorem pl58 : pL S0 1 k (I, J, P) (some 58) y = some (I, hup J 58 k y, P) := by simp [pL, rc58]
theorem pz58 : pZ S0 1 k (I, J, P) (some 58) (bI b) = some (hup I 58 k (bI b), J, P) := by simp [pZ, rc58, bI_ok]
theorem pr58 : pR S0 1 k (I, J, P) (some 58) z = some (I, J, hup P 58 k z) := by simp [pR, rc58]
theorem gr58_0 : gR S0 1 0 (I, J, Pst b f) (some 58) = some (some 59) := by simp [gR, rc58, okp (show (58, 0, 59) ∈ tP by decide) (by decide) (by decide) (by decide)]
theorem gr58_1 : gR S0 1 1 (I, J, Pst b f) (some 58) = some (some 60) := by simp [gR, rc58, okp (show (58, 1, 60) ∈ tP by decide) (by decide) (by decide) (by decide)]
theorem rc61 : rc S0 8 (some 61) = some (61) := okc (by decide) (by decide)
theorem gi61 : gI S0 8 k (I, J, P) (some 61) = some (I 61 k) := by simp [gI, rc61]
theorem gl61 : gL S0 8 k (I, J, P) (some 61) = some (J 61 k) := by simp [gL, rc61]
theorem pi61 : pI S0 8 k (I, J, P) (some 61) x = some (hup I 61 k x, J, P) := by simp [pI, rc61]
theorem pl61 : pL S0 8 k (I, J, P) (some 61) y = some (I, hup J 61 k y, P) := by simp [pL, rc61]
theorem pz61 : pZ S0 8 k (I, J, P) (some 61) (bI b) = some (hup I 61 k (bI b), J, P) := by simp [pZ, rc61, bI_ok]
theorem pr61 : pR S0 8 k (I, J, P) (some 61) z = some (I, J, hup P 61 k z) := by simp [pR, rc61]
theorem gr61_0 : gR S0 8 0 (I, J, Pst b f) (some 61) = some (some 62) := by simp [gR, rc61, okp (show (61, 0, 62) ∈ tP by decide) (by decide) (by decide) (by decide)]
theorem gr61_1 : gR S0 8 1 (I, J, Pst b f) (some 61) = some (some 69) := by simp [gR, rc61, okp (show (61, 1, 69) ∈ tP by decide) (by decide) (by decide) (by decide)]
theorem gr61_2 : gR S0 8 2 (I, J, Pst b f) (some 61) = some (some 70) := by simp [gR, rc61, okp (show (61, 2, 70) ∈ tP by decide) (by decide) (by decide) (by decide)]
theorem gr61_7 : gR S0 8 7 (I, J, Pst b f) (some 61) = some (some (f)) := by simp [gR, rc61, Pst]
theorem rc62 : rc S0 3 (some 62) = some (62) := okc (by decide) (by decide)
theorem gi62 : gI S0 3 k (I, J, P) (some 62) = some (I 62 k) := by simp [gI, rc62]
theorem gl62 : gL S0 3 k (I, J, P) (some 62) = some (J 62 k) := by simp [gL, rc62]
theorem pi62 : pI S0 3 k (I, J, P) (some 62) x = some (hup I 62 k x, J, P) := by simp [pI, rc62]
theorem pl62 : pL S0 3 k (I, J, P) (some 62) y = some (I, hup J 62 k y, P) := by simp [pL, rc62]
theorem pz62 : pZ S0 3 k (I, J, P) (some 62) (bI b) = some (hup I 62 k (bI b), J, P) := by simp [pZ, rc62, bI_ok]
theorem pr62 : pR S0 3 k (I, J, P) (some 62) z = some (I, J, hup P 62 k z) := by simp [pR, rc62]
theorem gr62_0 : gR S0 3 0 (I, J, Pst b f) (some 62) = some (some 63) := by simp [gR, rc62, okp (show (62, 0, 63) ∈ tP by decide) (by decide) (by decide) (by decide)]
theorem gr62_1 : gR S0 3 1 (I, J, Pst b f) (some 62) = some (some 64) := by simp [gR, rc62, okp (show (62, 1, 64) ∈ tP by decide) (by decide) (by decide) (by decide)]
theorem gr62_2 : gR S0 3 2 (I, J, Pst b f) (some 62) = some (some 65) := by simp [gR, rc62, okp (show (62, 2, 65) ∈ tP by decide) (by decide) (by decide) (by decide)]
theorem gr62_3 : gR S0 3 3 (I, J, Pst b f) (some 62) = some (some 66) := by simp [gR, rc62, okp (show (62, 3, 66) ∈ tP by decide) (by decide) (by decide) (by decide)]
theorem gr62_4 : gR S0 3 4 (I, J, Pst b f) (some 62) = some (some 67) := by simp [gR, rc62, okp (show (62, 4, 67) ∈ tP by decide) (by decide) (by decide) (by decide)]
theorem gr62_5 : gR S0 3 5 (I, J, Pst b f) (some 62) = some (some 68) := by simp [gR, rc62, okp (show (62, 5, 68) ∈ tP by decide) (by decide) (by decide) (by decide)]
theorem rc132 : rc S0 12 (some 132) = some (132) := okc (by decide) (by decide)
theorem gi132 : gI S0 12 k (I, J, P) (some 132) = some (I 132 k) := by simp [gI, rc132]
theorem gl132 : gL S0 12 k (I, J, P) (some 132) = some (J 132 k) := by simp [gL, rc132]
theorem pi132 : pI S0 12 k (I, J, P) (some 132) x = some (hup I 132 k x, J, P) := by simp [pI, rc132]
theorem pl132 : pL S0 12 k (I, J, P) (some 132) y = some (I, hup J 132 k y, P) := by simp [pL, rc132]
theorem pz132 : pZ S0 12 k (I, J, P) (some 132) (bI b) = some (hup I 132 k (bI b), J, P) := by simp [pZ, rc132, bI_ok]
theorem pr132 : pR S0 12 k (I, J, P) (some 132) z = some (I, J, hup P 132 k z) := by simp [pR, rc132]
theorem gr132_0 : gR S0 12 0 (I, J, Pst b f) (some 132) = some (some 133) := by simp [gR, rc132, okp (show (132, 0, 133) ∈ tP by decide) (by decide) (by decide) (by decide)]
theorem gr132_6 : gR S0 12 6 (I, J, Pst b f) (some 132) = some (some 134) := by simp [gR, rc132, okp (show (132, 6, 134) ∈ tP by decide) (by decide) (by decide) (by decide)]
theorem gr132_7 : gR S0 12 7 (I, J, Pst b f) (some 132) = some (some 137) := by simp [gR, rc132, okp (show (132, 7, 137) ∈ tP by decide) (by decide) (by decide) (by decide)]
theorem gr132_8 : gR S0 12 8 (I, J, Pst b f) (some 132) = some (some 140) := by simp [gR, rc132, okp (show (132, 8, 140) ∈ tP by decide) (by decide) (by decide) (by decide)]
theorem gr132_9 : gR S0 12 9 (I, J, Pst b f) (some 132) = some (some 143) := by simp [gR, rc132, okp (show (132, 9, 143) ∈ tP by decide) (by decide) (by decide) (by decide)]
theorem gr132_10 : gR S0 12 10 (I, J, Pst b f) (some 132) = some (some 146) := by simp [gR, rc132, okp (show (132, 10, 146) ∈ tP by decide) (by decide) (by decide) (by decide)]
theorem gr132_11 : gR S0 12 11 (I, J, Pst b f) (some 132) = some (some 149) := by simp [gR, rc132, okp (show (132, 11, 149) ∈ tP by decide) (by decide) (by decide) (by decide)]
theorem gr132_12 : gR S0 12 12 (I, J, Pst b f) (some 132) = some (some 152) := by simp [gR, rc132, okp (show (132, 12, 152) ∈ tP by decide) (by decide) (by decide) (by decide)]
theorem gr132_13 : gR S0 12 13 (I, J, Pst b f) (some 132) = some (some 155) := by simp [gR, rc132, okp (show (132, 13, 155) ∈ tP by decide) (by decide) (by decide) (by decide)]
theorem gr132_14 : gR S0 12 14 (I, J, Pst b f) (some 132) = some (some 158) := by simp [gR, rc132, okp (show (132, 14, 158) ∈ tP by decide) (by decide) (by decide) (by decide)]
theorem gr132_15 : gR S0 12 15 (I, J, Pst b f) (some 132) = some (some 161) := by simp [gR, rc132, okp (show (132, 15, 161) ∈ tP by decide) (by decide) (by decide) (by decide)]
theorem gr132_16 : gR S0 12 16 (I, J, Pst b f) (some 132) = some (some 162) := by simp [gR, rc132, okp (show (132, 16, 162) ∈ tP by decide) (by decide) (by decide) (by decide)]
theorem gr132_17 : gR S0 12 17 (I, J, Pst b f) (some 132) = some (some 163) := by simp [gR, rc132, okp (show (132, 17, 163) ∈ tP by decide) (by decide) (by decide) (by decide)]
theorem gr132_18 : gR S0 12 18 (I, J, Pst b f) (some 132) = some (some 164) := by simp [gR, rc132, okp (show (132, 18, 164) ∈ tP by decide) (by decide) (by decide) (by decide)]
theorem gr132_19 : gR S0 12 19 (I, J, Pst b f) (some 132) = some (some 165) := by simp [gR, rc132, okp (show (132, 19, 165) ∈ tP by decide) (by decide) (by decide) (by decide)]
theorem gr132_20 : gR S0 12 20 (I, J, Pst b f) (some 132) = some (some 166) := by simp [gR, rc132, okp (show (132, 20, 166) ∈ tP by decide) (by decide) (by decide) (by decide)]
theorem gr132_21 : gR S0 12 21 (I, J, Pst b f) (some 132) = some (some 167) := by simp [gR, rc132, okp (show (132, 21, 167) ∈ tP by decide) (by decide) (by decide) (by decide)]
theorem gr132_22 : gR S0 12 22 (I, J, Pst b f) (some 132) = some (some 168) := by simp [gR, rc132, okp (show (132, 22, 168) ∈ tP by decide) (by decide) (by decide) (by decide)]
theorem gr132_23 : gR S0 12 23 (I, J, Pst b f) (some 132) = some (some 169) := by simp [gR, rc132, okp (show (132, 23, 169) ∈ tP by decide) (by decide) (by decide) (by decide)]
theorem gr132_24 : gR S0 12 24 (I, J, Pst b f) (some 132) = some (some 170) := by simp [gR, rc132, okp (show (132, 24, 170) ∈ tP by decide) (by decide) (by decide) (by decide)]
theorem gr132_25 : gR S0 12 25 (I, J, Pst b f) (some 132) = some (some 171) := by simp [gR, rc132, okp (show (132, 25, 171) ∈ tP by decide) (by decide) (by decide) (by decide)]
theorem gr132_27 : gR S0 12 27 (I, J, Pst b f) (some 132) = some (some 172) := by simp [gR, rc132, okp (show (132, 27, 172) ∈ tP by decide) (by decide) (by decide) (by decide)]
theorem gr132_28 : gR S0 12 28 (I, J, Pst b f) (some 132) = some (some 173) := by simp [gR, rc132, okp (show (132, 28, 173) ∈ tP by decide) (by decide) (by decide) (by decide)]
theorem gr132_29 : gR S0 12 29 (I, J, Pst b f) (some 132) = some (some 174) := by simp [gR, rc132, okp (show (132, 29, 174) ∈ tP by decide) (by decide) (by decide) (by decide)]
theorem gr132_30 : gR S0 12 30 (I, J, Pst b f) (some 132) = some (some 175) := by simp [gR, rc132, okp (show (132, 30, 175) ∈ tP by decide) (by decide) (by decide) (by decide)]
theorem gr132_32 : gR S0 12 32 (I, J, Pst b f) (some 132) = some (some 176) := by simp [gR, rc132, okp (show (132, 32, 176) ∈ tP by decide) (by decide) (by decide) (by decide)]
theorem gr132_33 : gR S0 12 33 (I, J, Pst b f) (some 132) = some (some 177) := by simp [gR, rc132, okp (show (132, 33, 177) ∈ tP by decide) (by decide) (by decide) (by decide)]
theorem gr132_34 : gR S0 12 34 (I, J, Pst b f) (some 132) = some (some 178) := by simp [gR, rc132, okp (show (132, 34, 178) ∈ tP by decide) (by decide) (by decide) (by decide)]
theorem gr132_35 : gR S0 12 35 (I, J, Pst b f) (some 132) = some (some 179) := by simp [gR, rc132, okp (show (132, 35, 179) ∈ tP by decide) (by decide) (by decide) (by decide)]
theorem gr132_36 : gR S0 12 36 (I, J, Pst b f) (some 132) = some (some 180) := by simp [gR, rc132, okp (show (132, 36, 180) ∈ tP by decide) (by decide) (by decide) (by decide)]
theorem gr132_37 : gR S0 12 37 (I, J, Pst b f) (some 132) = some (some 181) := by simp [gR, rc132, okp (show (132, 37, 181) ∈ tP by decide) (by decide) (by decide) (by decide)]
theorem gr132_38 : gR S0 12 38 (I, J, Pst b f) (some 132) = some (some 182) := by simp [gR, rc132, okp (show (132, 38, 182) ∈ tP by decide) (by decide) (by decide) (by decide)]
theorem gr132_39 : gR S0 12 39 (I, J, Pst b f) (some 132) = some (some 183) := by simp [gR, rc132, okp (show (132, 39, 183) ∈ tP by decide) (by decide) (by decide) (by decide)]
theorem gr132_40 : gR S0 12 40 (I, J, Pst b f) (some 132) = some (some 184) := by simp [gR, rc132, okp (show (132, 40, 184) ∈ tP by decide) (by decide) (by decide) (by decide)]
theorem gr132_41 : gR S0 12 41 (I, J, Pst b f) (some 132) = some (some 185) := by simp [gR, rc132, okp (show (132, 41, 185) ∈ tP by decide) (by decide) (by decide) (by decide)]
theorem gr132_42 : gR S0 12 42 (I, J, Pst b f) (some 132) = some (some 186) := by simp [gR, rc132, okp (show (132, 42, 186) ∈ tP by decide) (by decide) (by decide) (by decide)]
theorem gr132_44 : gR S0 12 44 (I, J, Pst b f) (some 132) = some (some 187) := by simp [gR, rc132, okp (show (132, 44, 187) ∈ tP by decide) (by decide) (by decide) (by decide)]
theorem gr132_45 : gR S0 12 45 (I, J, Pst b f) (some 132) = some (some 188) := by simp [gR, rc132, okp (show (132, 45, 188) ∈ tP by decide) (by decide) (by decide) (by decide)]
theorem gr132_46 : gR S0 12 46 (I, J, Pst b f) (some 132) = some (some 189) := by simp [gR, rc132, okp (show (132, 46, 189) ∈ tP by decide) (by decide) (by decide) (by decide)]
theorem gr132_47 : gR S0 12 47 (I, J, Pst b f) (some 132) = some (some 190) := by simp [gR, rc132, okp (show (132, 47, 190) ∈ tP by decide) (by decide) (by decide) (by decide)]
theorem gr132_48 : gR S0 12 48 (I, J, Pst b f) (some 132) = some (some 191) := by simp [gR, rc132, okp (show (132, 48, 191) ∈ tP by decide) (by decide) (by decide) (by decide)]
theorem gr132_49 : gR S0 12 49 (I, J, Pst b f) (some 132) = some (some 192) := by simp [gR, rc132, okp (show (132, 49, 192) ∈ tP by decide) (by decide) (by decide) (by decide)]
theorem gr132_50 : gR S0 12 50 (I, J, Pst b f) (some 132) = some (some 193) := by simp [gR, rc132, okp (show (132, 50, 193) ∈ tP by decide) (by decide) (by decide) (by decide)]
theorem gr132_51 : gR S0 12 51 (I, J, Pst b f) (some 132) = some (some 194) := by simp [gR, rc132, okp (show (132, 51, 194) ∈ tP by decide) (by decide) (by decide) (by decide)]
theorem gr132_61 : gR S0 12 61 (I, J, Pst b f) (some 132) = some (some 195) := by simp [gR, rc132, okp (show (132, 61, 195) ∈ tP by decide) (by decide) (by decide) (by decide)]
theorem gr132_62 : gR S0 12 62 (I, J, Pst b f) (some 132) = some (some 196) := by simp [gR, rc132, okp (show (132, 62, 196) ∈ tP by decide) (by decide) (by decide) (by decide)]
theorem gr132_63 : gR S0 12 63 (I, J, Pst b f) (some 132) = some (some 197) := by simp [gR, rc132, okp (show (132, 63, 197) ∈ tP by decide) (by decide) (by decide) (by decide)]
theorem ar134_0 : aR S0 108 (I, J, Pst b f) (some 134) (iI 0) = some (some 135) := by simp [aR, (okx (o := 134) (t := 108) (n := 2) (a := 0) (by decide) (by decide) (by decide) (by decide)).1, (okx (o := 134) (t := 108) (n := 2) (a := 0) (by decide) (by decide) (by decide) (by decide)).2, okp (show (134, 0, 135) ∈ tP by decide) (by decide) (by decide) (by decide)]
theorem ar134_1 : aR S0 108 (I, J, Pst b f) (some 134) (iI 1) = some (some 136) := by simp [aR, (okx (o := 134) (t := 108) (n := 2) (a := 1) (by decide) (by decide) (by decide) (by decide)).1, (okx (o := 134) (t := 108) (n := 2) (a := 1) (by decide) (by decide) (by decide) (by decide)).2, okp (show (134, 1, 136) ∈ tP by decide) (by decide) (by decide) (by decide)]
theorem ar137_0 : aR S0 108 (I, J, Pst b f) (some 137) (iI 0) = some (some 138) := by simp [aR, (okx (o := 137) (t := 108) (n := 2) (a := 0) (by decide) (by decide) (by decide) (by decide)).1, (okx (o := 137) (t := 108) (n := 2) (a := 0) (by decide) (by decide) (by decide) (by decide)).2, okp (show (137, 0, 138) ∈ tP by decide) (by decide) (by decide) (by decide)]
theorem ar137_1 : aR S0 108 (I, J, Pst b f) (some 137) (iI 1) = some (some 139) := by simp [aR, (okx (o := 137) (t := 108) (n := 2) (a := 1) (by decide) (by decide) (by decide) (by decide)).1, (okx (o := 137) (t := 108) (n := 2) (a := 1) (by decide) (by decide) (by decide) (by decide)).2, okp (show (137, 1, 139) ∈ tP by decide) (by decide) (by decide) (by decide)]
theorem ar140_0 : aR S0 107 (I, J, Pst b f) (some 140) (iI 0) = some (some 141) := by simp [aR, (okx (o := 140) (t := 107) (n := 2) (a := 0) (by decide) (by decide) (by decide) (by decide)).1, (okx (o := 140) (t := 107) (n := 2) (a := 0) (by decide) (by decide) (by decide) (by decide)).2, okp (show (140, 0, 141) ∈ tP by decide) (by decide) (by decide) (by decide)]
theorem ar140_1 : aR S0 107 (I, J, Pst b f) (some 140) (iI 1) = some (some 142) := by simp [aR, (okx (o := 140) (t := 107) (n := 2) (a := 1) (by decide) (by decide) (by decide) (by decide)).1, (okx (o := 140) (t := 107) (n := 2) (a := 1) (by decide) (by decide) (by decide) (by decide)).2, okp (show (140, 1, 142) ∈ tP by decide) (by decide) (by decide) (by decide)]
theorem ar143_0 : aR S0 107 (I, J, Pst b f) (some 143) (iI 0) = some (some 144) := by simp [aR, (okx (o := 143) (t := 107) (n := 2) (a := 0) (by decide) (by decide) (by decide) (by decide)).1, (okx (o := 143) (t := 107) (n := 2) (a := 0) (by decide) (by decide) (by decide) (by decide)).2, okp (show (143, 0, 144) ∈ tP by decide) (by decide) (by decide) (by decide)]
theorem ar143_1 : aR S0 107 (I, J, Pst b f) (some 143) (iI 1) = some (some 145) := by simp [aR, (okx (o := 143) (t := 107) (n := 2) (a := 1) (by decide) (by decide) (by decide) (by decide)).1, (okx (o := 143) (t := 107) (n := 2) (a := 1) (by decide) (by decide) (by decide) (by decide)).2, okp (show (143, 1, 145) ∈ tP by decide) (by decide) (by decide) (by decide)]
theorem ar146_0 : aR S0 107 (I, J, Pst b f) (some 146) (iI 0) = some (some 147) := by simp [aR, (okx (o := 146) (t := 107) (n := 2) (a := 0) (by decide) (by decide) (by decide) (by decide)).1, (okx (o := 146) (t := 107) (n := 2) (a := 0) (by decide) (by decide) (by decide) (by decide)).2, okp (show (146, 0, 147) ∈ tP by decide) (by decide) (by decide) (by decide)]
theorem ar146_1 : aR S0 107 (I, J, Pst b f) (some 146) (iI 1) = some (some 148) := by simp [aR, (okx (o := 146) (t := 107) (n := 2) (a := 1) (by decide) (by decide) (by decide) (by decide)).1, (okx (o := 146) (t := 107) (n := 2) (a := 1) (by decide) (by decide) (by decide) (by decide)).2, okp (show (146, 1, 148) ∈ tP by decide) (by decide) (by decide) (by decide)]
theorem ar149_0 : aR S0 107 (I, J, Pst b f) (some 149) (iI 0) = some (some 150) := by simp [aR, (okx (o := 149) (t := 107) (n := 2) (a := 0) (by decide) (by decide) (by decide) (by decide)).1, (okx (o := 149) (t := 107) (n := 2) (a := 0) (by decide) (by decide) (by decide) (by decide)).2, okp (show (149, 0, 150) ∈ tP by decide) (by decide) (by decide) (by decide)]
theorem ar149_1 : aR S0 107 (I, J, Pst b f) (some 149) (iI 1) = some (some 151) := by simp [aR, (okx (o := 149) (t := 107) (n := 2) (a := 1) (by decide) (by decide) (by decide) (by decide)).1, (okx (o := 149) (t := 107) (n := 2) (a := 1) (by decide) (by decide) (by decide) (by decide)).2, okp (show (149, 1, 151) ∈ tP by decide) (by decide) (by decide) (by decide)]
theorem ar152_0 : aR S0 107 (I, J, Pst b f) (some 152) (iI 0) = some (some 153) := by simp [aR, (okx (o := 152) (t := 107) (n := 2) (a := 0) (by decide) (by decide) (by decide) (by decide)).1, (okx (o := 152) (t := 107) (n := 2) (a := 0) (by decide) (by decide) (by decide) (by decide)).2, okp (show (152, 0, 153) ∈ tP by decide) (by decide) (by decide) (by decide)]
theorem ar152_1 : aR S0 107 (I, J, Pst b f) (some 152) (iI 1) = some (some 154) := by simp [aR, (okx (o := 152) (t := 107) (n := 2) (a := 1) (by decide) (by decide) (by decide) (by decide)).1, (okx (o := 152) (t := 107) (n := 2) (a := 1) (by decide) (by decide) (by decide) (by decide)).2, okp (show (152, 1, 154) ∈ tP by decide) (by decide) (by decide) (by decide)]
theorem ar155_0 : aR S0 107 (I, J, Pst b f) (some 155) (iI 0) = some (some 156) := by simp [aR, (okx (o := 155) (t := 107) (n := 2) (a := 0) (by decide) (by decide) (by decide) (by decide)).1, (okx (o := 155) (t := 107) (n := 2) (a := 0) (by decide) (by decide) (by decide) (by decide)).2, okp (show (155, 0, 156) ∈ tP by decide) (by decide) (by decide) (by decide)]
theorem ar155_1 : aR S0 107 (I, J, Pst b f) (some 155) (iI 1) = some (some 157) := by simp [aR, (okx (o := 155) (t := 107) (n := 2) (a := 1) (by decide) (by decide) (by decide) (by decide)).1, (okx (o := 155) (t := 107) (n := 2) (a := 1) (by decide) (by decide) (by decide) (by decide)).2, okp (show (155, 1, 157) ∈ tP by decide) (by decide) (by decide) (by decide)]
theorem ar158_0 : aR S0 107 (I, J, Pst b f) (some 158) (iI 0) = some (some 159) := by simp [aR, (okx (o := 158) (t := 107) (n := 2) (a := 0) (by decide) (by decide) (by decide) (by decide)).1, (okx (o := 158) (t := 107) (n := 2) (a := 0) (by decide) (by decide) (by decide) (by decide)).2, okp (show (158, 0, 159) ∈ tP by decide) (by decide) (by decide) (by decide)]
theorem ar158_1 : aR S0 107 (I, J, Pst b f) (some 158) (iI 1) = some (some 160) := by simp [aR, (okx (o := 158) (t := 107) (n := 2) (a := 1) (by decide) (by decide) (by decide) (by decide)).1, (okx (o := 158) (t := 107) (n := 2) (a := 1) (by decide) (by decide) (by decide) (by decide)).2, okp (show (158, 1, 160) ∈ tP by decide) (by decide) (by decide) (by decide)]
theorem ar164_0 : aR S0 106 (I, J, Pst b f) (some 164) (iI 0) = some (some 1000000) := by simp [aR, (okx (o := 164) (t := 106) (n := 9) (a := 0) (by decide) (by decide) (by decide) (by decide)).1, (okx (o := 164) (t := 106) (n := 9) (a := 0) (by decide) (by decide) (by decide) (by decide)).2, okp (show (164, 0, 1000000) ∈ tP by decide) (by decide) (by decide) (by decide)]
theorem ar164_1 : aR S0 106 (I, J, Pst b f) (some 164) (iI 1) = some (some 1000001) := by simp [aR, (okx (o := 164) (t := 106) (n := 9) (a := 1) (by decide) (by decide) (by decide) (by decide)).1, (okx (o := 164) (t := 106) (n := 9) (a := 1) (by decide) (by decide) (by decide) (by decide)).2, okp (show (164, 1, 1000001) ∈ tP by decide) (by decide) (by decide) (by decide)]
theorem ar164_2 : aR S0 106 (I, J, Pst b f) (some 164) (iI 2) = some (some 1000002) := by simp [aR, (okx (o := 164) (t := 106) (n := 9) (a := 2) (by decide) (by decide) (by decide) (by decide)).1, (okx (o := 164) (t := 106) (n := 9) (a := 2) (by decide) (by decide) (by decide) (by decide)).2, okp (show (164, 2, 1000002) ∈ tP by decide) (by decide) (by decide) (by decide)]
theorem ar164_3 : aR S0 106 (I, J, Pst b f) (some 164) (iI 3) = some (some 1000003) := by simp [aR, (okx (o := 164) (t := 106) (n := 9) (a := 3) (by decide) (by decide) (by decide) (by decide)).1, (okx (o := 164) (t := 106) (n := 9) (a := 3) (by decide) (by decide) (by decide) (by decide)).2, okp (show (164, 3, 1000003) ∈ tP by decide) (by decide) (by decide) (by decide)]
theorem ar164_4 : aR S0 106 (I, J, Pst b f) (some 164) (iI 4) = some (some 1000004) := by simp [aR, (okx (o := 164) (t := 106) (n := 9) (a := 4) (by decide) (by decide) (by decide) (by decide)).1, (okx (o := 164) (t := 106) (n := 9) (a := 4) (by decide) (by decide) (by decide) (by decide)).2, okp (show (164, 4, 1000004) ∈ tP by decide) (by decide) (by decide) (by decide)]
theorem ar164_5 : aR S0 106 (I, J, Pst b f) (some 164) (iI 5) = some (some 1000005) := by simp [aR, (okx (o := 164) (t := 106) (n := 9) (a := 5) (by decide) (by decide) (by decide) (by decide)).1, (okx (o := 164) (t := 106) (n := 9) (a := 5) (by decide) (by decide) (by decide) (by decide)).2, okp (show (164, 5, 1000005) ∈ tP by decide) (by decide) (by decide) (by decide)]
theorem ar164_6 : aR S0 106 (I, J, Pst b f) (some 164) (iI 6) = some (some 1000006) := by simp [aR, (okx (o := 164) (t := 106) (n := 9) (a := 6) (by decide) (by decide) (by decide) (by decide)).1, (okx (o := 164) (t := 106) (n := 9) (a := 6) (by decide) (by decide) (by decide) (by decide)).2, okp (show (164, 6, 1000006) ∈ tP by decide) (by decide) (by decide) (by decide)]
theorem ar164_7 : aR S0 106 (I, J, Pst b f) (some 164) (iI 7) = some (some 1000007) := by simp [aR, (okx (o := 164) (t := 106) (n := 9) (a := 7) (by decide) (by decide) (by decide) (by decide)).1, (okx (o := 164) (t := 106) (n := 9) (a := 7) (by decide) (by decide) (by decide) (by decide)).2, okp (show (164, 7, 1000007) ∈ tP by decide) (by decide) (by decide) (by decide)]
theorem ar164_8 : aR S0 106 (I, J, Pst b f) (some 164) (iI 8) = some (some 1000008) := by simp [aR, (okx (o := 164) (t := 106) (n := 9) (a := 8) (by decide) (by decide) (by decide) (by decide)).1, (okx (o := 164) (t := 106) (n := 9) (a := 8) (by decide) (by decide) (by decide) (by decide)).2, okp (show (164, 8, 1000008) ∈ tP by decide) (by decide) (by decide) (by decide)]
theorem ld2 (ha : 0 ≤ a ∧ a < 700) : aB S0 (I, J, P) (some 2) (iI a) = some (I 2 a.toNat) := by simp [aB, (okx (o := 2) (t := 101) (n := 700) (by decide) (by decide) ha (by decide)).1, (okx (o := 2) (t := 101) (n := 700) (by decide) (by decide) ha (by decide)).2]
theorem st2 (ha : 0 ≤ a ∧ a < 700) : sB S0 (I, J, P) (some 2) (iI a) x = some (hup I 2 a.toNat (i2bv x), J, P) := by simp [sB, (okx (o := 2) (t := 101) (n := 700) (by decide) (by decide) ha (by decide)).1, (okx (o := 2) (t := 101) (n := 700) (by decide) (by decide) ha (by decide)).2]
theorem an2 : aN S0 (some 2) = some (iI 700) := okn (t := 101) (n := 700) (by decide) (by decide) (by decide) (by decide)
theorem ld4 (ha : 0 ≤ a ∧ a < 15) : aL S0 (I, J, P) (some 4) (iI a) = some (J 4 a.toNat) := by simp [aL, (okx (o := 4) (t := 103) (n := 15) (by decide) (by decide) ha (by decide)).1, (okx (o := 4) (t := 103) (n := 15) (by decide) (by decide) ha (by decide)).2]
theorem st4 (ha : 0 ≤ a ∧ a < 15) : sL S0 (I, J, P) (some 4) (iI a) y = some (I, hup J 4 a.toNat y, P) := by simp [sL, (okx (o := 4) (t := 103) (n := 15) (by decide) (by decide) ha (by decide)).1, (okx (o := 4) (t := 103) (n := 15) (by decide) (by decide) ha (by decide)).2]
theorem an4 : aN S0 (some 4) = some (iI 15) := okn (t := 103) (n := 15) (by decide) (by decide) (by decide) (by decide)
theorem ld5 (ha : 0 ≤ a ∧ a < 15) : aI S0 (I, J, P) (some 5) (iI a) = some (I 5 a.toNat) := by simp [aI, (okx (o := 5) (t := 100) (n := 15) (by decide) (by decide) ha (by decide)).1, (okx (o := 5) (t := 100) (n := 15) (by decide) (by decide) ha (by decide)).2]
theorem st5 (ha : 0 ≤ a ∧ a < 15) : sI S0 (I, J, P) (some 5) (iI a) x = some (hup I 5 a.toNat x, J, P) := by simp [sI, (okx (o := 5) (t := 100) (n := 15) (by decide) (by decide) ha (by decide)).1, (okx (o := 5) (t := 100) (n := 15) (by decide) (by decide) ha (by decide)).2]
theorem an5 : aN S0 (some 5) = some (iI 15) := okn (t := 100) (n := 15) (by decide) (by decide) (by decide) (by decide)
theorem an6 : aN S0 (some 6) = some (iI 4) := okn (t := 104) (n := 4) (by decide) (by decide) (by decide) (by decide)
theorem ld48 (ha : 0 ≤ a ∧ a < 10) : aI S0 (I, J, P) (some 48) (iI a) = some (I 48 a.toNat) := by simp [aI, (okx (o := 48) (t := 100) (n := 10) (by decide) (by decide) ha (by decide)).1, (okx (o := 48) (t := 100) (n := 10) (by decide) (by decide) ha (by decide)).2]
theorem st48 (ha : 0 ≤ a ∧ a < 10) : sI S0 (I, J, P) (some 48) (iI a) x = some (hup I 48 a.toNat x, J, P) := by simp [sI, (okx (o := 48) (t := 100) (n := 10) (by decide) (by decide) ha (by decide)).1, (okx (o := 48) (t := 100) (n := 10) (by decide) (by decide) ha (by decide)).2]
theorem an48 : aN S0 (some 48) = some (iI 10) := okn (t := 100) (n := 10) (by decide) (by decide) (by decide) (by decide)
theorem ld49 (ha : 0 ≤ a ∧ a < 10) : aI S0 (I, J, P) (some 49) (iI a) = some (I 49 a.toNat) := by simp [aI, (okx (o := 49) (t := 100) (n := 10) (by decide) (by decide) ha (by decide)).1, (okx (o := 49) (t := 100) (n := 10) (by decide) (by decide) ha (by decide)).2]
theorem st49 (ha : 0 ≤ a ∧ a < 10) : sI S0 (I, J, P) (some 49) (iI a) x = some (hup I 49 a.toNat x, J, P) := by simp [sI, (okx (o := 49) (t := 100) (n := 10) (by decide) (by decide) ha (by decide)).1, (okx (o := 49) (t := 100) (n := 10) (by decide) (by decide) ha (by decide)).2]
theorem an49 : aN S0 (some 49) = some (iI 10) := okn (t := 100) (n := 10) (by decide) (by decide) (by decide) (by decide)
theorem ld50 (ha : 0 ≤ a ∧ a < 10) : aI S0 (I, J, P) (some 50) (iI a) = some (I 50 a.toNat) := by simp [aI, (okx (o := 50) (t := 100) (n := 10) (by decide) (by decide) ha (by decide)).1, (okx (o := 50) (t := 100) (n := 10) (by decide) (by decide) ha (by decide)).2]
theorem st50 (ha : 0 ≤ a ∧ a < 10) : sI S0 (I, J, P) (some 50) (iI a) x = some (hup I 50 a.toNat x, J, P) := by simp [sI, (okx (o := 50) (t := 100) (n := 10) (by decide) (by decide) ha (by decide)).1, (okx (o := 50) (t := 100) (n := 10) (by decide) (by decide) ha (by decide)).2]
theorem an50 : aN S0 (some 50) = some (iI 10) := okn (t := 100) (n := 10) (by decide) (by decide) (by decide) (by decide)
theorem ld51 (ha : 0 ≤ a ∧ a < 10) : aI S0 (I, J, P) (some 51) (iI a) = some (I 51 a.toNat) := by simp [aI, (okx (o := 51) (t := 100) (n := 10) (by decide) (by decide) ha (by decide)).1, (okx (o := 51) (t := 100) (n := 10) (by decide) (by decide) ha (by decide)).2]
theorem st51 (ha : 0 ≤ a ∧ a < 10) : sI S0 (I, J, P) (some 51) (iI a) x = some (hup I 51 a.toNat x, J, P) := by simp [sI, (okx (o := 51) (t := 100) (n := 10) (by decide) (by decide) ha (by decide)).1, (okx (o := 51) (t := 100) (n := 10) (by decide) (by decide) ha (by decide)).2]
theorem an51 : aN S0 (some 51) = some (iI 10) := okn (t := 100) (n := 10) (by decide) (by decide) (by decide) (by decide)
theorem ld52 (ha : 0 ≤ a ∧ a < 10) : aI S0 (I, J, P) (some 52) (iI a) = some (I 52 a.toNat) := by simp [aI, (okx (o := 52) (t := 100) (n := 10) (by decide) (by decide) ha (by decide)).1, (okx (o := 52) (t := 100) (n := 10) (by decide) (by decide) ha (by decide)).2]
theorem st52 (ha : 0 ≤ a ∧ a < 10) : sI S0 (I, J, P) (some 52) (iI a) x = some (hup I 52 a.toNat x, J, P) := by simp [sI, (okx (o := 52) (t := 100) (n := 10) (by decide) (by decide) ha (by decide)).1, (okx (o := 52) (t := 100) (n := 10) (by decide) (by decide) ha (by decide)).2]
theorem an52 : aN S0 (some 52) = some (iI 10) := okn (t := 100) (n := 10) (by decide) (by decide) (by decide) (by decide)
theorem ld53 (ha : 0 ≤ a ∧ a < 10) : aI S0 (I, J, P) (some 53) (iI a) = some (I 53 a.toNat) := by simp [aI, (okx (o := 53) (t := 100) (n := 10) (by decide) (by decide) ha (by decide)).1, (okx (o := 53) (t := 100) (n := 10) (by decide) (by decide) ha (by decide)).2]
theorem st53 (ha : 0 ≤ a ∧ a < 10) : sI S0 (I, J, P) (some 53) (iI a) x = some (hup I 53 a.toNat x, J, P) := by simp [sI, (okx (o := 53) (t := 100) (n := 10) (by decide) (by decide) ha (by decide)).1, (okx (o := 53) (t := 100) (n := 10) (by decide) (by decide) ha (by decide)).2]
theorem an53 : aN S0 (some 53) = some (iI 10) := okn (t := 100) (n := 10) (by decide) (by decide) (by decide) (by decide)
theorem ld54 (ha : 0 ≤ a ∧ a < 1024) : aI S0 (I, J, P) (some 54) (iI a) = some (I 54 a.toNat) := by simp [aI, (okx (o := 54) (t := 100) (n := 1024) (by decide) (by decide) ha (by decide)).1, (okx (o := 54) (t := 100) (n := 1024) (by decide) (by decide) ha (by decide)).2]
theorem st54 (ha : 0 ≤ a ∧ a < 1024) : sI S0 (I, J, P) (some 54) (iI a) x = some (hup I 54 a.toNat x, J, P) := by simp [sI, (okx (o := 54) (t := 100) (n := 1024) (by decide) (by decide) ha (by decide)).1, (okx (o := 54) (t := 100) (n := 1024) (by decide) (by decide) ha (by decide)).2]
theorem an54 : aN S0 (some 54) = some (iI 1024) := okn (t := 100) (n := 1024) (by decide) (by decide) (by decide) (by decide)
theorem ld56 (ha : 0 ≤ a ∧ a < 10) : aI S0 (I, J, P) (some 56) (iI a) = some (I 56 a.toNat) := by simp [aI, (okx (o := 56) (t := 100) (n := 10) (by decide) (by decide) ha (by decide)).1, (okx (o := 56) (t := 100) (n := 10) (by decide) (by decide) ha (by decide)).2]
theorem st56 (ha : 0 ≤ a ∧ a < 10) : sI S0 (I, J, P) (some 56) (iI a) x = some (hup I 56 a.toNat x, J, P) := by simp [sI, (okx (o := 56) (t := 100) (n := 10) (by decide) (by decide) ha (by decide)).1, (okx (o := 56) (t := 100) (n := 10) (by decide) (by decide) ha (by decide)).2]
theorem an56 : aN S0 (some 56) = some (iI 10) := okn (t := 100) (n := 10) (by decide) (by decide) (by decide) (by decide)
theorem ld57 (ha : 0 ≤ a ∧ a < 10) : aI S0 (I, J, P) (some 57) (iI a) = some (I 57 a.toNat) := by simp [aI, (okx (o := 57) (t := 100) (n := 10) (by decide) (by decide) ha (by decide)).1, (okx (o := 57) (t := 100) (n := 10) (by decide) (by decide) ha (by decide)).2]
theorem st57 (ha : 0 ≤ a ∧ a < 10) : sI S0 (I, J, P) (some 57) (iI a) x = some (hup I 57 a.toNat x, J, P) := by simp [sI, (okx (o := 57) (t := 100) (n := 10) (by decide) (by decide) ha (by decide)).1, (okx (o := 57) (t := 100) (n := 10) (by decide) (by decide) ha (by decide)).2]
theorem an57 : aN S0 (some 57) = some (iI 10) := okn (t := 100) (n := 10) (by decide) (by decide) (by decide) (by decide)
theorem ld59 (ha : 0 ≤ a ∧ a < 80) : aI S0 (I, J, P) (some 59) (iI a) = some (I 59 a.toNat) := by simp [aI, (okx (o := 59) (t := 100) (n := 80) (by decide) (by decide) ha (by decide)).1, (okx (o := 59) (t := 100) (n := 80) (by decide) (by decide) ha (by decide)).2]
theorem st59 (ha : 0 ≤ a ∧ a < 80) : sI S0 (I, J, P) (some 59) (iI a) x = some (hup I 59 a.toNat x, J, P) := by simp [sI, (okx (o := 59) (t := 100) (n := 80) (by decide) (by decide) ha (by decide)).1, (okx (o := 59) (t := 100) (n := 80) (by decide) (by decide) ha (by decide)).2]
theorem an59 : aN S0 (some 59) = some (iI 80) := okn (t := 100) (n := 80) (by decide) (by decide) (by decide) (by decide)
theorem ld60 (ha : 0 ≤ a ∧ a < 3) : aI S0 (I, J, P) (some 60) (iI a) = some (I 60 a.toNat) := by simp [aI, (okx (o := 60) (t := 100) (n := 3) (by decide) (by decide) ha (by decide)).1, (okx (o := 60) (t := 100) (n := 3) (by decide) (by decide) ha (by decide)).2]
theorem st60 (ha : 0 ≤ a ∧ a < 3) : sI S0 (I, J, P) (some 60) (iI a) x = some (hup I 60 a.toNat x, J, P) := by simp [sI, (okx (o := 60) (t := 100) (n := 3) (by decide) (by decide) ha (by decide)).1, (okx (o := 60) (t := 100) (n := 3) (by decide) (by decide) ha (by decide)).2]
theorem an60 : aN S0 (some 60) = some (iI 3) := okn (t := 100) (n := 3) (by decide) (by decide) (by decide) (by decide)
theorem ld63 (ha : 0 ≤ a ∧ a < 7) : aI S0 (I, J, P) (some 63) (iI a) = some (I 63 a.toNat) := by simp [aI, (okx (o := 63) (t := 100) (n := 7) (by decide) (by decide) ha (by decide)).1, (okx (o := 63) (t := 100) (n := 7) (by decide) (by decide) ha (by decide)).2]
theorem st63 (ha : 0 ≤ a ∧ a < 7) : sI S0 (I, J, P) (some 63) (iI a) x = some (hup I 63 a.toNat x, J, P) := by simp [sI, (okx (o := 63) (t := 100) (n := 7) (by decide) (by decide) ha (by decide)).1, (okx (o := 63) (t := 100) (n := 7) (by decide) (by decide) ha (by decide)).2]
theorem an63 : aN S0 (some 63) = some (iI 7) := okn (t := 100) (n := 7) (by decide) (by decide) (by decide) (by decide)
theorem ld64 (ha : 0 ≤ a ∧ a < 64) : aI S0 (I, J, P) (some 64) (iI a) = some (I 64 a.toNat) := by simp [aI, (okx (o := 64) (t := 100) (n := 64) (by decide) (by decide) ha (by decide)).1, (okx (o := 64) (t := 100) (n := 64) (by decide) (by decide) ha (by decide)).2]
theorem st64 (ha : 0 ≤ a ∧ a < 64) : sI S0 (I, J, P) (some 64) (iI a) x = some (hup I 64 a.toNat x, J, P) := by simp [sI, (okx (o := 64) (t := 100) (n := 64) (by decide) (by decide) ha (by decide)).1, (okx (o := 64) (t := 100) (n := 64) (by decide) (by decide) ha (by decide)).2]
theorem an64 : aN S0 (some 64) = some (iI 64) := okn (t := 100) (n := 64) (by decide) (by decide) (by decide) (by decide)
theorem ld65 (ha : 0 ≤ a ∧ a < 392) : aI S0 (I, J, P) (some 65) (iI a) = some (I 65 a.toNat) := by simp [aI, (okx (o := 65) (t := 100) (n := 392) (by decide) (by decide) ha (by decide)).1, (okx (o := 65) (t := 100) (n := 392) (by decide) (by decide) ha (by decide)).2]
theorem st65 (ha : 0 ≤ a ∧ a < 392) : sI S0 (I, J, P) (some 65) (iI a) x = some (hup I 65 a.toNat x, J, P) := by simp [sI, (okx (o := 65) (t := 100) (n := 392) (by decide) (by decide) ha (by decide)).1, (okx (o := 65) (t := 100) (n := 392) (by decide) (by decide) ha (by decide)).2]
theorem an65 : aN S0 (some 65) = some (iI 392) := okn (t := 100) (n := 392) (by decide) (by decide) (by decide) (by decide)
theorem ld66 (ha : 0 ≤ a ∧ a < 392) : aI S0 (I, J, P) (some 66) (iI a) = some (I 66 a.toNat) := by simp [aI, (okx (o := 66) (t := 100) (n := 392) (by decide) (by decide) ha (by decide)).1, (okx (o := 66) (t := 100) (n := 392) (by decide) (by decide) ha (by decide)).2]
theorem st66 (ha : 0 ≤ a ∧ a < 392) : sI S0 (I, J, P) (some 66) (iI a) x = some (hup I 66 a.toNat x, J, P) := by simp [sI, (okx (o := 66) (t := 100) (n := 392) (by decide) (by decide) ha (by decide)).1, (okx (o := 66) (t := 100) (n := 392) (by decide) (by decide) ha (by decide)).2]
theorem an66 : aN S0 (some 66) = some (iI 392) := okn (t := 100) (n := 392) (by decide) (by decide) (by decide) (by decide)
theorem ld67 (ha : 0 ≤ a ∧ a < 8) : aI S0 (I, J, P) (some 67) (iI a) = some (I 67 a.toNat) := by simp [aI, (okx (o := 67) (t := 100) (n := 8) (by decide) (by decide) ha (by decide)).1, (okx (o := 67) (t := 100) (n := 8) (by decide) (by decide) ha (by decide)).2]
theorem st67 (ha : 0 ≤ a ∧ a < 8) : sI S0 (I, J, P) (some 67) (iI a) x = some (hup I 67 a.toNat x, J, P) := by simp [sI, (okx (o := 67) (t := 100) (n := 8) (by decide) (by decide) ha (by decide)).1, (okx (o := 67) (t := 100) (n := 8) (by decide) (by decide) ha (by decide)).2]
theorem an67 : aN S0 (some 67) = some (iI 8) := okn (t := 100) (n := 8) (by decide) (by decide) (by decide) (by decide)
theorem ld68 (ha : 0 ≤ a ∧ a < 8) : aI S0 (I, J, P) (some 68) (iI a) = some (I 68 a.toNat) := by simp [aI, (okx (o := 68) (t := 100) (n := 8) (by decide) (by decide) ha (by decide)).1, (okx (o := 68) (t := 100) (n := 8) (by decide) (by decide) ha (by decide)).2]
theorem st68 (ha : 0 ≤ a ∧ a < 8) : sI S0 (I, J, P) (some 68) (iI a) x = some (hup I 68 a.toNat x, J, P) := by simp [sI, (okx (o := 68) (t := 100) (n := 8) (by decide) (by decide) ha (by decide)).1, (okx (o := 68) (t := 100) (n := 8) (by decide) (by decide) ha (by decide)).2]
theorem an68 : aN S0 (some 68) = some (iI 8) := okn (t := 100) (n := 8) (by decide) (by decide) (by decide) (by decide)
theorem ld69 (ha : 0 ≤ a ∧ a < 7) : aI S0 (I, J, P) (some 69) (iI a) = some (I 69 a.toNat) := by simp [aI, (okx (o := 69) (t := 100) (n := 7) (by decide) (by decide) ha (by decide)).1, (okx (o := 69) (t := 100) (n := 7) (by decide) (by decide) ha (by decide)).2]
theorem st69 (ha : 0 ≤ a ∧ a < 7) : sI S0 (I, J, P) (some 69) (iI a) x = some (hup I 69 a.toNat x, J, P) := by simp [sI, (okx (o := 69) (t := 100) (n := 7) (by decide) (by decide) ha (by decide)).1, (okx (o := 69) (t := 100) (n := 7) (by decide) (by decide) ha (by decide)).2]
theorem an69 : aN S0 (some 69) = some (iI 7) := okn (t := 100) (n := 7) (by decide) (by decide) (by decide) (by decide)
theorem ld70 (ha : 0 ≤ a ∧ a < 7) : aI S0 (I, J, P) (some 70) (iI a) = some (I 70 a.toNat) := by simp [aI, (okx (o := 70) (t := 100) (n := 7) (by decide) (by decide) ha (by decide)).1, (okx (o := 70) (t := 100) (n := 7) (by decide) (by decide) ha (by decide)).2]
theorem st70 (ha : 0 ≤ a ∧ a < 7) : sI S0 (I, J, P) (some 70) (iI a) x = some (hup I 70 a.toNat x, J, P) := by simp [sI, (okx (o := 70) (t := 100) (n := 7) (by decide) (by decide) ha (by decide)).1, (okx (o := 70) (t := 100) (n := 7) (by decide) (by decide) ha (by decide)).2]
theorem an70 : aN S0 (some 70) = some (iI 7) := okn (t := 100) (n := 7) (by decide) (by decide) (by decide) (by decide)
theorem ld133 (ha : 0 ≤ a ∧ a < 700) : aB S0 (I, J, P) (some 133) (iI a) = some (I 133 a.toNat) := by simp [aB, (okx (o := 133) (t := 101) (n := 700) (by decide) (by decide) ha (by decide)).1, (okx (o := 133) (t := 101) (n := 700) (by decide) (by decide) ha (by decide)).2]
theorem st133 (ha : 0 ≤ a ∧ a < 700) : sB S0 (I, J, P) (some 133) (iI a) x = some (hup I 133 a.toNat (i2bv x), J, P) := by simp [sB, (okx (o := 133) (t := 101) (n := 700) (by decide) (by decide) ha (by decide)).1, (okx (o := 133) (t := 101) (n := 700) (by decide) (by decide) ha (by decide)).2]
theorem an133 : aN S0 (some 133) = some (iI 700) := okn (t := 101) (n := 700) (by decide) (by decide) (by decide) (by decide)
theorem an134 : aN S0 (some 134) = some (iI 2) := okn (t := 108) (n := 2) (by decide) (by decide) (by decide) (by decide)
theorem ld135 (ha : 0 ≤ a ∧ a < 10) : aL S0 (I, J, P) (some 135) (iI a) = some (J 135 a.toNat) := by simp [aL, (okx (o := 135) (t := 103) (n := 10) (by decide) (by decide) ha (by decide)).1, (okx (o := 135) (t := 103) (n := 10) (by decide) (by decide) ha (by decide)).2]
theorem st135 (ha : 0 ≤ a ∧ a < 10) : sL S0 (I, J, P) (some 135) (iI a) y = some (I, hup J 135 a.toNat y, P) := by simp [sL, (okx (o := 135) (t := 103) (n := 10) (by decide) (by decide) ha (by decide)).1, (okx (o := 135) (t := 103) (n := 10) (by decide) (by decide) ha (by decide)).2]
theorem an135 : aN S0 (some 135) = some (iI 10) := okn (t := 103) (n := 10) (by decide) (by decide) (by decide) (by decide)
theorem ld136 (ha : 0 ≤ a ∧ a < 10) : aL S0 (I, J, P) (some 136) (iI a) = some (J 136 a.toNat) := by simp [aL, (okx (o := 136) (t := 103) (n := 10) (by decide) (by decide) ha (by decide)).1, (okx (o := 136) (t := 103) (n := 10) (by decide) (by decide) ha (by decide)).2]
theorem st136 (ha : 0 ≤ a ∧ a < 10) : sL S0 (I, J, P) (some 136) (iI a) y = some (I, hup J 136 a.toNat y, P) := by simp [sL, (okx (o := 136) (t := 103) (n := 10) (by decide) (by decide) ha (by decide)).1, (okx (o := 136) (t := 103) (n := 10) (by decide) (by decide) ha (by decide)).2]
theorem an136 : aN S0 (some 136) = some (iI 10) := okn (t := 103) (n := 10) (by decide) (by decide) (by decide) (by decide)
theorem an137 : aN S0 (some 137) = some (iI 2) := okn (t := 108) (n := 2) (by decide) (by decide) (by decide) (by decide)
theorem ld138 (ha : 0 ≤ a ∧ a < 5) : aL S0 (I, J, P) (some 138) (iI a) = some (J 138 a.toNat) := by simp [aL, (okx (o := 138) (t := 103) (n := 5) (by decide) (by decide) ha (by decide)).1, (okx (o := 138) (t := 103) (n := 5) (by decide) (by decide) ha (by decide)).2]
theorem st138 (ha : 0 ≤ a ∧ a < 5) : sL S0 (I, J, P) (some 138) (iI a) y = some (I, hup J 138 a.toNat y, P) := by simp [sL, (okx (o := 138) (t := 103) (n := 5) (by decide) (by decide) ha (by decide)).1, (okx (o := 138) (t := 103) (n := 5) (by decide) (by decide) ha (by decide)).2]
theorem an138 : aN S0 (some 138) = some (iI 5) := okn (t := 103) (n := 5) (by decide) (by decide) (by decide) (by decide)
theorem ld139 (ha : 0 ≤ a ∧ a < 5) : aL S0 (I, J, P) (some 139) (iI a) = some (J 139 a.toNat) := by simp [aL, (okx (o := 139) (t := 103) (n := 5) (by decide) (by decide) ha (by decide)).1, (okx (o := 139) (t := 103) (n := 5) (by decide) (by decide) ha (by decide)).2]
theorem st139 (ha : 0 ≤ a ∧ a < 5) : sL S0 (I, J, P) (some 139) (iI a) y = some (I, hup J 139 a.toNat y, P) := by simp [sL, (okx (o := 139) (t := 103) (n := 5) (by decide) (by decide) ha (by decide)).1, (okx (o := 139) (t := 103) (n := 5) (by decide) (by decide) ha (by decide)).2]
theorem an139 : aN S0 (some 139) = some (iI 5) := okn (t := 103) (n := 5) (by decide) (by decide) (by decide) (by decide)
theorem an140 : aN S0 (some 140) = some (iI 2) := okn (t := 107) (n := 2) (by decide) (by decide) (by decide) (by decide)
theorem ld141 (ha : 0 ≤ a ∧ a < 5) : aI S0 (I, J, P) (some 141) (iI a) = some (I 141 a.toNat) := by simp [aI, (okx (o := 141) (t := 100) (n := 5) (by decide) (by decide) ha (by decide)).1, (okx (o := 141) (t := 100) (n := 5) (by decide) (by decide) ha (by decide)).2]
theorem st141 (ha : 0 ≤ a ∧ a < 5) : sI S0 (I, J, P) (some 141) (iI a) x = some (hup I 141 a.toNat x, J, P) := by simp [sI, (okx (o := 141) (t := 100) (n := 5) (by decide) (by decide) ha (by decide)).1, (okx (o := 141) (t := 100) (n := 5) (by decide) (by decide) ha (by decide)).2]
theorem an141 : aN S0 (some 141) = some (iI 5) := okn (t := 100) (n := 5) (by decide) (by decide) (by decide) (by decide)
theorem ld142 (ha : 0 ≤ a ∧ a < 5) : aI S0 (I, J, P) (some 142) (iI a) = some (I 142 a.toNat) := by simp [aI, (okx (o := 142) (t := 100) (n := 5) (by decide) (by decide) ha (by decide)).1, (okx (o := 142) (t := 100) (n := 5) (by decide) (by decide) ha (by decide)).2]
theorem st142 (ha : 0 ≤ a ∧ a < 5) : sI S0 (I, J, P) (some 142) (iI a) x = some (hup I 142 a.toNat x, J, P) := by simp [sI, (okx (o := 142) (t := 100) (n := 5) (by decide) (by decide) ha (by decide)).1, (okx (o := 142) (t := 100) (n := 5) (by decide) (by decide) ha (by decide)).2]
theorem an142 : aN S0 (some 142) = some (iI 5) := okn (t := 100) (n := 5) (by decide) (by decide) (by decide) (by decide)
theorem an143 : aN S0 (some 143) = some (iI 2) := okn (t := 107) (n := 2) (by decide) (by decide) (by decide) (by decide)
theorem ld144 (ha : 0 ≤ a ∧ a < 12) : aI S0 (I, J, P) (some 144) (iI a) = some (I 144 a.toNat) := by simp [aI, (okx (o := 144) (t := 100) (n := 12) (by decide) (by decide) ha (by decide)).1, (okx (o := 144) (t := 100) (n := 12) (by decide) (by decide) ha (by decide)).2]
theorem st144 (ha : 0 ≤ a ∧ a < 12) : sI S0 (I, J, P) (some 144) (iI a) x = some (hup I 144 a.toNat x, J, P) := by simp [sI, (okx (o := 144) (t := 100) (n := 12) (by decide) (by decide) ha (by decide)).1, (okx (o := 144) (t := 100) (n := 12) (by decide) (by decide) ha (by decide)).2]
theorem an144 : aN S0 (some 144) = some (iI 12) := okn (t := 100) (n := 12) (by decide) (by decide) (by decide) (by decide)
theorem ld145 (ha : 0 ≤ a ∧ a < 12) : aI S0 (I, J, P) (some 145) (iI a) = some (I 145 a.toNat) := by simp [aI, (okx (o := 145) (t := 100) (n := 12) (by decide) (by decide) ha (by decide)).1, (okx (o := 145) (t := 100) (n := 12) (by decide) (by decide) ha (by decide)).2]
theorem st145 (ha : 0 ≤ a ∧ a < 12) : sI S0 (I, J, P) (some 145) (iI a) x = some (hup I 145 a.toNat x, J, P) := by simp [sI, (okx (o := 145) (t := 100) (n := 12) (by decide) (by decide) ha (by decide)).1, (okx (o := 145) (t := 100) (n := 12) (by decide) (by decide) ha (by decide)).2]
theorem an145 : aN S0 (some 145) = some (iI 12) := okn (t := 100) (n := 12) (by decide) (by decide) (by decide) (by decide)
theorem an146 : aN S0 (some 146) = some (iI 2) := okn (t := 107) (n := 2) (by decide) (by decide) (by decide) (by decide)
theorem ld147 (ha : 0 ≤ a ∧ a < 12) : aI S0 (I, J, P) (some 147) (iI a) = some (I 147 a.toNat) := by simp [aI, (okx (o := 147) (t := 100) (n := 12) (by decide) (by decide) ha (by decide)).1, (okx (o := 147) (t := 100) (n := 12) (by decide) (by decide) ha (by decide)).2]
theorem st147 (ha : 0 ≤ a ∧ a < 12) : sI S0 (I, J, P) (some 147) (iI a) x = some (hup I 147 a.toNat x, J, P) := by simp [sI, (okx (o := 147) (t := 100) (n := 12) (by decide) (by decide) ha (by decide)).1, (okx (o := 147) (t := 100) (n := 12) (by decide) (by decide) ha (by decide)).2]
theorem an147 : aN S0 (some 147) = some (iI 12) := okn (t := 100) (n := 12) (by decide) (by decide) (by decide) (by decide)
theorem ld148 (ha : 0 ≤ a ∧ a < 12) : aI S0 (I, J, P) (some 148) (iI a) = some (I 148 a.toNat) := by simp [aI, (okx (o := 148) (t := 100) (n := 12) (by decide) (by decide) ha (by decide)).1, (okx (o := 148) (t := 100) (n := 12) (by decide) (by decide) ha (by decide)).2]
theorem st148 (ha : 0 ≤ a ∧ a < 12) : sI S0 (I, J, P) (some 148) (iI a) x = some (hup I 148 a.toNat x, J, P) := by simp [sI, (okx (o := 148) (t := 100) (n := 12) (by decide) (by decide) ha (by decide)).1, (okx (o := 148) (t := 100) (n := 12) (by decide) (by decide) ha (by decide)).2]
theorem an148 : aN S0 (some 148) = some (iI 12) := okn (t := 100) (n := 12) (by decide) (by decide) (by decide) (by decide)
theorem an149 : aN S0 (some 149) = some (iI 2) := okn (t := 107) (n := 2) (by decide) (by decide) (by decide) (by decide)
theorem ld150 (ha : 0 ≤ a ∧ a < 12) : aI S0 (I, J, P) (some 150) (iI a) = some (I 150 a.toNat) := by simp [aI, (okx (o := 150) (t := 100) (n := 12) (by decide) (by decide) ha (by decide)).1, (okx (o := 150) (t := 100) (n := 12) (by decide) (by decide) ha (by decide)).2]
theorem st150 (ha : 0 ≤ a ∧ a < 12) : sI S0 (I, J, P) (some 150) (iI a) x = some (hup I 150 a.toNat x, J, P) := by simp [sI, (okx (o := 150) (t := 100) (n := 12) (by decide) (by decide) ha (by decide)).1, (okx (o := 150) (t := 100) (n := 12) (by decide) (by decide) ha (by decide)).2]
theorem an150 : aN S0 (some 150) = some (iI 12) := okn (t := 100) (n := 12) (by decide) (by decide) (by decide) (by decide)
theorem ld151 (ha : 0 ≤ a ∧ a < 12) : aI S0 (I, J, P) (some 151) (iI a) = some (I 151 a.toNat) := by simp [aI, (okx (o := 151) (t := 100) (n := 12) (by decide) (by decide) ha (by decide)).1, (okx (o := 151) (t := 100) (n := 12) (by decide) (by decide) ha (by decide)).2]
theorem st151 (ha : 0 ≤ a ∧ a < 12) : sI S0 (I, J, P) (some 151) (iI a) x = some (hup I 151 a.toNat x, J, P) := by simp [sI, (okx (o := 151) (t := 100) (n := 12) (by decide) (by decide) ha (by decide)).1, (okx (o := 151) (t := 100) (n := 12) (by decide) (by decide) ha (by decide)).2]
theorem an151 : aN S0 (some 151) = some (iI 12) := okn (t := 100) (n := 12) (by decide) (by decide) (by decide) (by decide)
theorem an152 : aN S0 (some 152) = some (iI 2) := okn (t := 107) (n := 2) (by decide) (by decide) (by decide) (by decide)
theorem ld153 (ha : 0 ≤ a ∧ a < 12) : aI S0 (I, J, P) (some 153) (iI a) = some (I 153 a.toNat) := by simp [aI, (okx (o := 153) (t := 100) (n := 12) (by decide) (by decide) ha (by decide)).1, (okx (o := 153) (t := 100) (n := 12) (by decide) (by decide) ha (by decide)).2]
theorem st153 (ha : 0 ≤ a ∧ a < 12) : sI S0 (I, J, P) (some 153) (iI a) x = some (hup I 153 a.toNat x, J, P) := by simp [sI, (okx (o := 153) (t := 100) (n := 12) (by decide) (by decide) ha (by decide)).1, (okx (o := 153) (t := 100) (n := 12) (by decide) (by decide) ha (by decide)).2]
theorem an153 : aN S0 (some 153) = some (iI 12) := okn (t := 100) (n := 12) (by decide) (by decide) (by decide) (by decide)
theorem ld154 (ha : 0 ≤ a ∧ a < 12) : aI S0 (I, J, P) (some 154) (iI a) = some (I 154 a.toNat) := by simp [aI, (okx (o := 154) (t := 100) (n := 12) (by decide) (by decide) ha (by decide)).1, (okx (o := 154) (t := 100) (n := 12) (by decide) (by decide) ha (by decide)).2]
theorem st154 (ha : 0 ≤ a ∧ a < 12) : sI S0 (I, J, P) (some 154) (iI a) x = some (hup I 154 a.toNat x, J, P) := by simp [sI, (okx (o := 154) (t := 100) (n := 12) (by decide) (by decide) ha (by decide)).1, (okx (o := 154) (t := 100) (n := 12) (by decide) (by decide) ha (by decide)).2]
theorem an154 : aN S0 (some 154) = some (iI 12) := okn (t := 100) (n := 12) (by decide) (by decide) (by decide) (by decide)
theorem an155 : aN S0 (some 155) = some (iI 2) := okn (t := 107) (n := 2) (by decide) (by decide) (by decide) (by decide)
theorem ld156 (ha : 0 ≤ a ∧ a < 12) : aI S0 (I, J, P) (some 156) (iI a) = some (I 156 a.toNat) := by simp [aI, (okx (o := 156) (t := 100) (n := 12) (by decide) (by decide) ha (by decide)).1, (okx (o := 156) (t := 100) (n := 12) (by decide) (by decide) ha (by decide)).2]
theorem st156 (ha : 0 ≤ a ∧ a < 12) : sI S0 (I, J, P) (some 156) (iI a) x = some (hup I 156 a.toNat x, J, P) := by simp [sI, (okx (o := 156) (t := 100) (n := 12) (by decide) (by decide) ha (by decide)).1, (okx (o := 156) (t := 100) (n := 12) (by decide) (by decide) ha (by decide)).2]
theorem an156 : aN S0 (some 156) = some (iI 12) := okn (t := 100) (n := 12) (by decide) (by decide) (by decide) (by decide)
theorem ld157 (ha : 0 ≤ a ∧ a < 12) : aI S0 (I, J, P) (some 157) (iI a) = some (I 157 a.toNat) := by simp [aI, (okx (o := 157) (t := 100) (n := 12) (by decide) (by decide) ha (by decide)).1, (okx (o := 157) (t := 100) (n := 12) (by decide) (by decide) ha (by decide)).2]
theorem st157 (ha : 0 ≤ a ∧ a < 12) : sI S0 (I, J, P) (some 157) (iI a) x = some (hup I 157 a.toNat x, J, P) := by simp [sI, (okx (o := 157) (t := 100) (n := 12) (by decide) (by decide) ha (by decide)).1, (okx (o := 157) (t := 100) (n := 12) (by decide) (by decide) ha (by decide)).2]
theorem an157 : aN S0 (some 157) = some (iI 12) := okn (t := 100) (n := 12) (by decide) (by decide) (by decide) (by decide)
theorem an158 : aN S0 (some 158) = some (iI 2) := okn (t := 107) (n := 2) (by decide) (by decide) (by decide) (by decide)
theorem ld159 (ha : 0 ≤ a ∧ a < 12) : aI S0 (I, J, P) (some 159) (iI a) = some (I 159 a.toNat) := by simp [aI, (okx (o := 159) (t := 100) (n := 12) (by decide) (by decide) ha (by decide)).1, (okx (o := 159) (t := 100) (n := 12) (by decide) (by decide) ha (by decide)).2]
theorem st159 (ha : 0 ≤ a ∧ a < 12) : sI S0 (I, J, P) (some 159) (iI a) x = some (hup I 159 a.toNat x, J, P) := by simp [sI, (okx (o := 159) (t := 100) (n := 12) (by decide) (by decide) ha (by decide)).1, (okx (o := 159) (t := 100) (n := 12) (by decide) (by decide) ha (by decide)).2]
theorem an159 : aN S0 (some 159) = some (iI 12) := okn (t := 100) (n := 12) (by decide) (by decide) (by decide) (by decide)
theorem ld160 (ha : 0 ≤ a ∧ a < 12) : aI S0 (I, J, P) (some 160) (iI a) = some (I 160 a.toNat) := by simp [aI, (okx (o := 160) (t := 100) (n := 12) (by decide) (by decide) ha (by decide)).1, (okx (o := 160) (t := 100) (n := 12) (by decide) (by decide) ha (by decide)).2]
theorem st160 (ha : 0 ≤ a ∧ a < 12) : sI S0 (I, J, P) (some 160) (iI a) x = some (hup I 160 a.toNat x, J, P) := by simp [sI, (okx (o := 160) (t := 100) (n := 12) (by decide) (by decide) ha (by decide)).1, (okx (o := 160) (t := 100) (n := 12) (by decide) (by decide) ha (by decide)).2]
theorem an160 : aN S0 (some 160) = some (iI 12) := okn (t := 100) (n := 12) (by decide) (by decide) (by decide) (by decide)
theorem ld161 (ha : 0 ≤ a ∧ a < 2) : aI S0 (I, J, P) (some 161) (iI a) = some (I 161 a.toNat) := by simp [aI, (okx (o := 161) (t := 100) (n := 2) (by decide) (by decide) ha (by decide)).1, (okx (o := 161) (t := 100) (n := 2) (by decide) (by decide) ha (by decide)).2]
theorem st161 (ha : 0 ≤ a ∧ a < 2) : sI S0 (I, J, P) (some 161) (iI a) x = some (hup I 161 a.toNat x, J, P) := by simp [sI, (okx (o := 161) (t := 100) (n := 2) (by decide) (by decide) ha (by decide)).1, (okx (o := 161) (t := 100) (n := 2) (by decide) (by decide) ha (by decide)).2]
theorem an161 : aN S0 (some 161) = some (iI 2) := okn (t := 100) (n := 2) (by decide) (by decide) (by decide) (by decide)
theorem ld162 (ha : 0 ≤ a ∧ a < 2) : aI S0 (I, J, P) (some 162) (iI a) = some (I 162 a.toNat) := by simp [aI, (okx (o := 162) (t := 100) (n := 2) (by decide) (by decide) ha (by decide)).1, (okx (o := 162) (t := 100) (n := 2) (by decide) (by decide) ha (by decide)).2]
theorem st162 (ha : 0 ≤ a ∧ a < 2) : sI S0 (I, J, P) (some 162) (iI a) x = some (hup I 162 a.toNat x, J, P) := by simp [sI, (okx (o := 162) (t := 100) (n := 2) (by decide) (by decide) ha (by decide)).1, (okx (o := 162) (t := 100) (n := 2) (by decide) (by decide) ha (by decide)).2]
theorem an162 : aN S0 (some 162) = some (iI 2) := okn (t := 100) (n := 2) (by decide) (by decide) (by decide) (by decide)
theorem ld163 (ha : 0 ≤ a ∧ a < 2) : aI S0 (I, J, P) (some 163) (iI a) = some (I 163 a.toNat) := by simp [aI, (okx (o := 163) (t := 100) (n := 2) (by decide) (by decide) ha (by decide)).1, (okx (o := 163) (t := 100) (n := 2) (by decide) (by decide) ha (by decide)).2]
theorem st163 (ha : 0 ≤ a ∧ a < 2) : sI S0 (I, J, P) (some 163) (iI a) x = some (hup I 163 a.toNat x, J, P) := by simp [sI, (okx (o := 163) (t := 100) (n := 2) (by decide) (by decide) ha (by decide)).1, (okx (o := 163) (t := 100) (n := 2) (by decide) (by decide) ha (by decide)).2]
theorem an163 : aN S0 (some 163) = some (iI 2) := okn (t := 100) (n := 2) (by decide) (by decide) (by decide) (by decide)
theorem an164 : aN S0 (some 164) = some (iI 9) := okn (t := 106) (n := 9) (by decide) (by decide) (by decide) (by decide)
theorem ld165 (ha : 0 ≤ a ∧ a < 12) : aZ S0 (I, J, P) (some 165) (iI a) = some (I 165 a.toNat) := by simp [aZ, (okx (o := 165) (t := 102) (n := 12) (by decide) (by decide) ha (by decide)).1, (okx (o := 165) (t := 102) (n := 12) (by decide) (by decide) ha (by decide)).2]
theorem st165 (ha : 0 ≤ a ∧ a < 12) : sZ S0 (I, J, P) (some 165) (iI a) (bI b) = some (hup I 165 a.toNat (bI b), J, P) := by simp [sZ, (okx (o := 165) (t := 102) (n := 12) (by decide) (by decide) ha (by decide)).1, (okx (o := 165) (t := 102) (n := 12) (by decide) (by decide) ha (by decide)).2, n_1, bI_and1]
theorem an165 : aN S0 (some 165) = some (iI 12) := okn (t := 102) (n := 12) (by decide) (by decide) (by decide) (by decide)
theorem ld166 (ha : 0 ≤ a ∧ a < 10) : aZ S0 (I, J, P) (some 166) (iI a) = some (I 166 a.toNat) := by simp [aZ, (okx (o := 166) (t := 102) (n := 10) (by decide) (by decide) ha (by decide)).1, (okx (o := 166) (t := 102) (n := 10) (by decide) (by decide) ha (by decide)).2]
theorem st166 (ha : 0 ≤ a ∧ a < 10) : sZ S0 (I, J, P) (some 166) (iI a) (bI b) = some (hup I 166 a.toNat (bI b), J, P) := by simp [sZ, (okx (o := 166) (t := 102) (n := 10) (by decide) (by decide) ha (by decide)).1, (okx (o := 166) (t := 102) (n := 10) (by decide) (by decide) ha (by decide)).2, n_1, bI_and1]
theorem an166 : aN S0 (some 166) = some (iI 10) := okn (t := 102) (n := 10) (by decide) (by decide) (by decide) (by decide)
theorem ld167 (ha : 0 ≤ a ∧ a < 10) : aZ S0 (I, J, P) (some 167) (iI a) = some (I 167 a.toNat) := by simp [aZ, (okx (o := 167) (t := 102) (n := 10) (by decide) (by decide) ha (by decide)).1, (okx (o := 167) (t := 102) (n := 10) (by decide) (by decide) ha (by decide)).2]
theorem st167 (ha : 0 ≤ a ∧ a < 10) : sZ S0 (I, J, P) (some 167) (iI a) (bI b) = some (hup I 167 a.toNat (bI b), J, P) := by simp [sZ, (okx (o := 167) (t := 102) (n := 10) (by decide) (by decide) ha (by decide)).1, (okx (o := 167) (t := 102) (n := 10) (by decide) (by decide) ha (by decide)).2, n_1, bI_and1]
theorem an167 : aN S0 (some 167) = some (iI 10) := okn (t := 102) (n := 10) (by decide) (by decide) (by decide) (by decide)
theorem ld168 (ha : 0 ≤ a ∧ a < 10) : aI S0 (I, J, P) (some 168) (iI a) = some (I 168 a.toNat) := by simp [aI, (okx (o := 168) (t := 100) (n := 10) (by decide) (by decide) ha (by decide)).1, (okx (o := 168) (t := 100) (n := 10) (by decide) (by decide) ha (by decide)).2]
theorem st168 (ha : 0 ≤ a ∧ a < 10) : sI S0 (I, J, P) (some 168) (iI a) x = some (hup I 168 a.toNat x, J, P) := by simp [sI, (okx (o := 168) (t := 100) (n := 10) (by decide) (by decide) ha (by decide)).1, (okx (o := 168) (t := 100) (n := 10) (by decide) (by decide) ha (by decide)).2]
theorem an168 : aN S0 (some 168) = some (iI 10) := okn (t := 100) (n := 10) (by decide) (by decide) (by decide) (by decide)
theorem ld169 (ha : 0 ≤ a ∧ a < 10) : aI S0 (I, J, P) (some 169) (iI a) = some (I 169 a.toNat) := by simp [aI, (okx (o := 169) (t := 100) (n := 10) (by decide) (by decide) ha (by decide)).1, (okx (o := 169) (t := 100) (n := 10) (by decide) (by decide) ha (by decide)).2]
theorem st169 (ha : 0 ≤ a ∧ a < 10) : sI S0 (I, J, P) (some 169) (iI a) x = some (hup I 169 a.toNat x, J, P) := by simp [sI, (okx (o := 169) (t := 100) (n := 10) (by decide) (by decide) ha (by decide)).1, (okx (o := 169) (t := 100) (n := 10) (by decide) (by decide) ha (by decide)).2]
theorem an169 : aN S0 (some 169) = some (iI 10) := okn (t := 100) (n := 10) (by decide) (by decide) (by decide) (by decide)
theorem ld170 (ha : 0 ≤ a ∧ a < 4) : aI S0 (I, J, P) (some 170) (iI a) = some (I 170 a.toNat) := by simp [aI, (okx (o := 170) (t := 100) (n := 4) (by decide) (by decide) ha (by decide)).1, (okx (o := 170) (t := 100) (n := 4) (by decide) (by decide) ha (by decide)).2]
theorem st170 (ha : 0 ≤ a ∧ a < 4) : sI S0 (I, J, P) (some 170) (iI a) x = some (hup I 170 a.toNat x, J, P) := by simp [sI, (okx (o := 170) (t := 100) (n := 4) (by decide) (by decide) ha (by decide)).1, (okx (o := 170) (t := 100) (n := 4) (by decide) (by decide) ha (by decide)).2]
theorem an170 : aN S0 (some 170) = some (iI 4) := okn (t := 100) (n := 4) (by decide) (by decide) (by decide) (by decide)
theorem ld171 (ha : 0 ≤ a ∧ a < 4) : aI S0 (I, J, P) (some 171) (iI a) = some (I 171 a.toNat) := by simp [aI, (okx (o := 171) (t := 100) (n := 4) (by decide) (by decide) ha (by decide)).1, (okx (o := 171) (t := 100) (n := 4) (by decide) (by decide) ha (by decide)).2]
theorem st171 (ha : 0 ≤ a ∧ a < 4) : sI S0 (I, J, P) (some 171) (iI a) x = some (hup I 171 a.toNat x, J, P) := by simp [sI, (okx (o := 171) (t := 100) (n := 4) (by decide) (by decide) ha (by decide)).1, (okx (o := 171) (t := 100) (n := 4) (by decide) (by decide) ha (by decide)).2]
theorem an171 : aN S0 (some 171) = some (iI 4) := okn (t := 100) (n := 4) (by decide) (by decide) (by decide) (by decide)
theorem ld172 (ha : 0 ≤ a ∧ a < 1200) : aI S0 (I, J, P) (some 172) (iI a) = some (I 172 a.toNat) := by simp [aI, (okx (o := 172) (t := 100) (n := 1200) (by decide) (by decide) ha (by decide)).1, (okx (o := 172) (t := 100) (n := 1200) (by decide) (by decide) ha (by decide)).2]
theorem st172 (ha : 0 ≤ a ∧ a < 1200) : sI S0 (I, J, P) (some 172) (iI a) x = some (hup I 172 a.toNat x, J, P) := by simp [sI, (okx (o := 172) (t := 100) (n := 1200) (by decide) (by decide) ha (by decide)).1, (okx (o := 172) (t := 100) (n := 1200) (by decide) (by decide) ha (by decide)).2]
theorem an172 : aN S0 (some 172) = some (iI 1200) := okn (t := 100) (n := 1200) (by decide) (by decide) (by decide) (by decide)
theorem ld173 (ha : 0 ≤ a ∧ a < 1200) : aI S0 (I, J, P) (some 173) (iI a) = some (I 173 a.toNat) := by simp [aI, (okx (o := 173) (t := 100) (n := 1200) (by decide) (by decide) ha (by decide)).1, (okx (o := 173) (t := 100) (n := 1200) (by decide) (by decide) ha (by decide)).2]
theorem st173 (ha : 0 ≤ a ∧ a < 1200) : sI S0 (I, J, P) (some 173) (iI a) x = some (hup I 173 a.toNat x, J, P) := by simp [sI, (okx (o := 173) (t := 100) (n := 1200) (by decide) (by decide) ha (by decide)).1, (okx (o := 173) (t := 100) (n := 1200) (by decide) (by decide) ha (by decide)).2]
theorem an173 : aN S0 (some 173) = some (iI 1200) := okn (t := 100) (n := 1200) (by decide) (by decide) (by decide) (by decide)
theorem ld174 (ha : 0 ≤ a ∧ a < 1200) : aI S0 (I, J, P) (some 174) (iI a) = some (I 174 a.toNat) := by simp [aI, (okx (o := 174) (t := 100) (n := 1200) (by decide) (by decide) ha (by decide)).1, (okx (o := 174) (t := 100) (n := 1200) (by decide) (by decide) ha (by decide)).2]
theorem st174 (ha : 0 ≤ a ∧ a < 1200) : sI S0 (I, J, P) (some 174) (iI a) x = some (hup I 174 a.toNat x, J, P) := by simp [sI, (okx (o := 174) (t := 100) (n := 1200) (by decide) (by decide) ha (by decide)).1, (okx (o := 174) (t := 100) (n := 1200) (by decide) (by decide) ha (by decide)).2]
theorem an174 : aN S0 (some 174) = some (iI 1200) := okn (t := 100) (n := 1200) (by decide) (by decide) (by decide) (by decide)
theorem ld175 (ha : 0 ≤ a ∧ a < 10) : aI S0 (I, J, P) (some 175) (iI a) = some (I 175 a.toNat) := by simp [aI, (okx (o := 175) (t := 100) (n := 10) (by decide) (by decide) ha (by decide)).1, (okx (o := 175) (t := 100) (n := 10) (by decide) (by decide) ha (by decide)).2]
theorem st175 (ha : 0 ≤ a ∧ a < 10) : sI S0 (I, J, P) (some 175) (iI a) x = some (hup I 175 a.toNat x, J, P) := by simp [sI, (okx (o := 175) (t := 100) (n := 10) (by decide) (by decide) ha (by decide)).1, (okx (o := 175) (t := 100) (n := 10) (by decide) (by decide) ha (by decide)).2]
theorem an175 : aN S0 (some 175) = some (iI 10) := okn (t := 100) (n := 10) (by decide) (by decide) (by decide) (by decide)
theorem ld176 (ha : 0 ≤ a ∧ a < 100) : aZ S0 (I, J, P) (some 176) (iI a) = some (I 176 a.toNat) := by simp [aZ, (okx (o := 176) (t := 102) (n := 100) (by decide) (by decide) ha (by decide)).1, (okx (o := 176) (t := 102) (n := 100) (by decide) (by decide) ha (by decide)).2]
theorem st176 (ha : 0 ≤ a ∧ a < 100) : sZ S0 (I, J, P) (some 176) (iI a) (bI b) = some (hup I 176 a.toNat (bI b), J, P) := by simp [sZ, (okx (o := 176) (t := 102) (n := 100) (by decide) (by decide) ha (by decide)).1, (okx (o := 176) (t := 102) (n := 100) (by decide) (by decide) ha (by decide)).2, n_1, bI_and1]
theorem an176 : aN S0 (some 176) = some (iI 100) := okn (t := 102) (n := 100) (by decide) (by decide) (by decide) (by decide)
theorem ld177 (ha : 0 ≤ a ∧ a < 100) : aZ S0 (I, J, P) (some 177) (iI a) = some (I 177 a.toNat) := by simp [aZ, (okx (o := 177) (t := 102) (n := 100) (by decide) (by decide) ha (by decide)).1, (okx (o := 177) (t := 102) (n := 100) (by decide) (by decide) ha (by decide)).2]
theorem st177 (ha : 0 ≤ a ∧ a < 100) : sZ S0 (I, J, P) (some 177) (iI a) (bI b) = some (hup I 177 a.toNat (bI b), J, P) := by simp [sZ, (okx (o := 177) (t := 102) (n := 100) (by decide) (by decide) ha (by decide)).1, (okx (o := 177) (t := 102) (n := 100) (by decide) (by decide) ha (by decide)).2, n_1, bI_and1]
theorem an177 : aN S0 (some 177) = some (iI 100) := okn (t := 102) (n := 100) (by decide) (by decide) (by decide) (by decide)
theorem ld178 (ha : 0 ≤ a ∧ a < 10) : aI S0 (I, J, P) (some 178) (iI a) = some (I 178 a.toNat) := by simp [aI, (okx (o := 178) (t := 100) (n := 10) (by decide) (by decide) ha (by decide)).1, (okx (o := 178) (t := 100) (n := 10) (by decide) (by decide) ha (by decide)).2]
theorem st178 (ha : 0 ≤ a ∧ a < 10) : sI S0 (I, J, P) (some 178) (iI a) x = some (hup I 178 a.toNat x, J, P) := by simp [sI, (okx (o := 178) (t := 100) (n := 10) (by decide) (by decide) ha (by decide)).1, (okx (o := 178) (t := 100) (n := 10) (by decide) (by decide) ha (by decide)).2]
theorem an178 : aN S0 (some 178) = some (iI 10) := okn (t := 100) (n := 10) (by decide) (by decide) (by decide) (by decide)
theorem ld179 (ha : 0 ≤ a ∧ a < 10) : aI S0 (I, J, P) (some 179) (iI a) = some (I 179 a.toNat) := by simp [aI, (okx (o := 179) (t := 100) (n := 10) (by decide) (by decide) ha (by decide)).1, (okx (o := 179) (t := 100) (n := 10) (by decide) (by decide) ha (by decide)).2]
theorem st179 (ha : 0 ≤ a ∧ a < 10) : sI S0 (I, J, P) (some 179) (iI a) x = some (hup I 179 a.toNat x, J, P) := by simp [sI, (okx (o := 179) (t := 100) (n := 10) (by decide) (by decide) ha (by decide)).1, (okx (o := 179) (t := 100) (n := 10) (by decide) (by decide) ha (by decide)).2]
theorem an179 : aN S0 (some 179) = some (iI 10) := okn (t := 100) (n := 10) (by decide) (by decide) (by decide) (by decide)
theorem ld180 (ha : 0 ≤ a ∧ a < 10) : aI S0 (I, J, P) (some 180) (iI a) = some (I 180 a.toNat) := by simp [aI, (okx (o := 180) (t := 100) (n := 10) (by decide) (by decide) ha (by decide)).1, (okx (o := 180) (t := 100) (n := 10) (by decide) (by decide) ha (by decide)).2]
theorem st180 (ha : 0 ≤ a ∧ a < 10) : sI S0 (I, J, P) (some 180) (iI a) x = some (hup I 180 a.toNat x, J, P) := by simp [sI, (okx (o := 180) (t := 100) (n := 10) (by decide) (by decide) ha (by decide)).1, (okx (o := 180) (t := 100) (n := 10) (by decide) (by decide) ha (by decide)).2]
theorem an180 : aN S0 (some 180) = some (iI 10) := okn (t := 100) (n := 10) (by decide) (by decide) (by decide) (by decide)
theorem ld181 (ha : 0 ≤ a ∧ a < 10) : aI S0 (I, J, P) (some 181) (iI a) = some (I 181 a.toNat) := by simp [aI, (okx (o := 181) (t := 100) (n := 10) (by decide) (by decide) ha (by decide)).1, (okx (o := 181) (t := 100) (n := 10) (by decide) (by decide) ha (by decide)).2]
theorem st181 (ha : 0 ≤ a ∧ a < 10) : sI S0 (I, J, P) (some 181) (iI a) x = some (hup I 181 a.toNat x, J, P) := by simp [sI, (okx (o := 181) (t := 100) (n := 10) (by decide) (by decide) ha (by decide)).1, (okx (o := 181) (t := 100) (n := 10) (by decide) (by decide) ha (by decide)).2]
theorem an181 : aN S0 (some 181) = some (iI 10) := okn (t := 100) (n := 10) (by decide) (by decide) (by decide) (by decide)
theorem ld182 (ha : 0 ≤ a ∧ a < 1024) : aI S0 (I, J, P) (some 182) (iI a) = some (I 182 a.toNat) := by simp [aI, (okx (o := 182) (t := 100) (n := 1024) (by decide) (by decide) ha (by decide)).1, (okx (o := 182) (t := 100) (n := 1024) (by decide) (by decide) ha (by decide)).2]
theorem st182 (ha : 0 ≤ a ∧ a < 1024) : sI S0 (I, J, P) (some 182) (iI a) x = some (hup I 182 a.toNat x, J, P) := by simp [sI, (okx (o := 182) (t := 100) (n := 1024) (by decide) (by decide) ha (by decide)).1, (okx (o := 182) (t := 100) (n := 1024) (by decide) (by decide) ha (by decide)).2]
theorem an182 : aN S0 (some 182) = some (iI 1024) := okn (t := 100) (n := 1024) (by decide) (by decide) (by decide) (by decide)
theorem ld183 (ha : 0 ≤ a ∧ a < 10) : aI S0 (I, J, P) (some 183) (iI a) = some (I 183 a.toNat) := by simp [aI, (okx (o := 183) (t := 100) (n := 10) (by decide) (by decide) ha (by decide)).1, (okx (o := 183) (t := 100) (n := 10) (by decide) (by decide) ha (by decide)).2]
theorem st183 (ha : 0 ≤ a ∧ a < 10) : sI S0 (I, J, P) (some 183) (iI a) x = some (hup I 183 a.toNat x, J, P) := by simp [sI, (okx (o := 183) (t := 100) (n := 10) (by decide) (by decide) ha (by decide)).1, (okx (o := 183) (t := 100) (n := 10) (by decide) (by decide) ha (by decide)).2]
theorem an183 : aN S0 (some 183) = some (iI 10) := okn (t := 100) (n := 10) (by decide) (by decide) (by decide) (by decide)
theorem ld184 (ha : 0 ≤ a ∧ a < 10) : aI S0 (I, J, P) (some 184) (iI a) = some (I 184 a.toNat) := by simp [aI, (okx (o := 184) (t := 100) (n := 10) (by decide) (by decide) ha (by decide)).1, (okx (o := 184) (t := 100) (n := 10) (by decide) (by decide) ha (by decide)).2]
theorem st184 (ha : 0 ≤ a ∧ a < 10) : sI S0 (I, J, P) (some 184) (iI a) x = some (hup I 184 a.toNat x, J, P) := by simp [sI, (okx (o := 184) (t := 100) (n := 10) (by decide) (by decide) ha (by decide)).1, (okx (o := 184) (t := 100) (n := 10) (by decide) (by decide) ha (by decide)).2]
theorem an184 : aN S0 (some 184) = some (iI 10) := okn (t := 100) (n := 10) (by decide) (by decide) (by decide) (by decide)
theorem ld185 (ha : 0 ≤ a ∧ a < 10) : aI S0 (I, J, P) (some 185) (iI a) = some (I 185 a.toNat) := by simp [aI, (okx (o := 185) (t := 100) (n := 10) (by decide) (by decide) ha (by decide)).1, (okx (o := 185) (t := 100) (n := 10) (by decide) (by decide) ha (by decide)).2]
theorem st185 (ha : 0 ≤ a ∧ a < 10) : sI S0 (I, J, P) (some 185) (iI a) x = some (hup I 185 a.toNat x, J, P) := by simp [sI, (okx (o := 185) (t := 100) (n := 10) (by decide) (by decide) ha (by decide)).1, (okx (o := 185) (t := 100) (n := 10) (by decide) (by decide) ha (by decide)).2]
theorem an185 : aN S0 (some 185) = some (iI 10) := okn (t := 100) (n := 10) (by decide) (by decide) (by decide) (by decide)
theorem ld186 (ha : 0 ≤ a ∧ a < 1024) : aZ S0 (I, J, P) (some 186) (iI a) = some (I 186 a.toNat) := by simp [aZ, (okx (o := 186) (t := 102) (n := 1024) (by decide) (by decide) ha (by decide)).1, (okx (o := 186) (t := 102) (n := 1024) (by decide) (by decide) ha (by decide)).2]
theorem st186 (ha : 0 ≤ a ∧ a < 1024) : sZ S0 (I, J, P) (some 186) (iI a) (bI b) = some (hup I 186 a.toNat (bI b), J, P) := by simp [sZ, (okx (o := 186) (t := 102) (n := 1024) (by decide) (by decide) ha (by decide)).1, (okx (o := 186) (t := 102) (n := 1024) (by decide) (by decide) ha (by decide)).2, n_1, bI_and1]
theorem an186 : aN S0 (some 186) = some (iI 1024) := okn (t := 102) (n := 1024) (by decide) (by decide) (by decide) (by decide)
theorem ld187 (ha : 0 ≤ a ∧ a < 6400) : aI S0 (I, J, P) (some 187) (iI a) = some (I 187 a.toNat) := by simp [aI, (okx (o := 187) (t := 100) (n := 6400) (by decide) (by decide) ha (by decide)).1, (okx (o := 187) (t := 100) (n := 6400) (by decide) (by decide) ha (by decide)).2]
theorem st187 (ha : 0 ≤ a ∧ a < 6400) : sI S0 (I, J, P) (some 187) (iI a) x = some (hup I 187 a.toNat x, J, P) := by simp [sI, (okx (o := 187) (t := 100) (n := 6400) (by decide) (by decide) ha (by decide)).1, (okx (o := 187) (t := 100) (n := 6400) (by decide) (by decide) ha (by decide)).2]
theorem an187 : aN S0 (some 187) = some (iI 6400) := okn (t := 100) (n := 6400) (by decide) (by decide) (by decide) (by decide)
theorem ld188 (ha : 0 ≤ a ∧ a < 6400) : aI S0 (I, J, P) (some 188) (iI a) = some (I 188 a.toNat) := by simp [aI, (okx (o := 188) (t := 100) (n := 6400) (by decide) (by decide) ha (by decide)).1, (okx (o := 188) (t := 100) (n := 6400) (by decide) (by decide) ha (by decide)).2]
theorem st188 (ha : 0 ≤ a ∧ a < 6400) : sI S0 (I, J, P) (some 188) (iI a) x = some (hup I 188 a.toNat x, J, P) := by simp [sI, (okx (o := 188) (t := 100) (n := 6400) (by decide) (by decide) ha (by decide)).1, (okx (o := 188) (t := 100) (n := 6400) (by decide) (by decide) ha (by decide)).2]
theorem an188 : aN S0 (some 188) = some (iI 6400) := okn (t := 100) (n := 6400) (by decide) (by decide) (by decide) (by decide)
theorem ld189 (ha : 0 ≤ a ∧ a < 10) : aI S0 (I, J, P) (some 189) (iI a) = some (I 189 a.toNat) := by simp [aI, (okx (o := 189) (t := 100) (n := 10) (by decide) (by decide) ha (by decide)).1, (okx (o := 189) (t := 100) (n := 10) (by decide) (by decide) ha (by decide)).2]
theorem st189 (ha : 0 ≤ a ∧ a < 10) : sI S0 (I, J, P) (some 189) (iI a) x = some (hup I 189 a.toNat x, J, P) := by simp [sI, (okx (o := 189) (t := 100) (n := 10) (by decide) (by decide) ha (by decide)).1, (okx (o := 189) (t := 100) (n := 10) (by decide) (by decide) ha (by decide)).2]
theorem an189 : aN S0 (some 189) = some (iI 10) := okn (t := 100) (n := 10) (by decide) (by decide) (by decide) (by decide)
theorem ld190 (ha : 0 ≤ a ∧ a < 10) : aI S0 (I, J, P) (some 190) (iI a) = some (I 190 a.toNat) := by simp [aI, (okx (o := 190) (t := 100) (n := 10) (by decide) (by decide) ha (by decide)).1, (okx (o := 190) (t := 100) (n := 10) (by decide) (by decide) ha (by decide)).2]
theorem st190 (ha : 0 ≤ a ∧ a < 10) : sI S0 (I, J, P) (some 190) (iI a) x = some (hup I 190 a.toNat x, J, P) := by simp [sI, (okx (o := 190) (t := 100) (n := 10) (by decide) (by decide) ha (by decide)).1, (okx (o := 190) (t := 100) (n := 10) (by decide) (by decide) ha (by decide)).2]
theorem an190 : aN S0 (some 190) = some (iI 10) := okn (t := 100) (n := 10) (by decide) (by decide) (by decide) (by decide)
theorem ld191 (ha : 0 ≤ a ∧ a < 10) : aI S0 (I, J, P) (some 191) (iI a) = some (I 191 a.toNat) := by simp [aI, (okx (o := 191) (t := 100) (n := 10) (by decide) (by decide) ha (by decide)).1, (okx (o := 191) (t := 100) (n := 10) (by decide) (by decide) ha (by decide)).2]
theorem st191 (ha : 0 ≤ a ∧ a < 10) : sI S0 (I, J, P) (some 191) (iI a) x = some (hup I 191 a.toNat x, J, P) := by simp [sI, (okx (o := 191) (t := 100) (n := 10) (by decide) (by decide) ha (by decide)).1, (okx (o := 191) (t := 100) (n := 10) (by decide) (by decide) ha (by decide)).2]
theorem an191 : aN S0 (some 191) = some (iI 10) := okn (t := 100) (n := 10) (by decide) (by decide) (by decide) (by decide)
theorem ld192 (ha : 0 ≤ a ∧ a < 10) : aI S0 (I, J, P) (some 192) (iI a) = some (I 192 a.toNat) := by simp [aI, (okx (o := 192) (t := 100) (n := 10) (by decide) (by decide) ha (by decide)).1, (okx (o := 192) (t := 100) (n := 10) (by decide) (by decide) ha (by decide)).2]
theorem st192 (ha : 0 ≤ a ∧ a < 10) : sI S0 (I, J, P) (some 192) (iI a) x = some (hup I 192 a.toNat x, J, P) := by simp [sI, (okx (o := 192) (t := 100) (n := 10) (by decide) (by decide) ha (by decide)).1, (okx (o := 192) (t := 100) (n := 10) (by decide) (by decide) ha (by decide)).2]
theorem an192 : aN S0 (some 192) = some (iI 10) := okn (t := 100) (n := 10) (by decide) (by decide) (by decide) (by decide)
theorem ld193 (ha : 0 ≤ a ∧ a < 10) : aI S0 (I, J, P) (some 193) (iI a) = some (I 193 a.toNat) := by simp [aI, (okx (o := 193) (t := 100) (n := 10) (by decide) (by decide) ha (by decide)).1, (okx (o := 193) (t := 100) (n := 10) (by decide) (by decide) ha (by decide)).2]
theorem st193 (ha : 0 ≤ a ∧ a < 10) : sI S0 (I, J, P) (some 193) (iI a) x = some (hup I 193 a.toNat x, J, P) := by simp [sI, (okx (o := 193) (t := 100) (n := 10) (by decide) (by decide) ha (by decide)).1, (okx (o := 193) (t := 100) (n := 10) (by decide) (by decide) ha (by decide)).2]
theorem an193 : aN S0 (some 193) = some (iI 10) := okn (t := 100) (n := 10) (by decide) (by decide) (by decide) (by decide)
theorem ld194 (ha : 0 ≤ a ∧ a < 8) : aI S0 (I, J, P) (some 194) (iI a) = some (I 194 a.toNat) := by simp [aI, (okx (o := 194) (t := 100) (n := 8) (by decide) (by decide) ha (by decide)).1, (okx (o := 194) (t := 100) (n := 8) (by decide) (by decide) ha (by decide)).2]
theorem st194 (ha : 0 ≤ a ∧ a < 8) : sI S0 (I, J, P) (some 194) (iI a) x = some (hup I 194 a.toNat x, J, P) := by simp [sI, (okx (o := 194) (t := 100) (n := 8) (by decide) (by decide) ha (by decide)).1, (okx (o := 194) (t := 100) (n := 8) (by decide) (by decide) ha (by decide)).2]
theorem an194 : aN S0 (some 194) = some (iI 8) := okn (t := 100) (n := 8) (by decide) (by decide) (by decide) (by decide)
theorem ld195 (ha : 0 ≤ a ∧ a < 80) : aI S0 (I, J, P) (some 195) (iI a) = some (I 195 a.toNat) := by simp [aI, (okx (o := 195) (t := 100) (n := 80) (by decide) (by decide) ha (by decide)).1, (okx (o := 195) (t := 100) (n := 80) (by decide) (by decide) ha (by decide)).2]
theorem st195 (ha : 0 ≤ a ∧ a < 80) : sI S0 (I, J, P) (some 195) (iI a) x = some (hup I 195 a.toNat x, J, P) := by simp [sI, (okx (o := 195) (t := 100) (n := 80) (by decide) (by decide) ha (by decide)).1, (okx (o := 195) (t := 100) (n := 80) (by decide) (by decide) ha (by decide)).2]
theorem an195 : aN S0 (some 195) = some (iI 80) := okn (t := 100) (n := 80) (by decide) (by decide) (by decide) (by decide)
theorem ld196 (ha : 0 ≤ a ∧ a < 3) : aI S0 (I, J, P) (some 196) (iI a) = some (I 196 a.toNat) := by simp [aI, (okx (o := 196) (t := 100) (n := 3) (by decide) (by decide) ha (by decide)).1, (okx (o := 196) (t := 100) (n := 3) (by decide) (by decide) ha (by decide)).2]
theorem st196 (ha : 0 ≤ a ∧ a < 3) : sI S0 (I, J, P) (some 196) (iI a) x = some (hup I 196 a.toNat x, J, P) := by simp [sI, (okx (o := 196) (t := 100) (n := 3) (by decide) (by decide) ha (by decide)).1, (okx (o := 196) (t := 100) (n := 3) (by decide) (by decide) ha (by decide)).2]
theorem an196 : aN S0 (some 196) = some (iI 3) := okn (t := 100) (n := 3) (by decide) (by decide) (by decide) (by decide)
theorem ld197 (ha : 0 ≤ a ∧ a < 3) : aI S0 (I, J, P) (some 197) (iI a) = some (I 197 a.toNat) := by simp [aI, (okx (o := 197) (t := 100) (n := 3) (by decide) (by decide) ha (by decide)).1, (okx (o := 197) (t := 100) (n := 3) (by decide) (by decide) ha (by decide)).2]
theorem st197 (ha : 0 ≤ a ∧ a < 3) : sI S0 (I, J, P) (some 197) (iI a) x = some (hup I 197 a.toNat x, J, P) := by simp [sI, (okx (o := 197) (t := 100) (n := 3) (by decide) (by decide) ha (by decide)).1, (okx (o := 197) (t := 100) (n := 3) (by decide) (by decide) ha (by decide)).2]
theorem an197 : aN S0 (some 197) = some (iI 3) := okn (t := 100) (n := 3) (by decide) (by decide) (by decide) (by decide)
theorem rcct : rc S0 0 (some (ct d)) = some (ct d) := by cases d <;> exact okc (by decide) (by decide)
theorem gict : gI S0 0 k (I, J, P) (some (ct d)) = some (I (ct d) k) := by simp [gI, rcct]
theorem glct : gL S0 0 k (I, J, P) (some (ct d)) = some (J (ct d) k) := by simp [gL, rcct]
theorem pict : pI S0 0 k (I, J, P) (some (ct d)) x = some (hup I (ct d) k x, J, P) := by simp [pI, rcct]
theorem plct : pL S0 0 k (I, J, P) (some (ct d)) y = some (I, hup J (ct d) k y, P) := by simp [pL, rcct]
theorem pzct : pZ S0 0 k (I, J, P) (some (ct d)) (bI b) = some (hup I (ct d) k (bI b), J, P) := by simp [pZ, rcct, bI_ok]
theorem prct : pR S0 0 k (I, J, P) (some (ct d)) z = some (I, J, hup P (ct d) k z) := by simp [pR, rcct]
theorem grct_0 : gR S0 0 0 (I, J, Pst b f) (some (ct d)) = some (some (ct d + 1)) := by
  cases d
  · have h := okp (b := b) (f := f) (show (103, 0, 104) ∈ tP by decide) (by decide) (by decide) (by decide)
    simp only [gR, rcct (d := false), Option.map_some]
    exact congrArg some h
  · have h := okp (b := b) (f := f) (show (74, 0, 75) ∈ tP by decide) (by decide) (by decide) (by decide)
    simp only [gR, rcct (d := true), Option.map_some]
    exact congrArg some h
theorem grct_1 : gR S0 0 1 (I, J, Pst b f) (some (ct d)) = some (some (ct d + 2)) := by
  cases d
  · have h := okp (b := b) (f := f) (show (103, 1, 105) ∈ tP by decide) (by decide) (by decide) (by decide)
    simp only [gR, rcct (d := false), Option.map_some]
    exact congrArg some h
  · have h := okp (b := b) (f := f) (show (74, 1, 76) ∈ tP by decide) (by decide) (by decide) (by decide)
    simp only [gR, rcct (d := true), Option.map_some]
    exact congrArg some h
theorem grct_2 : gR S0 0 2 (I, J, Pst b f) (some (ct d)) = some (some (ct d + 3)) := by
  cases d
  · have h := okp (b := b) (f := f) (show (103, 2, 106) ∈ tP by decide) (by decide) (by decide) (by decide)
    simp only [gR, rcct (d := false), Option.map_some]
    exact congrArg some h
  · have h := okp (b := b) (f := f) (show (74, 2, 77) ∈ tP by decide) (by decide) (by decide) (by decide)
    simp only [gR, rcct (d := true), Option.map_some]
    exact congrArg some h
theorem grct_3 : gR S0 0 3 (I, J, Pst b f) (some (ct d)) = some (some (ct d + 4)) := by
  cases d
  · have h := okp (b := b) (f := f) (show (103, 3, 107) ∈ tP by decide) (by decide) (by decide) (by decide)
    simp only [gR, rcct (d := false), Option.map_some]
    exact congrArg some h
  · have h := okp (b := b) (f := f) (show (74, 3, 78) ∈ tP by decide) (by decide) (by decide) (by decide)
    simp only [gR, rcct (d := true), Option.map_some]
    exact congrArg some h
theorem okctm (ha : 0 ≤ a ∧ a < (5 : Nat)) : rx S0 100 (some (ct d + 1)) (iI a) = some (ct d + 1) ∧ (iI a).toNatClampNeg = a.toNat := by cases d <;> exact okx (n := 5) (by decide) (by decide) ha (by decide)
theorem ldctm (ha : 0 ≤ a ∧ a < 5) : aI S0 (I, J, P) (some (ct d + 1)) (iI a) = some (I (ct d + 1) a.toNat) := by simp [aI, (okctm (d := d) ha).1, (okctm (d := d) ha).2]
theorem stctm (ha : 0 ≤ a ∧ a < 5) : sI S0 (I, J, P) (some (ct d + 1)) (iI a) x = some (hup I (ct d + 1) a.toNat x, J, P) := by simp [sI, (okctm (d := d) ha).1, (okctm (d := d) ha).2]
theorem anctm : aN S0 (some (ct d + 1)) = some (iI 5) := by cases d <;> exact okn (t := 100) (n := 5) (by decide) (by decide) (by decide) (by decide)
theorem okctr (ha : 0 ≤ a ∧ a < (10 : Nat)) : rx S0 100 (some (ct d + 3)) (iI a) = some (ct d + 3) ∧ (iI a).toNatClampNeg = a.toNat := by cases d <;> exact okx (n := 10) (by decide) (by decide) ha (by decide)
theorem ldctr (ha : 0 ≤ a ∧ a < 10) : aI S0 (I, J, P) (some (ct d + 3)) (iI a) = some (I (ct d + 3) a.toNat) := by simp [aI, (okctr (d := d) ha).1, (okctr (d := d) ha).2]
theorem stctr (ha : 0 ≤ a ∧ a < 10) : sI S0 (I, J, P) (some (ct d + 3)) (iI a) x = some (hup I (ct d + 3) a.toNat x, J, P) := by simp [sI, (okctr (d := d) ha).1, (okctr (d := d) ha).2]
theorem anctr : aN S0 (some (ct d + 3)) = some (iI 10) := by cases d <;> exact okn (t := 100) (n := 10) (by decide) (by decide) (by decide) (by decide)
theorem okctp (ha : 0 ≤ a ∧ a < (10 : Nat)) : rx S0 100 (some (ct d + 4)) (iI a) = some (ct d + 4) ∧ (iI a).toNatClampNeg = a.toNat := by cases d <;> exact okx (n := 10) (by decide) (by decide) ha (by decide)
theorem ldctp (ha : 0 ≤ a ∧ a < 10) : aI S0 (I, J, P) (some (ct d + 4)) (iI a) = some (I (ct d + 4) a.toNat) := by simp [aI, (okctp (d := d) ha).1, (okctp (d := d) ha).2]
theorem stctp (ha : 0 ≤ a ∧ a < 10) : sI S0 (I, J, P) (some (ct d + 4)) (iI a) x = some (hup I (ct d + 4) a.toNat x, J, P) := by simp [sI, (okctp (d := d) ha).1, (okctp (d := d) ha).2]
theorem anctp : aN S0 (some (ct d + 4)) = some (iI 10) := by cases d <;> exact okn (t := 100) (n := 10) (by decide) (by decide) (by decide) (by decide)
theorem anctR : aN S0 (some (ct d + 2)) = some (iI 12) := by cases d <;> exact okn (t := 105) (n := 12) (by decide) (by decide) (by decide) (by decide)
theorem ru_sh : ∀ d : Bool, ∀ r, r < 12 → (ru d r < 198 ∧ (tS.getD (ru d r) (0, 0)).1 = 7) ∧ (cu d r < 198 ∧ tS.getD (cu d r) (0, 0) = (100, 10)) ∧ (ru d r, 7, cu d r) ∈ tP ∧ (ct d + 2, r, ru d r) ∈ tP := by decide +kernel
theorem ct2_sh : ∀ d : Bool, ct d + 2 < 198 ∧ tS.getD (ct d + 2) (0, 0) = (105, 12) := by decide +kernel
theorem rcru (h : r < 12) : rc S0 7 (some (ru d r)) = some (ru d r) := okc (ru_sh d r h).1.1 (ru_sh d r h).1.2
theorem giru (h : r < 12) : gI S0 7 k (I, J, P) (some (ru d r)) = some (I (ru d r) k) := by simp [gI, rcru h]
theorem glru (h : r < 12) : gL S0 7 k (I, J, P) (some (ru d r)) = some (J (ru d r) k) := by simp [gL, rcru h]
theorem piru (h : r < 12) : pI S0 7 k (I, J, P) (some (ru d r)) x = some (hup I (ru d r) k x, J, P) := by simp [pI, rcru h]
theorem plru (h : r < 12) : pL S0 7 k (I, J, P) (some (ru d r)) y = some (I, hup J (ru d r) k y, P) := by simp [pL, rcru h]
theorem pzru (h : r < 12) : pZ S0 7 k (I, J, P) (some (ru d r)) (bI b) = some (hup I (ru d r) k (bI b), J, P) := by simp [pZ, rcru h, bI_ok]
theorem prru (h : r < 12) : pR S0 7 k (I, J, P) (some (ru d r)) z = some (I, J, hup P (ru d r) k z) := by simp [pR, rcru h]
theorem ru_gt (d : Bool) (r : Nat) : 74 < ru d r := by have := ct_or d; unfold ru; omega
theorem grru_7 (h : r < 12) : gR S0 7 7 (I, J, Pst b f) (some (ru d r)) = some (some (cu d r)) := by
  have h1 := ru_gt d r
  simp [gR, rcru h, okp (b := b) (f := f) (ru_sh d r h).2.2.1 (by omega) (by omega) (fun q => by have := ct_or d; unfold ru at q; omega)]
theorem okcu (h : r < 12) (ha : 0 ≤ a ∧ a < (10 : Nat)) : rx S0 100 (some (cu d r)) (iI a) = some (cu d r) ∧ (iI a).toNatClampNeg = a.toNat := okx (ru_sh d r h).2.1.1 (ru_sh d r h).2.1.2 ha (by decide)
theorem ldcu (h : r < 12) (ha : 0 ≤ a ∧ a < 10) : aI S0 (I, J, P) (some (cu d r)) (iI a) = some (I (cu d r) a.toNat) := by simp [aI, (okcu (d := d) h ha).1, (okcu (d := d) h ha).2]
theorem stcu (h : r < 12) (ha : 0 ≤ a ∧ a < 10) : sI S0 (I, J, P) (some (cu d r)) (iI a) x = some (hup I (cu d r) a.toNat x, J, P) := by simp [sI, (okcu (d := d) h ha).1, (okcu (d := d) h ha).2]
theorem ancu (h : r < 12) : aN S0 (some (cu d r)) = some (iI 10) := okn (ru_sh d r h).2.1.1 (ru_sh d r h).2.1.2 (by decide) (by decide)
theorem arct (ha : 0 ≤ a ∧ a < 12) : aR S0 105 (I, J, Pst b f) (some (ct d + 2)) (iI a) = some (some (ru d a.toNat)) := by
  have hk := okx (a := a) (ct2_sh d).1 (ct2_sh d).2 ha (by decide)
  have h1 := ct_or d
  have hp := okp (b := b) (f := f) (ru_sh d a.toNat (by omega)).2.2.2 (by omega) (by omega) (by omega)
  simp [aR, hk.1, hk.2, hp]
theorem ro_sh : ∀ k, k < 4 → (ro k < 198 ∧ (tS.getD (ro k) (0, 0)).1 = 6) ∧ (6, k, ro k) ∈ tP := by decide +kernel
theorem fo_a : ∀ k, k < 4 → ∀ j, j < 3 → (fo k j < 198 ∧ (tS.getD (fo k j) (0, 0)).1 = 2) ∧ (fo k j + 1 < 198 ∧ tS.getD (fo k j + 1) (0, 0) = (100, 10)) ∧ (fo k j + 2 < 198 ∧ tS.getD (fo k j + 2) (0, 0) = (100, 10)) := by decide +kernel
theorem fo_b0 : ∀ k, k < 4 → ∀ j, j < 3 → (tP.elem (fo k j, 0, fo k j + 1) && (tP.elem (fo k j, 1, fo k j + 2) && tP.elem (ro k, j + 1, fo k j))) = true := by decide +kernel
theorem fo_b (k : Nat) (h : k < 4) (j : Nat) (hj : j < 3) : (fo k j, 0, fo k j + 1) ∈ tP ∧ (fo k j, 1, fo k j + 2) ∈ tP ∧ (ro k, j + 1, fo k j) ∈ tP := by
  have := fo_b0 k h j hj
  rw [Bool.and_eq_true, Bool.and_eq_true] at this
  exact ⟨List.elem_iff.mp this.1, List.elem_iff.mp this.2.1, List.elem_iff.mp this.2.2⟩
theorem fo_sh (k : Nat) (h : k < 4) (j : Nat) (hj : j < 3) : (fo k j < 198 ∧ (tS.getD (fo k j) (0, 0)).1 = 2) ∧ (fo k j + 1 < 198 ∧ tS.getD (fo k j + 1) (0, 0) = (100, 10)) ∧ (fo k j + 2 < 198 ∧ tS.getD (fo k j + 2) (0, 0) = (100, 10)) ∧ (fo k j, 0, fo k j + 1) ∈ tP ∧ (fo k j, 1, fo k j + 2) ∈ tP ∧ (ro k, j + 1, fo k j) ∈ tP :=
  ⟨(fo_a k h j hj).1, (fo_a k h j hj).2.1, (fo_a k h j hj).2.2, fo_b k h j hj⟩
theorem ar6 (ha : 0 ≤ a ∧ a < 4) : aR S0 104 (I, J, Pst b f) (some 6) (iI a) = some (some (ro a.toNat)) := by
  have hk := okx (o := 6) (t := 104) (n := 4) (a := a) (by decide) (by decide) ha (by decide)
  have hp := okp (b := b) (f := f) (ro_sh a.toNat (by omega)).2 (by omega) (by omega) (by omega)
  simp [aR, hk.1, hk.2, hp]
theorem rcro (h : k < 4) : rc S0 6 (some (ro k)) = some (ro k) := okc (ro_sh k h).1.1 (ro_sh k h).1.2
theorem giro (h : k < 4) : gI S0 6 n (I, J, P) (some (ro k)) = some (I (ro k) n) := by simp [gI, rcro h]
theorem piro (h : k < 4) : pI S0 6 n (I, J, P) (some (ro k)) x = some (hup I (ro k) n x, J, P) := by simp [pI, rcro h]
theorem pzro (h : k < 4) : pZ S0 6 n (I, J, P) (some (ro k)) (bI b) = some (hup I (ro k) n (bI b), J, P) := by simp [pZ, rcro h, bI_ok]
theorem grro_1 (h : k < 4) : gR S0 6 1 (I, J, Pst b f) (some (ro k)) = some (some (fo k 0)) := by
  simp [gR, rcro h, okp (b := b) (f := f) (fo_sh k h 0 (by decide)).2.2.2.2.2 (by unfold ro; omega) (by unfold ro; omega) (by unfold ro; omega)]
theorem grro_2 (h : k < 4) : gR S0 6 2 (I, J, Pst b f) (some (ro k)) = some (some (fo k 1)) := by
  simp [gR, rcro h, okp (b := b) (f := f) (fo_sh k h 1 (by decide)).2.2.2.2.2 (by unfold ro; omega) (by unfold ro; omega) (by unfold ro; omega)]
theorem grro_3 (h : k < 4) : gR S0 6 3 (I, J, Pst b f) (some (ro k)) = some (some (fo k 2)) := by
  simp [gR, rcro h, okp (b := b) (f := f) (fo_sh k h 2 (by decide)).2.2.2.2.2 (by unfold ro; omega) (by unfold ro; omega) (by unfold ro; omega)]
theorem rcfo (h : k < 4 ∧ j < 3) : rc S0 2 (some (fo k j)) = some (fo k j) := okc (fo_sh k h.1 j h.2).1.1 (fo_sh k h.1 j h.2).1.2
theorem gifo (h : k < 4 ∧ j < 3) : gI S0 2 n (I, J, P) (some (fo k j)) = some (I (fo k j) n) := by simp [gI, rcfo h]
theorem pifo (h : k < 4 ∧ j < 3) : pI S0 2 n (I, J, P) (some (fo k j)) x = some (hup I (fo k j) n x, J, P) := by simp [pI, rcfo h]
theorem pzfo (h : k < 4 ∧ j < 3) : pZ S0 2 n (I, J, P) (some (fo k j)) (bI b) = some (hup I (fo k j) n (bI b), J, P) := by simp [pZ, rcfo h, bI_ok]
theorem grfo_0 (h : k < 4 ∧ j < 3) : gR S0 2 0 (I, J, Pst b f) (some (fo k j)) = some (some (fo k j + 1)) := by
  simp [gR, rcfo h, okp (b := b) (f := f) (fo_sh k h.1 j h.2).2.2.2.1 (by unfold fo; omega) (by unfold fo; omega) (by unfold fo; omega)]
theorem grfo_1 (h : k < 4 ∧ j < 3) : gR S0 2 1 (I, J, Pst b f) (some (fo k j)) = some (some (fo k j + 2)) := by
  simp [gR, rcfo h, okp (b := b) (f := f) (fo_sh k h.1 j h.2).2.2.2.2.1 (by unfold fo; omega) (by unfold fo; omega) (by unfold fo; omega)]
theorem okfop (h : k < 4 ∧ j < 3) (ha : 0 ≤ a ∧ a < (10 : Nat)) : rx S0 100 (some (fo k j + 1)) (iI a) = some (fo k j + 1) ∧ (iI a).toNatClampNeg = a.toNat := okx (fo_sh k h.1 j h.2).2.1.1 (fo_sh k h.1 j h.2).2.1.2 ha (by decide)
theorem ldfop (h : k < 4 ∧ j < 3) (ha : 0 ≤ a ∧ a < 10) : aI S0 (I, J, P) (some (fo k j + 1)) (iI a) = some (I (fo k j + 1) a.toNat) := by simp [aI, (okfop h ha).1, (okfop h ha).2]
theorem stfop (h : k < 4 ∧ j < 3) (ha : 0 ≤ a ∧ a < 10) : sI S0 (I, J, P) (some (fo k j + 1)) (iI a) x = some (hup I (fo k j + 1) a.toNat x, J, P) := by simp [sI, (okfop h ha).1, (okfop h ha).2]
theorem anfop (h : k < 4 ∧ j < 3) : aN S0 (some (fo k j + 1)) = some (iI 10) := okn (fo_sh k h.1 j h.2).2.1.1 (fo_sh k h.1 j h.2).2.1.2 (by decide) (by decide)
theorem okfoe (h : k < 4 ∧ j < 3) (ha : 0 ≤ a ∧ a < (10 : Nat)) : rx S0 100 (some (fo k j + 2)) (iI a) = some (fo k j + 2) ∧ (iI a).toNatClampNeg = a.toNat := okx (fo_sh k h.1 j h.2).2.2.1.1 (fo_sh k h.1 j h.2).2.2.1.2 ha (by decide)
theorem ldfoe (h : k < 4 ∧ j < 3) (ha : 0 ≤ a ∧ a < 10) : aI S0 (I, J, P) (some (fo k j + 2)) (iI a) = some (I (fo k j + 2) a.toNat) := by simp [aI, (okfoe h ha).1, (okfoe h ha).2]
theorem stfoe (h : k < 4 ∧ j < 3) (ha : 0 ≤ a ∧ a < 10) : sI S0 (I, J, P) (some (fo k j + 2)) (iI a) x = some (hup I (fo k j + 2) a.toNat x, J, P) := by simp [sI, (okfoe h ha).1, (okfoe h ha).2]
theorem anfoe (h : k < 4 ∧ j < 3) : aN S0 (some (fo k j + 2)) = some (iI 10) := okn (fo_sh k h.1 j h.2).2.2.1.1 (fo_sh k h.1 j h.2).2.2.1.2 (by decide) (by decide)
