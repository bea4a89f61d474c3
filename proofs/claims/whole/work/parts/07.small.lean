/-! ===== small things for the printed walks ===== -/
theorem jite {α : Type} {c : Prop} [Decidable c] {a b : α} {r : α} {P : Prop} (h : (if c then a else b) = r) (ht : c → a = r → P) (hf : ¬ c → b = r → P) : P := by
  by_cases hc : c
  · rw [if_pos hc] at h; exact ht hc h
  · rw [if_neg hc] at h; exact hf hc h
theorem nle {a b : Nat} (h : Nat.ble a b = true) : a ≤ b := Nat.le_of_ble_eq_true h
theorem nlt {a b : Nat} (h : Nat.ble (a + 1) b = true) : a < b := Nat.le_of_ble_eq_true h
def jnz (y : Int32) : Option Unit := if y = 0 then none else some ()
theorem jnz_ne {y : Int32} {u : Unit} (h : jnz y = some u) : ¬ y = 0 := fun e => by
  unfold jnz at h
  rw [if_pos e] at h
  cases h
/-- the room of a method whose calls go d deep -/
def rm (d : Nat) : Room := { frames := d, cells := 0, slots := 0, locals := 100 * d }
theorem jfit {M2 M : jM} {d2 d1 : Nat} (h2 : jmR M2 = rm d2) (h1 : jmR M = rm d1) (hk : jmk M2 = 0 ∧ jms M2 = 0) (hl : jmn M2 ≤ 81) (hd : d2 < d1) : jFit M2 (jmR M) 0 0 := by
  unfold jFit
  rw [h2, h1, hk.1, hk.2]
  refine ⟨⟨rfl, rfl⟩, ⟨hd, ?_⟩, ⟨Nat.le_refl _, Nat.le_refl _⟩⟩
  show 8 + (jmn M2 + 11) + 100 * d2 ≤ 100 * d1
  omega
theorem jdt {b : ByteArray} {tb : List (Nat × Instr × Nat)} {i : Nat} {q : Nat × Instr × Nat} (h : tb.all (fun q => decide (decode b q.1 = .ok q.2)) = true) (hi : tb[i]? = some q) : decode b q.1 = .ok q.2 := of_decide_eq_true (List.all_eq_true.mp h q (List.mem_of_getElem? hi))
theorem ii_1 (x : Int32) : x + Int32.ofInt 1 = x + 1 := rfl
theorem ii_m1 (x : Int32) : x + Int32.ofInt (-1) = x + (-1) := rfl
theorem ii_m8 (x : Int32) : x + Int32.ofInt (-8) = x + (-8) := rfl
theorem ii_2 (x : Int32) : x + Int32.ofInt 2 = x + 2 := rfl
theorem ii_4 (x : Int32) : x + Int32.ofInt 4 = x + 4 := rfl
theorem ii_8 (x : Int32) : x + Int32.ofInt 8 = x + 8 := rfl
theorem ii_16 (x : Int32) : x + Int32.ofInt 16 = x + 16 := rfl
theorem lc_0 : Int64.ofNat ((0 : Fin 2) : Nat) = 0 := rfl
theorem lc_1 : Int64.ofNat ((1 : Fin 2) : Nat) = 1 := rfl
/-- a truth that comes back: its last bit -/
theorem j_zretN {G : jG} {M : jM} {pc : Nat} {ls : List (Nat × AV)} {h : hS × hV} {x : Int32} (hd : decode (jmc M) pc = .ok (.ireturn, 1)) (hr : jmr M = some .boolean) : jJ G M (jEnd G M (some (ai (x &&& 1))) h) (jmk M) (jms M) pc ls [ai x] h := by
  intro p e s m args below meth c C H locs la hw hL hl
  intro T hT X
  have hlocks : meth.locks = false := C.2.2.2.2.2.2.1
  have hr2 := C.2.2.1.trans hr
  have hexec := C.1
  have hb := C.2.1
  obtain ⟨fs, hret, hrun, hended, hW, hframe⟩ := X.leave (v := some (.int (x &&& 1))) (hlocks := hlocks) (fun h => by rw [hr2] at h; cases h)
  have hmeth' : T.vm.method? m = some meth := X.method'
  have hn : narrow .boolean (.int x) = .int (x &&& 1) := rfl
  refine ⟨T.setFrames fs, ?_, .returned (some (.int (x &&& 1))), hrun, hended, ⟨rfl, by show wd G h T.heap; rw [hT]; exact hw⟩, locs, ⟨⟨_, rfl⟩, hW, hframe⟩, hL⟩
  show Steps p.tables e below (T.setTop (F0 m pc la [.int x])) _
  jvm_step X.here [X.here.top, hexec, hb, hd, hmeth', hr2, hn]
  (try refine ⟨rfl, ?_⟩); (try refine ⟨rfl, ?_⟩)
  first | (intro acts; rw [hret _ acts rfl rfl rfl]) | rw [hret _ _ rfl rfl rfl]
  exact Steps.refl _
theorem bp_6 : (Int8.ofInt 6).toInt32 = 6 := by decide
theorem bp_7 : (Int8.ofInt 7).toInt32 = 7 := by decide
theorem bp_8 : (Int8.ofInt 8).toInt32 = 8 := by decide
theorem bp_9 : (Int8.ofInt 9).toInt32 = 9 := by decide
theorem bp_10 : (Int8.ofInt 10).toInt32 = 10 := by decide
theorem bp_12 : (Int8.ofInt 12).toInt32 = 12 := by decide
theorem bp_15 : (Int8.ofInt 15).toInt32 = 15 := by decide
theorem bp_16 : (Int8.ofInt 16).toInt32 = 16 := by decide
theorem bp_20 : (Int8.ofInt 20).toInt32 = 20 := by decide
theorem bp_24 : (Int8.ofInt 24).toInt32 = 24 := by decide
theorem bp_32 : (Int8.ofInt 32).toInt32 = 32 := by decide
theorem bp_48 : (Int8.ofInt 48).toInt32 = 48 := by decide
theorem bp_57 : (Int8.ofInt 57).toInt32 = 57 := by decide
theorem bp_59 : (Int8.ofInt 59).toInt32 = 59 := by decide
theorem bp_63 : (Int8.ofInt 63).toInt32 = 63 := by decide
theorem bp_80 : (Int8.ofInt 80).toInt32 = 80 := by decide
theorem bp_97 : (Int8.ofInt 97).toInt32 = 97 := by decide
theorem bp_99 : (Int8.ofInt 99).toInt32 = 99 := by decide
theorem bp_100 : (Int8.ofInt 100).toInt32 = 100 := by decide
theorem bp_122 : (Int8.ofInt 122).toInt32 = 122 := by decide
theorem ic_m1 : Int32.ofInt (-1) = (-1) := by decide
theorem ic_0 : Int32.ofInt 0 = 0 := by decide
theorem ic_1 : Int32.ofInt 1 = 1 := by decide
theorem ic_2 : Int32.ofInt 2 = 2 := by decide
theorem ic_3 : Int32.ofInt 3 = 3 := by decide
theorem ic_4 : Int32.ofInt 4 = 4 := by decide
theorem ic_5 : Int32.ofInt 5 = 5 := by decide
theorem sp_256 : (Int16.ofInt 256).toInt32 = 256 := by decide
theorem sp_680 : (Int16.ofInt 680).toInt32 = 680 := by decide
theorem sp_700 : (Int16.ofInt 700).toInt32 = 700 := by decide
theorem sp_999 : (Int16.ofInt 999).toInt32 = 999 := by decide
theorem sp_1023 : (Int16.ofInt 1023).toInt32 = 1023 := by decide
theorem sp_1024 : (Int16.ofInt 1024).toInt32 = 1024 := by decide
theorem pf_X0 (n d : String) : plainFor ⟨"FirstIn$Court", n, d⟩ = true := plainFor_of_name (by dsimp only; decide +kernel)
theorem pf_X1 (n d : String) : plainFor ⟨"FirstIn$Evening", n, d⟩ = true := plainFor_of_name (by dsimp only; decide +kernel)
theorem pf_X2 (n d : String) : plainFor ⟨"FirstIn$Found", n, d⟩ = true := plainFor_of_name (by dsimp only; decide +kernel)
theorem pf_X3 (n d : String) : plainFor ⟨"FirstIn$Pairs", n, d⟩ = true := plainFor_of_name (by dsimp only; decide +kernel)
theorem pf_X4 (n d : String) : plainFor ⟨"FirstIn$Rank", n, d⟩ = true := plainFor_of_name (by dsimp only; decide +kernel)
theorem pf_X5 (n d : String) : plainFor ⟨"FirstIn$Reader", n, d⟩ = true := plainFor_of_name (by dsimp only; decide +kernel)
theorem pf_X6 (n d : String) : plainFor ⟨"FirstIn$Room", n, d⟩ = true := plainFor_of_name (by dsimp only; decide +kernel)
theorem pf_X7 (n d : String) : plainFor ⟨"FirstIn$Rule", n, d⟩ = true := plainFor_of_name (by dsimp only; decide +kernel)
theorem pf_X8 (n d : String) : plainFor ⟨"FirstIn$Search", n, d⟩ = true := plainFor_of_name (by dsimp only; decide +kernel)
theorem pf_X9 (n d : String) : plainFor ⟨"FirstIn$Slights", n, d⟩ = true := plainFor_of_name (by dsimp only; decide +kernel)
theorem pf_X10 (n d : String) : plainFor ⟨"FirstIn$Text", n, d⟩ = true := plainFor_of_name (by dsimp only; decide +kernel)
theorem pf_X11 (n d : String) : plainFor ⟨"FirstIn", n, d⟩ = true := plainFor_of_name (by dsimp only; decide +kernel)
theorem pf_X12 (n d : String) : plainFor ⟨"FirstInModel", n, d⟩ = true := plainFor_of_name (by dsimp only; decide +kernel)
theorem fl_X11_12 : jFL "FirstIn" 12 11 0 := ⟨gt3 66 rfl rfl, by decide, by decide⟩
theorem fl_X11_21 : jFL "FirstIn" 21 11 1 := ⟨gt3 67 rfl rfl, by decide, by decide⟩
theorem fl_X11_27 : jFL "FirstIn" 27 11 2 := ⟨gt3 68 rfl rfl, by decide, by decide⟩
theorem fl_X11_37 : jFL "FirstIn" 37 11 3 := ⟨gt3 69 rfl rfl, by decide, by decide⟩
theorem fl_X11_44 : jFL "FirstIn" 44 11 4 := ⟨gt3 70 rfl rfl, by decide, by decide⟩
theorem fl_X11_51 : jFL "FirstIn" 51 11 5 := ⟨gt3 71 rfl rfl, by decide, by decide⟩
theorem fl_X11_58 : jFL "FirstIn" 58 11 6 := ⟨gt3 72 rfl rfl, by decide, by decide⟩
theorem fl_X11_65 : jFL "FirstIn" 65 11 7 := ⟨gt3 73 rfl rfl, by decide, by decide⟩
theorem fl_X11_69 : jFL "FirstIn" 69 11 8 := ⟨gt3 74 rfl rfl, by decide, by decide⟩
theorem fl_X11_72 : jFL "FirstIn" 72 11 9 := ⟨gt3 75 rfl rfl, by decide, by decide⟩
theorem fl_X11_76 : jFL "FirstIn" 76 10 1 := ⟨gt1 38 rfl rfl, by decide, by decide⟩
theorem fl_X11_94 : jFL "FirstIn" 94 0 4 := ⟨gt3 23 rfl rfl, by decide, by decide⟩
theorem fl_X11_104 : jFL "FirstIn" 104 0 7 := ⟨gt3 35 rfl rfl, by decide, by decide⟩
theorem fl_X11_115 : jFL "FirstIn" 115 0 2 := ⟨gt3 16 rfl rfl, by decide, by decide⟩
theorem fl_X11_119 : jFL "FirstIn" 119 0 3 := ⟨gt3 20 rfl rfl, by decide, by decide⟩
theorem fl_X11_122 : jFL "FirstIn" 122 0 8 := ⟨gt3 38 rfl rfl, by decide, by decide⟩
theorem fl_X11_128 : jFL "FirstIn" 128 0 1 := ⟨gt3 12 rfl rfl, by decide, by decide⟩
theorem fl_X11_185 : jFL "FirstIn" 185 9 2 := ⟨gt2 65 rfl rfl, by decide, by decide⟩
theorem fl_X11_188 : jFL "FirstIn" 188 9 3 := ⟨gt2 67 rfl rfl, by decide, by decide⟩
theorem fl_X11_191 : jFL "FirstIn" 191 9 4 := ⟨gt2 69 rfl rfl, by decide, by decide⟩
theorem fl_X11_194 : jFL "FirstIn" 194 9 6 := ⟨gt2 72 rfl rfl, by decide, by decide⟩
theorem fl_X11_197 : jFL "FirstIn" 197 9 7 := ⟨gt2 74 rfl rfl, by decide, by decide⟩
theorem fl_X11_200 : jFL "FirstIn" 200 9 8 := ⟨gt2 76 rfl rfl, by decide, by decide⟩
theorem fl_X11_211 : jFL "FirstIn" 211 9 1 := ⟨gt2 63 rfl rfl, by decide, by decide⟩
theorem fl_X11_220 : jFL "FirstIn" 220 4 2 := ⟨gt2 31 rfl rfl, by decide, by decide⟩
theorem fl_X11_226 : jFL "FirstIn" 226 6 6 := ⟨gt2 2 rfl rfl, by decide, by decide⟩
theorem fl_X11_229 : jFL "FirstIn" 229 0 9 := ⟨gt3 40 rfl rfl, by decide, by decide⟩
theorem fl_X11_236 : jFL "FirstIn" 236 6 7 := ⟨gt2 4 rfl rfl, by decide, by decide⟩
theorem fl_X11_258 : jFL "FirstIn" 258 2 5 := ⟨gt1 199 rfl rfl, by decide, by decide⟩
theorem fl_X11_261 : jFL "FirstIn" 261 2 8 := ⟨gt1 208 rfl rfl, by decide, by decide⟩
theorem fl_X11_262 : jFL "FirstIn" 262 2 6 := ⟨gt1 202 rfl rfl, by decide, by decide⟩
theorem fl_X11_263 : jFL "FirstIn" 263 2 0 := ⟨gt1 185 rfl rfl, by decide, by decide⟩
theorem fl_X11_266 : jFL "FirstIn" 266 2 1 := ⟨gt1 188 rfl rfl, by decide, by decide⟩
theorem fl_X11_277 : jFL "FirstIn" 277 2 4 := ⟨gt1 196 rfl rfl, by decide, by decide⟩
theorem fl_X11_281 : jFL "FirstIn" 281 2 7 := ⟨gt1 205 rfl rfl, by decide, by decide⟩
theorem fl_X11_284 : jFL "FirstIn" 284 6 4 := ⟨gt1 236 rfl rfl, by decide, by decide⟩
theorem fl_X11_287 : jFL "FirstIn" 287 6 5 := ⟨gt2 0 rfl rfl, by decide, by decide⟩
theorem fl_X11_294 : jFL "FirstIn" 294 1 2 := ⟨gt2 106 rfl rfl, by decide, by decide⟩
theorem fl_X11_297 : jFL "FirstIn" 297 1 1 := ⟨gt2 104 rfl rfl, by decide, by decide⟩
theorem fl_X11_298 : jFL "FirstIn" 298 0 5 := ⟨gt3 26 rfl rfl, by decide, by decide⟩
theorem fl_X11_301 : jFL "FirstIn" 301 0 6 := ⟨gt3 32 rfl rfl, by decide, by decide⟩
theorem fl_X11_329 : jFL "FirstIn" 329 0 10 := ⟨gt3 42 rfl rfl, by decide, by decide⟩
theorem fl_X11_332 : jFL "FirstIn" 332 2 2 := ⟨gt1 190 rfl rfl, by decide, by decide⟩
theorem fl_X11_335 : jFL "FirstIn" 335 2 3 := ⟨gt1 193 rfl rfl, by decide, by decide⟩
theorem fl_X0_9 : jFL "FirstIn$Court" 9 0 0 := ⟨gt3 5 rfl rfl, by decide, by decide⟩
theorem fl_X0_17 : jFL "FirstIn$Court" 17 0 1 := ⟨gt3 7 rfl rfl, by decide, by decide⟩
theorem fl_X0_21 : jFL "FirstIn$Court" 21 0 2 := ⟨gt3 13 rfl rfl, by decide, by decide⟩
theorem fl_X0_24 : jFL "FirstIn$Court" 24 0 3 := ⟨gt3 17 rfl rfl, by decide, by decide⟩
theorem fl_X0_27 : jFL "FirstIn$Court" 27 0 4 := ⟨gt3 21 rfl rfl, by decide, by decide⟩
theorem fl_X0_31 : jFL "FirstIn$Court" 31 0 5 := ⟨gt3 24 rfl rfl, by decide, by decide⟩
theorem fl_X0_34 : jFL "FirstIn$Court" 34 0 6 := ⟨gt3 27 rfl rfl, by decide, by decide⟩
theorem fl_X0_37 : jFL "FirstIn$Court" 37 0 7 := ⟨gt3 33 rfl rfl, by decide, by decide⟩
theorem fl_X0_40 : jFL "FirstIn$Court" 40 0 8 := ⟨gt3 36 rfl rfl, by decide, by decide⟩
theorem fl_X0_43 : jFL "FirstIn$Court" 43 0 9 := ⟨gt3 39 rfl rfl, by decide, by decide⟩
theorem fl_X0_46 : jFL "FirstIn$Court" 46 0 10 := ⟨gt3 41 rfl rfl, by decide, by decide⟩
theorem fl_X0_56 : jFL "FirstIn$Court" 56 7 6 := ⟨gt2 222 rfl rfl, by decide, by decide⟩
theorem fl_X0_78 : jFL "FirstIn$Court" 78 7 3 := ⟨gt2 216 rfl rfl, by decide, by decide⟩
theorem fl_X0_81 : jFL "FirstIn$Court" 81 7 0 := ⟨gt2 207 rfl rfl, by decide, by decide⟩
theorem fl_X0_93 : jFL "FirstIn$Court" 93 7 7 := ⟨gt2 227 rfl rfl, by decide, by decide⟩
theorem fl_X1_9 : jFL "FirstIn$Evening" 9 1 0 := ⟨gt2 102 rfl rfl, by decide, by decide⟩
theorem fl_X1_15 : jFL "FirstIn$Evening" 15 1 1 := ⟨gt2 103 rfl rfl, by decide, by decide⟩
theorem fl_X1_18 : jFL "FirstIn$Evening" 18 1 2 := ⟨gt2 105 rfl rfl, by decide, by decide⟩
theorem fl_X1_22 : jFL "FirstIn$Evening" 22 6 5 := ⟨gt1 238 rfl rfl, by decide, by decide⟩
theorem fl_X1_46 : jFL "FirstIn$Evening" 46 9 1 := ⟨gt2 62 rfl rfl, by decide, by decide⟩
theorem fl_X2_9 : jFL "FirstIn$Found" 9 2 0 := ⟨gt1 183 rfl rfl, by decide, by decide⟩
theorem fl_X2_15 : jFL "FirstIn$Found" 15 2 1 := ⟨gt1 186 rfl rfl, by decide, by decide⟩
theorem fl_X2_18 : jFL "FirstIn$Found" 18 2 2 := ⟨gt1 189 rfl rfl, by decide, by decide⟩
theorem fl_X2_22 : jFL "FirstIn$Found" 22 2 3 := ⟨gt1 191 rfl rfl, by decide, by decide⟩
theorem fl_X2_25 : jFL "FirstIn$Found" 25 2 4 := ⟨gt1 194 rfl rfl, by decide, by decide⟩
theorem fl_X2_29 : jFL "FirstIn$Found" 29 2 5 := ⟨gt1 197 rfl rfl, by decide, by decide⟩
theorem fl_X2_32 : jFL "FirstIn$Found" 32 2 6 := ⟨gt1 200 rfl rfl, by decide, by decide⟩
theorem fl_X2_35 : jFL "FirstIn$Found" 35 2 7 := ⟨gt1 203 rfl rfl, by decide, by decide⟩
theorem fl_X2_38 : jFL "FirstIn$Found" 38 2 8 := ⟨gt1 206 rfl rfl, by decide, by decide⟩
theorem fl_X3_9 : jFL "FirstIn$Pairs" 9 3 0 := ⟨gt2 126 rfl rfl, by decide, by decide⟩
theorem fl_X3_15 : jFL "FirstIn$Pairs" 15 3 1 := ⟨gt2 128 rfl rfl, by decide, by decide⟩
theorem fl_X3_18 : jFL "FirstIn$Pairs" 18 3 2 := ⟨gt2 130 rfl rfl, by decide, by decide⟩
theorem fl_X3_21 : jFL "FirstIn$Pairs" 21 3 3 := ⟨gt2 132 rfl rfl, by decide, by decide⟩
theorem fl_X3_24 : jFL "FirstIn$Pairs" 24 3 4 := ⟨gt2 134 rfl rfl, by decide, by decide⟩
theorem fl_X3_27 : jFL "FirstIn$Pairs" 27 3 5 := ⟨gt2 136 rfl rfl, by decide, by decide⟩
theorem fl_X3_30 : jFL "FirstIn$Pairs" 30 3 6 := ⟨gt2 138 rfl rfl, by decide, by decide⟩
theorem fl_X3_34 : jFL "FirstIn$Pairs" 34 3 7 := ⟨gt2 140 rfl rfl, by decide, by decide⟩
theorem fl_X3_37 : jFL "FirstIn$Pairs" 37 3 8 := ⟨gt2 142 rfl rfl, by decide, by decide⟩
theorem fl_X3_56 : jFL "FirstIn$Pairs" 56 0 6 := ⟨gt3 29 rfl rfl, by decide, by decide⟩
theorem fl_X3_59 : jFL "FirstIn$Pairs" 59 0 1 := ⟨gt3 9 rfl rfl, by decide, by decide⟩
theorem fl_X3_63 : jFL "FirstIn$Pairs" 63 6 0 := ⟨gt1 230 rfl rfl, by decide, by decide⟩
theorem fl_X3_78 : jFL "FirstIn$Pairs" 78 6 5 := ⟨gt1 239 rfl rfl, by decide, by decide⟩
theorem fl_X3_93 : jFL "FirstIn$Pairs" 93 7 7 := ⟨gt2 226 rfl rfl, by decide, by decide⟩
theorem fl_X3_109 : jFL "FirstIn$Pairs" 109 7 0 := ⟨gt2 205 rfl rfl, by decide, by decide⟩
theorem fl_X3_116 : jFL "FirstIn$Pairs" 116 7 3 := ⟨gt2 214 rfl rfl, by decide, by decide⟩
theorem fl_X4_9 : jFL "FirstIn$Rank" 9 4 0 := ⟨gt2 28 rfl rfl, by decide, by decide⟩
theorem fl_X4_15 : jFL "FirstIn$Rank" 15 4 1 := ⟨gt2 29 rfl rfl, by decide, by decide⟩
theorem fl_X4_18 : jFL "FirstIn$Rank" 18 4 2 := ⟨gt2 30 rfl rfl, by decide, by decide⟩
theorem fl_X4_21 : jFL "FirstIn$Rank" 21 4 3 := ⟨gt2 32 rfl rfl, by decide, by decide⟩
theorem fl_X4_24 : jFL "FirstIn$Rank" 24 4 4 := ⟨gt2 33 rfl rfl, by decide, by decide⟩
theorem fl_X4_27 : jFL "FirstIn$Rank" 27 4 5 := ⟨gt2 34 rfl rfl, by decide, by decide⟩
theorem fl_X4_30 : jFL "FirstIn$Rank" 30 4 6 := ⟨gt2 35 rfl rfl, by decide, by decide⟩
theorem fl_X4_33 : jFL "FirstIn$Rank" 33 4 7 := ⟨gt2 36 rfl rfl, by decide, by decide⟩
theorem fl_X4_37 : jFL "FirstIn$Rank" 37 0 7 := ⟨gt3 34 rfl rfl, by decide, by decide⟩
theorem fl_X4_46 : jFL "FirstIn$Rank" 46 0 6 := ⟨gt3 28 rfl rfl, by decide, by decide⟩
theorem fl_X4_49 : jFL "FirstIn$Rank" 49 0 1 := ⟨gt3 8 rfl rfl, by decide, by decide⟩
theorem fl_X4_67 : jFL "FirstIn$Rank" 67 7 7 := ⟨gt2 224 rfl rfl, by decide, by decide⟩
theorem fl_X4_70 : jFL "FirstIn$Rank" 70 7 0 := ⟨gt2 203 rfl rfl, by decide, by decide⟩
theorem fl_X5_17 : jFL "FirstIn$Reader" 17 5 1 := ⟨gt1 129 rfl rfl, by decide, by decide⟩
theorem fl_X5_25 : jFL "FirstIn$Reader" 25 5 2 := ⟨gt1 130 rfl rfl, by decide, by decide⟩
theorem fl_X5_30 : jFL "FirstIn$Reader" 30 5 3 := ⟨gt1 131 rfl rfl, by decide, by decide⟩
theorem fl_X5_35 : jFL "FirstIn$Reader" 35 5 4 := ⟨gt1 132 rfl rfl, by decide, by decide⟩
theorem fl_X5_40 : jFL "FirstIn$Reader" 40 5 5 := ⟨gt1 133 rfl rfl, by decide, by decide⟩
theorem fl_X5_45 : jFL "FirstIn$Reader" 45 5 6 := ⟨gt1 134 rfl rfl, by decide, by decide⟩
theorem fl_X5_50 : jFL "FirstIn$Reader" 50 5 7 := ⟨gt1 135 rfl rfl, by decide, by decide⟩
theorem fl_X5_55 : jFL "FirstIn$Reader" 55 5 8 := ⟨gt1 136 rfl rfl, by decide, by decide⟩
theorem fl_X5_60 : jFL "FirstIn$Reader" 60 5 9 := ⟨gt1 137 rfl rfl, by decide, by decide⟩
theorem fl_X5_63 : jFL "FirstIn$Reader" 63 5 10 := ⟨gt1 138 rfl rfl, by decide, by decide⟩
theorem fl_X5_67 : jFL "FirstIn$Reader" 67 5 11 := ⟨gt1 139 rfl rfl, by decide, by decide⟩
theorem fl_X5_71 : jFL "FirstIn$Reader" 71 5 12 := ⟨gt1 140 rfl rfl, by decide, by decide⟩
theorem fl_X5_75 : jFL "FirstIn$Reader" 75 5 0 := ⟨gt1 128 rfl rfl, by decide, by decide⟩
theorem fl_X5_87 : jFL "FirstIn$Reader" 87 10 2 := ⟨gt1 40 rfl rfl, by decide, by decide⟩
theorem fl_X5_94 : jFL "FirstIn$Reader" 94 10 3 := ⟨gt1 42 rfl rfl, by decide, by decide⟩
theorem fl_X5_97 : jFL "FirstIn$Reader" 97 0 4 := ⟨gt3 22 rfl rfl, by decide, by decide⟩
theorem fl_X5_124 : jFL "FirstIn$Reader" 124 0 5 := ⟨gt3 25 rfl rfl, by decide, by decide⟩
theorem fl_X5_138 : jFL "FirstIn$Reader" 138 0 0 := ⟨gt3 6 rfl rfl, by decide, by decide⟩
theorem fl_X5_141 : jFL "FirstIn$Reader" 141 0 6 := ⟨gt3 31 rfl rfl, by decide, by decide⟩
theorem fl_X5_144 : jFL "FirstIn$Reader" 144 0 1 := ⟨gt3 11 rfl rfl, by decide, by decide⟩
theorem fl_X5_148 : jFL "FirstIn$Reader" 148 7 0 := ⟨gt2 206 rfl rfl, by decide, by decide⟩
theorem fl_X5_151 : jFL "FirstIn$Reader" 151 7 1 := ⟨gt2 209 rfl rfl, by decide, by decide⟩
theorem fl_X5_154 : jFL "FirstIn$Reader" 154 7 2 := ⟨gt2 211 rfl rfl, by decide, by decide⟩
theorem fl_X5_160 : jFL "FirstIn$Reader" 160 10 5 := ⟨gt1 45 rfl rfl, by decide, by decide⟩
theorem fl_X5_163 : jFL "FirstIn$Reader" 163 7 3 := ⟨gt2 215 rfl rfl, by decide, by decide⟩
theorem fl_X5_177 : jFL "FirstIn$Reader" 177 7 5 := ⟨gt2 220 rfl rfl, by decide, by decide⟩
theorem fl_X5_183 : jFL "FirstIn$Reader" 183 7 4 := ⟨gt2 218 rfl rfl, by decide, by decide⟩
theorem fl_X6_12 : jFL "FirstIn$Room" 12 6 1 := ⟨gt1 232 rfl rfl, by decide, by decide⟩
theorem fl_X6_18 : jFL "FirstIn$Room" 18 6 2 := ⟨gt1 233 rfl rfl, by decide, by decide⟩
theorem fl_X6_21 : jFL "FirstIn$Room" 21 6 3 := ⟨gt1 234 rfl rfl, by decide, by decide⟩
theorem fl_X6_24 : jFL "FirstIn$Room" 24 6 4 := ⟨gt1 235 rfl rfl, by decide, by decide⟩
theorem fl_X6_28 : jFL "FirstIn$Room" 28 6 5 := ⟨gt1 237 rfl rfl, by decide, by decide⟩
theorem fl_X7_9 : jFL "FirstIn$Rule" 9 7 0 := ⟨gt2 202 rfl rfl, by decide, by decide⟩
theorem fl_X7_15 : jFL "FirstIn$Rule" 15 7 1 := ⟨gt2 208 rfl rfl, by decide, by decide⟩
theorem fl_X7_18 : jFL "FirstIn$Rule" 18 7 2 := ⟨gt2 210 rfl rfl, by decide, by decide⟩
theorem fl_X7_21 : jFL "FirstIn$Rule" 21 7 3 := ⟨gt2 212 rfl rfl, by decide, by decide⟩
theorem fl_X7_24 : jFL "FirstIn$Rule" 24 7 4 := ⟨gt2 217 rfl rfl, by decide, by decide⟩
theorem fl_X7_27 : jFL "FirstIn$Rule" 27 7 5 := ⟨gt2 219 rfl rfl, by decide, by decide⟩
theorem fl_X7_30 : jFL "FirstIn$Rule" 30 7 6 := ⟨gt2 221 rfl rfl, by decide, by decide⟩
theorem fl_X7_34 : jFL "FirstIn$Rule" 34 7 7 := ⟨gt2 223 rfl rfl, by decide, by decide⟩
theorem fl_X8_12 : jFL "FirstIn$Search" 12 8 0 := ⟨gt2 164 rfl rfl, by decide, by decide⟩
theorem fl_X8_18 : jFL "FirstIn$Search" 18 8 1 := ⟨gt2 165 rfl rfl, by decide, by decide⟩
theorem fl_X8_22 : jFL "FirstIn$Search" 22 8 2 := ⟨gt2 166 rfl rfl, by decide, by decide⟩
theorem fl_X8_25 : jFL "FirstIn$Search" 25 8 3 := ⟨gt2 167 rfl rfl, by decide, by decide⟩
theorem fl_X8_29 : jFL "FirstIn$Search" 29 8 4 := ⟨gt2 168 rfl rfl, by decide, by decide⟩
theorem fl_X8_32 : jFL "FirstIn$Search" 32 8 5 := ⟨gt2 169 rfl rfl, by decide, by decide⟩
theorem fl_X8_35 : jFL "FirstIn$Search" 35 8 6 := ⟨gt2 170 rfl rfl, by decide, by decide⟩
theorem fl_X8_41 : jFL "FirstIn$Search" 41 8 7 := ⟨gt2 171 rfl rfl, by decide, by decide⟩
theorem fl_X8_56 : jFL "FirstIn$Search" 56 3 6 := ⟨gt2 139 rfl rfl, by decide, by decide⟩
theorem fl_X8_59 : jFL "FirstIn$Search" 59 3 0 := ⟨gt2 127 rfl rfl, by decide, by decide⟩
theorem fl_X8_68 : jFL "FirstIn$Search" 68 0 2 := ⟨gt3 15 rfl rfl, by decide, by decide⟩
theorem fl_X8_71 : jFL "FirstIn$Search" 71 6 0 := ⟨gt1 231 rfl rfl, by decide, by decide⟩
theorem fl_X8_74 : jFL "FirstIn$Search" 74 0 3 := ⟨gt3 19 rfl rfl, by decide, by decide⟩
theorem fl_X8_77 : jFL "FirstIn$Search" 77 0 8 := ⟨gt3 37 rfl rfl, by decide, by decide⟩
theorem fl_X8_88 : jFL "FirstIn$Search" 88 3 7 := ⟨gt2 141 rfl rfl, by decide, by decide⟩
theorem fl_X8_110 : jFL "FirstIn$Search" 110 3 1 := ⟨gt2 129 rfl rfl, by decide, by decide⟩
theorem fl_X8_113 : jFL "FirstIn$Search" 113 3 2 := ⟨gt2 131 rfl rfl, by decide, by decide⟩
theorem fl_X8_119 : jFL "FirstIn$Search" 119 3 3 := ⟨gt2 133 rfl rfl, by decide, by decide⟩
theorem fl_X8_122 : jFL "FirstIn$Search" 122 3 4 := ⟨gt2 135 rfl rfl, by decide, by decide⟩
theorem fl_X8_125 : jFL "FirstIn$Search" 125 2 3 := ⟨gt1 192 rfl rfl, by decide, by decide⟩
theorem fl_X8_128 : jFL "FirstIn$Search" 128 2 4 := ⟨gt1 195 rfl rfl, by decide, by decide⟩
theorem fl_X8_132 : jFL "FirstIn$Search" 132 2 7 := ⟨gt1 204 rfl rfl, by decide, by decide⟩
theorem fl_X8_135 : jFL "FirstIn$Search" 135 2 5 := ⟨gt1 198 rfl rfl, by decide, by decide⟩
theorem fl_X8_138 : jFL "FirstIn$Search" 138 3 5 := ⟨gt2 137 rfl rfl, by decide, by decide⟩
theorem fl_X8_141 : jFL "FirstIn$Search" 141 2 6 := ⟨gt1 201 rfl rfl, by decide, by decide⟩
theorem fl_X8_146 : jFL "FirstIn$Search" 146 2 8 := ⟨gt1 207 rfl rfl, by decide, by decide⟩
theorem fl_X8_147 : jFL "FirstIn$Search" 147 2 1 := ⟨gt1 187 rfl rfl, by decide, by decide⟩
theorem fl_X8_150 : jFL "FirstIn$Search" 150 2 0 := ⟨gt1 184 rfl rfl, by decide, by decide⟩
theorem fl_X9_9 : jFL "FirstIn$Slights" 9 9 0 := ⟨gt2 60 rfl rfl, by decide, by decide⟩
theorem fl_X9_15 : jFL "FirstIn$Slights" 15 9 1 := ⟨gt2 61 rfl rfl, by decide, by decide⟩
theorem fl_X9_18 : jFL "FirstIn$Slights" 18 9 2 := ⟨gt2 64 rfl rfl, by decide, by decide⟩
theorem fl_X9_22 : jFL "FirstIn$Slights" 22 9 3 := ⟨gt2 66 rfl rfl, by decide, by decide⟩
theorem fl_X9_25 : jFL "FirstIn$Slights" 25 9 4 := ⟨gt2 68 rfl rfl, by decide, by decide⟩
theorem fl_X9_28 : jFL "FirstIn$Slights" 28 9 5 := ⟨gt2 70 rfl rfl, by decide, by decide⟩
theorem fl_X9_31 : jFL "FirstIn$Slights" 31 9 6 := ⟨gt2 71 rfl rfl, by decide, by decide⟩
theorem fl_X9_34 : jFL "FirstIn$Slights" 34 9 7 := ⟨gt2 73 rfl rfl, by decide, by decide⟩
theorem fl_X9_37 : jFL "FirstIn$Slights" 37 9 8 := ⟨gt2 75 rfl rfl, by decide, by decide⟩
theorem fl_X9_46 : jFL "FirstIn$Slights" 46 0 2 := ⟨gt3 14 rfl rfl, by decide, by decide⟩
theorem fl_X9_49 : jFL "FirstIn$Slights" 49 6 0 := ⟨gt1 229 rfl rfl, by decide, by decide⟩
theorem fl_X9_52 : jFL "FirstIn$Slights" 52 0 3 := ⟨gt3 18 rfl rfl, by decide, by decide⟩
theorem fl_X9_65 : jFL "FirstIn$Slights" 65 0 6 := ⟨gt3 30 rfl rfl, by decide, by decide⟩
theorem fl_X9_68 : jFL "FirstIn$Slights" 68 0 1 := ⟨gt3 10 rfl rfl, by decide, by decide⟩
theorem fl_X9_81 : jFL "FirstIn$Slights" 81 7 7 := ⟨gt2 225 rfl rfl, by decide, by decide⟩
theorem fl_X9_92 : jFL "FirstIn$Slights" 92 7 0 := ⟨gt2 204 rfl rfl, by decide, by decide⟩
theorem fl_X9_102 : jFL "FirstIn$Slights" 102 7 3 := ⟨gt2 213 rfl rfl, by decide, by decide⟩
theorem fl_X10_9 : jFL "FirstIn$Text" 9 10 0 := ⟨gt1 36 rfl rfl, by decide, by decide⟩
theorem fl_X10_15 : jFL "FirstIn$Text" 15 10 1 := ⟨gt1 37 rfl rfl, by decide, by decide⟩
theorem fl_X10_19 : jFL "FirstIn$Text" 19 10 2 := ⟨gt1 39 rfl rfl, by decide, by decide⟩
theorem fl_X10_22 : jFL "FirstIn$Text" 22 10 3 := ⟨gt1 41 rfl rfl, by decide, by decide⟩
theorem fl_X10_25 : jFL "FirstIn$Text" 25 10 4 := ⟨gt1 43 rfl rfl, by decide, by decide⟩
theorem fl_X10_28 : jFL "FirstIn$Text" 28 10 5 := ⟨gt1 44 rfl rfl, by decide, by decide⟩
theorem fl_X12_9 : jFL "FirstInModel" 9 12 0 := ⟨gt6 20 rfl rfl, by decide, by decide⟩
theorem fl_X12_15 : jFL "FirstInModel" 15 12 6 := ⟨gt6 26 rfl rfl, by decide, by decide⟩
theorem fl_X12_18 : jFL "FirstInModel" 18 12 7 := ⟨gt6 27 rfl rfl, by decide, by decide⟩
theorem fl_X12_23 : jFL "FirstInModel" 23 12 8 := ⟨gt6 28 rfl rfl, by decide, by decide⟩
theorem fl_X12_26 : jFL "FirstInModel" 26 12 9 := ⟨gt6 29 rfl rfl, by decide, by decide⟩
theorem fl_X12_29 : jFL "FirstInModel" 29 12 10 := ⟨gt6 30 rfl rfl, by decide, by decide⟩
theorem fl_X12_32 : jFL "FirstInModel" 32 12 11 := ⟨gt6 31 rfl rfl, by decide, by decide⟩
theorem fl_X12_35 : jFL "FirstInModel" 35 12 12 := ⟨gt6 32 rfl rfl, by decide, by decide⟩
theorem fl_X12_38 : jFL "FirstInModel" 38 12 13 := ⟨gt6 33 rfl rfl, by decide, by decide⟩
theorem fl_X12_41 : jFL "FirstInModel" 41 12 14 := ⟨gt6 34 rfl rfl, by decide, by decide⟩
theorem fl_X12_44 : jFL "FirstInModel" 44 12 15 := ⟨gt6 35 rfl rfl, by decide, by decide⟩
theorem fl_X12_48 : jFL "FirstInModel" 48 12 16 := ⟨gt6 36 rfl rfl, by decide, by decide⟩
theorem fl_X12_51 : jFL "FirstInModel" 51 12 17 := ⟨gt6 37 rfl rfl, by decide, by decide⟩
theorem fl_X12_73 : jFL "FirstInModel" 73 12 18 := ⟨gt6 38 rfl rfl, by decide, by decide⟩
theorem fl_X12_77 : jFL "FirstInModel" 77 12 19 := ⟨gt6 39 rfl rfl, by decide, by decide⟩
theorem fl_X12_81 : jFL "FirstInModel" 81 12 20 := ⟨gt6 40 rfl rfl, by decide, by decide⟩
theorem fl_X12_84 : jFL "FirstInModel" 84 12 21 := ⟨gt6 41 rfl rfl, by decide, by decide⟩
theorem fl_X12_87 : jFL "FirstInModel" 87 12 22 := ⟨gt6 42 rfl rfl, by decide, by decide⟩
theorem fl_X12_90 : jFL "FirstInModel" 90 12 23 := ⟨gt6 43 rfl rfl, by decide, by decide⟩
theorem fl_X12_93 : jFL "FirstInModel" 93 12 24 := ⟨gt6 44 rfl rfl, by decide, by decide⟩
theorem fl_X12_96 : jFL "FirstInModel" 96 12 25 := ⟨gt6 45 rfl rfl, by decide, by decide⟩
theorem fl_X12_99 : jFL "FirstInModel" 99 12 27 := ⟨gt6 47 rfl rfl, by decide, by decide⟩
theorem fl_X12_102 : jFL "FirstInModel" 102 12 28 := ⟨gt6 48 rfl rfl, by decide, by decide⟩
theorem fl_X12_105 : jFL "FirstInModel" 105 12 29 := ⟨gt6 49 rfl rfl, by decide, by decide⟩
theorem fl_X12_108 : jFL "FirstInModel" 108 12 30 := ⟨gt6 50 rfl rfl, by decide, by decide⟩
theorem fl_X12_111 : jFL "FirstInModel" 111 12 32 := ⟨gt6 52 rfl rfl, by decide, by decide⟩
theorem fl_X12_113 : jFL "FirstInModel" 113 12 33 := ⟨gt6 53 rfl rfl, by decide, by decide⟩
theorem fl_X12_115 : jFL "FirstInModel" 115 12 34 := ⟨gt6 54 rfl rfl, by decide, by decide⟩
theorem fl_X12_118 : jFL "FirstInModel" 118 12 35 := ⟨gt6 55 rfl rfl, by decide, by decide⟩
theorem fl_X12_121 : jFL "FirstInModel" 121 12 36 := ⟨gt6 56 rfl rfl, by decide, by decide⟩
theorem fl_X12_124 : jFL "FirstInModel" 124 12 37 := ⟨gt6 57 rfl rfl, by decide, by decide⟩
theorem fl_X12_127 : jFL "FirstInModel" 127 12 38 := ⟨gt6 58 rfl rfl, by decide, by decide⟩
theorem fl_X12_130 : jFL "FirstInModel" 130 12 39 := ⟨gt6 59 rfl rfl, by decide, by decide⟩
theorem fl_X12_133 : jFL "FirstInModel" 133 12 40 := ⟨gt6 60 rfl rfl, by decide, by decide⟩
theorem fl_X12_136 : jFL "FirstInModel" 136 12 41 := ⟨gt6 61 rfl rfl, by decide, by decide⟩
theorem fl_X12_139 : jFL "FirstInModel" 139 12 42 := ⟨gt6 62 rfl rfl, by decide, by decide⟩
theorem fl_X12_142 : jFL "FirstInModel" 142 12 44 := ⟨gt6 64 rfl rfl, by decide, by decide⟩
theorem fl_X12_145 : jFL "FirstInModel" 145 12 45 := ⟨gt6 65 rfl rfl, by decide, by decide⟩
theorem fl_X12_148 : jFL "FirstInModel" 148 12 46 := ⟨gt6 66 rfl rfl, by decide, by decide⟩
theorem fl_X12_151 : jFL "FirstInModel" 151 12 47 := ⟨gt6 67 rfl rfl, by decide, by decide⟩
theorem fl_X12_154 : jFL "FirstInModel" 154 12 48 := ⟨gt6 68 rfl rfl, by decide, by decide⟩
theorem fl_X12_157 : jFL "FirstInModel" 157 12 49 := ⟨gt6 69 rfl rfl, by decide, by decide⟩
theorem fl_X12_160 : jFL "FirstInModel" 160 12 50 := ⟨gt6 70 rfl rfl, by decide, by decide⟩
theorem fl_X12_163 : jFL "FirstInModel" 163 12 51 := ⟨gt6 71 rfl rfl, by decide, by decide⟩
theorem fl_X12_166 : jFL "FirstInModel" 166 12 61 := ⟨gt6 81 rfl rfl, by decide, by decide⟩
theorem fl_X12_169 : jFL "FirstInModel" 169 12 62 := ⟨gt6 82 rfl rfl, by decide, by decide⟩
theorem fl_X12_172 : jFL "FirstInModel" 172 12 63 := ⟨gt6 83 rfl rfl, by decide, by decide⟩
theorem fl_X12_175 : jFL "FirstInModel" 175 12 1 := ⟨gt6 21 rfl rfl, by decide, by decide⟩
theorem fl_X12_186 : jFL "FirstInModel" 186 12 3 := ⟨gt6 23 rfl rfl, by decide, by decide⟩
theorem fl_X12_189 : jFL "FirstInModel" 189 12 2 := ⟨gt6 22 rfl rfl, by decide, by decide⟩
theorem fl_X12_196 : jFL "FirstInModel" 196 12 4 := ⟨gt6 24 rfl rfl, by decide, by decide⟩
theorem fl_X12_214 : jFL "FirstInModel" 214 12 5 := ⟨gt6 25 rfl rfl, by decide, by decide⟩
theorem fl_X12_268 : jFL "FirstInModel" 268 12 26 := ⟨gt6 46 rfl rfl, by decide, by decide⟩
theorem fl_X12_317 : jFL "FirstInModel" 317 12 31 := ⟨gt6 51 rfl rfl, by decide, by decide⟩
theorem fl_X12_382 : jFL "FirstInModel" 382 12 43 := ⟨gt6 63 rfl rfl, by decide, by decide⟩
theorem fl_X12_394 : jFL "FirstInModel" 394 12 52 := ⟨gt6 72 rfl rfl, by decide, by decide⟩
theorem fl_X12_401 : jFL "FirstInModel" 401 12 60 := ⟨gt6 80 rfl rfl, by decide, by decide⟩
theorem fl_X12_405 : jFL "FirstInModel" 405 12 53 := ⟨gt6 73 rfl rfl, by decide, by decide⟩
theorem fl_X12_408 : jFL "FirstInModel" 408 12 58 := ⟨gt6 78 rfl rfl, by decide, by decide⟩
theorem fl_X12_411 : jFL "FirstInModel" 411 12 59 := ⟨gt6 79 rfl rfl, by decide, by decide⟩
theorem fl_X12_418 : jFL "FirstInModel" 418 12 56 := ⟨gt6 76 rfl rfl, by decide, by decide⟩
theorem fl_X12_421 : jFL "FirstInModel" 421 12 57 := ⟨gt6 77 rfl rfl, by decide, by decide⟩
theorem fl_X12_424 : jFL "FirstInModel" 424 12 54 := ⟨gt6 74 rfl rfl, by decide, by decide⟩
theorem fl_X12_427 : jFL "FirstInModel" 427 12 55 := ⟨gt6 75 rfl rfl, by decide, by decide⟩
theorem ml_X11_79 : Cond.methodLink "FirstIn" 79 ⟨"FirstIn$Text", "append", "(I)V"⟩ ∈ gw := gt3 101 rfl rfl
theorem ml_X11_82 : Cond.methodLink "FirstIn" 82 ⟨"FirstIn$Text", "cutTo", "(I)Z"⟩ ∈ gw := gt3 109 rfl rfl
theorem ml_X11_86 : Cond.methodLink "FirstIn" 86 ⟨"FirstIn$Reader", "readInto", "(LFirstIn$Court;)I"⟩ ∈ gw := gt3 117 rfl rfl
theorem ml_X11_90 : Cond.methodLink "FirstIn" 90 ⟨"FirstIn$Court", "open", "(LFirstIn$Court;)V"⟩ ∈ gw := gt3 219 rfl rfl
theorem ml_X11_97 : Cond.methodLink "FirstIn" 97 ⟨"FirstIn$Room", "furnish", "(II)V"⟩ ∈ gw := gt3 228 rfl rfl
theorem ml_X11_101 : Cond.methodLink "FirstIn" 101 ⟨"FirstIn$Court", "hasGuest", "(I)Z"⟩ ∈ gw := gt3 236 rfl rfl
theorem ml_X11_107 : Cond.methodLink "FirstIn" 107 ⟨"FirstIn", "bitAt", "(II)I"⟩ ∈ gw := gt3 237 rfl rfl
theorem ml_X11_111 : Cond.methodLink "FirstIn" 111 ⟨"FirstIn$Court", "marksOf", "(I)I"⟩ ∈ gw := gt4 0 rfl rfl
theorem ml_X11_125 : Cond.methodLink "FirstIn" 125 ⟨"FirstIn$Court", "hasRule", "(I)Z"⟩ ∈ gw := gt4 9 rfl rfl
theorem ml_X11_132 : Cond.methodLink "FirstIn" 132 ⟨"FirstIn$Rule", "tell", "(I)I"⟩ ∈ gw := gt4 13 rfl rfl
theorem ml_X11_137 : Cond.methodLink "FirstIn" 137 ⟨"FirstIn$Court", "letRest", "(IZ)Z"⟩ ∈ gw := gt4 31 rfl rfl
theorem ml_X11_141 : Cond.methodLink "FirstIn" 141 ⟨"FirstIn$Court", "letCome", "(IZ)Z"⟩ ∈ gw := gt4 40 rfl rfl
theorem ml_X11_144 : Cond.methodLink "FirstIn" 144 ⟨"FirstIn", "roomOrNull", "(I)LFirstIn$Room;"⟩ ∈ gw := gt4 52 rfl rfl
theorem ml_X11_148 : Cond.methodLink "FirstIn" 148 ⟨"FirstIn$Room", "hasPlace", "(I)Z"⟩ ∈ gw := gt4 56 rfl rfl
theorem ml_X11_151 : Cond.methodLink "FirstIn" 151 ⟨"FirstIn$Court", "isComing", "(I)Z"⟩ ∈ gw := gt4 60 rfl rfl
theorem ml_X11_154 : Cond.methodLink "FirstIn" 154 ⟨"FirstIn", "has", "(II)Z"⟩ ∈ gw := gt4 64 rfl rfl
theorem ml_X11_158 : Cond.methodLink "FirstIn" 158 ⟨"FirstIn$Court", "isTaken", "(II)Z"⟩ ∈ gw := gt4 65 rfl rfl
theorem ml_X11_161 : Cond.methodLink "FirstIn" 161 ⟨"FirstIn$Court", "put", "(III)V"⟩ ∈ gw := gt4 69 rfl rfl
theorem ml_X11_165 : Cond.methodLink "FirstIn" 165 ⟨"FirstIn$Court", "isSeated", "(I)Z"⟩ ∈ gw := gt4 74 rfl rfl
theorem ml_X11_168 : Cond.methodLink "FirstIn" 168 ⟨"FirstIn$Court", "letSit", "(IZ)Z"⟩ ∈ gw := gt4 82 rfl rfl
theorem ml_X11_171 : Cond.methodLink "FirstIn" 171 ⟨"FirstIn", "isCourse", "(I)Z"⟩ ∈ gw := gt4 91 rfl rfl
theorem ml_X11_174 : Cond.methodLink "FirstIn" 174 ⟨"FirstIn$Room", "higherOf", "(III)I"⟩ ∈ gw := gt4 94 rfl rfl
theorem ml_X11_178 : Cond.methodLink "FirstIn" 178 ⟨"FirstIn$Court", "sourceOf", "(III)I"⟩ ∈ gw := gt4 110 rfl rfl
theorem ml_X11_181 : Cond.methodLink "FirstIn" 181 ⟨"FirstIn", "tellByHand", "(III)Z"⟩ ∈ gw := gt4 123 rfl rfl
theorem ml_X11_203 : Cond.methodLink "FirstIn" 203 ⟨"FirstIn$Court", "toSay", "(IIII)I"⟩ ∈ gw := gt4 170 rfl rfl
theorem ml_X11_207 : Cond.methodLink "FirstIn" 207 ⟨"FirstIn$Slights", "whoMindsMost", "()I"⟩ ∈ gw := gt4 179 rfl rfl
theorem ml_X11_214 : Cond.methodLink "FirstIn" 214 ⟨"FirstIn", "lookAtRank", "(I)Z"⟩ ∈ gw := gt4 187 rfl rfl
theorem ml_X11_217 : Cond.methodLink "FirstIn" 217 ⟨"FirstIn$Rank", "shortestRing", "()I"⟩ ∈ gw := gt4 206 rfl rfl
theorem ml_X11_223 : Cond.methodLink "FirstIn" 223 ⟨"FirstIn$Rank", "bothWays", "()I"⟩ ∈ gw := gt4 234 rfl rfl
theorem ml_X11_232 : Cond.methodLink "FirstIn" 232 ⟨"FirstIn$Rank", "lightestToRest", "(LFirstIn$Court;I)I"⟩ ∈ gw := gt5 2 rfl rfl
theorem ml_X11_239 : Cond.methodLink "FirstIn" 239 ⟨"FirstIn$Court", "weightOf", "(I)I"⟩ ∈ gw := gt5 28 rfl rfl
theorem ml_X11_242 : Cond.methodLink "FirstIn" 242 ⟨"FirstIn$Rank", "orderThrough", "()I"⟩ ∈ gw := gt5 33 rfl rfl
theorem ml_X11_245 : Cond.methodLink "FirstIn" 245 ⟨"FirstIn$Rank", "fewestRounds", "(I)I"⟩ ∈ gw := gt5 41 rfl rfl
theorem ml_X11_248 : Cond.methodLink "FirstIn" 248 ⟨"FirstIn$Rank", "fewestHeaps", "()I"⟩ ∈ gw := gt5 69 rfl rfl
theorem ml_X11_251 : Cond.methodLink "FirstIn" 251 ⟨"FirstIn$Rank", "leastBeside", "(I)I"⟩ ∈ gw := gt5 81 rfl rfl
theorem ml_X11_254 : Cond.methodLink "FirstIn" 254 ⟨"FirstIn", "seatings", "(III)LFirstIn$Found;"⟩ ∈ gw := gt5 89 rfl rfl
theorem ml_X11_269 : Cond.methodLink "FirstIn" 269 ⟨"java/lang/Integer", "bitCount", "(I)I"⟩ ∈ gw := gt4 229 rfl rfl
theorem ml_X11_274 : Cond.methodLink "FirstIn" 274 ⟨"FirstIn$Found", "howManyAt", "(I)I"⟩ ∈ gw := gt5 195 rfl rfl
theorem ml_X11_290 : Cond.methodLink "FirstIn" 290 ⟨"FirstIn$Evening", "seek", "(LFirstIn$Court;LFirstIn$Room;ILFirstIn$Slights;)V"⟩ ∈ gw := gt5 208 rfl rfl
theorem ml_X11_304 : Cond.methodLink "FirstIn" 304 ⟨"FirstIn$Court", "seatedAnywhere", "()I"⟩ ∈ gw := gt5 231 rfl rfl
theorem ml_X11_307 : Cond.methodLink "FirstIn" 307 ⟨"FirstIn$Court", "resting", "()I"⟩ ∈ gw := gt5 235 rfl rfl
theorem ml_X11_310 : Cond.methodLink "FirstIn" 310 ⟨"FirstIn$Slights", "seatByHand", "(LFirstIn$Court;LFirstIn$Room;I)V"⟩ ∈ gw := gt4 127 rfl rfl
theorem ml_X11_314 : Cond.methodLink "FirstIn" 314 ⟨"FirstIn$Slights", "tellAll", "(LFirstIn$Court;LFirstIn$Room;II)V"⟩ ∈ gw := gt4 133 rfl rfl
theorem ml_X11_318 : Cond.methodLink "FirstIn" 318 ⟨"FirstIn$Rank", "look", "(LFirstIn$Court;II)V"⟩ ∈ gw := gt4 191 rfl rfl
theorem ml_X11_322 : Cond.methodLink "FirstIn" 322 ⟨"FirstIn$Room", "canSeat", "(I)Z"⟩ ∈ gw := gt5 93 rfl rfl
theorem ml_X11_325 : Cond.methodLink "FirstIn" 325 ⟨"FirstIn$Room", "foundFor", "(I)LFirstIn$Found;"⟩ ∈ gw := gt5 97 rfl rfl
theorem ml_X11_338 : Cond.methodLink "FirstIn" 338 ⟨"FirstIn$Found", "forget", "(II)V"⟩ ∈ gw := gt5 101 rfl rfl
theorem ml_X11_341 : Cond.methodLink "FirstIn" 341 ⟨"FirstIn$Search", "seek", "(LFirstIn$Court;LFirstIn$Room;ILFirstIn$Found;)V"⟩ ∈ gw := gt5 106 rfl rfl
theorem ml_X0_50 : Cond.methodLink "FirstIn$Court" 50 ⟨"java/util/Arrays", "fill", "([II)V"⟩ ∈ gw := gt3 223 rfl rfl
theorem ml_X0_60 : Cond.methodLink "FirstIn$Court" 60 ⟨"FirstIn$Court", "hasGuest", "(I)Z"⟩ ∈ gw := gt3 203 rfl rfl
theorem ml_X0_64 : ("FirstIn$Court", 64, (⟨"FirstIn", "has", "(II)Z"⟩ : MethodName), "FirstIn") ∈ nws := List.mem_of_getElem? (i := 11) rfl
theorem ml_X0_68 : Cond.methodLink "FirstIn$Court" 68 ⟨"FirstIn$Court", "hasRule", "(I)Z"⟩ ∈ gw := gt4 35 rfl rfl
theorem ml_X0_71 : Cond.methodLink "FirstIn$Court" 71 ⟨"FirstIn$Court", "put", "(III)V"⟩ ∈ gw := gt4 44 rfl rfl
theorem ml_X0_75 : Cond.methodLink "FirstIn$Court" 75 ⟨"FirstIn$Court", "isSeated", "(I)Z"⟩ ∈ gw := gt4 86 rfl rfl
theorem ml_X0_84 : Cond.methodLink "FirstIn$Court" 84 ⟨"FirstIn$Rule", "countsIn", "(I)Z"⟩ ∈ gw := gt4 115 rfl rfl
theorem ml_X0_87 : Cond.methodLink "FirstIn$Court" 87 ⟨"FirstIn$Rule", "hasCoupleOf", "(I)Z"⟩ ∈ gw := gt5 10 rfl rfl
theorem ml_X0_90 : Cond.methodLink "FirstIn$Court" 90 ⟨"FirstIn$Court", "isComing", "(I)Z"⟩ ∈ gw := gt4 114 rfl rfl
theorem ml_X0_96 : Cond.methodLink "FirstIn$Court" 96 ⟨"FirstIn$Court", "sourceOf", "(III)I"⟩ ∈ gw := gt4 174 rfl rfl
theorem ml_X1_27 : Cond.methodLink "FirstIn$Evening" 27 ⟨"java/lang/Math", "min", "(II)I"⟩ ∈ gw := gt5 212 rfl rfl
theorem ml_X1_33 : Cond.methodLink "FirstIn$Evening" 33 ⟨"java/lang/Math", "max", "(II)I"⟩ ∈ gw := gt5 213 rfl rfl
theorem ml_X1_36 : Cond.methodLink "FirstIn$Evening" 36 ⟨"FirstIn$Slights", "seatByHand", "(LFirstIn$Court;LFirstIn$Room;I)V"⟩ ∈ gw := gt5 214 rfl rfl
theorem ml_X1_42 : Cond.methodLink "FirstIn$Evening" 42 ⟨"FirstIn$Slights", "tellAll", "(LFirstIn$Court;LFirstIn$Room;II)V"⟩ ∈ gw := gt5 215 rfl rfl
theorem ml_X1_49 : Cond.methodLink "FirstIn$Evening" 49 ⟨"java/lang/System", "arraycopy", "(Ljava/lang/Object;ILjava/lang/Object;II)V"⟩ ∈ gw := gt5 216 rfl rfl
theorem ml_X1_55 : Cond.methodLink "FirstIn$Evening" 55 ⟨"FirstIn$Evening", "greatestSum", "(III)I"⟩ ∈ gw := gt5 219 rfl rfl
theorem ml_X1_59 : Cond.methodLink "FirstIn$Evening" 59 ⟨"FirstIn$Evening", "writeRow", "(III)V"⟩ ∈ gw := gt5 223 rfl rfl
theorem ml_X2_41 : Cond.methodLink "FirstIn$Found" 41 ⟨"java/util/Arrays", "fill", "([II)V"⟩ ∈ gw := gt5 105 rfl rfl
theorem ml_X2_47 : ("FirstIn$Found", 47, (⟨"FirstIn", "bitAt", "(II)I"⟩ : MethodName), "FirstIn") ∈ nws := List.mem_of_getElem? (i := 19) rfl
theorem ml_X3_40 : Cond.methodLink "FirstIn$Pairs" 40 ⟨"FirstIn$Court", "isComing", "(I)Z"⟩ ∈ gw := gt5 114 rfl rfl
theorem ml_X3_46 : Cond.methodLink "FirstIn$Pairs" 46 ⟨"FirstIn$Pairs", "layPlaces", "(LFirstIn$Room;)V"⟩ ∈ gw := gt5 115 rfl rfl
theorem ml_X3_50 : Cond.methodLink "FirstIn$Pairs" 50 ⟨"java/util/Arrays", "fill", "([II)V"⟩ ∈ gw := gt5 124 rfl rfl
theorem ml_X3_66 : Cond.methodLink "FirstIn$Pairs" 66 ⟨"FirstIn$Rule", "countsIn", "(I)Z"⟩ ∈ gw := gt5 125 rfl rfl
theorem ml_X3_71 : Cond.methodLink "FirstIn$Pairs" 71 ⟨"FirstIn$Pairs", "layRule", "(LFirstIn$Rule;)V"⟩ ∈ gw := gt5 126 rfl rfl
theorem ml_X3_75 : Cond.methodLink "FirstIn$Pairs" 75 ⟨"FirstIn$Pairs", "layToCome", "()V"⟩ ∈ gw := gt5 140 rfl rfl
theorem ml_X3_79 : Cond.methodLink "FirstIn$Pairs" 79 ⟨"java/lang/Math", "min", "(II)I"⟩ ∈ gw := gt5 119 rfl rfl
theorem ml_X3_85 : Cond.methodLink "FirstIn$Pairs" 85 ⟨"FirstIn$Room", "areBeside", "(II)Z"⟩ ∈ gw := gt5 122 rfl rfl
theorem ml_X3_89 : Cond.methodLink "FirstIn$Pairs" 89 ⟨"FirstIn$Room", "higherOf", "(III)I"⟩ ∈ gw := gt5 123 rfl rfl
theorem ml_X3_96 : ("FirstIn$Pairs", 96, (⟨"FirstIn", "has", "(II)Z"⟩ : MethodName), "FirstIn") ∈ nws := List.mem_of_getElem? (i := 16) rfl
theorem ml_X3_99 : Cond.methodLink "FirstIn$Pairs" 99 ⟨"FirstIn$Pairs", "layCouple", "(LFirstIn$Rule;II)V"⟩ ∈ gw := gt5 131 rfl rfl
theorem ml_X3_103 : Cond.methodLink "FirstIn$Pairs" 103 ⟨"java/lang/Math", "max", "(II)I"⟩ ∈ gw := gt5 135 rfl rfl
theorem ml_X3_106 : Cond.methodLink "FirstIn$Pairs" 106 ⟨"FirstIn$Pairs", "pairOf", "(II)I"⟩ ∈ gw := gt5 136 rfl rfl
theorem ml_X3_112 : ("FirstIn$Pairs", 112, (⟨"FirstIn", "isSlight", "(IIZ)Z"⟩ : MethodName), "FirstIn") ∈ nws := List.mem_of_getElem? (i := 17) rfl
theorem ml_X3_119 : Cond.methodLink "FirstIn$Pairs" 119 ⟨"FirstIn$Pairs", "leastOf", "([II)I"⟩ ∈ gw := gt5 144 rfl rfl
theorem ml_X4_40 : Cond.methodLink "FirstIn$Rank" 40 ⟨"java/util/Arrays", "fill", "([II)V"⟩ ∈ gw := gt4 195 rfl rfl
theorem ml_X4_53 : ("FirstIn$Rank", 53, (⟨"FirstIn", "has", "(II)Z"⟩ : MethodName), "FirstIn") ∈ nws := List.mem_of_getElem? (i := 14) rfl
theorem ml_X4_57 : Cond.methodLink "FirstIn$Rank" 57 ⟨"FirstIn$Rule", "countsIn", "(I)Z"⟩ ∈ gw := gt4 197 rfl rfl
theorem ml_X4_63 : Cond.methodLink "FirstIn$Rank" 63 ⟨"FirstIn$Rank", "addCouples", "(LFirstIn$Rule;)V"⟩ ∈ gw := gt4 198 rfl rfl
theorem ml_X4_73 : Cond.methodLink "FirstIn$Rank" 73 ⟨"FirstIn$Rank", "addEvenWith", "(II)V"⟩ ∈ gw := gt4 202 rfl rfl
theorem ml_X4_77 : Cond.methodLink "FirstIn$Rank" 77 ⟨"FirstIn$Rank", "stepsBackTo", "(I)I"⟩ ∈ gw := gt4 210 rfl rfl
theorem ml_X4_81 : Cond.methodLink "FirstIn$Rank" 81 ⟨"FirstIn$Rank", "writeRing", "(II)V"⟩ ∈ gw := gt4 218 rfl rfl
theorem ml_X4_84 : Cond.methodLink "FirstIn$Rank" 84 ⟨"FirstIn$Rank", "below", "(I)I"⟩ ∈ gw := gt4 214 rfl rfl
theorem ml_X4_87 : Cond.methodLink "FirstIn$Rank" 87 ⟨"FirstIn$Rank", "over", "(I)I"⟩ ∈ gw := gt4 222 rfl rfl
theorem ml_X4_90 : ("FirstIn$Rank", 90, (⟨"FirstIn", "lowest", "(I)I"⟩ : MethodName), "FirstIn") ∈ nws := List.mem_of_getElem? (i := 15) rfl
theorem ml_X4_93 : Cond.methodLink "FirstIn$Rank" 93 ⟨"FirstIn$Court", "rankingRules", "(I)I"⟩ ∈ gw := gt5 6 rfl rfl
theorem ml_X4_96 : Cond.methodLink "FirstIn$Rank" 96 ⟨"FirstIn$Court", "weightOf", "(I)I"⟩ ∈ gw := gt5 14 rfl rfl
theorem ml_X4_99 : Cond.methodLink "FirstIn$Rank" 99 ⟨"java/lang/Integer", "bitCount", "(I)I"⟩ ∈ gw := gt5 18 rfl rfl
theorem ml_X4_104 : Cond.methodLink "FirstIn$Rank" 104 ⟨"FirstIn$Rank", "isRinglessWithout", "(LFirstIn$Court;II)Z"⟩ ∈ gw := gt5 19 rfl rfl
theorem ml_X4_108 : Cond.methodLink "FirstIn$Rank" 108 ⟨"FirstIn$Rank", "look", "(LFirstIn$Court;II)V"⟩ ∈ gw := gt5 23 rfl rfl
theorem ml_X4_112 : Cond.methodLink "FirstIn$Rank" 112 ⟨"FirstIn$Rank", "isRingless", "()Z"⟩ ∈ gw := gt5 24 rfl rfl
theorem ml_X4_116 : Cond.methodLink "FirstIn$Rank" 116 ⟨"FirstIn$Rank", "formGroups", "()I"⟩ ∈ gw := gt5 45 rfl rfl
theorem ml_X4_120 : Cond.methodLink "FirstIn$Rank" 120 ⟨"FirstIn$Rank", "goOnFrom", "(III)V"⟩ ∈ gw := gt5 57 rfl rfl
theorem ml_X4_124 : Cond.methodLink "FirstIn$Rank" 124 ⟨"FirstIn$Rank", "hangingWith", "(I)I"⟩ ∈ gw := gt5 49 rfl rfl
theorem ml_X4_127 : Cond.methodLink "FirstIn$Rank" 127 ⟨"FirstIn$Rank", "leadersOf", "(I)I"⟩ ∈ gw := gt5 53 rfl rfl
theorem ml_X4_130 : Cond.methodLink "FirstIn$Rank" 130 ⟨"FirstIn$Rank", "howManyLed", "(I)I"⟩ ∈ gw := gt5 61 rfl rfl
theorem ml_X4_133 : Cond.methodLink "FirstIn$Rank" 133 ⟨"FirstIn$Rank", "partFrom", "(LFirstIn$Rank;III)Z"⟩ ∈ gw := gt5 73 rfl rfl
theorem ml_X4_137 : Cond.methodLink "FirstIn$Rank" 137 ⟨"FirstIn$Rank", "fits", "(II)Z"⟩ ∈ gw := gt5 76 rfl rfl
theorem ml_X4_140 : Cond.methodLink "FirstIn$Rank" 140 ⟨"java/lang/Math", "max", "(II)I"⟩ ∈ gw := gt5 80 rfl rfl
theorem ml_X5_79 : Cond.methodLink "FirstIn$Reader" 79 ⟨"FirstIn$Court", "empty", "()V"⟩ ∈ gw := gt3 121 rfl rfl
theorem ml_X5_84 : Cond.methodLink "FirstIn$Reader" 84 ⟨"FirstIn$Text", "begin", "()V"⟩ ∈ gw := gt3 125 rfl rfl
theorem ml_X5_90 : Cond.methodLink "FirstIn$Reader" 90 ⟨"FirstIn$Reader", "readLine", "(LFirstIn$Court;)Z"⟩ ∈ gw := gt3 142 rfl rfl
theorem ml_X5_100 : Cond.methodLink "FirstIn$Reader" 100 ⟨"FirstIn$Text", "isWord", "(J)Z"⟩ ∈ gw := gt3 146 rfl rfl
theorem ml_X5_103 : Cond.methodLink "FirstIn$Reader" 103 ⟨"FirstIn$Reader", "readGuest", "(LFirstIn$Court;)Z"⟩ ∈ gw := gt3 150 rfl rfl
theorem ml_X5_106 : Cond.methodLink "FirstIn$Reader" 106 ⟨"FirstIn$Reader", "readMark", "(LFirstIn$Court;)Z"⟩ ∈ gw := gt3 172 rfl rfl
theorem ml_X5_109 : Cond.methodLink "FirstIn$Reader" 109 ⟨"FirstIn$Reader", "readRule", "(LFirstIn$Court;I)Z"⟩ ∈ gw := gt3 183 rfl rfl
theorem ml_X5_113 : Cond.methodLink "FirstIn$Reader" 113 ⟨"FirstIn$Text", "advance", "()V"⟩ ∈ gw := gt3 154 rfl rfl
theorem ml_X5_116 : Cond.methodLink "FirstIn$Reader" 116 ⟨"FirstIn$Reader", "readNewName", "(I)Z"⟩ ∈ gw := gt3 155 rfl rfl
theorem ml_X5_120 : Cond.methodLink "FirstIn$Reader" 120 ⟨"FirstIn$Reader", "readStop", "()Z"⟩ ∈ gw := gt3 168 rfl rfl
theorem ml_X5_127 : Cond.methodLink "FirstIn$Reader" 127 ⟨"FirstIn$Reader", "readWord", "(J)Z"⟩ ∈ gw := gt3 176 rfl rfl
theorem ml_X5_130 : Cond.methodLink "FirstIn$Reader" 130 ⟨"FirstIn$Reader", "meaning", "()I"⟩ ∈ gw := gt3 164 rfl rfl
theorem ml_X5_134 : ("FirstIn$Reader", 134, (⟨"FirstIn", "has", "(II)Z"⟩ : MethodName), "FirstIn") ∈ nws := List.mem_of_getElem? (i := 9) rfl
theorem ml_X5_157 : Cond.methodLink "FirstIn$Reader" 157 ⟨"FirstIn$Text", "isNumber", "(II)Z"⟩ ∈ gw := gt3 187 rfl rfl
theorem ml_X5_166 : Cond.methodLink "FirstIn$Reader" 166 ⟨"FirstIn$Reader", "readRoom", "(LFirstIn$Rule;)Z"⟩ ∈ gw := gt3 191 rfl rfl
theorem ml_X5_170 : Cond.methodLink "FirstIn$Reader" 170 ⟨"FirstIn$Reader", "readUnless", "(LFirstIn$Rule;)Z"⟩ ∈ gw := gt3 195 rfl rfl
theorem ml_X5_173 : Cond.methodLink "FirstIn$Reader" 173 ⟨"FirstIn$Court", "guestsOf", "(I)I"⟩ ∈ gw := gt3 199 rfl rfl
theorem ml_X5_179 : Cond.methodLink "FirstIn$Reader" 179 ⟨"FirstIn$Rule", "pairUp", "(II)V"⟩ ∈ gw := gt3 207 rfl rfl
theorem ml_X5_188 : Cond.methodLink "FirstIn$Reader" 188 ⟨"FirstIn$Reader", "isKeyword", "(J)Z"⟩ ∈ gw := gt3 160 rfl rfl
theorem ml_X6_40 : Cond.methodLink "FirstIn$Room" 40 ⟨"FirstIn$Room", "onward", "(II)I"⟩ ∈ gw := gt4 102 rfl rfl
theorem ml_X6_44 : Cond.methodLink "FirstIn$Room" 44 ⟨"FirstIn$Room", "depthOf", "(II)I"⟩ ∈ gw := gt4 98 rfl rfl
theorem ml_X6_47 : Cond.methodLink "FirstIn$Room" 47 ⟨"java/lang/Math", "abs", "(I)I"⟩ ∈ gw := gt4 149 rfl rfl
theorem ml_X7_38 : Cond.methodLink "FirstIn$Rule" 38 ⟨"java/util/Arrays", "fill", "([II)V"⟩ ∈ gw := gt3 211 rfl rfl
theorem ml_X7_44 : ("FirstIn$Rule", 44, (⟨"FirstIn", "has", "(II)Z"⟩ : MethodName), "FirstIn") ∈ nws := List.mem_of_getElem? (i := 10) rfl
theorem ml_X7_48 : Cond.methodLink "FirstIn$Rule" 48 ⟨"java/lang/Integer", "bitCount", "(I)I"⟩ ∈ gw := gt4 21 rfl rfl
theorem ml_X7_54 : Cond.methodLink "FirstIn$Rule" 54 ⟨"FirstIn$Rule", "howManyCouples", "()I"⟩ ∈ gw := gt4 17 rfl rfl
theorem ml_X8_45 : Cond.methodLink "FirstIn$Search" 45 ⟨"FirstIn$Pairs", "lay", "(LFirstIn$Court;LFirstIn$Room;)V"⟩ ∈ gw := gt5 110 rfl rfl
theorem ml_X8_49 : Cond.methodLink "FirstIn$Search" 49 ⟨"FirstIn$Search", "lookAtHomes", "(LFirstIn$Court;LFirstIn$Room;)V"⟩ ∈ gw := gt5 148 rfl rfl
theorem ml_X8_52 : Cond.methodLink "FirstIn$Search" 52 ⟨"FirstIn$Search", "seatFrom", "(LFirstIn$Search;IIII)V"⟩ ∈ gw := gt5 154 rfl rfl
theorem ml_X8_62 : Cond.methodLink "FirstIn$Search" 62 ⟨"FirstIn$Court", "isSeated", "(I)Z"⟩ ∈ gw := gt5 152 rfl rfl
theorem ml_X8_80 : ("FirstIn$Search", 80, (⟨"FirstIn", "has", "(II)Z"⟩ : MethodName), "FirstIn") ∈ nws := List.mem_of_getElem? (i := 18) rfl
theorem ml_X8_84 : Cond.methodLink "FirstIn$Search" 84 ⟨"FirstIn$Search", "take", "(III)V"⟩ ∈ gw := gt5 157 rfl rfl
theorem ml_X8_91 : Cond.methodLink "FirstIn$Search" 91 ⟨"FirstIn$Search", "mayTake", "(II)Z"⟩ ∈ gw := gt5 170 rfl rfl
theorem ml_X8_94 : Cond.methodLink "FirstIn$Search" 94 ⟨"FirstIn$Search", "weightAt", "(II)I"⟩ ∈ gw := gt5 174 rfl rfl
theorem ml_X8_98 : Cond.methodLink "FirstIn$Search" 98 ⟨"FirstIn$Search", "heaviestAt", "(II)I"⟩ ∈ gw := gt5 179 rfl rfl
theorem ml_X8_101 : Cond.methodLink "FirstIn$Search" 101 ⟨"java/lang/Math", "max", "(II)I"⟩ ∈ gw := gt5 165 rfl rfl
theorem ml_X8_106 : Cond.methodLink "FirstIn$Search" 106 ⟨"FirstIn$Search", "isWorth", "(IIII)Z"⟩ ∈ gw := gt5 161 rfl rfl
theorem ml_X8_116 : Cond.methodLink "FirstIn$Search" 116 ⟨"FirstIn$Pairs", "pairOf", "(II)I"⟩ ∈ gw := gt5 178 rfl rfl
theorem ml_X8_143 : Cond.methodLink "FirstIn$Search" 143 ⟨"FirstIn$Found", "begin", "(III)V"⟩ ∈ gw := gt5 166 rfl rfl
theorem ml_X9_40 : Cond.methodLink "FirstIn$Slights" 40 ⟨"FirstIn$Court", "isSeated", "(I)Z"⟩ ∈ gw := gt4 131 rfl rfl
theorem ml_X9_55 : Cond.methodLink "FirstIn$Slights" 55 ⟨"FirstIn$Room", "onward", "(II)I"⟩ ∈ gw := gt4 132 rfl rfl
theorem ml_X9_59 : Cond.methodLink "FirstIn$Slights" 59 ⟨"java/util/Arrays", "fill", "([II)V"⟩ ∈ gw := gt4 137 rfl rfl
theorem ml_X9_72 : Cond.methodLink "FirstIn$Slights" 72 ⟨"FirstIn$Rule", "countsIn", "(I)Z"⟩ ∈ gw := gt4 138 rfl rfl
theorem ml_X9_77 : Cond.methodLink "FirstIn$Slights" 77 ⟨"FirstIn$Slights", "tellRule", "(LFirstIn$Rule;ILFirstIn$Room;I)V"⟩ ∈ gw := gt4 139 rfl rfl
theorem ml_X9_84 : ("FirstIn$Slights", 84, (⟨"FirstIn", "has", "(II)Z"⟩ : MethodName), "FirstIn") ∈ nws := List.mem_of_getElem? (i := 12) rfl
theorem ml_X9_88 : Cond.methodLink "FirstIn$Slights" 88 ⟨"FirstIn$Room", "higherOf", "(III)I"⟩ ∈ gw := gt4 144 rfl rfl
theorem ml_X9_95 : Cond.methodLink "FirstIn$Slights" 95 ⟨"FirstIn$Room", "areBeside", "(II)Z"⟩ ∈ gw := gt4 145 rfl rfl
theorem ml_X9_98 : ("FirstIn$Slights", 98, (⟨"FirstIn", "isSlight", "(IIZ)Z"⟩ : MethodName), "FirstIn") ∈ nws := List.mem_of_getElem? (i := 13) rfl
theorem ml_X9_103 : Cond.methodLink "FirstIn$Slights" 103 ⟨"FirstIn$Slights", "note", "(IIII)V"⟩ ∈ gw := gt4 155 rfl rfl
theorem ml_X9_107 : Cond.methodLink "FirstIn$Slights" 107 ⟨"FirstIn$Slights", "mind", "(LFirstIn$Rule;III)V"⟩ ∈ gw := gt4 162 rfl rfl
theorem ml_X9_111 : Cond.methodLink "FirstIn$Slights" 111 ⟨"java/lang/Math", "max", "(II)I"⟩ ∈ gw := gt4 159 rfl rfl
theorem ml_X10_32 : Cond.methodLink "FirstIn$Text" 32 ⟨"FirstIn$Text", "advance", "()V"⟩ ∈ gw := gt3 129 rfl rfl
theorem ml_X10_35 : Cond.methodLink "FirstIn$Text" 35 ⟨"FirstIn$Text", "signAt", "(I)I"⟩ ∈ gw := gt3 133 rfl rfl
theorem ml_X10_39 : Cond.methodLink "FirstIn$Text" 39 ⟨"FirstIn$Text", "takeRun", "(III)V"⟩ ∈ gw := gt3 137 rfl rfl
theorem ml_X10_45 : Cond.methodLink "FirstIn$Text" 45 ⟨"java/lang/String", "length", "()I"⟩ ∈ gw := gt1 70 rfl rfl
theorem ml_X10_52 : Cond.methodLink "FirstIn$Text" 52 ⟨"java/lang/String", "charAt", "(I)C"⟩ ∈ gw := gt1 81 rfl rfl
theorem ml_X12_179 : Cond.methodLink "FirstInModel" 179 ⟨"FirstInModel", "feeds", "(I)V"⟩ ∈ gw := gt6 218 rfl rfl
theorem ml_X12_183 : Cond.methodLink "FirstInModel" 183 ⟨"FirstInModel", "in", "(JJJ)Z"⟩ ∈ gw := gt6 226 rfl rfl
theorem ml_X12_192 : Cond.methodLink "FirstInModel" 192 ⟨"FirstInModel", "between", "(III)Z"⟩ ∈ gw := gt7 1 rfl rfl
theorem ml_X12_199 : Cond.methodLink "FirstInModel" 199 ⟨"FirstInModel", "next", "()V"⟩ ∈ gw := gt6 237 rfl rfl
theorem ml_X12_202 : Cond.methodLink "FirstInModel" 202 ⟨"java/lang/String", "length", "()I"⟩ ∈ gw := gt7 13 rfl rfl
theorem ml_X12_206 : Cond.methodLink "FirstInModel" 206 ⟨"java/lang/String", "charAt", "(I)C"⟩ ∈ gw := gt7 14 rfl rfl
theorem ml_X12_210 : Cond.methodLink "FirstInModel" 210 ⟨"FirstInModel", "passes", "(Z)Z"⟩ ∈ gw := gt7 15 rfl rfl
theorem ml_X12_219 : Cond.methodLink "FirstInModel" 219 ⟨"FirstInModel", "isWord", "(I)Z"⟩ ∈ gw := gt7 9 rfl rfl
theorem ml_X12_227 : Cond.methodLink "FirstInModel" 227 ⟨"FirstInModel", "guestOf", "(J)I"⟩ ∈ gw := gt7 34 rfl rfl
theorem ml_X12_231 : Cond.methodLink "FirstInModel" 231 ⟨"FirstInModel", "markOf", "(J)I"⟩ ∈ gw := gt7 38 rfl rfl
theorem ml_X12_234 : Cond.methodLink "FirstInModel" 234 ⟨"FirstInModel", "named", "()J"⟩ ∈ gw := gt7 23 rfl rfl
theorem ml_X12_238 : Cond.methodLink "FirstInModel" 238 ⟨"FirstInModel", "isNew", "(J)Z"⟩ ∈ gw := gt7 30 rfl rfl
theorem ml_X12_242 : Cond.methodLink "FirstInModel" 242 ⟨"FirstInModel", "closes", "()Z"⟩ ∈ gw := gt7 42 rfl rfl
theorem ml_X12_246 : Cond.methodLink "FirstInModel" 246 ⟨"FirstInModel", "someone", "()Z"⟩ ∈ gw := gt7 54 rfl rfl
theorem ml_X12_249 : Cond.methodLink "FirstInModel" 249 ⟨"FirstInModel", "number", "(II)Z"⟩ ∈ gw := gt7 58 rfl rfl
theorem ml_X12_253 : Cond.methodLink "FirstInModel" 253 ⟨"FirstInModel", "guestRead", "()Z"⟩ ∈ gw := gt7 19 rfl rfl
theorem ml_X12_256 : Cond.methodLink "FirstInModel" 256 ⟨"FirstInModel", "markRead", "()Z"⟩ ∈ gw := gt7 46 rfl rfl
theorem ml_X12_259 : Cond.methodLink "FirstInModel" 259 ⟨"FirstInModel", "ruleRead", "(I)Z"⟩ ∈ gw := gt7 50 rfl rfl
theorem ml_X12_262 : Cond.methodLink "FirstInModel" 262 ⟨"FirstInModel", "line", "()Z"⟩ ∈ gw := gt7 5 rfl rfl
theorem ml_X12_265 : Cond.methodLink "FirstInModel" 265 ⟨"FirstInModel", "reads", "()V"⟩ ∈ gw := gt6 233 rfl rfl
theorem ml_X12_275 : Cond.methodLink "FirstInModel" 275 ⟨"FirstInModel", "isGuest", "(I)Z"⟩ ∈ gw := gt7 76 rfl rfl
theorem ml_X12_278 : Cond.methodLink "FirstInModel" 278 ⟨"FirstInModel", "marksOf", "(I)I"⟩ ∈ gw := gt7 80 rfl rfl
theorem ml_X12_282 : Cond.methodLink "FirstInModel" 282 ⟨"FirstInModel", "isOf", "(II)Z"⟩ ∈ gw := gt7 100 rfl rfl
theorem ml_X12_285 : Cond.methodLink "FirstInModel" 285 ⟨"FirstInModel", "couples", "(III)Z"⟩ ∈ gw := gt7 96 rfl rfl
theorem ml_X12_288 : Cond.methodLink "FirstInModel" 288 ⟨"FirstInModel", "counts", "(II)Z"⟩ ∈ gw := gt7 154 rfl rfl
theorem ml_X12_291 : Cond.methodLink "FirstInModel" 291 ⟨"FirstInModel", "hasCouple", "(III)Z"⟩ ∈ gw := gt7 92 rfl rfl
theorem ml_X12_294 : Cond.methodLink "FirstInModel" 294 ⟨"FirstInModel", "isRule", "(I)Z"⟩ ∈ gw := gt7 88 rfl rfl
theorem ml_X12_297 : Cond.methodLink "FirstInModel" 297 ⟨"FirstInModel", "isRoom", "(I)Z"⟩ ∈ gw := gt7 116 rfl rfl
theorem ml_X12_300 : Cond.methodLink "FirstInModel" 300 ⟨"java/lang/Math", "abs", "(I)I"⟩ ∈ gw := gt7 166 rfl rfl
theorem ml_X12_307 : Cond.methodLink "FirstInModel" 307 ⟨"FirstInModel", "isCourse", "(I)Z"⟩ ∈ gw := gt7 132 rfl rfl
theorem ml_X12_310 : Cond.methodLink "FirstInModel" 310 ⟨"FirstInModel", "high", "(IIII)I"⟩ ∈ gw := gt7 137 rfl rfl
theorem ml_X12_314 : Cond.methodLink "FirstInModel" 314 ⟨"FirstInModel", "beside", "(III)Z"⟩ ∈ gw := gt7 162 rfl rfl
theorem ml_X12_320 : Cond.methodLink "FirstInModel" 320 ⟨"FirstInModel", "countsFor", "(IIII)Z"⟩ ∈ gw := gt7 150 rfl rfl
theorem ml_X12_324 : Cond.methodLink "FirstInModel" 324 ⟨"FirstInModel", "whoMinds", "(IIIII)I"⟩ ∈ gw := gt7 158 rfl rfl
theorem ml_X12_330 : Cond.methodLink "FirstInModel" 330 ⟨"FirstInModel", "finds", "(III)V"⟩ ∈ gw := gt7 146 rfl rfl
theorem ml_X12_334 : Cond.methodLink "FirstInModel" 334 ⟨"java/lang/Math", "max", "(II)I"⟩ ∈ gw := gt7 167 rfl rfl
theorem ml_X12_340 : Cond.methodLink "FirstInModel" 340 ⟨"FirstInModel", "sourceOf", "(IIII)I"⟩ ∈ gw := gt7 173 rfl rfl
theorem ml_X12_343 : Cond.methodLink "FirstInModel" 343 ⟨"FirstInModel", "leads", "(II)V"⟩ ∈ gw := gt7 201 rfl rfl
theorem ml_X12_347 : Cond.methodLink "FirstInModel" 347 ⟨"FirstInModel", "through", "(II)I"⟩ ∈ gw := gt7 197 rfl rfl
theorem ml_X12_350 : Cond.methodLink "FirstInModel" 350 ⟨"FirstInModel", "ranks", "(II)V"⟩ ∈ gw := gt7 189 rfl rfl
theorem ml_X12_353 : Cond.methodLink "FirstInModel" 353 ⟨"FirstInModel", "all", "()I"⟩ ∈ gw := gt7 193 rfl rfl
theorem ml_X12_356 : Cond.methodLink "FirstInModel" 356 ⟨"java/lang/Integer", "bitCount", "(I)I"⟩ ∈ gw := gt7 213 rfl rfl
theorem ml_X12_361 : Cond.methodLink "FirstInModel" 361 ⟨"FirstInModel", "hasRing", "(I)Z"⟩ ∈ gw := gt7 214 rfl rfl
theorem ml_X12_364 : Cond.methodLink "FirstInModel" 364 ⟨"FirstInModel", "comingBits", "()I"⟩ ∈ gw := gt7 222 rfl rfl
theorem ml_X12_367 : Cond.methodLink "FirstInModel" 367 ⟨"FirstInModel", "isFree", "(II)Z"⟩ ∈ gw := gt7 226 rfl rfl
theorem ml_X12_370 : Cond.methodLink "FirstInModel" 370 ⟨"java/lang/Math", "min", "(II)I"⟩ ∈ gw := gt7 238 rfl rfl
theorem ml_X12_373 : Cond.methodLink "FirstInModel" 373 ⟨"FirstInModel", "groups", "()I"⟩ ∈ gw := gt7 234 rfl rfl
theorem ml_X12_376 : Cond.methodLink "FirstInModel" 376 ⟨"FirstInModel", "bitsOf", "(II)I"⟩ ∈ gw := gt7 239 rfl rfl
theorem ml_X12_379 : Cond.methodLink "FirstInModel" 379 ⟨"FirstInModel", "mayGo", "(II)Z"⟩ ∈ gw := gt8 3 rfl rfl
theorem ml_X12_385 : Cond.methodLink "FirstInModel" 385 ⟨"FirstInModel", "parts", "(III)Z"⟩ ∈ gw := gt8 15 rfl rfl
theorem ml_X12_388 : Cond.methodLink "FirstInModel" 388 ⟨"FirstInModel", "isQuiet", "(I)Z"⟩ ∈ gw := gt8 11 rfl rfl
theorem ml_X12_391 : Cond.methodLink "FirstInModel" 391 ⟨"java/lang/Integer", "numberOfTrailingZeros", "(I)I"⟩ ∈ gw := gt8 19 rfl rfl
theorem ml_X12_397 : Cond.methodLink "FirstInModel" 397 ⟨"FirstInModel", "weighPair", "(IIIII)V"⟩ ∈ gw := gt8 35 rfl rfl
theorem ml_X12_414 : Cond.methodLink "FirstInModel" 414 ⟨"FirstInModel", "keepsIn", "([I)V"⟩ ∈ gw := gt8 47 rfl rfl
theorem ml_X12_430 : Cond.methodLink "FirstInModel" 430 ⟨"FirstInModel", "meets", "(II)V"⟩ ∈ gw := gt8 43 rfl rfl
theorem ml_X12_433 : Cond.methodLink "FirstInModel" 433 ⟨"FirstInModel", "staysElsewhere", "(II)Z"⟩ ∈ gw := gt8 51 rfl rfl
theorem ml_X12_436 : Cond.methodLink "FirstInModel" 436 ⟨"FirstInModel", "seatsFrom", "(IIII)V"⟩ ∈ gw := gt8 39 rfl rfl
theorem ml_X12_440 : Cond.methodLink "FirstInModel" 440 ⟨"FirstInModel", "weighPlaces", "(I)V"⟩ ∈ gw := gt8 31 rfl rfl
theorem ml_X12_443 : Cond.methodLink "FirstInModel" 443 ⟨"FirstInModel", "goesThrough", "(IZ)Z"⟩ ∈ gw := gt8 27 rfl rfl
theorem ml_X12_447 : Cond.methodLink "FirstInModel" 447 ⟨"FirstInModel", "memberOf", "(I)I"⟩ ∈ gw := gt8 59 rfl rfl
