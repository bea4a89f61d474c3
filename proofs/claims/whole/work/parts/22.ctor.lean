/-! ===== the constructors: printed by wip/whole/gen/ctor.py ===== -/
theorem bp_64 : (Int8.ofInt 64).toInt32 = 64 := by decide
theorem sp_392 : (Int16.ofInt 392).toInt32 = 392 := by decide
theorem sp_1200 : (Int16.ofInt 1200).toInt32 = 1200 := by decide
theorem sp_6400 : (Int16.ofInt 6400).toInt32 = 6400 := by decide
theorem fl_X6_31 : jFL "FirstIn$Room" 31 6 6 := ⟨gt2 1 rfl rfl, by decide, by decide⟩
theorem fl_X6_34 : jFL "FirstIn$Room" 34 6 7 := ⟨gt2 3 rfl rfl, by decide, by decide⟩
theorem fl_X6_37 : jFL "FirstIn$Room" 37 6 0 := ⟨gt1 228 rfl rfl, by decide, by decide⟩
theorem ml_X11_11 : ("FirstIn", 11, (⟨"FirstIn$Text", "<init>", "()V"⟩ : MethodName), "FirstIn") ∈ nws := List.mem_of_getElem? (i := 0) rfl
theorem ml_X11_18 : Cond.methodLink "FirstIn" 18 ⟨"FirstIn$Reader", "<init>", "(LFirstIn$Text;)V"⟩ ∈ gw := gt1 62 rfl rfl
theorem ml_X11_31 : Cond.methodLink "FirstIn" 31 ⟨"FirstIn$Room", "<init>", "(I)V"⟩ ∈ gw := gt1 173 rfl rfl
theorem ml_X11_36 : ("FirstIn", 36, (⟨"FirstIn$Rank", "<init>", "()V"⟩ : MethodName), "FirstIn") ∈ nws := List.mem_of_getElem? (i := 2) rfl
theorem ml_X11_43 : ("FirstIn", 43, (⟨"FirstIn$Slights", "<init>", "()V"⟩ : MethodName), "FirstIn") ∈ nws := List.mem_of_getElem? (i := 3) rfl
theorem ml_X11_50 : ("FirstIn", 50, (⟨"FirstIn$Evening", "<init>", "()V"⟩ : MethodName), "FirstIn") ∈ nws := List.mem_of_getElem? (i := 4) rfl
theorem ml_X11_57 : ("FirstIn", 57, (⟨"FirstIn$Search", "<init>", "()V"⟩ : MethodName), "FirstIn") ∈ nws := List.mem_of_getElem? (i := 5) rfl
theorem ml_X11_64 : Cond.methodLink "FirstIn" 64 ⟨"FirstIn$Court", "<init>", "()V"⟩ ∈ gw := gt2 191 rfl rfl
theorem ml_X0_49 : ("FirstIn$Court", 49, (⟨"FirstIn$Rule", "<init>", "()V"⟩ : MethodName), "FirstIn") ∈ nws := List.mem_of_getElem? (i := 8) rfl
theorem ml_X5_11 : Cond.methodLink "FirstIn$Reader" 11 ⟨"FirstIn$Text", "codeOf", "(Ljava/lang/String;)J"⟩ ∈ gw := gt1 67 rfl rfl
theorem ml_X6_11 : ("FirstIn$Room", 11, (⟨"FirstIn$Found", "<init>", "()V"⟩ : MethodName), "FirstIn") ∈ nws := List.mem_of_getElem? (i := 1) rfl
theorem ml_X8_11 : ("FirstIn$Search", 11, (⟨"FirstIn$Pairs", "<init>", "()V"⟩ : MethodName), "FirstIn") ∈ nws := List.mem_of_getElem? (i := 6) rfl
theorem ml_X8_40 : ("FirstIn$Search", 40, (⟨"FirstIn$Found", "<init>", "()V"⟩ : MethodName), "FirstIn") ∈ nws := List.mem_of_getElem? (i := 7) rfl
def M_Evening_init : jM := ("FirstIn$Evening", ⟨"FirstIn$Evening", "<init>", "()V"⟩, prog_3_method_1_code, 1, none, { frames := 5, cells := 2, slots := 83, locals := 100 * 5 }, 2, 83, 1)
def Evening_init (S : hS) (v0 : Option Nat) (V : hV) : Option (hS × hV) :=
  (rc S 1 v0).bind fun o0 => (nwO (100, 80) (S, V)).bind fun h1 => (pR h1.1 1 0 h1.2 (some o0) (some S.1)).bind fun V2 => (nwO (100, 3) (h1.1, V2)).bind fun h3 => (pR h3.1 1 1 h3.2 (some o0) (some h1.1.1)).bind fun V4 => (pI h3.1 1 2 V4 (some o0) 0).bind fun V5 => some (h3.1, V5)
def M_Found_init : jM := ("FirstIn$Found", ⟨"FirstIn$Found", "<init>", "()V"⟩, prog_4_method_1_code, 1, none, { frames := 5, cells := 2, slots := 20, locals := 100 * 5 }, 2, 20, 2)
def Found_init (S : hS) (v0 : Option Nat) (V : hV) : Option (hS × hV) :=
  (rc S 2 v0).bind fun o0 => (nwO (100, 10) (S, V)).bind fun h1 => (pR h1.1 2 0 h1.2 (some o0) (some S.1)).bind fun V2 => (nwO (100, 10) (h1.1, V2)).bind fun h3 => (pR h3.1 2 1 h3.2 (some o0) (some h1.1.1)).bind fun V4 => (pI h3.1 2 2 V4 (some o0) (-1)).bind fun V5 => (pI h3.1 2 3 V5 (some o0) 0).bind fun V6 => (pZ h3.1 2 4 V6 (some o0) 0).bind fun V7 => (pI h3.1 2 5 V7 (some o0) 0).bind fun V8 => (pI h3.1 2 6 V8 (some o0) 0).bind fun V9 => (pI h3.1 2 7 V9 (some o0) 0).bind fun V10 => (pI h3.1 2 8 V10 (some o0) 0).bind fun V11 => some (h3.1, V11)
def M_Pairs_init : jM := ("FirstIn$Pairs", ⟨"FirstIn$Pairs", "<init>", "()V"⟩, prog_5_method_1_code, 1, none, { frames := 5, cells := 6, slots := 871, locals := 100 * 5 }, 6, 871, 3)
def Pairs_init (S : hS) (v0 : Option Nat) (V : hV) : Option (hS × hV) :=
  (rc S 3 v0).bind fun o0 => (nwO (100, 7) (S, V)).bind fun h1 => (pR h1.1 3 0 h1.2 (some o0) (some S.1)).bind fun V2 => (nwO (100, 64) (h1.1, V2)).bind fun h3 => (pR h3.1 3 1 h3.2 (some o0) (some h1.1.1)).bind fun V4 => (nwO (100, 392) (h3.1, V4)).bind fun h5 => (pR h5.1 3 2 h5.2 (some o0) (some h3.1.1)).bind fun V6 => (nwO (100, 392) (h5.1, V6)).bind fun h7 => (pR h7.1 3 3 h7.2 (some o0) (some h5.1.1)).bind fun V8 => (nwO (100, 8) (h7.1, V8)).bind fun h9 => (pR h9.1 3 4 h9.2 (some o0) (some h7.1.1)).bind fun V10 => (nwO (100, 8) (h9.1, V10)).bind fun h11 => (pR h11.1 3 5 h11.2 (some o0) (some h9.1.1)).bind fun V12 => (pI h11.1 3 6 V12 (some o0) 0).bind fun V13 => (pI h11.1 3 7 V13 (some o0) 0).bind fun V14 => (pI h11.1 3 8 V14 (some o0) 0).bind fun V15 => some (h11.1, V15)
def M_Rank_init : jM := ("FirstIn$Rank", ⟨"FirstIn$Rank", "<init>", "()V"⟩, prog_6_method_1_code, 1, none, { frames := 5, cells := 7, slots := 1084, locals := 100 * 5 }, 7, 1084, 4)
def Rank_init (S : hS) (v0 : Option Nat) (V : hV) : Option (hS × hV) :=
  (rc S 4 v0).bind fun o0 => (nwO (100, 10) (S, V)).bind fun h1 => (pR h1.1 4 0 h1.2 (some o0) (some S.1)).bind fun V2 => (nwO (100, 10) (h1.1, V2)).bind fun h3 => (pR h3.1 4 1 h3.2 (some o0) (some h1.1.1)).bind fun V4 => (nwO (100, 10) (h3.1, V4)).bind fun h5 => (pR h5.1 4 2 h5.2 (some o0) (some h3.1.1)).bind fun V6 => (nwO (100, 10) (h5.1, V6)).bind fun h7 => (pR h7.1 4 3 h7.2 (some o0) (some h5.1.1)).bind fun V8 => (nwO (100, 10) (h7.1, V8)).bind fun h9 => (pR h9.1 4 4 h9.2 (some o0) (some h7.1.1)).bind fun V10 => (nwO (100, 10) (h9.1, V10)).bind fun h11 => (pR h11.1 4 5 h11.2 (some o0) (some h9.1.1)).bind fun V12 => (nwO (100, 1024) (h11.1, V12)).bind fun h13 => (pR h13.1 4 6 h13.2 (some o0) (some h11.1.1)).bind fun V14 => (pI h13.1 4 7 V14 (some o0) 0).bind fun V15 => some (h13.1, V15)
def M_Rule_init : jM := ("FirstIn$Rule", ⟨"FirstIn$Rule", "<init>", "()V"⟩, prog_9_method_1_code, 1, none, { frames := 5, cells := 1, slots := 10, locals := 100 * 5 }, 1, 10, 7)
def Rule_init (S : hS) (v0 : Option Nat) (V : hV) : Option (hS × hV) :=
  (rc S 7 v0).bind fun o0 => (pI S 7 0 V (some o0) 0).bind fun V1 => (pI S 7 1 V1 (some o0) (-1)).bind fun V2 => (pI S 7 2 V2 (some o0) (-1)).bind fun V3 => (pI S 7 3 V3 (some o0) 0).bind fun V4 => (pI S 7 4 V4 (some o0) (-1)).bind fun V5 => (pI S 7 5 V5 (some o0) (-1)).bind fun V6 => (pZ S 7 6 V6 (some o0) 0).bind fun V7 => (nwO (100, 10) (S, V7)).bind fun h8 => (pR h8.1 7 7 h8.2 (some o0) (some S.1)).bind fun V9 => some (h8.1, V9)
def M_Slights_init : jM := ("FirstIn$Slights", ⟨"FirstIn$Slights", "<init>", "()V"⟩, prog_11_method_1_code, 1, none, { frames := 5, cells := 2, slots := 20, locals := 100 * 5 }, 2, 20, 9)
def Slights_init (S : hS) (v0 : Option Nat) (V : hV) : Option (hS × hV) :=
  (rc S 9 v0).bind fun o0 => (nwO (100, 10) (S, V)).bind fun h1 => (pR h1.1 9 0 h1.2 (some o0) (some S.1)).bind fun V2 => (nwO (100, 10) (h1.1, V2)).bind fun h3 => (pR h3.1 9 1 h3.2 (some o0) (some h1.1.1)).bind fun V4 => (pI h3.1 9 2 V4 (some o0) 0).bind fun V5 => (pI h3.1 9 3 V5 (some o0) 0).bind fun V6 => (pI h3.1 9 4 V6 (some o0) 0).bind fun V7 => (pI h3.1 9 5 V7 (some o0) (-1)).bind fun V8 => (pI h3.1 9 6 V8 (some o0) (-1)).bind fun V9 => (pI h3.1 9 7 V9 (some o0) (-1)).bind fun V10 => (pI h3.1 9 8 V10 (some o0) (-1)).bind fun V11 => some (h3.1, V11)
def M_Text_init : jM := ("FirstIn$Text", ⟨"FirstIn$Text", "<init>", "()V"⟩, prog_12_method_1_code, 1, none, { frames := 5, cells := 1, slots := 700, locals := 100 * 5 }, 1, 700, 10)
def Text_init (S : hS) (v0 : Option Nat) (V : hV) : Option (hS × hV) :=
  (rc S 10 v0).bind fun o0 => (nwO (101, 700) (S, V)).bind fun h1 => (pR h1.1 10 0 h1.2 (some o0) (some S.1)).bind fun V2 => (pI h1.1 10 1 V2 (some o0) 0).bind fun V3 => (pI h1.1 10 2 V3 (some o0) 0).bind fun V4 => (pI h1.1 10 3 V4 (some o0) 0).bind fun V5 => (pI h1.1 10 4 V5 (some o0) 0).bind fun V6 => (pL h1.1 10 5 V6 (some o0) 0).bind fun V7 => some (h1.1, V7)
def M_Mo_init : jM := ("FirstInModel", ⟨"FirstInModel", "<init>", "()V"⟩, prog_14_method_1_code, 1, none, { frames := 5, cells := 65, slots := 19849, locals := 100 * 5 }, 65, 19849, 12)
def Mo_init (S : hS) (v0 : Option Nat) (V : hV) : Option (hS × hV) :=
  (rc S 12 v0).bind fun o0 => (nwO (101, 700) (S, V)).bind fun h1 => (pR h1.1 12 0 h1.2 (some o0) (some S.1)).bind fun V2 => (nwMO 108 103 10 (h1.1, V2)).bind fun h3 => (pR h3.1 12 6 h3.2 (some o0) (some h1.1.1)).bind fun V4 => (nwMO 108 103 5 (h3.1, V4)).bind fun h5 => (pR h5.1 12 7 h5.2 (some o0) (some h3.1.1)).bind fun V6 => (nwMO 107 100 5 (h5.1, V6)).bind fun h7 => (pR h7.1 12 8 h7.2 (some o0) (some h5.1.1)).bind fun V8 => (nwMO 107 100 12 (h7.1, V8)).bind fun h9 => (pR h9.1 12 9 h9.2 (some o0) (some h7.1.1)).bind fun V10 => (nwMO 107 100 12 (h9.1, V10)).bind fun h11 => (pR h11.1 12 10 h11.2 (some o0) (some h9.1.1)).bind fun V12 => (nwMO 107 100 12 (h11.1, V12)).bind fun h13 => (pR h13.1 12 11 h13.2 (some o0) (some h11.1.1)).bind fun V14 => (nwMO 107 100 12 (h13.1, V14)).bind fun h15 => (pR h15.1 12 12 h15.2 (some o0) (some h13.1.1)).bind fun V16 => (nwMO 107 100 12 (h15.1, V16)).bind fun h17 => (pR h17.1 12 13 h17.2 (some o0) (some h15.1.1)).bind fun V18 => (nwMO 107 100 12 (h17.1, V18)).bind fun h19 => (pR h19.1 12 14 h19.2 (some o0) (some h17.1.1)).bind fun V20 => (nwO (100, 2) (h19.1, V20)).bind fun h21 => (pR h21.1 12 15 h21.2 (some o0) (some h19.1.1)).bind fun V22 => (nwO (100, 2) (h21.1, V22)).bind fun h23 => (pR h23.1 12 16 h23.2 (some o0) (some h21.1.1)).bind fun V24 => (nwO (100, 2) (h23.1, V24)).bind fun h25 => (pR h25.1 12 17 h25.2 (some o0) (some h23.1.1)).bind fun V26 => (nwO (106, 9) (h25.1, V26)).bind fun h27 => (aS h27.1 106 h27.2 (some h25.1.1) 0 (some (1000000 + 0))).bind fun V28 => (aS h27.1 106 V28 (some h25.1.1) 1 (some (1000000 + 1))).bind fun V29 => (aS h27.1 106 V29 (some h25.1.1) 2 (some (1000000 + 2))).bind fun V30 => (aS h27.1 106 V30 (some h25.1.1) 3 (some (1000000 + 3))).bind fun V31 => (aS h27.1 106 V31 (some h25.1.1) 4 (some (1000000 + 4))).bind fun V32 => (aS h27.1 106 V32 (some h25.1.1) 5 (some (1000000 + 5))).bind fun V33 => (aS h27.1 106 V33 (some h25.1.1) 6 (some (1000000 + 6))).bind fun V34 => (aS h27.1 106 V34 (some h25.1.1) 7 (some (1000000 + 7))).bind fun V35 => (aS h27.1 106 V35 (some h25.1.1) 8 (some (1000000 + 8))).bind fun V36 => (pR h27.1 12 18 V36 (some o0) (some h25.1.1)).bind fun V37 => (nwO (102, 12) (h27.1, V37)).bind fun h38 => (pR h38.1 12 19 h38.2 (some o0) (some h27.1.1)).bind fun V39 => (nwO (102, 10) (h38.1, V39)).bind fun h40 => (pR h40.1 12 20 h40.2 (some o0) (some h38.1.1)).bind fun V41 => (nwO (102, 10) (h40.1, V41)).bind fun h42 => (pR h42.1 12 21 h42.2 (some o0) (some h40.1.1)).bind fun V43 => (nwO (100, 10) (h42.1, V43)).bind fun h44 => (pR h44.1 12 22 h44.2 (some o0) (some h42.1.1)).bind fun V45 => (nwO (100, 10) (h44.1, V45)).bind fun h46 => (pR h46.1 12 23 h46.2 (some o0) (some h44.1.1)).bind fun V47 => (nwO (100, 4) (h46.1, V47)).bind fun h48 => (pR h48.1 12 24 h48.2 (some o0) (some h46.1.1)).bind fun V49 => (nwO (100, 4) (h48.1, V49)).bind fun h50 => (pR h50.1 12 25 h50.2 (some o0) (some h48.1.1)).bind fun V51 => (nwO (100, 1200) (h50.1, V51)).bind fun h52 => (pR h52.1 12 27 h52.2 (some o0) (some h50.1.1)).bind fun V53 => (nwO (100, 1200) (h52.1, V53)).bind fun h54 => (pR h54.1 12 28 h54.2 (some o0) (some h52.1.1)).bind fun V55 => (nwO (100, 1200) (h54.1, V55)).bind fun h56 => (pR h56.1 12 29 h56.2 (some o0) (some h54.1.1)).bind fun V57 => (nwO (100, 10) (h56.1, V57)).bind fun h58 => (pR h58.1 12 30 h58.2 (some o0) (some h56.1.1)).bind fun V59 => (nwO (102, 100) (h58.1, V59)).bind fun h60 => (pR h60.1 12 32 h60.2 (some o0) (some h58.1.1)).bind fun V61 => (nwO (102, 100) (h60.1, V61)).bind fun h62 => (pR h62.1 12 33 h62.2 (some o0) (some h60.1.1)).bind fun V63 => (nwO (100, 10) (h62.1, V63)).bind fun h64 => (pR h64.1 12 34 h64.2 (some o0) (some h62.1.1)).bind fun V65 => (nwO (100, 10) (h64.1, V65)).bind fun h66 => (pR h66.1 12 35 h66.2 (some o0) (some h64.1.1)).bind fun V67 => (nwO (100, 10) (h66.1, V67)).bind fun h68 => (pR h68.1 12 36 h68.2 (some o0) (some h66.1.1)).bind fun V69 => (nwO (100, 10) (h68.1, V69)).bind fun h70 => (pR h70.1 12 37 h70.2 (some o0) (some h68.1.1)).bind fun V71 => (nwO (100, 1024) (h70.1, V71)).bind fun h72 => (pR h72.1 12 38 h72.2 (some o0) (some h70.1.1)).bind fun V73 => (nwO (100, 10) (h72.1, V73)).bind fun h74 => (pR h74.1 12 39 h74.2 (some o0) (some h72.1.1)).bind fun V75 => (nwO (100, 10) (h74.1, V75)).bind fun h76 => (pR h76.1 12 40 h76.2 (some o0) (some h74.1.1)).bind fun V77 => (nwO (100, 10) (h76.1, V77)).bind fun h78 => (pR h78.1 12 41 h78.2 (some o0) (some h76.1.1)).bind fun V79 => (nwO (102, 1024) (h78.1, V79)).bind fun h80 => (pR h80.1 12 42 h80.2 (some o0) (some h78.1.1)).bind fun V81 => (nwO (100, 6400) (h80.1, V81)).bind fun h82 => (pR h82.1 12 44 h82.2 (some o0) (some h80.1.1)).bind fun V83 => (nwO (100, 6400) (h82.1, V83)).bind fun h84 => (pR h84.1 12 45 h84.2 (some o0) (some h82.1.1)).bind fun V85 => (nwO (100, 10) (h84.1, V85)).bind fun h86 => (pR h86.1 12 46 h86.2 (some o0) (some h84.1.1)).bind fun V87 => (nwO (100, 10) (h86.1, V87)).bind fun h88 => (pR h88.1 12 47 h88.2 (some o0) (some h86.1.1)).bind fun V89 => (nwO (100, 10) (h88.1, V89)).bind fun h90 => (pR h90.1 12 48 h90.2 (some o0) (some h88.1.1)).bind fun V91 => (nwO (100, 10) (h90.1, V91)).bind fun h92 => (pR h92.1 12 49 h92.2 (some o0) (some h90.1.1)).bind fun V93 => (nwO (100, 10) (h92.1, V93)).bind fun h94 => (pR h94.1 12 50 h94.2 (some o0) (some h92.1.1)).bind fun V95 => (nwO (100, 8) (h94.1, V95)).bind fun h96 => (pR h96.1 12 51 h96.2 (some o0) (some h94.1.1)).bind fun V97 => (nwO (100, 80) (h96.1, V97)).bind fun h98 => (pR h98.1 12 61 h98.2 (some o0) (some h96.1.1)).bind fun V99 => (nwO (100, 3) (h98.1, V99)).bind fun h100 => (pR h100.1 12 62 h100.2 (some o0) (some h98.1.1)).bind fun V101 => (nwO (100, 3) (h100.1, V101)).bind fun h102 => (pR h102.1 12 63 h102.2 (some o0) (some h100.1.1)).bind fun V103 => some (h102.1, V103)
def M_Court_init : jM := ("FirstIn$Court", ⟨"FirstIn$Court", "<init>", "()V"⟩, prog_2_method_1_code, 2, none, { frames := 6, cells := 28, slots := 253, locals := 100 * 6 }, 28, 253, 0)
def Court_init_L73 (o0 : Nat) (s73 : Int32 × (hS × hV)) : Option ((Int32 × (hS × hV)) ⊕ (hS × hV)) :=
  (jgd s73.1 12).bind fun _ => (gR s73.2.1 0 1 s73.2.2 (some o0)).bind fun x16 => (aN s73.2.1 x16).bind fun x17 => if x17 ≤ s73.1 then (some (.inr (s73.2.1, s73.2.2))) else ((gR s73.2.1 0 1 s73.2.2 (some o0)).bind fun x18 => (jgs s73.1 12).bind fun _ => (nwO (7, 0) (s73.2.1, s73.2.2)).bind fun h19 => (Rule_init h19.1 (some s73.2.1.1) h19.2).bind fun h20 => (rc h20.1 7 (some s73.2.1.1)).bind fun _ => (aS h20.1 105 h20.2 x18 s73.1 (some s73.2.1.1)).bind fun V21 => some (.inl (s73.1 + 1, (h20.1, V21))))
def Court_init (S : hS) (v0 : Option Nat) (V : hV) : Option (hS × hV) :=
  (rc S 0 v0).bind fun o0 => (nwO (100, 5) (S, V)).bind fun h1 => (pR h1.1 0 0 h1.2 (some o0) (some S.1)).bind fun V2 => (nwO (105, 12) (h1.1, V2)).bind fun h3 => (pR h3.1 0 1 h3.2 (some o0) (some h1.1.1)).bind fun V4 => (nwO (100, 10) (h3.1, V4)).bind fun h5 => (pR h5.1 0 2 h5.2 (some o0) (some h3.1.1)).bind fun V6 => (nwO (100, 10) (h5.1, V6)).bind fun h7 => (pR h7.1 0 3 h7.2 (some o0) (some h5.1.1)).bind fun V8 => (pI h7.1 0 4 V8 (some o0) 0).bind fun V9 => (pI h7.1 0 5 V9 (some o0) 0).bind fun V10 => (pI h7.1 0 6 V10 (some o0) 0).bind fun V11 => (pI h7.1 0 7 V11 (some o0) 0).bind fun V12 => (pI h7.1 0 8 V12 (some o0) 0).bind fun V13 => (pI h7.1 0 9 V13 (some o0) 0).bind fun V14 => (pI h7.1 0 10 V14 (some o0) 0).bind fun V15 => (jloop (Court_init_L73 o0) jN (0, (h7.1, V15))).bind fun q73 => some (q73.1, q73.2)
def M_Room_init : jM := ("FirstIn$Room", ⟨"FirstIn$Room", "<init>", "(I)V"⟩, prog_8_method_1_code, 2, none, { frames := 6, cells := 9, slots := 87, locals := 100 * 6 }, 9, 87, 6)
def Room_init (S : hS) (v0 : Option Nat) (v1 : Int32) (V : hV) : Option (hS × hV) :=
  (rc S 6 v0).bind fun o0 => (nwO (2, 0) (S, V)).bind fun h1 => (Found_init h1.1 (some S.1) h1.2).bind fun h2 => (pR h2.1 6 1 h2.2 (some o0) (some S.1)).bind fun V3 => (nwO (2, 0) (h2.1, V3)).bind fun h4 => (Found_init h4.1 (some h2.1.1) h4.2).bind fun h5 => (pR h5.1 6 2 h5.2 (some o0) (some h2.1.1)).bind fun V6 => (nwO (2, 0) (h5.1, V6)).bind fun h7 => (Found_init h7.1 (some h5.1.1) h7.2).bind fun h8 => (pR h8.1 6 3 h8.2 (some o0) (some h5.1.1)).bind fun V9 => (pI h8.1 6 4 V9 (some o0) 0).bind fun V10 => (pI h8.1 6 5 V10 (some o0) 1).bind fun V11 => (pI h8.1 6 6 V11 (some o0) (-1)).bind fun V12 => (pI h8.1 6 7 V12 (some o0) 0).bind fun V13 => (pI h8.1 6 0 V13 (some o0) v1).bind fun V14 => some (h8.1, V14)
def M_Search_init : jM := ("FirstIn$Search", ⟨"FirstIn$Search", "<init>", "()V"⟩, prog_10_method_1_code, 1, none, { frames := 6, cells := 12, slots := 923, locals := 100 * 6 }, 12, 923, 8)
def Search_init (S : hS) (v0 : Option Nat) (V : hV) : Option (hS × hV) :=
  (rc S 8 v0).bind fun o0 => (nwO (3, 0) (S, V)).bind fun h1 => (Pairs_init h1.1 (some S.1) h1.2).bind fun h2 => (pR h2.1 8 0 h2.2 (some o0) (some S.1)).bind fun V3 => (nwO (100, 7) (h2.1, V3)).bind fun h4 => (pR h4.1 8 1 h4.2 (some o0) (some h2.1.1)).bind fun V5 => (nwO (100, 7) (h4.1, V5)).bind fun h6 => (pR h6.1 8 2 h6.2 (some o0) (some h4.1.1)).bind fun V7 => (pI h6.1 8 3 V7 (some o0) 0).bind fun V8 => (pI h6.1 8 4 V8 (some o0) 0).bind fun V9 => (pI h6.1 8 5 V9 (some o0) 0).bind fun V10 => (pI h6.1 8 6 V10 (some o0) 0).bind fun V11 => (nwO (2, 0) (h6.1, V11)).bind fun h12 => (Found_init h12.1 (some h6.1.1) h12.2).bind fun h13 => (pR h13.1 8 7 h13.2 (some o0) (some h6.1.1)).bind fun V14 => some (h13.1, V14)
def M_Reader_init : jM := ("FirstIn$Reader", ⟨"FirstIn$Reader", "<init>", "(LFirstIn$Text;)V"⟩, prog_7_method_1_code, 2, none, { frames := 9, cells := 2, slots := 30, locals := 100 * 9 }, 2, 30, 5)
def Reader_init (S : hS) (v0 : Option Nat) (v1 : Option Nat) (V : hV) : Option (hS × hV) :=
  (rc S 5 v0).bind fun o0 => (Text_codeOf S (some (1000000 + 0)) V).bind fun x1 => (pL S 5 1 V (some o0) x1).bind fun V2 => (Text_codeOf S (some (1000000 + 1)) V2).bind fun x3 => (pL S 5 2 V2 (some o0) x3).bind fun V4 => (Text_codeOf S (some (1000000 + 2)) V4).bind fun x5 => (pL S 5 3 V4 (some o0) x5).bind fun V6 => (Text_codeOf S (some (1000000 + 3)) V6).bind fun x7 => (pL S 5 4 V6 (some o0) x7).bind fun V8 => (Text_codeOf S (some (1000000 + 4)) V8).bind fun x9 => (pL S 5 5 V8 (some o0) x9).bind fun V10 => (Text_codeOf S (some (1000000 + 5)) V10).bind fun x11 => (pL S 5 6 V10 (some o0) x11).bind fun V12 => (Text_codeOf S (some (1000000 + 6)) V12).bind fun x13 => (pL S 5 7 V12 (some o0) x13).bind fun V14 => (Text_codeOf S (some (1000000 + 7)) V14).bind fun x15 => (pL S 5 8 V14 (some o0) x15).bind fun V16 => (Text_codeOf S (some (1000000 + 8)) V16).bind fun x17 => (pL S 5 9 V16 (some o0) x17).bind fun V18 => (nwO (103, 15) (S, V18)).bind fun h19 => (pR h19.1 5 10 h19.2 (some o0) (some S.1)).bind fun V20 => (nwO (100, 15) (h19.1, V20)).bind fun h21 => (pR h21.1 5 11 h21.2 (some o0) (some h19.1.1)).bind fun V22 => (pI h21.1 5 12 V22 (some o0) 0).bind fun V23 => (pR h21.1 5 0 V23 (some o0) v1).bind fun V24 => some (h21.1, V24)
def M_Fi_init : jM := ("FirstIn", ⟨"FirstIn", "<init>", "()V"⟩, prog_1_method_1_code, 2, none, { frames := 10, cells := 131, slots := 3799, locals := 100 * 10 }, 131, 3799, 11)
def Fi_init_L40 (o0 : Nat) (s40 : Int32 × (hS × hV)) : Option ((Int32 × (hS × hV)) ⊕ (hS × hV)) :=
  (jgd s40.1 4).bind fun _ => (gR s40.2.1 11 2 s40.2.2 (some o0)).bind fun x10 => (aN s40.2.1 x10).bind fun x11 => if x11 ≤ s40.1 then (some (.inr (s40.2.1, s40.2.2))) else ((gR s40.2.1 11 2 s40.2.2 (some o0)).bind fun x12 => (jgs s40.1 4).bind fun _ => (nwO (6, 0) (s40.2.1, s40.2.2)).bind fun h13 => (Room_init h13.1 (some s40.2.1.1) s40.1 h13.2).bind fun h14 => (rc h14.1 6 (some s40.2.1.1)).bind fun _ => (aS h14.1 104 h14.2 x12 s40.1 (some s40.2.1.1)).bind fun V15 => some (.inl (s40.1 + 1, (h14.1, V15))))
def Fi_init (S : hS) (v0 : Option Nat) (V : hV) : Option (hS × hV) :=
  (rc S 11 v0).bind fun o0 => (nwO (10, 0) (S, V)).bind fun h1 => (Text_init h1.1 (some S.1) h1.2).bind fun h2 => (pR h2.1 11 0 h2.2 (some o0) (some S.1)).bind fun V3 => (nwO (5, 0) (h2.1, V3)).bind fun h4 => (gR h4.1 11 0 h4.2 (some o0)).bind fun x5 => (Reader_init h4.1 (some h2.1.1) x5 h4.2).bind fun h6 => (pR h6.1 11 1 h6.2 (some o0) (some h2.1.1)).bind fun V7 => (nwO (104, 4) (h6.1, V7)).bind fun h8 => (pR h8.1 11 2 h8.2 (some o0) (some h6.1.1)).bind fun V9 => (jloop (Fi_init_L40 o0) jN (0, (h8.1, V9))).bind fun q40 => (nwO (4, 0) (q40.1, q40.2)).bind fun h16 => (Rank_init h16.1 (some q40.1.1) h16.2).bind fun h17 => (pR h17.1 11 3 h17.2 (some o0) (some q40.1.1)).bind fun V18 => (nwO (9, 0) (h17.1, V18)).bind fun h19 => (Slights_init h19.1 (some h17.1.1) h19.2).bind fun h20 => (pR h20.1 11 4 h20.2 (some o0) (some h17.1.1)).bind fun V21 => (nwO (1, 0) (h20.1, V21)).bind fun h22 => (Evening_init h22.1 (some h20.1.1) h22.2).bind fun h23 => (pR h23.1 11 5 h23.2 (some o0) (some h20.1.1)).bind fun V24 => (nwO (8, 0) (h23.1, V24)).bind fun h25 => (Search_init h25.1 (some h23.1.1) h25.2).bind fun h26 => (pR h26.1 11 6 h26.2 (some o0) (some h23.1.1)).bind fun V27 => (nwO (0, 0) (h26.1, V27)).bind fun h28 => (Court_init h28.1 (some h26.1.1) h28.2).bind fun h29 => (pR h29.1 11 7 h29.2 (some o0) (some h26.1.1)).bind fun V30 => (nwO (0, 0) (h29.1, V30)).bind fun h31 => (Court_init h31.1 (some h29.1.1) h31.2).bind fun h32 => (pR h32.1 11 8 h32.2 (some o0) (some h29.1.1)).bind fun V33 => (pI h32.1 11 9 V33 (some o0) 0).bind fun V34 => some (h32.1, V34)
def tb_Evening_init : List (Nat × Instr × Nat) := [(0, .aload_n 0, 1), (1, .invokespecial 3, 3), (4, .aload_n 0, 1), (5, .bipush 80, 2), (7, .newarray .int, 2), (9, .putfield 9, 3), (12, .aload_n 0, 1), (13, .iconst 3, 1), (14, .newarray .int, 2), (16, .putfield 15, 3), (19, .aload_n 0, 1), (20, .iconst 0, 1), (21, .putfield 18, 3), (24, .return_, 1)]
theorem dt_Evening_init (i : Nat) (q : Nat × Instr × Nat) (h : tb_Evening_init[i]? = some q) : decode prog_3_method_1_code q.1 = .ok q.2 := jdt (by decide +kernel : tb_Evening_init.all (fun q => decide (decode prog_3_method_1_code q.1 = .ok q.2)) = true) h
theorem ok_Evening_init : jOKI M_Evening_init 0 := ⟨⟨gt2 100 rfl rfl, gt1 12 rfl rfl, (by decide : "FirstIn$Evening" ≠ "java/lang/invoke/MethodHandle"), (by decide : "FirstIn$Evening" ≠ "java/lang/invoke/VarHandle"), (by decide +kernel : (parseMethodDescriptor "()V").map (fun d => d.parameters.length) = some 0)⟩, gt2 99 rfl rfl, rfl⟩
set_option maxRecDepth 100000 in
set_option maxHeartbeats 4000000 in
theorem c_Evening_init {G : jG} {S : hS} {V : hV} {v0 : Option Nat} {res : hS × hV} (hf : Evening_init S v0 V = some res) : jC G M_Evening_init [ar v0] (S, V) none res := by
  unfold Evening_init at hf
  obtain ⟨o0, ho, hg⟩ := jbind hf
  obtain ⟨e0, ho0⟩ := rc_spec ho
  clear hf
  subst e0
  have hf := hg
  clear hg
  refine jC_of (pf_X1 _ _) rfl (nle rfl) ?_
  show jJ G M_Evening_init (jEnd G M_Evening_init none res) 0 0 0 [(0, ar (some o0))] [] (S, V)
  refine j_aload_n (dt_Evening_init 0 (0, .aload_n 0, 1) rfl) rfl ?_
  refine j_objInit (dt_Evening_init 1 (1, .invokespecial 3, 3) rfl) (gt2 101 rfl rfl) ho0.1 (nle rfl) ⟨nle rfl, nle rfl⟩ ?_
  refine j_aload_n (dt_Evening_init 2 (4, .aload_n 0, 1) rfl) rfl ?_
  refine j_bipush (dt_Evening_init 3 (5, .bipush 80, 2) rfl) bp_80 ?_
  obtain ⟨h1, hh1, hf⟩ := jbind hf
  refine j_newa 100 (N := 80) (dt_Evening_init 4 (7, .newarray .int, 2) rfl) ⟨⟨nle rfl, nlt rfl⟩, rfl⟩ (gt1 169 rfl rfl) hh1 ⟨by decide, by decide, nle rfl⟩ ⟨nle rfl, nle rfl⟩ ?_
  obtain ⟨V2, hV2, hf⟩ := jbind hf
  refine j_putR (dt_Evening_init 5 (9, .putfield 9, 3) rfl) fl_X1_9 hV2 (Or.inr ⟨_, rfl⟩) (Or.inr ⟨rfl, rfl, rfl⟩) ?_
  refine j_aload_n (dt_Evening_init 6 (12, .aload_n 0, 1) rfl) rfl ?_
  refine j_iconst (dt_Evening_init 7 (13, .iconst 3, 1) rfl) ic_3 ?_
  obtain ⟨h3, hh3, hf⟩ := jbind hf
  refine j_newa 100 (N := 3) (dt_Evening_init 8 (14, .newarray .int, 2) rfl) ⟨⟨nle rfl, nlt rfl⟩, rfl⟩ (gt1 169 rfl rfl) hh3 ⟨by decide, by decide, nle rfl⟩ ⟨nle rfl, nle rfl⟩ ?_
  obtain ⟨V4, hV4, hf⟩ := jbind hf
  refine j_putR (dt_Evening_init 9 (16, .putfield 15, 3) rfl) fl_X1_15 hV4 (Or.inr ⟨_, rfl⟩) (Or.inr ⟨rfl, rfl, rfl⟩) ?_
  refine j_aload_n (dt_Evening_init 10 (19, .aload_n 0, 1) rfl) rfl ?_
  refine j_iconst (dt_Evening_init 11 (20, .iconst 0, 1) rfl) ic_0 ?_
  obtain ⟨V5, hV5, hf⟩ := jbind hf
  refine j_putI (dt_Evening_init 12 (21, .putfield 18, 3) rfl) fl_X1_18 hV5 rfl (Or.inl rfl) ?_
  cases hf
  exact j_vret (dt_Evening_init 13 (24, .return_, 1) rfl) rfl
def tb_Found_init : List (Nat × Instr × Nat) := [(0, .aload_n 0, 1), (1, .invokespecial 3, 3), (4, .aload_n 0, 1), (5, .bipush 10, 2), (7, .newarray .int, 2), (9, .putfield 9, 3), (12, .aload_n 0, 1), (13, .bipush 10, 2), (15, .newarray .int, 2), (17, .putfield 15, 3), (20, .aload_n 0, 1), (21, .iconst (-1), 1), (22, .putfield 18, 3), (25, .aload_n 0, 1), (26, .iconst 0, 1), (27, .putfield 22, 3), (30, .aload_n 0, 1), (31, .iconst 0, 1), (32, .putfield 25, 3), (35, .aload_n 0, 1), (36, .iconst 0, 1), (37, .putfield 29, 3), (40, .aload_n 0, 1), (41, .iconst 0, 1), (42, .putfield 32, 3), (45, .aload_n 0, 1), (46, .iconst 0, 1), (47, .putfield 35, 3), (50, .aload_n 0, 1), (51, .iconst 0, 1), (52, .putfield 38, 3), (55, .return_, 1)]
theorem dt_Found_init (i : Nat) (q : Nat × Instr × Nat) (h : tb_Found_init[i]? = some q) : decode prog_4_method_1_code q.1 = .ok q.2 := jdt (by decide +kernel : tb_Found_init.all (fun q => decide (decode prog_4_method_1_code q.1 = .ok q.2)) = true) h
theorem ok_Found_init : jOKI M_Found_init 0 := ⟨⟨gt1 181 rfl rfl, gt1 9 rfl rfl, (by decide : "FirstIn$Found" ≠ "java/lang/invoke/MethodHandle"), (by decide : "FirstIn$Found" ≠ "java/lang/invoke/VarHandle"), (by decide +kernel : (parseMethodDescriptor "()V").map (fun d => d.parameters.length) = some 0)⟩, gt1 180 rfl rfl, rfl⟩
set_option maxRecDepth 100000 in
set_option maxHeartbeats 4000000 in
theorem c_Found_init {G : jG} {S : hS} {V : hV} {v0 : Option Nat} {res : hS × hV} (hf : Found_init S v0 V = some res) : jC G M_Found_init [ar v0] (S, V) none res := by
  unfold Found_init at hf
  obtain ⟨o0, ho, hg⟩ := jbind hf
  obtain ⟨e0, ho0⟩ := rc_spec ho
  clear hf
  subst e0
  have hf := hg
  clear hg
  refine jC_of (pf_X2 _ _) rfl (nle rfl) ?_
  show jJ G M_Found_init (jEnd G M_Found_init none res) 0 0 0 [(0, ar (some o0))] [] (S, V)
  refine j_aload_n (dt_Found_init 0 (0, .aload_n 0, 1) rfl) rfl ?_
  refine j_objInit (dt_Found_init 1 (1, .invokespecial 3, 3) rfl) (gt1 182 rfl rfl) ho0.1 (nle rfl) ⟨nle rfl, nle rfl⟩ ?_
  refine j_aload_n (dt_Found_init 2 (4, .aload_n 0, 1) rfl) rfl ?_
  refine j_bipush (dt_Found_init 3 (5, .bipush 10, 2) rfl) bp_10 ?_
  obtain ⟨h1, hh1, hf⟩ := jbind hf
  refine j_newa 100 (N := 10) (dt_Found_init 4 (7, .newarray .int, 2) rfl) ⟨⟨nle rfl, nlt rfl⟩, rfl⟩ (gt1 169 rfl rfl) hh1 ⟨by decide, by decide, nle rfl⟩ ⟨nle rfl, nle rfl⟩ ?_
  obtain ⟨V2, hV2, hf⟩ := jbind hf
  refine j_putR (dt_Found_init 5 (9, .putfield 9, 3) rfl) fl_X2_9 hV2 (Or.inr ⟨_, rfl⟩) (Or.inr ⟨rfl, rfl, rfl⟩) ?_
  refine j_aload_n (dt_Found_init 6 (12, .aload_n 0, 1) rfl) rfl ?_
  refine j_bipush (dt_Found_init 7 (13, .bipush 10, 2) rfl) bp_10 ?_
  obtain ⟨h3, hh3, hf⟩ := jbind hf
  refine j_newa 100 (N := 10) (dt_Found_init 8 (15, .newarray .int, 2) rfl) ⟨⟨nle rfl, nlt rfl⟩, rfl⟩ (gt1 169 rfl rfl) hh3 ⟨by decide, by decide, nle rfl⟩ ⟨nle rfl, nle rfl⟩ ?_
  obtain ⟨V4, hV4, hf⟩ := jbind hf
  refine j_putR (dt_Found_init 9 (17, .putfield 15, 3) rfl) fl_X2_15 hV4 (Or.inr ⟨_, rfl⟩) (Or.inr ⟨rfl, rfl, rfl⟩) ?_
  refine j_aload_n (dt_Found_init 10 (20, .aload_n 0, 1) rfl) rfl ?_
  refine j_iconst (dt_Found_init 11 (21, .iconst (-1), 1) rfl) ic_m1 ?_
  obtain ⟨V5, hV5, hf⟩ := jbind hf
  refine j_putI (dt_Found_init 12 (22, .putfield 18, 3) rfl) fl_X2_18 hV5 rfl (Or.inl rfl) ?_
  refine j_aload_n (dt_Found_init 13 (25, .aload_n 0, 1) rfl) rfl ?_
  refine j_iconst (dt_Found_init 14 (26, .iconst 0, 1) rfl) ic_0 ?_
  obtain ⟨V6, hV6, hf⟩ := jbind hf
  refine j_putI (dt_Found_init 15 (27, .putfield 22, 3) rfl) fl_X2_22 hV6 rfl (Or.inl rfl) ?_
  refine j_aload_n (dt_Found_init 16 (30, .aload_n 0, 1) rfl) rfl ?_
  refine j_iconst (dt_Found_init 17 (31, .iconst 0, 1) rfl) ic_0 ?_
  obtain ⟨V7, hV7, hf⟩ := jbind hf
  refine j_putZ (dt_Found_init 18 (32, .putfield 25, 3) rfl) fl_X2_25 hV7 rfl (Or.inl rfl) ?_
  refine j_aload_n (dt_Found_init 19 (35, .aload_n 0, 1) rfl) rfl ?_
  refine j_iconst (dt_Found_init 20 (36, .iconst 0, 1) rfl) ic_0 ?_
  obtain ⟨V8, hV8, hf⟩ := jbind hf
  refine j_putI (dt_Found_init 21 (37, .putfield 29, 3) rfl) fl_X2_29 hV8 rfl (Or.inl rfl) ?_
  refine j_aload_n (dt_Found_init 22 (40, .aload_n 0, 1) rfl) rfl ?_
  refine j_iconst (dt_Found_init 23 (41, .iconst 0, 1) rfl) ic_0 ?_
  obtain ⟨V9, hV9, hf⟩ := jbind hf
  refine j_putI (dt_Found_init 24 (42, .putfield 32, 3) rfl) fl_X2_32 hV9 rfl (Or.inl rfl) ?_
  refine j_aload_n (dt_Found_init 25 (45, .aload_n 0, 1) rfl) rfl ?_
  refine j_iconst (dt_Found_init 26 (46, .iconst 0, 1) rfl) ic_0 ?_
  obtain ⟨V10, hV10, hf⟩ := jbind hf
  refine j_putI (dt_Found_init 27 (47, .putfield 35, 3) rfl) fl_X2_35 hV10 rfl (Or.inl rfl) ?_
  refine j_aload_n (dt_Found_init 28 (50, .aload_n 0, 1) rfl) rfl ?_
  refine j_iconst (dt_Found_init 29 (51, .iconst 0, 1) rfl) ic_0 ?_
  obtain ⟨V11, hV11, hf⟩ := jbind hf
  refine j_putI (dt_Found_init 30 (52, .putfield 38, 3) rfl) fl_X2_38 hV11 rfl (Or.inl rfl) ?_
  cases hf
  exact j_vret (dt_Found_init 31 (55, .return_, 1) rfl) rfl
def tb_Pairs_init : List (Nat × Instr × Nat) := [(0, .aload_n 0, 1), (1, .invokespecial 3, 3), (4, .aload_n 0, 1), (5, .bipush 7, 2), (7, .newarray .int, 2), (9, .putfield 9, 3), (12, .aload_n 0, 1), (13, .bipush 64, 2), (15, .newarray .int, 2), (17, .putfield 15, 3), (20, .aload_n 0, 1), (21, .sipush 392, 3), (24, .newarray .int, 2), (26, .putfield 18, 3), (29, .aload_n 0, 1), (30, .sipush 392, 3), (33, .newarray .int, 2), (35, .putfield 21, 3), (38, .aload_n 0, 1), (39, .bipush 8, 2), (41, .newarray .int, 2), (43, .putfield 24, 3), (46, .aload_n 0, 1), (47, .bipush 8, 2), (49, .newarray .int, 2), (51, .putfield 27, 3), (54, .aload_n 0, 1), (55, .iconst 0, 1), (56, .putfield 30, 3), (59, .aload_n 0, 1), (60, .iconst 0, 1), (61, .putfield 34, 3), (64, .aload_n 0, 1), (65, .iconst 0, 1), (66, .putfield 37, 3), (69, .return_, 1)]
theorem dt_Pairs_init (i : Nat) (q : Nat × Instr × Nat) (h : tb_Pairs_init[i]? = some q) : decode prog_5_method_1_code q.1 = .ok q.2 := jdt (by decide +kernel : tb_Pairs_init.all (fun q => decide (decode prog_5_method_1_code q.1 = .ok q.2)) = true) h
theorem ok_Pairs_init : jOKI M_Pairs_init 0 := ⟨⟨gt2 124 rfl rfl, gt1 14 rfl rfl, (by decide : "FirstIn$Pairs" ≠ "java/lang/invoke/MethodHandle"), (by decide : "FirstIn$Pairs" ≠ "java/lang/invoke/VarHandle"), (by decide +kernel : (parseMethodDescriptor "()V").map (fun d => d.parameters.length) = some 0)⟩, gt2 123 rfl rfl, rfl⟩
set_option maxRecDepth 100000 in
set_option maxHeartbeats 4000000 in
theorem c_Pairs_init {G : jG} {S : hS} {V : hV} {v0 : Option Nat} {res : hS × hV} (hf : Pairs_init S v0 V = some res) : jC G M_Pairs_init [ar v0] (S, V) none res := by
  unfold Pairs_init at hf
  obtain ⟨o0, ho, hg⟩ := jbind hf
  obtain ⟨e0, ho0⟩ := rc_spec ho
  clear hf
  subst e0
  have hf := hg
  clear hg
  refine jC_of (pf_X3 _ _) rfl (nle rfl) ?_
  show jJ G M_Pairs_init (jEnd G M_Pairs_init none res) 0 0 0 [(0, ar (some o0))] [] (S, V)
  refine j_aload_n (dt_Pairs_init 0 (0, .aload_n 0, 1) rfl) rfl ?_
  refine j_objInit (dt_Pairs_init 1 (1, .invokespecial 3, 3) rfl) (gt2 125 rfl rfl) ho0.1 (nle rfl) ⟨nle rfl, nle rfl⟩ ?_
  refine j_aload_n (dt_Pairs_init 2 (4, .aload_n 0, 1) rfl) rfl ?_
  refine j_bipush (dt_Pairs_init 3 (5, .bipush 7, 2) rfl) bp_7 ?_
  obtain ⟨h1, hh1, hf⟩ := jbind hf
  refine j_newa 100 (N := 7) (dt_Pairs_init 4 (7, .newarray .int, 2) rfl) ⟨⟨nle rfl, nlt rfl⟩, rfl⟩ (gt1 169 rfl rfl) hh1 ⟨by decide, by decide, nle rfl⟩ ⟨nle rfl, nle rfl⟩ ?_
  obtain ⟨V2, hV2, hf⟩ := jbind hf
  refine j_putR (dt_Pairs_init 5 (9, .putfield 9, 3) rfl) fl_X3_9 hV2 (Or.inr ⟨_, rfl⟩) (Or.inr ⟨rfl, rfl, rfl⟩) ?_
  refine j_aload_n (dt_Pairs_init 6 (12, .aload_n 0, 1) rfl) rfl ?_
  refine j_bipush (dt_Pairs_init 7 (13, .bipush 64, 2) rfl) bp_64 ?_
  obtain ⟨h3, hh3, hf⟩ := jbind hf
  refine j_newa 100 (N := 64) (dt_Pairs_init 8 (15, .newarray .int, 2) rfl) ⟨⟨nle rfl, nlt rfl⟩, rfl⟩ (gt1 169 rfl rfl) hh3 ⟨by decide, by decide, nle rfl⟩ ⟨nle rfl, nle rfl⟩ ?_
  obtain ⟨V4, hV4, hf⟩ := jbind hf
  refine j_putR (dt_Pairs_init 9 (17, .putfield 15, 3) rfl) fl_X3_15 hV4 (Or.inr ⟨_, rfl⟩) (Or.inr ⟨rfl, rfl, rfl⟩) ?_
  refine j_aload_n (dt_Pairs_init 10 (20, .aload_n 0, 1) rfl) rfl ?_
  refine j_sipush (dt_Pairs_init 11 (21, .sipush 392, 3) rfl) sp_392 ?_
  obtain ⟨h5, hh5, hf⟩ := jbind hf
  refine j_newa 100 (N := 392) (dt_Pairs_init 12 (24, .newarray .int, 2) rfl) ⟨⟨nle rfl, nlt rfl⟩, rfl⟩ (gt1 169 rfl rfl) hh5 ⟨by decide, by decide, nle rfl⟩ ⟨nle rfl, nle rfl⟩ ?_
  obtain ⟨V6, hV6, hf⟩ := jbind hf
  refine j_putR (dt_Pairs_init 13 (26, .putfield 18, 3) rfl) fl_X3_18 hV6 (Or.inr ⟨_, rfl⟩) (Or.inr ⟨rfl, rfl, rfl⟩) ?_
  refine j_aload_n (dt_Pairs_init 14 (29, .aload_n 0, 1) rfl) rfl ?_
  refine j_sipush (dt_Pairs_init 15 (30, .sipush 392, 3) rfl) sp_392 ?_
  obtain ⟨h7, hh7, hf⟩ := jbind hf
  refine j_newa 100 (N := 392) (dt_Pairs_init 16 (33, .newarray .int, 2) rfl) ⟨⟨nle rfl, nlt rfl⟩, rfl⟩ (gt1 169 rfl rfl) hh7 ⟨by decide, by decide, nle rfl⟩ ⟨nle rfl, nle rfl⟩ ?_
  obtain ⟨V8, hV8, hf⟩ := jbind hf
  refine j_putR (dt_Pairs_init 17 (35, .putfield 21, 3) rfl) fl_X3_21 hV8 (Or.inr ⟨_, rfl⟩) (Or.inr ⟨rfl, rfl, rfl⟩) ?_
  refine j_aload_n (dt_Pairs_init 18 (38, .aload_n 0, 1) rfl) rfl ?_
  refine j_bipush (dt_Pairs_init 19 (39, .bipush 8, 2) rfl) bp_8 ?_
  obtain ⟨h9, hh9, hf⟩ := jbind hf
  refine j_newa 100 (N := 8) (dt_Pairs_init 20 (41, .newarray .int, 2) rfl) ⟨⟨nle rfl, nlt rfl⟩, rfl⟩ (gt1 169 rfl rfl) hh9 ⟨by decide, by decide, nle rfl⟩ ⟨nle rfl, nle rfl⟩ ?_
  obtain ⟨V10, hV10, hf⟩ := jbind hf
  refine j_putR (dt_Pairs_init 21 (43, .putfield 24, 3) rfl) fl_X3_24 hV10 (Or.inr ⟨_, rfl⟩) (Or.inr ⟨rfl, rfl, rfl⟩) ?_
  refine j_aload_n (dt_Pairs_init 22 (46, .aload_n 0, 1) rfl) rfl ?_
  refine j_bipush (dt_Pairs_init 23 (47, .bipush 8, 2) rfl) bp_8 ?_
  obtain ⟨h11, hh11, hf⟩ := jbind hf
  refine j_newa 100 (N := 8) (dt_Pairs_init 24 (49, .newarray .int, 2) rfl) ⟨⟨nle rfl, nlt rfl⟩, rfl⟩ (gt1 169 rfl rfl) hh11 ⟨by decide, by decide, nle rfl⟩ ⟨nle rfl, nle rfl⟩ ?_
  obtain ⟨V12, hV12, hf⟩ := jbind hf
  refine j_putR (dt_Pairs_init 25 (51, .putfield 27, 3) rfl) fl_X3_27 hV12 (Or.inr ⟨_, rfl⟩) (Or.inr ⟨rfl, rfl, rfl⟩) ?_
  refine j_aload_n (dt_Pairs_init 26 (54, .aload_n 0, 1) rfl) rfl ?_
  refine j_iconst (dt_Pairs_init 27 (55, .iconst 0, 1) rfl) ic_0 ?_
  obtain ⟨V13, hV13, hf⟩ := jbind hf
  refine j_putI (dt_Pairs_init 28 (56, .putfield 30, 3) rfl) fl_X3_30 hV13 rfl (Or.inl rfl) ?_
  refine j_aload_n (dt_Pairs_init 29 (59, .aload_n 0, 1) rfl) rfl ?_
  refine j_iconst (dt_Pairs_init 30 (60, .iconst 0, 1) rfl) ic_0 ?_
  obtain ⟨V14, hV14, hf⟩ := jbind hf
  refine j_putI (dt_Pairs_init 31 (61, .putfield 34, 3) rfl) fl_X3_34 hV14 rfl (Or.inl rfl) ?_
  refine j_aload_n (dt_Pairs_init 32 (64, .aload_n 0, 1) rfl) rfl ?_
  refine j_iconst (dt_Pairs_init 33 (65, .iconst 0, 1) rfl) ic_0 ?_
  obtain ⟨V15, hV15, hf⟩ := jbind hf
  refine j_putI (dt_Pairs_init 34 (66, .putfield 37, 3) rfl) fl_X3_37 hV15 rfl (Or.inl rfl) ?_
  cases hf
  exact j_vret (dt_Pairs_init 35 (69, .return_, 1) rfl) rfl
def tb_Rank_init : List (Nat × Instr × Nat) := [(0, .aload_n 0, 1), (1, .invokespecial 3, 3), (4, .aload_n 0, 1), (5, .bipush 10, 2), (7, .newarray .int, 2), (9, .putfield 9, 3), (12, .aload_n 0, 1), (13, .bipush 10, 2), (15, .newarray .int, 2), (17, .putfield 15, 3), (20, .aload_n 0, 1), (21, .bipush 10, 2), (23, .newarray .int, 2), (25, .putfield 18, 3), (28, .aload_n 0, 1), (29, .bipush 10, 2), (31, .newarray .int, 2), (33, .putfield 21, 3), (36, .aload_n 0, 1), (37, .bipush 10, 2), (39, .newarray .int, 2), (41, .putfield 24, 3), (44, .aload_n 0, 1), (45, .bipush 10, 2), (47, .newarray .int, 2), (49, .putfield 27, 3), (52, .aload_n 0, 1), (53, .sipush 1024, 3), (56, .newarray .int, 2), (58, .putfield 30, 3), (61, .aload_n 0, 1), (62, .iconst 0, 1), (63, .putfield 33, 3), (66, .return_, 1)]
theorem dt_Rank_init (i : Nat) (q : Nat × Instr × Nat) (h : tb_Rank_init[i]? = some q) : decode prog_6_method_1_code q.1 = .ok q.2 := jdt (by decide +kernel : tb_Rank_init.all (fun q => decide (decode prog_6_method_1_code q.1 = .ok q.2)) = true) h
theorem ok_Rank_init : jOKI M_Rank_init 0 := ⟨⟨gt2 26 rfl rfl, gt1 10 rfl rfl, (by decide : "FirstIn$Rank" ≠ "java/lang/invoke/MethodHandle"), (by decide : "FirstIn$Rank" ≠ "java/lang/invoke/VarHandle"), (by decide +kernel : (parseMethodDescriptor "()V").map (fun d => d.parameters.length) = some 0)⟩, gt2 25 rfl rfl, rfl⟩
set_option maxRecDepth 100000 in
set_option maxHeartbeats 4000000 in
theorem c_Rank_init {G : jG} {S : hS} {V : hV} {v0 : Option Nat} {res : hS × hV} (hf : Rank_init S v0 V = some res) : jC G M_Rank_init [ar v0] (S, V) none res := by
  unfold Rank_init at hf
  obtain ⟨o0, ho, hg⟩ := jbind hf
  obtain ⟨e0, ho0⟩ := rc_spec ho
  clear hf
  subst e0
  have hf := hg
  clear hg
  refine jC_of (pf_X4 _ _) rfl (nle rfl) ?_
  show jJ G M_Rank_init (jEnd G M_Rank_init none res) 0 0 0 [(0, ar (some o0))] [] (S, V)
  refine j_aload_n (dt_Rank_init 0 (0, .aload_n 0, 1) rfl) rfl ?_
  refine j_objInit (dt_Rank_init 1 (1, .invokespecial 3, 3) rfl) (gt2 27 rfl rfl) ho0.1 (nle rfl) ⟨nle rfl, nle rfl⟩ ?_
  refine j_aload_n (dt_Rank_init 2 (4, .aload_n 0, 1) rfl) rfl ?_
  refine j_bipush (dt_Rank_init 3 (5, .bipush 10, 2) rfl) bp_10 ?_
  obtain ⟨h1, hh1, hf⟩ := jbind hf
  refine j_newa 100 (N := 10) (dt_Rank_init 4 (7, .newarray .int, 2) rfl) ⟨⟨nle rfl, nlt rfl⟩, rfl⟩ (gt1 169 rfl rfl) hh1 ⟨by decide, by decide, nle rfl⟩ ⟨nle rfl, nle rfl⟩ ?_
  obtain ⟨V2, hV2, hf⟩ := jbind hf
  refine j_putR (dt_Rank_init 5 (9, .putfield 9, 3) rfl) fl_X4_9 hV2 (Or.inr ⟨_, rfl⟩) (Or.inr ⟨rfl, rfl, rfl⟩) ?_
  refine j_aload_n (dt_Rank_init 6 (12, .aload_n 0, 1) rfl) rfl ?_
  refine j_bipush (dt_Rank_init 7 (13, .bipush 10, 2) rfl) bp_10 ?_
  obtain ⟨h3, hh3, hf⟩ := jbind hf
  refine j_newa 100 (N := 10) (dt_Rank_init 8 (15, .newarray .int, 2) rfl) ⟨⟨nle rfl, nlt rfl⟩, rfl⟩ (gt1 169 rfl rfl) hh3 ⟨by decide, by decide, nle rfl⟩ ⟨nle rfl, nle rfl⟩ ?_
  obtain ⟨V4, hV4, hf⟩ := jbind hf
  refine j_putR (dt_Rank_init 9 (17, .putfield 15, 3) rfl) fl_X4_15 hV4 (Or.inr ⟨_, rfl⟩) (Or.inr ⟨rfl, rfl, rfl⟩) ?_
  refine j_aload_n (dt_Rank_init 10 (20, .aload_n 0, 1) rfl) rfl ?_
  refine j_bipush (dt_Rank_init 11 (21, .bipush 10, 2) rfl) bp_10 ?_
  obtain ⟨h5, hh5, hf⟩ := jbind hf
  refine j_newa 100 (N := 10) (dt_Rank_init 12 (23, .newarray .int, 2) rfl) ⟨⟨nle rfl, nlt rfl⟩, rfl⟩ (gt1 169 rfl rfl) hh5 ⟨by decide, by decide, nle rfl⟩ ⟨nle rfl, nle rfl⟩ ?_
  obtain ⟨V6, hV6, hf⟩ := jbind hf
  refine j_putR (dt_Rank_init 13 (25, .putfield 18, 3) rfl) fl_X4_18 hV6 (Or.inr ⟨_, rfl⟩) (Or.inr ⟨rfl, rfl, rfl⟩) ?_
  refine j_aload_n (dt_Rank_init 14 (28, .aload_n 0, 1) rfl) rfl ?_
  refine j_bipush (dt_Rank_init 15 (29, .bipush 10, 2) rfl) bp_10 ?_
  obtain ⟨h7, hh7, hf⟩ := jbind hf
  refine j_newa 100 (N := 10) (dt_Rank_init 16 (31, .newarray .int, 2) rfl) ⟨⟨nle rfl, nlt rfl⟩, rfl⟩ (gt1 169 rfl rfl) hh7 ⟨by decide, by decide, nle rfl⟩ ⟨nle rfl, nle rfl⟩ ?_
  obtain ⟨V8, hV8, hf⟩ := jbind hf
  refine j_putR (dt_Rank_init 17 (33, .putfield 21, 3) rfl) fl_X4_21 hV8 (Or.inr ⟨_, rfl⟩) (Or.inr ⟨rfl, rfl, rfl⟩) ?_
  refine j_aload_n (dt_Rank_init 18 (36, .aload_n 0, 1) rfl) rfl ?_
  refine j_bipush (dt_Rank_init 19 (37, .bipush 10, 2) rfl) bp_10 ?_
  obtain ⟨h9, hh9, hf⟩ := jbind hf
  refine j_newa 100 (N := 10) (dt_Rank_init 20 (39, .newarray .int, 2) rfl) ⟨⟨nle rfl, nlt rfl⟩, rfl⟩ (gt1 169 rfl rfl) hh9 ⟨by decide, by decide, nle rfl⟩ ⟨nle rfl, nle rfl⟩ ?_
  obtain ⟨V10, hV10, hf⟩ := jbind hf
  refine j_putR (dt_Rank_init 21 (41, .putfield 24, 3) rfl) fl_X4_24 hV10 (Or.inr ⟨_, rfl⟩) (Or.inr ⟨rfl, rfl, rfl⟩) ?_
  refine j_aload_n (dt_Rank_init 22 (44, .aload_n 0, 1) rfl) rfl ?_
  refine j_bipush (dt_Rank_init 23 (45, .bipush 10, 2) rfl) bp_10 ?_
  obtain ⟨h11, hh11, hf⟩ := jbind hf
  refine j_newa 100 (N := 10) (dt_Rank_init 24 (47, .newarray .int, 2) rfl) ⟨⟨nle rfl, nlt rfl⟩, rfl⟩ (gt1 169 rfl rfl) hh11 ⟨by decide, by decide, nle rfl⟩ ⟨nle rfl, nle rfl⟩ ?_
  obtain ⟨V12, hV12, hf⟩ := jbind hf
  refine j_putR (dt_Rank_init 25 (49, .putfield 27, 3) rfl) fl_X4_27 hV12 (Or.inr ⟨_, rfl⟩) (Or.inr ⟨rfl, rfl, rfl⟩) ?_
  refine j_aload_n (dt_Rank_init 26 (52, .aload_n 0, 1) rfl) rfl ?_
  refine j_sipush (dt_Rank_init 27 (53, .sipush 1024, 3) rfl) sp_1024 ?_
  obtain ⟨h13, hh13, hf⟩ := jbind hf
  refine j_newa 100 (N := 1024) (dt_Rank_init 28 (56, .newarray .int, 2) rfl) ⟨⟨nle rfl, nlt rfl⟩, rfl⟩ (gt1 169 rfl rfl) hh13 ⟨by decide, by decide, nle rfl⟩ ⟨nle rfl, nle rfl⟩ ?_
  obtain ⟨V14, hV14, hf⟩ := jbind hf
  refine j_putR (dt_Rank_init 29 (58, .putfield 30, 3) rfl) fl_X4_30 hV14 (Or.inr ⟨_, rfl⟩) (Or.inr ⟨rfl, rfl, rfl⟩) ?_
  refine j_aload_n (dt_Rank_init 30 (61, .aload_n 0, 1) rfl) rfl ?_
  refine j_iconst (dt_Rank_init 31 (62, .iconst 0, 1) rfl) ic_0 ?_
  obtain ⟨V15, hV15, hf⟩ := jbind hf
  refine j_putI (dt_Rank_init 32 (63, .putfield 33, 3) rfl) fl_X4_33 hV15 rfl (Or.inl rfl) ?_
  cases hf
  exact j_vret (dt_Rank_init 33 (66, .return_, 1) rfl) rfl
def tb_Rule_init : List (Nat × Instr × Nat) := [(0, .aload_n 0, 1), (1, .invokespecial 3, 3), (4, .aload_n 0, 1), (5, .iconst 0, 1), (6, .putfield 9, 3), (9, .aload_n 0, 1), (10, .iconst (-1), 1), (11, .putfield 15, 3), (14, .aload_n 0, 1), (15, .iconst (-1), 1), (16, .putfield 18, 3), (19, .aload_n 0, 1), (20, .iconst 0, 1), (21, .putfield 21, 3), (24, .aload_n 0, 1), (25, .iconst (-1), 1), (26, .putfield 24, 3), (29, .aload_n 0, 1), (30, .iconst (-1), 1), (31, .putfield 27, 3), (34, .aload_n 0, 1), (35, .iconst 0, 1), (36, .putfield 30, 3), (39, .aload_n 0, 1), (40, .bipush 10, 2), (42, .newarray .int, 2), (44, .putfield 34, 3), (47, .return_, 1)]
theorem dt_Rule_init (i : Nat) (q : Nat × Instr × Nat) (h : tb_Rule_init[i]? = some q) : decode prog_9_method_1_code q.1 = .ok q.2 := jdt (by decide +kernel : tb_Rule_init.all (fun q => decide (decode prog_9_method_1_code q.1 = .ok q.2)) = true) h
theorem ok_Rule_init : jOKI M_Rule_init 0 := ⟨⟨gt2 200 rfl rfl, gt1 16 rfl rfl, (by decide : "FirstIn$Rule" ≠ "java/lang/invoke/MethodHandle"), (by decide : "FirstIn$Rule" ≠ "java/lang/invoke/VarHandle"), (by decide +kernel : (parseMethodDescriptor "()V").map (fun d => d.parameters.length) = some 0)⟩, gt2 199 rfl rfl, rfl⟩
set_option maxRecDepth 100000 in
set_option maxHeartbeats 4000000 in
theorem c_Rule_init {G : jG} {S : hS} {V : hV} {v0 : Option Nat} {res : hS × hV} (hf : Rule_init S v0 V = some res) : jC G M_Rule_init [ar v0] (S, V) none res := by
  unfold Rule_init at hf
  obtain ⟨o0, ho, hg⟩ := jbind hf
  obtain ⟨e0, ho0⟩ := rc_spec ho
  clear hf
  subst e0
  have hf := hg
  clear hg
  refine jC_of (pf_X7 _ _) rfl (nle rfl) ?_
  show jJ G M_Rule_init (jEnd G M_Rule_init none res) 0 0 0 [(0, ar (some o0))] [] (S, V)
  refine j_aload_n (dt_Rule_init 0 (0, .aload_n 0, 1) rfl) rfl ?_
  refine j_objInit (dt_Rule_init 1 (1, .invokespecial 3, 3) rfl) (gt2 201 rfl rfl) ho0.1 (nle rfl) ⟨nle rfl, nle rfl⟩ ?_
  refine j_aload_n (dt_Rule_init 2 (4, .aload_n 0, 1) rfl) rfl ?_
  refine j_iconst (dt_Rule_init 3 (5, .iconst 0, 1) rfl) ic_0 ?_
  obtain ⟨V1, hV1, hf⟩ := jbind hf
  refine j_putI (dt_Rule_init 4 (6, .putfield 9, 3) rfl) fl_X7_9 hV1 rfl (Or.inl rfl) ?_
  refine j_aload_n (dt_Rule_init 5 (9, .aload_n 0, 1) rfl) rfl ?_
  refine j_iconst (dt_Rule_init 6 (10, .iconst (-1), 1) rfl) ic_m1 ?_
  obtain ⟨V2, hV2, hf⟩ := jbind hf
  refine j_putI (dt_Rule_init 7 (11, .putfield 15, 3) rfl) fl_X7_15 hV2 rfl (Or.inl rfl) ?_
  refine j_aload_n (dt_Rule_init 8 (14, .aload_n 0, 1) rfl) rfl ?_
  refine j_iconst (dt_Rule_init 9 (15, .iconst (-1), 1) rfl) ic_m1 ?_
  obtain ⟨V3, hV3, hf⟩ := jbind hf
  refine j_putI (dt_Rule_init 10 (16, .putfield 18, 3) rfl) fl_X7_18 hV3 rfl (Or.inl rfl) ?_
  refine j_aload_n (dt_Rule_init 11 (19, .aload_n 0, 1) rfl) rfl ?_
  refine j_iconst (dt_Rule_init 12 (20, .iconst 0, 1) rfl) ic_0 ?_
  obtain ⟨V4, hV4, hf⟩ := jbind hf
  refine j_putI (dt_Rule_init 13 (21, .putfield 21, 3) rfl) fl_X7_21 hV4 rfl (Or.inl rfl) ?_
  refine j_aload_n (dt_Rule_init 14 (24, .aload_n 0, 1) rfl) rfl ?_
  refine j_iconst (dt_Rule_init 15 (25, .iconst (-1), 1) rfl) ic_m1 ?_
  obtain ⟨V5, hV5, hf⟩ := jbind hf
  refine j_putI (dt_Rule_init 16 (26, .putfield 24, 3) rfl) fl_X7_24 hV5 rfl (Or.inl rfl) ?_
  refine j_aload_n (dt_Rule_init 17 (29, .aload_n 0, 1) rfl) rfl ?_
  refine j_iconst (dt_Rule_init 18 (30, .iconst (-1), 1) rfl) ic_m1 ?_
  obtain ⟨V6, hV6, hf⟩ := jbind hf
  refine j_putI (dt_Rule_init 19 (31, .putfield 27, 3) rfl) fl_X7_27 hV6 rfl (Or.inl rfl) ?_
  refine j_aload_n (dt_Rule_init 20 (34, .aload_n 0, 1) rfl) rfl ?_
  refine j_iconst (dt_Rule_init 21 (35, .iconst 0, 1) rfl) ic_0 ?_
  obtain ⟨V7, hV7, hf⟩ := jbind hf
  refine j_putZ (dt_Rule_init 22 (36, .putfield 30, 3) rfl) fl_X7_30 hV7 rfl (Or.inl rfl) ?_
  refine j_aload_n (dt_Rule_init 23 (39, .aload_n 0, 1) rfl) rfl ?_
  refine j_bipush (dt_Rule_init 24 (40, .bipush 10, 2) rfl) bp_10 ?_
  obtain ⟨h8, hh8, hf⟩ := jbind hf
  refine j_newa 100 (N := 10) (dt_Rule_init 25 (42, .newarray .int, 2) rfl) ⟨⟨nle rfl, nlt rfl⟩, rfl⟩ (gt1 169 rfl rfl) hh8 ⟨by decide, by decide, nle rfl⟩ ⟨nle rfl, nle rfl⟩ ?_
  obtain ⟨V9, hV9, hf⟩ := jbind hf
  refine j_putR (dt_Rule_init 26 (44, .putfield 34, 3) rfl) fl_X7_34 hV9 (Or.inr ⟨_, rfl⟩) (Or.inr ⟨rfl, rfl, rfl⟩) ?_
  cases hf
  exact j_vret (dt_Rule_init 27 (47, .return_, 1) rfl) rfl
def tb_Slights_init : List (Nat × Instr × Nat) := [(0, .aload_n 0, 1), (1, .invokespecial 3, 3), (4, .aload_n 0, 1), (5, .bipush 10, 2), (7, .newarray .int, 2), (9, .putfield 9, 3), (12, .aload_n 0, 1), (13, .bipush 10, 2), (15, .newarray .int, 2), (17, .putfield 15, 3), (20, .aload_n 0, 1), (21, .iconst 0, 1), (22, .putfield 18, 3), (25, .aload_n 0, 1), (26, .iconst 0, 1), (27, .putfield 22, 3), (30, .aload_n 0, 1), (31, .iconst 0, 1), (32, .putfield 25, 3), (35, .aload_n 0, 1), (36, .iconst (-1), 1), (37, .putfield 28, 3), (40, .aload_n 0, 1), (41, .iconst (-1), 1), (42, .putfield 31, 3), (45, .aload_n 0, 1), (46, .iconst (-1), 1), (47, .putfield 34, 3), (50, .aload_n 0, 1), (51, .iconst (-1), 1), (52, .putfield 37, 3), (55, .return_, 1)]
theorem dt_Slights_init (i : Nat) (q : Nat × Instr × Nat) (h : tb_Slights_init[i]? = some q) : decode prog_11_method_1_code q.1 = .ok q.2 := jdt (by decide +kernel : tb_Slights_init.all (fun q => decide (decode prog_11_method_1_code q.1 = .ok q.2)) = true) h
theorem ok_Slights_init : jOKI M_Slights_init 0 := ⟨⟨gt2 58 rfl rfl, gt1 11 rfl rfl, (by decide : "FirstIn$Slights" ≠ "java/lang/invoke/MethodHandle"), (by decide : "FirstIn$Slights" ≠ "java/lang/invoke/VarHandle"), (by decide +kernel : (parseMethodDescriptor "()V").map (fun d => d.parameters.length) = some 0)⟩, gt2 57 rfl rfl, rfl⟩
set_option maxRecDepth 100000 in
set_option maxHeartbeats 4000000 in
theorem c_Slights_init {G : jG} {S : hS} {V : hV} {v0 : Option Nat} {res : hS × hV} (hf : Slights_init S v0 V = some res) : jC G M_Slights_init [ar v0] (S, V) none res := by
  unfold Slights_init at hf
  obtain ⟨o0, ho, hg⟩ := jbind hf
  obtain ⟨e0, ho0⟩ := rc_spec ho
  clear hf
  subst e0
  have hf := hg
  clear hg
  refine jC_of (pf_X9 _ _) rfl (nle rfl) ?_
  show jJ G M_Slights_init (jEnd G M_Slights_init none res) 0 0 0 [(0, ar (some o0))] [] (S, V)
  refine j_aload_n (dt_Slights_init 0 (0, .aload_n 0, 1) rfl) rfl ?_
  refine j_objInit (dt_Slights_init 1 (1, .invokespecial 3, 3) rfl) (gt2 59 rfl rfl) ho0.1 (nle rfl) ⟨nle rfl, nle rfl⟩ ?_
  refine j_aload_n (dt_Slights_init 2 (4, .aload_n 0, 1) rfl) rfl ?_
  refine j_bipush (dt_Slights_init 3 (5, .bipush 10, 2) rfl) bp_10 ?_
  obtain ⟨h1, hh1, hf⟩ := jbind hf
  refine j_newa 100 (N := 10) (dt_Slights_init 4 (7, .newarray .int, 2) rfl) ⟨⟨nle rfl, nlt rfl⟩, rfl⟩ (gt1 169 rfl rfl) hh1 ⟨by decide, by decide, nle rfl⟩ ⟨nle rfl, nle rfl⟩ ?_
  obtain ⟨V2, hV2, hf⟩ := jbind hf
  refine j_putR (dt_Slights_init 5 (9, .putfield 9, 3) rfl) fl_X9_9 hV2 (Or.inr ⟨_, rfl⟩) (Or.inr ⟨rfl, rfl, rfl⟩) ?_
  refine j_aload_n (dt_Slights_init 6 (12, .aload_n 0, 1) rfl) rfl ?_
  refine j_bipush (dt_Slights_init 7 (13, .bipush 10, 2) rfl) bp_10 ?_
  obtain ⟨h3, hh3, hf⟩ := jbind hf
  refine j_newa 100 (N := 10) (dt_Slights_init 8 (15, .newarray .int, 2) rfl) ⟨⟨nle rfl, nlt rfl⟩, rfl⟩ (gt1 169 rfl rfl) hh3 ⟨by decide, by decide, nle rfl⟩ ⟨nle rfl, nle rfl⟩ ?_
  obtain ⟨V4, hV4, hf⟩ := jbind hf
  refine j_putR (dt_Slights_init 9 (17, .putfield 15, 3) rfl) fl_X9_15 hV4 (Or.inr ⟨_, rfl⟩) (Or.inr ⟨rfl, rfl, rfl⟩) ?_
  refine j_aload_n (dt_Slights_init 10 (20, .aload_n 0, 1) rfl) rfl ?_
  refine j_iconst (dt_Slights_init 11 (21, .iconst 0, 1) rfl) ic_0 ?_
  obtain ⟨V5, hV5, hf⟩ := jbind hf
  refine j_putI (dt_Slights_init 12 (22, .putfield 18, 3) rfl) fl_X9_18 hV5 rfl (Or.inl rfl) ?_
  refine j_aload_n (dt_Slights_init 13 (25, .aload_n 0, 1) rfl) rfl ?_
  refine j_iconst (dt_Slights_init 14 (26, .iconst 0, 1) rfl) ic_0 ?_
  obtain ⟨V6, hV6, hf⟩ := jbind hf
  refine j_putI (dt_Slights_init 15 (27, .putfield 22, 3) rfl) fl_X9_22 hV6 rfl (Or.inl rfl) ?_
  refine j_aload_n (dt_Slights_init 16 (30, .aload_n 0, 1) rfl) rfl ?_
  refine j_iconst (dt_Slights_init 17 (31, .iconst 0, 1) rfl) ic_0 ?_
  obtain ⟨V7, hV7, hf⟩ := jbind hf
  refine j_putI (dt_Slights_init 18 (32, .putfield 25, 3) rfl) fl_X9_25 hV7 rfl (Or.inl rfl) ?_
  refine j_aload_n (dt_Slights_init 19 (35, .aload_n 0, 1) rfl) rfl ?_
  refine j_iconst (dt_Slights_init 20 (36, .iconst (-1), 1) rfl) ic_m1 ?_
  obtain ⟨V8, hV8, hf⟩ := jbind hf
  refine j_putI (dt_Slights_init 21 (37, .putfield 28, 3) rfl) fl_X9_28 hV8 rfl (Or.inl rfl) ?_
  refine j_aload_n (dt_Slights_init 22 (40, .aload_n 0, 1) rfl) rfl ?_
  refine j_iconst (dt_Slights_init 23 (41, .iconst (-1), 1) rfl) ic_m1 ?_
  obtain ⟨V9, hV9, hf⟩ := jbind hf
  refine j_putI (dt_Slights_init 24 (42, .putfield 31, 3) rfl) fl_X9_31 hV9 rfl (Or.inl rfl) ?_
  refine j_aload_n (dt_Slights_init 25 (45, .aload_n 0, 1) rfl) rfl ?_
  refine j_iconst (dt_Slights_init 26 (46, .iconst (-1), 1) rfl) ic_m1 ?_
  obtain ⟨V10, hV10, hf⟩ := jbind hf
  refine j_putI (dt_Slights_init 27 (47, .putfield 34, 3) rfl) fl_X9_34 hV10 rfl (Or.inl rfl) ?_
  refine j_aload_n (dt_Slights_init 28 (50, .aload_n 0, 1) rfl) rfl ?_
  refine j_iconst (dt_Slights_init 29 (51, .iconst (-1), 1) rfl) ic_m1 ?_
  obtain ⟨V11, hV11, hf⟩ := jbind hf
  refine j_putI (dt_Slights_init 30 (52, .putfield 37, 3) rfl) fl_X9_37 hV11 rfl (Or.inl rfl) ?_
  cases hf
  exact j_vret (dt_Slights_init 31 (55, .return_, 1) rfl) rfl
def tb_Text_init : List (Nat × Instr × Nat) := [(0, .aload_n 0, 1), (1, .invokespecial 3, 3), (4, .aload_n 0, 1), (5, .sipush 700, 3), (8, .newarray .byte, 2), (10, .putfield 9, 3), (13, .aload_n 0, 1), (14, .iconst 0, 1), (15, .putfield 15, 3), (18, .aload_n 0, 1), (19, .iconst 0, 1), (20, .putfield 19, 3), (23, .aload_n 0, 1), (24, .iconst 0, 1), (25, .putfield 22, 3), (28, .aload_n 0, 1), (29, .iconst 0, 1), (30, .putfield 25, 3), (33, .aload_n 0, 1), (34, .lconst 0, 1), (35, .putfield 28, 3), (38, .return_, 1)]
theorem dt_Text_init (i : Nat) (q : Nat × Instr × Nat) (h : tb_Text_init[i]? = some q) : decode prog_12_method_1_code q.1 = .ok q.2 := jdt (by decide +kernel : tb_Text_init.all (fun q => decide (decode prog_12_method_1_code q.1 = .ok q.2)) = true) h
theorem ok_Text_init : jOKI M_Text_init 0 := ⟨⟨gt1 34 rfl rfl, gt1 2 rfl rfl, (by decide : "FirstIn$Text" ≠ "java/lang/invoke/MethodHandle"), (by decide : "FirstIn$Text" ≠ "java/lang/invoke/VarHandle"), (by decide +kernel : (parseMethodDescriptor "()V").map (fun d => d.parameters.length) = some 0)⟩, gt1 33 rfl rfl, rfl⟩
set_option maxRecDepth 100000 in
set_option maxHeartbeats 4000000 in
theorem c_Text_init {G : jG} {S : hS} {V : hV} {v0 : Option Nat} {res : hS × hV} (hf : Text_init S v0 V = some res) : jC G M_Text_init [ar v0] (S, V) none res := by
  unfold Text_init at hf
  obtain ⟨o0, ho, hg⟩ := jbind hf
  obtain ⟨e0, ho0⟩ := rc_spec ho
  clear hf
  subst e0
  have hf := hg
  clear hg
  refine jC_of (pf_X10 _ _) rfl (nle rfl) ?_
  show jJ G M_Text_init (jEnd G M_Text_init none res) 0 0 0 [(0, ar (some o0))] [] (S, V)
  refine j_aload_n (dt_Text_init 0 (0, .aload_n 0, 1) rfl) rfl ?_
  refine j_objInit (dt_Text_init 1 (1, .invokespecial 3, 3) rfl) (gt1 35 rfl rfl) ho0.1 (nle rfl) ⟨nle rfl, nle rfl⟩ ?_
  refine j_aload_n (dt_Text_init 2 (4, .aload_n 0, 1) rfl) rfl ?_
  refine j_sipush (dt_Text_init 3 (5, .sipush 700, 3) rfl) sp_700 ?_
  obtain ⟨h1, hh1, hf⟩ := jbind hf
  refine j_newa 101 (N := 700) (dt_Text_init 4 (8, .newarray .byte, 2) rfl) ⟨⟨nle rfl, nlt rfl⟩, rfl⟩ (gt1 59 rfl rfl) hh1 ⟨by decide, by decide, nle rfl⟩ ⟨nle rfl, nle rfl⟩ ?_
  obtain ⟨V2, hV2, hf⟩ := jbind hf
  refine j_putR (dt_Text_init 5 (10, .putfield 9, 3) rfl) fl_X10_9 hV2 (Or.inr ⟨_, rfl⟩) (Or.inr ⟨rfl, rfl, rfl⟩) ?_
  refine j_aload_n (dt_Text_init 6 (13, .aload_n 0, 1) rfl) rfl ?_
  refine j_iconst (dt_Text_init 7 (14, .iconst 0, 1) rfl) ic_0 ?_
  obtain ⟨V3, hV3, hf⟩ := jbind hf
  refine j_putI (dt_Text_init 8 (15, .putfield 15, 3) rfl) fl_X10_15 hV3 rfl (Or.inl rfl) ?_
  refine j_aload_n (dt_Text_init 9 (18, .aload_n 0, 1) rfl) rfl ?_
  refine j_iconst (dt_Text_init 10 (19, .iconst 0, 1) rfl) ic_0 ?_
  obtain ⟨V4, hV4, hf⟩ := jbind hf
  refine j_putI (dt_Text_init 11 (20, .putfield 19, 3) rfl) fl_X10_19 hV4 rfl (Or.inl rfl) ?_
  refine j_aload_n (dt_Text_init 12 (23, .aload_n 0, 1) rfl) rfl ?_
  refine j_iconst (dt_Text_init 13 (24, .iconst 0, 1) rfl) ic_0 ?_
  obtain ⟨V5, hV5, hf⟩ := jbind hf
  refine j_putI (dt_Text_init 14 (25, .putfield 22, 3) rfl) fl_X10_22 hV5 rfl (Or.inl rfl) ?_
  refine j_aload_n (dt_Text_init 15 (28, .aload_n 0, 1) rfl) rfl ?_
  refine j_iconst (dt_Text_init 16 (29, .iconst 0, 1) rfl) ic_0 ?_
  obtain ⟨V6, hV6, hf⟩ := jbind hf
  refine j_putI (dt_Text_init 17 (30, .putfield 25, 3) rfl) fl_X10_25 hV6 rfl (Or.inl rfl) ?_
  refine j_aload_n (dt_Text_init 18 (33, .aload_n 0, 1) rfl) rfl ?_
  refine j_lconst (dt_Text_init 19 (34, .lconst 0, 1) rfl) lc_0 ?_
  obtain ⟨V7, hV7, hf⟩ := jbind hf
  refine j_putL (dt_Text_init 20 (35, .putfield 28, 3) rfl) fl_X10_28 hV7 rfl (Or.inl rfl) ?_
  cases hf
  exact j_vret (dt_Text_init 21 (38, .return_, 1) rfl) rfl
def tb_Mo_init : List (Nat × Instr × Nat) := [(0, .aload_n 0, 1), (1, .invokespecial 1, 3), (4, .aload_n 0, 1), (5, .sipush 700, 3), (8, .newarray .byte, 2), (10, .putfield 9, 3), (13, .aload_n 0, 1), (14, .iconst 2, 1), (15, .bipush 10, 2), (17, .multianewarray 13 2, 4), (21, .putfield 15, 3), (24, .aload_n 0, 1), (25, .iconst 2, 1), (26, .iconst 5, 1), (27, .multianewarray 13 2, 4), (31, .putfield 18, 3), (34, .aload_n 0, 1), (35, .iconst 2, 1), (36, .iconst 5, 1), (37, .multianewarray 21 2, 4), (41, .putfield 23, 3), (44, .aload_n 0, 1), (45, .iconst 2, 1), (46, .bipush 12, 2), (48, .multianewarray 21 2, 4), (52, .putfield 26, 3), (55, .aload_n 0, 1), (56, .iconst 2, 1), (57, .bipush 12, 2), (59, .multianewarray 21 2, 4), (63, .putfield 29, 3), (66, .aload_n 0, 1), (67, .iconst 2, 1), (68, .bipush 12, 2), (70, .multianewarray 21 2, 4), (74, .putfield 32, 3), (77, .aload_n 0, 1), (78, .iconst 2, 1), (79, .bipush 12, 2), (81, .multianewarray 21 2, 4), (85, .putfield 35, 3), (88, .aload_n 0, 1), (89, .iconst 2, 1), (90, .bipush 12, 2), (92, .multianewarray 21 2, 4), (96, .putfield 38, 3), (99, .aload_n 0, 1), (100, .iconst 2, 1), (101, .bipush 12, 2), (103, .multianewarray 21 2, 4), (107, .putfield 41, 3), (110, .aload_n 0, 1), (111, .iconst 2, 1), (112, .newarray .int, 2), (114, .putfield 44, 3), (117, .aload_n 0, 1), (118, .iconst 2, 1), (119, .newarray .int, 2), (121, .putfield 48, 3), (124, .aload_n 0, 1), (125, .iconst 2, 1), (126, .newarray .int, 2), (128, .putfield 51, 3), (131, .aload_n 0, 1), (132, .bipush 9, 2), (134, .anewarray 54, 3), (137, .dup, 1), (138, .iconst 0, 1), (139, .ldc 56, 2), (141, .aastore, 1), (142, .dup, 1), (143, .iconst 1, 1), (144, .ldc 58, 2), (146, .aastore, 1), (147, .dup, 1), (148, .iconst 2, 1), (149, .ldc 60, 2), (151, .aastore, 1), (152, .dup, 1), (153, .iconst 3, 1), (154, .ldc 62, 2), (156, .aastore, 1), (157, .dup, 1), (158, .iconst 4, 1), (159, .ldc 64, 2), (161, .aastore, 1), (162, .dup, 1), (163, .iconst 5, 1), (164, .ldc 66, 2), (166, .aastore, 1), (167, .dup, 1), (168, .bipush 6, 2), (170, .ldc 68, 2), (172, .aastore, 1), (173, .dup, 1), (174, .bipush 7, 2), (176, .ldc 70, 2), (178, .aastore, 1), (179, .dup, 1), (180, .bipush 8, 2), (182, .ldc 72, 2), (184, .aastore, 1), (185, .putfield 73, 3), (188, .aload_n 0, 1), (189, .bipush 12, 2), (191, .newarray .boolean, 2), (193, .putfield 77, 3), (196, .aload_n 0, 1), (197, .bipush 10, 2), (199, .newarray .boolean, 2), (201, .putfield 81, 3), (204, .aload_n 0, 1), (205, .bipush 10, 2), (207, .newarray .boolean, 2), (209, .putfield 84, 3), (212, .aload_n 0, 1), (213, .bipush 10, 2), (215, .newarray .int, 2), (217, .putfield 87, 3), (220, .aload_n 0, 1), (221, .bipush 10, 2), (223, .newarray .int, 2), (225, .putfield 90, 3), (228, .aload_n 0, 1), (229, .iconst 4, 1), (230, .newarray .int, 2), (232, .putfield 93, 3), (235, .aload_n 0, 1), (236, .iconst 4, 1), (237, .newarray .int, 2), (239, .putfield 96, 3), (242, .aload_n 0, 1), (243, .sipush 1200, 3), (246, .newarray .int, 2), (248, .putfield 99, 3), (251, .aload_n 0, 1), (252, .sipush 1200, 3), (255, .newarray .int, 2), (257, .putfield 102, 3), (260, .aload_n 0, 1), (261, .sipush 1200, 3), (264, .newarray .int, 2), (266, .putfield 105, 3), (269, .aload_n 0, 1), (270, .bipush 10, 2), (272, .newarray .int, 2), (274, .putfield 108, 3), (277, .aload_n 0, 1), (278, .bipush 100, 2), (280, .newarray .boolean, 2), (282, .putfield 111, 3), (285, .aload_n 0, 1), (286, .bipush 100, 2), (288, .newarray .boolean, 2), (290, .putfield 113, 3), (293, .aload_n 0, 1), (294, .bipush 10, 2), (296, .newarray .int, 2), (298, .putfield 115, 3), (301, .aload_n 0, 1), (302, .bipush 10, 2), (304, .newarray .int, 2), (306, .putfield 118, 3), (309, .aload_n 0, 1), (310, .bipush 10, 2), (312, .newarray .int, 2), (314, .putfield 121, 3), (317, .aload_n 0, 1), (318, .bipush 10, 2), (320, .newarray .int, 2), (322, .putfield 124, 3), (325, .aload_n 0, 1), (326, .sipush 1024, 3), (329, .newarray .int, 2), (331, .putfield 127, 3), (334, .aload_n 0, 1), (335, .bipush 10, 2), (337, .newarray .int, 2), (339, .putfield 130, 3), (342, .aload_n 0, 1), (343, .bipush 10, 2), (345, .newarray .int, 2), (347, .putfield 133, 3), (350, .aload_n 0, 1), (351, .bipush 10, 2), (353, .newarray .int, 2), (355, .putfield 136, 3), (358, .aload_n 0, 1), (359, .sipush 1024, 3), (362, .newarray .boolean, 2), (364, .putfield 139, 3), (367, .aload_n 0, 1), (368, .sipush 6400, 3), (371, .newarray .int, 2), (373, .putfield 142, 3), (376, .aload_n 0, 1), (377, .sipush 6400, 3), (380, .newarray .int, 2), (382, .putfield 145, 3), (385, .aload_n 0, 1), (386, .bipush 10, 2), (388, .newarray .int, 2), (390, .putfield 148, 3), (393, .aload_n 0, 1), (394, .bipush 10, 2), (396, .newarray .int, 2), (398, .putfield 151, 3), (401, .aload_n 0, 1), (402, .bipush 10, 2), (404, .newarray .int, 2), (406, .putfield 154, 3), (409, .aload_n 0, 1), (410, .bipush 10, 2), (412, .newarray .int, 2), (414, .putfield 157, 3), (417, .aload_n 0, 1), (418, .bipush 10, 2), (420, .newarray .int, 2), (422, .putfield 160, 3), (425, .aload_n 0, 1), (426, .bipush 8, 2), (428, .newarray .int, 2), (430, .putfield 163, 3), (433, .aload_n 0, 1), (434, .bipush 80, 2), (436, .newarray .int, 2), (438, .putfield 166, 3), (441, .aload_n 0, 1), (442, .iconst 3, 1), (443, .newarray .int, 2), (445, .putfield 169, 3), (448, .aload_n 0, 1), (449, .iconst 3, 1), (450, .newarray .int, 2), (452, .putfield 172, 3), (455, .return_, 1)]
theorem dt_Mo_init (i : Nat) (q : Nat × Instr × Nat) (h : tb_Mo_init[i]? = some q) : decode prog_14_method_1_code q.1 = .ok q.2 := jdt (by decide +kernel : tb_Mo_init.all (fun q => decide (decode prog_14_method_1_code q.1 = .ok q.2)) = true) h
theorem ok_Mo_init : jOKI M_Mo_init 0 := ⟨⟨gt6 3 rfl rfl, gt1 17 rfl rfl, (by decide : "FirstInModel" ≠ "java/lang/invoke/MethodHandle"), (by decide : "FirstInModel" ≠ "java/lang/invoke/VarHandle"), (by decide +kernel : (parseMethodDescriptor "()V").map (fun d => d.parameters.length) = some 0)⟩, gt6 2 rfl rfl, rfl⟩
set_option maxRecDepth 100000 in
set_option maxHeartbeats 4000000 in
theorem c_Mo_init {G : jG} {S : hS} {V : hV} {v0 : Option Nat} {res : hS × hV} (hf : Mo_init S v0 V = some res) : jC G M_Mo_init [ar v0] (S, V) none res := by
  unfold Mo_init at hf
  obtain ⟨o0, ho, hg⟩ := jbind hf
  obtain ⟨e0, ho0⟩ := rc_spec ho
  clear hf
  subst e0
  have hf := hg
  clear hg
  refine jC_of (pf_X12 _ _) rfl (nle rfl) ?_
  show jJ G M_Mo_init (jEnd G M_Mo_init none res) 0 0 0 [(0, ar (some o0))] [] (S, V)
  refine j_aload_n (dt_Mo_init 0 (0, .aload_n 0, 1) rfl) rfl ?_
  refine j_objInit (dt_Mo_init 1 (1, .invokespecial 1, 3) rfl) (gt6 4 rfl rfl) ho0.1 (nle rfl) ⟨nle rfl, nle rfl⟩ ?_
  refine j_aload_n (dt_Mo_init 2 (4, .aload_n 0, 1) rfl) rfl ?_
  refine j_sipush (dt_Mo_init 3 (5, .sipush 700, 3) rfl) sp_700 ?_
  obtain ⟨h1, hh1, hf⟩ := jbind hf
  refine j_newa 101 (N := 700) (dt_Mo_init 4 (8, .newarray .byte, 2) rfl) ⟨⟨nle rfl, nlt rfl⟩, rfl⟩ (gt1 59 rfl rfl) hh1 ⟨by decide, by decide, nle rfl⟩ ⟨nle rfl, nle rfl⟩ ?_
  obtain ⟨V2, hV2, hf⟩ := jbind hf
  refine j_putR (dt_Mo_init 5 (10, .putfield 9, 3) rfl) fl_X12_9 hV2 (Or.inr ⟨_, rfl⟩) (Or.inr ⟨rfl, rfl, rfl⟩) ?_
  refine j_aload_n (dt_Mo_init 6 (13, .aload_n 0, 1) rfl) rfl ?_
  refine j_iconst (dt_Mo_init 7 (14, .iconst 2, 1) rfl) ic_2 ?_
  refine j_bipush (dt_Mo_init 8 (15, .bipush 10, 2) rfl) bp_10 ?_
  obtain ⟨h3, hh3, hf⟩ := jbind hf
  refine j_mna 108 103 (ty := .long) (K := 10) (dt_Mo_init 9 (17, .multianewarray 13 2, 4) rfl) ⟨rfl, rfl⟩ (Or.inr ⟨rfl, rfl⟩) (gt6 5 rfl rfl) (gt1 168 rfl rfl) (fun s hs => hs.2.2.1.2.2.2.2.2.1) hh3 ⟨by decide, by decide, nle rfl⟩ ⟨nle rfl, nle rfl⟩ ?_
  obtain ⟨V4, hV4, hf⟩ := jbind hf
  refine j_putR (dt_Mo_init 10 (21, .putfield 15, 3) rfl) fl_X12_15 hV4 (Or.inr ⟨_, rfl⟩) (Or.inr ⟨rfl, rfl, rfl⟩) ?_
  refine j_aload_n (dt_Mo_init 11 (24, .aload_n 0, 1) rfl) rfl ?_
  refine j_iconst (dt_Mo_init 12 (25, .iconst 2, 1) rfl) ic_2 ?_
  refine j_iconst (dt_Mo_init 13 (26, .iconst 5, 1) rfl) ic_5 ?_
  obtain ⟨h5, hh5, hf⟩ := jbind hf
  refine j_mna 108 103 (ty := .long) (K := 5) (dt_Mo_init 14 (27, .multianewarray 13 2, 4) rfl) ⟨rfl, rfl⟩ (Or.inr ⟨rfl, rfl⟩) (gt6 5 rfl rfl) (gt1 168 rfl rfl) (fun s hs => hs.2.2.1.2.2.2.2.2.1) hh5 ⟨by decide, by decide, nle rfl⟩ ⟨nle rfl, nle rfl⟩ ?_
  obtain ⟨V6, hV6, hf⟩ := jbind hf
  refine j_putR (dt_Mo_init 15 (31, .putfield 18, 3) rfl) fl_X12_18 hV6 (Or.inr ⟨_, rfl⟩) (Or.inr ⟨rfl, rfl, rfl⟩) ?_
  refine j_aload_n (dt_Mo_init 16 (34, .aload_n 0, 1) rfl) rfl ?_
  refine j_iconst (dt_Mo_init 17 (35, .iconst 2, 1) rfl) ic_2 ?_
  refine j_iconst (dt_Mo_init 18 (36, .iconst 5, 1) rfl) ic_5 ?_
  obtain ⟨h7, hh7, hf⟩ := jbind hf
  refine j_mna 107 100 (ty := .int) (K := 5) (dt_Mo_init 19 (37, .multianewarray 21 2, 4) rfl) ⟨rfl, rfl⟩ (Or.inl ⟨rfl, rfl⟩) (gt6 7 rfl rfl) (gt1 169 rfl rfl) (fun s hs => hs.2.2.1.2.2.2.2.1) hh7 ⟨by decide, by decide, nle rfl⟩ ⟨nle rfl, nle rfl⟩ ?_
  obtain ⟨V8, hV8, hf⟩ := jbind hf
  refine j_putR (dt_Mo_init 20 (41, .putfield 23, 3) rfl) fl_X12_23 hV8 (Or.inr ⟨_, rfl⟩) (Or.inr ⟨rfl, rfl, rfl⟩) ?_
  refine j_aload_n (dt_Mo_init 21 (44, .aload_n 0, 1) rfl) rfl ?_
  refine j_iconst (dt_Mo_init 22 (45, .iconst 2, 1) rfl) ic_2 ?_
  refine j_bipush (dt_Mo_init 23 (46, .bipush 12, 2) rfl) bp_12 ?_
  obtain ⟨h9, hh9, hf⟩ := jbind hf
  refine j_mna 107 100 (ty := .int) (K := 12) (dt_Mo_init 24 (48, .multianewarray 21 2, 4) rfl) ⟨rfl, rfl⟩ (Or.inl ⟨rfl, rfl⟩) (gt6 7 rfl rfl) (gt1 169 rfl rfl) (fun s hs => hs.2.2.1.2.2.2.2.1) hh9 ⟨by decide, by decide, nle rfl⟩ ⟨nle rfl, nle rfl⟩ ?_
  obtain ⟨V10, hV10, hf⟩ := jbind hf
  refine j_putR (dt_Mo_init 25 (52, .putfield 26, 3) rfl) fl_X12_26 hV10 (Or.inr ⟨_, rfl⟩) (Or.inr ⟨rfl, rfl, rfl⟩) ?_
  refine j_aload_n (dt_Mo_init 26 (55, .aload_n 0, 1) rfl) rfl ?_
  refine j_iconst (dt_Mo_init 27 (56, .iconst 2, 1) rfl) ic_2 ?_
  refine j_bipush (dt_Mo_init 28 (57, .bipush 12, 2) rfl) bp_12 ?_
  obtain ⟨h11, hh11, hf⟩ := jbind hf
  refine j_mna 107 100 (ty := .int) (K := 12) (dt_Mo_init 29 (59, .multianewarray 21 2, 4) rfl) ⟨rfl, rfl⟩ (Or.inl ⟨rfl, rfl⟩) (gt6 7 rfl rfl) (gt1 169 rfl rfl) (fun s hs => hs.2.2.1.2.2.2.2.1) hh11 ⟨by decide, by decide, nle rfl⟩ ⟨nle rfl, nle rfl⟩ ?_
  obtain ⟨V12, hV12, hf⟩ := jbind hf
  refine j_putR (dt_Mo_init 30 (63, .putfield 29, 3) rfl) fl_X12_29 hV12 (Or.inr ⟨_, rfl⟩) (Or.inr ⟨rfl, rfl, rfl⟩) ?_
  refine j_aload_n (dt_Mo_init 31 (66, .aload_n 0, 1) rfl) rfl ?_
  refine j_iconst (dt_Mo_init 32 (67, .iconst 2, 1) rfl) ic_2 ?_
  refine j_bipush (dt_Mo_init 33 (68, .bipush 12, 2) rfl) bp_12 ?_
  obtain ⟨h13, hh13, hf⟩ := jbind hf
  refine j_mna 107 100 (ty := .int) (K := 12) (dt_Mo_init 34 (70, .multianewarray 21 2, 4) rfl) ⟨rfl, rfl⟩ (Or.inl ⟨rfl, rfl⟩) (gt6 7 rfl rfl) (gt1 169 rfl rfl) (fun s hs => hs.2.2.1.2.2.2.2.1) hh13 ⟨by decide, by decide, nle rfl⟩ ⟨nle rfl, nle rfl⟩ ?_
  obtain ⟨V14, hV14, hf⟩ := jbind hf
  refine j_putR (dt_Mo_init 35 (74, .putfield 32, 3) rfl) fl_X12_32 hV14 (Or.inr ⟨_, rfl⟩) (Or.inr ⟨rfl, rfl, rfl⟩) ?_
  refine j_aload_n (dt_Mo_init 36 (77, .aload_n 0, 1) rfl) rfl ?_
  refine j_iconst (dt_Mo_init 37 (78, .iconst 2, 1) rfl) ic_2 ?_
  refine j_bipush (dt_Mo_init 38 (79, .bipush 12, 2) rfl) bp_12 ?_
  obtain ⟨h15, hh15, hf⟩ := jbind hf
  refine j_mna 107 100 (ty := .int) (K := 12) (dt_Mo_init 39 (81, .multianewarray 21 2, 4) rfl) ⟨rfl, rfl⟩ (Or.inl ⟨rfl, rfl⟩) (gt6 7 rfl rfl) (gt1 169 rfl rfl) (fun s hs => hs.2.2.1.2.2.2.2.1) hh15 ⟨by decide, by decide, nle rfl⟩ ⟨nle rfl, nle rfl⟩ ?_
  obtain ⟨V16, hV16, hf⟩ := jbind hf
  refine j_putR (dt_Mo_init 40 (85, .putfield 35, 3) rfl) fl_X12_35 hV16 (Or.inr ⟨_, rfl⟩) (Or.inr ⟨rfl, rfl, rfl⟩) ?_
  refine j_aload_n (dt_Mo_init 41 (88, .aload_n 0, 1) rfl) rfl ?_
  refine j_iconst (dt_Mo_init 42 (89, .iconst 2, 1) rfl) ic_2 ?_
  refine j_bipush (dt_Mo_init 43 (90, .bipush 12, 2) rfl) bp_12 ?_
  obtain ⟨h17, hh17, hf⟩ := jbind hf
  refine j_mna 107 100 (ty := .int) (K := 12) (dt_Mo_init 44 (92, .multianewarray 21 2, 4) rfl) ⟨rfl, rfl⟩ (Or.inl ⟨rfl, rfl⟩) (gt6 7 rfl rfl) (gt1 169 rfl rfl) (fun s hs => hs.2.2.1.2.2.2.2.1) hh17 ⟨by decide, by decide, nle rfl⟩ ⟨nle rfl, nle rfl⟩ ?_
  obtain ⟨V18, hV18, hf⟩ := jbind hf
  refine j_putR (dt_Mo_init 45 (96, .putfield 38, 3) rfl) fl_X12_38 hV18 (Or.inr ⟨_, rfl⟩) (Or.inr ⟨rfl, rfl, rfl⟩) ?_
  refine j_aload_n (dt_Mo_init 46 (99, .aload_n 0, 1) rfl) rfl ?_
  refine j_iconst (dt_Mo_init 47 (100, .iconst 2, 1) rfl) ic_2 ?_
  refine j_bipush (dt_Mo_init 48 (101, .bipush 12, 2) rfl) bp_12 ?_
  obtain ⟨h19, hh19, hf⟩ := jbind hf
  refine j_mna 107 100 (ty := .int) (K := 12) (dt_Mo_init 49 (103, .multianewarray 21 2, 4) rfl) ⟨rfl, rfl⟩ (Or.inl ⟨rfl, rfl⟩) (gt6 7 rfl rfl) (gt1 169 rfl rfl) (fun s hs => hs.2.2.1.2.2.2.2.1) hh19 ⟨by decide, by decide, nle rfl⟩ ⟨nle rfl, nle rfl⟩ ?_
  obtain ⟨V20, hV20, hf⟩ := jbind hf
  refine j_putR (dt_Mo_init 50 (107, .putfield 41, 3) rfl) fl_X12_41 hV20 (Or.inr ⟨_, rfl⟩) (Or.inr ⟨rfl, rfl, rfl⟩) ?_
  refine j_aload_n (dt_Mo_init 51 (110, .aload_n 0, 1) rfl) rfl ?_
  refine j_iconst (dt_Mo_init 52 (111, .iconst 2, 1) rfl) ic_2 ?_
  obtain ⟨h21, hh21, hf⟩ := jbind hf
  refine j_newa 100 (N := 2) (dt_Mo_init 53 (112, .newarray .int, 2) rfl) ⟨⟨nle rfl, nlt rfl⟩, rfl⟩ (gt1 169 rfl rfl) hh21 ⟨by decide, by decide, nle rfl⟩ ⟨nle rfl, nle rfl⟩ ?_
  obtain ⟨V22, hV22, hf⟩ := jbind hf
  refine j_putR (dt_Mo_init 54 (114, .putfield 44, 3) rfl) fl_X12_44 hV22 (Or.inr ⟨_, rfl⟩) (Or.inr ⟨rfl, rfl, rfl⟩) ?_
  refine j_aload_n (dt_Mo_init 55 (117, .aload_n 0, 1) rfl) rfl ?_
  refine j_iconst (dt_Mo_init 56 (118, .iconst 2, 1) rfl) ic_2 ?_
  obtain ⟨h23, hh23, hf⟩ := jbind hf
  refine j_newa 100 (N := 2) (dt_Mo_init 57 (119, .newarray .int, 2) rfl) ⟨⟨nle rfl, nlt rfl⟩, rfl⟩ (gt1 169 rfl rfl) hh23 ⟨by decide, by decide, nle rfl⟩ ⟨nle rfl, nle rfl⟩ ?_
  obtain ⟨V24, hV24, hf⟩ := jbind hf
  refine j_putR (dt_Mo_init 58 (121, .putfield 48, 3) rfl) fl_X12_48 hV24 (Or.inr ⟨_, rfl⟩) (Or.inr ⟨rfl, rfl, rfl⟩) ?_
  refine j_aload_n (dt_Mo_init 59 (124, .aload_n 0, 1) rfl) rfl ?_
  refine j_iconst (dt_Mo_init 60 (125, .iconst 2, 1) rfl) ic_2 ?_
  obtain ⟨h25, hh25, hf⟩ := jbind hf
  refine j_newa 100 (N := 2) (dt_Mo_init 61 (126, .newarray .int, 2) rfl) ⟨⟨nle rfl, nlt rfl⟩, rfl⟩ (gt1 169 rfl rfl) hh25 ⟨by decide, by decide, nle rfl⟩ ⟨nle rfl, nle rfl⟩ ?_
  obtain ⟨V26, hV26, hf⟩ := jbind hf
  refine j_putR (dt_Mo_init 62 (128, .putfield 51, 3) rfl) fl_X12_51 hV26 (Or.inr ⟨_, rfl⟩) (Or.inr ⟨rfl, rfl, rfl⟩) ?_
  refine j_aload_n (dt_Mo_init 63 (131, .aload_n 0, 1) rfl) rfl ?_
  refine j_bipush (dt_Mo_init 64 (132, .bipush 9, 2) rfl) bp_9 ?_
  obtain ⟨h27, hh27, hf⟩ := jbind hf
  refine j_anew 106 (N := 9) (dt_Mo_init 65 (134, .anewarray 54, 3) rfl) ⟨⟨nle rfl, nlt rfl⟩, rfl⟩ (gt6 9 rfl rfl) (fun s hs => hs.2.2.1.2.2.2.1) hh27 ⟨by decide, by decide, nle rfl⟩ ⟨nle rfl, nle rfl⟩ ?_
  refine j_dup (dt_Mo_init 66 (137, .dup, 1) rfl) rfl ?_
  refine j_iconst (dt_Mo_init 67 (138, .iconst 0, 1) rfl) ic_0 ?_
  refine j_ldcS (i := 0) (tx := "guest") (dt_Mo_init 68 (139, .ldc 56, 2) rfl) (List.mem_of_getElem? (i := 9) rfl) ?_
  obtain ⟨V28, hV28, hf⟩ := jbind hf
  refine j_aastS (dt_Mo_init 69 (141, .aastore, 1) rfl) (nlt rfl) hV28 ?_
  refine j_dup (dt_Mo_init 70 (142, .dup, 1) rfl) rfl ?_
  refine j_iconst (dt_Mo_init 71 (143, .iconst 1, 1) rfl) ic_1 ?_
  refine j_ldcS (i := 1) (tx := "mark") (dt_Mo_init 72 (144, .ldc 58, 2) rfl) (List.mem_of_getElem? (i := 10) rfl) ?_
  obtain ⟨V29, hV29, hf⟩ := jbind hf
  refine j_aastS (dt_Mo_init 73 (146, .aastore, 1) rfl) (nlt rfl) hV29 ?_
  refine j_dup (dt_Mo_init 74 (147, .dup, 1) rfl) rfl ?_
  refine j_iconst (dt_Mo_init 75 (148, .iconst 2, 1) rfl) ic_2 ?_
  refine j_ldcS (i := 2) (tx := "is") (dt_Mo_init 76 (149, .ldc 60, 2) rfl) (List.mem_of_getElem? (i := 11) rfl) ?_
  obtain ⟨V30, hV30, hf⟩ := jbind hf
  refine j_aastS (dt_Mo_init 77 (151, .aastore, 1) rfl) (nlt rfl) hV30 ?_
  refine j_dup (dt_Mo_init 78 (152, .dup, 1) rfl) rfl ?_
  refine j_iconst (dt_Mo_init 79 (153, .iconst 3, 1) rfl) ic_3 ?_
  refine j_ldcS (i := 3) (tx := "above") (dt_Mo_init 80 (154, .ldc 62, 2) rfl) (List.mem_of_getElem? (i := 12) rfl) ?_
  obtain ⟨V31, hV31, hf⟩ := jbind hf
  refine j_aastS (dt_Mo_init 81 (156, .aastore, 1) rfl) (nlt rfl) hV31 ?_
  refine j_dup (dt_Mo_init 82 (157, .dup, 1) rfl) rfl ?_
  refine j_iconst (dt_Mo_init 83 (158, .iconst 4, 1) rfl) ic_4 ?_
  refine j_ldcS (i := 4) (tx := "even") (dt_Mo_init 84 (159, .ldc 64, 2) rfl) (List.mem_of_getElem? (i := 13) rfl) ?_
  obtain ⟨V32, hV32, hf⟩ := jbind hf
  refine j_aastS (dt_Mo_init 85 (161, .aastore, 1) rfl) (nlt rfl) hV32 ?_
  refine j_dup (dt_Mo_init 86 (162, .dup, 1) rfl) rfl ?_
  refine j_iconst (dt_Mo_init 87 (163, .iconst 5, 1) rfl) ic_5 ?_
  refine j_ldcS (i := 5) (tx := "apart") (dt_Mo_init 88 (164, .ldc 66, 2) rfl) (List.mem_of_getElem? (i := 14) rfl) ?_
  obtain ⟨V33, hV33, hf⟩ := jbind hf
  refine j_aastS (dt_Mo_init 89 (166, .aastore, 1) rfl) (nlt rfl) hV33 ?_
  refine j_dup (dt_Mo_init 90 (167, .dup, 1) rfl) rfl ?_
  refine j_bipush (dt_Mo_init 91 (168, .bipush 6, 2) rfl) bp_6 ?_
  refine j_ldcS (i := 6) (tx := "by") (dt_Mo_init 92 (170, .ldc 68, 2) rfl) (List.mem_of_getElem? (i := 15) rfl) ?_
  obtain ⟨V34, hV34, hf⟩ := jbind hf
  refine j_aastS (dt_Mo_init 93 (172, .aastore, 1) rfl) (nlt rfl) hV34 ?_
  refine j_dup (dt_Mo_init 94 (173, .dup, 1) rfl) rfl ?_
  refine j_bipush (dt_Mo_init 95 (174, .bipush 7, 2) rfl) bp_7 ?_
  refine j_ldcS (i := 7) (tx := "in") (dt_Mo_init 96 (176, .ldc 70, 2) rfl) (List.mem_of_getElem? (i := 16) rfl) ?_
  obtain ⟨V35, hV35, hf⟩ := jbind hf
  refine j_aastS (dt_Mo_init 97 (178, .aastore, 1) rfl) (nlt rfl) hV35 ?_
  refine j_dup (dt_Mo_init 98 (179, .dup, 1) rfl) rfl ?_
  refine j_bipush (dt_Mo_init 99 (180, .bipush 8, 2) rfl) bp_8 ?_
  refine j_ldcS (i := 8) (tx := "unless") (dt_Mo_init 100 (182, .ldc 72, 2) rfl) (List.mem_of_getElem? (i := 17) rfl) ?_
  obtain ⟨V36, hV36, hf⟩ := jbind hf
  refine j_aastS (dt_Mo_init 101 (184, .aastore, 1) rfl) (nlt rfl) hV36 ?_
  obtain ⟨V37, hV37, hf⟩ := jbind hf
  refine j_putR (dt_Mo_init 102 (185, .putfield 73, 3) rfl) fl_X12_73 hV37 (Or.inr ⟨_, rfl⟩) (Or.inr ⟨rfl, rfl, rfl⟩) ?_
  refine j_aload_n (dt_Mo_init 103 (188, .aload_n 0, 1) rfl) rfl ?_
  refine j_bipush (dt_Mo_init 104 (189, .bipush 12, 2) rfl) bp_12 ?_
  obtain ⟨h38, hh38, hf⟩ := jbind hf
  refine j_newa 102 (N := 12) (dt_Mo_init 105 (191, .newarray .boolean, 2) rfl) ⟨⟨nle rfl, nlt rfl⟩, rfl⟩ (gt6 213 rfl rfl) hh38 ⟨by decide, by decide, nle rfl⟩ ⟨nle rfl, nle rfl⟩ ?_
  obtain ⟨V39, hV39, hf⟩ := jbind hf
  refine j_putR (dt_Mo_init 106 (193, .putfield 77, 3) rfl) fl_X12_77 hV39 (Or.inr ⟨_, rfl⟩) (Or.inr ⟨rfl, rfl, rfl⟩) ?_
  refine j_aload_n (dt_Mo_init 107 (196, .aload_n 0, 1) rfl) rfl ?_
  refine j_bipush (dt_Mo_init 108 (197, .bipush 10, 2) rfl) bp_10 ?_
  obtain ⟨h40, hh40, hf⟩ := jbind hf
  refine j_newa 102 (N := 10) (dt_Mo_init 109 (199, .newarray .boolean, 2) rfl) ⟨⟨nle rfl, nlt rfl⟩, rfl⟩ (gt6 213 rfl rfl) hh40 ⟨by decide, by decide, nle rfl⟩ ⟨nle rfl, nle rfl⟩ ?_
  obtain ⟨V41, hV41, hf⟩ := jbind hf
  refine j_putR (dt_Mo_init 110 (201, .putfield 81, 3) rfl) fl_X12_81 hV41 (Or.inr ⟨_, rfl⟩) (Or.inr ⟨rfl, rfl, rfl⟩) ?_
  refine j_aload_n (dt_Mo_init 111 (204, .aload_n 0, 1) rfl) rfl ?_
  refine j_bipush (dt_Mo_init 112 (205, .bipush 10, 2) rfl) bp_10 ?_
  obtain ⟨h42, hh42, hf⟩ := jbind hf
  refine j_newa 102 (N := 10) (dt_Mo_init 113 (207, .newarray .boolean, 2) rfl) ⟨⟨nle rfl, nlt rfl⟩, rfl⟩ (gt6 213 rfl rfl) hh42 ⟨by decide, by decide, nle rfl⟩ ⟨nle rfl, nle rfl⟩ ?_
  obtain ⟨V43, hV43, hf⟩ := jbind hf
  refine j_putR (dt_Mo_init 114 (209, .putfield 84, 3) rfl) fl_X12_84 hV43 (Or.inr ⟨_, rfl⟩) (Or.inr ⟨rfl, rfl, rfl⟩) ?_
  refine j_aload_n (dt_Mo_init 115 (212, .aload_n 0, 1) rfl) rfl ?_
  refine j_bipush (dt_Mo_init 116 (213, .bipush 10, 2) rfl) bp_10 ?_
  obtain ⟨h44, hh44, hf⟩ := jbind hf
  refine j_newa 100 (N := 10) (dt_Mo_init 117 (215, .newarray .int, 2) rfl) ⟨⟨nle rfl, nlt rfl⟩, rfl⟩ (gt1 169 rfl rfl) hh44 ⟨by decide, by decide, nle rfl⟩ ⟨nle rfl, nle rfl⟩ ?_
  obtain ⟨V45, hV45, hf⟩ := jbind hf
  refine j_putR (dt_Mo_init 118 (217, .putfield 87, 3) rfl) fl_X12_87 hV45 (Or.inr ⟨_, rfl⟩) (Or.inr ⟨rfl, rfl, rfl⟩) ?_
  refine j_aload_n (dt_Mo_init 119 (220, .aload_n 0, 1) rfl) rfl ?_
  refine j_bipush (dt_Mo_init 120 (221, .bipush 10, 2) rfl) bp_10 ?_
  obtain ⟨h46, hh46, hf⟩ := jbind hf
  refine j_newa 100 (N := 10) (dt_Mo_init 121 (223, .newarray .int, 2) rfl) ⟨⟨nle rfl, nlt rfl⟩, rfl⟩ (gt1 169 rfl rfl) hh46 ⟨by decide, by decide, nle rfl⟩ ⟨nle rfl, nle rfl⟩ ?_
  obtain ⟨V47, hV47, hf⟩ := jbind hf
  refine j_putR (dt_Mo_init 122 (225, .putfield 90, 3) rfl) fl_X12_90 hV47 (Or.inr ⟨_, rfl⟩) (Or.inr ⟨rfl, rfl, rfl⟩) ?_
  refine j_aload_n (dt_Mo_init 123 (228, .aload_n 0, 1) rfl) rfl ?_
  refine j_iconst (dt_Mo_init 124 (229, .iconst 4, 1) rfl) ic_4 ?_
  obtain ⟨h48, hh48, hf⟩ := jbind hf
  refine j_newa 100 (N := 4) (dt_Mo_init 125 (230, .newarray .int, 2) rfl) ⟨⟨nle rfl, nlt rfl⟩, rfl⟩ (gt1 169 rfl rfl) hh48 ⟨by decide, by decide, nle rfl⟩ ⟨nle rfl, nle rfl⟩ ?_
  obtain ⟨V49, hV49, hf⟩ := jbind hf
  refine j_putR (dt_Mo_init 126 (232, .putfield 93, 3) rfl) fl_X12_93 hV49 (Or.inr ⟨_, rfl⟩) (Or.inr ⟨rfl, rfl, rfl⟩) ?_
  refine j_aload_n (dt_Mo_init 127 (235, .aload_n 0, 1) rfl) rfl ?_
  refine j_iconst (dt_Mo_init 128 (236, .iconst 4, 1) rfl) ic_4 ?_
  obtain ⟨h50, hh50, hf⟩ := jbind hf
  refine j_newa 100 (N := 4) (dt_Mo_init 129 (237, .newarray .int, 2) rfl) ⟨⟨nle rfl, nlt rfl⟩, rfl⟩ (gt1 169 rfl rfl) hh50 ⟨by decide, by decide, nle rfl⟩ ⟨nle rfl, nle rfl⟩ ?_
  obtain ⟨V51, hV51, hf⟩ := jbind hf
  refine j_putR (dt_Mo_init 130 (239, .putfield 96, 3) rfl) fl_X12_96 hV51 (Or.inr ⟨_, rfl⟩) (Or.inr ⟨rfl, rfl, rfl⟩) ?_
  refine j_aload_n (dt_Mo_init 131 (242, .aload_n 0, 1) rfl) rfl ?_
  refine j_sipush (dt_Mo_init 132 (243, .sipush 1200, 3) rfl) sp_1200 ?_
  obtain ⟨h52, hh52, hf⟩ := jbind hf
  refine j_newa 100 (N := 1200) (dt_Mo_init 133 (246, .newarray .int, 2) rfl) ⟨⟨nle rfl, nlt rfl⟩, rfl⟩ (gt1 169 rfl rfl) hh52 ⟨by decide, by decide, nle rfl⟩ ⟨nle rfl, nle rfl⟩ ?_
  obtain ⟨V53, hV53, hf⟩ := jbind hf
  refine j_putR (dt_Mo_init 134 (248, .putfield 99, 3) rfl) fl_X12_99 hV53 (Or.inr ⟨_, rfl⟩) (Or.inr ⟨rfl, rfl, rfl⟩) ?_
  refine j_aload_n (dt_Mo_init 135 (251, .aload_n 0, 1) rfl) rfl ?_
  refine j_sipush (dt_Mo_init 136 (252, .sipush 1200, 3) rfl) sp_1200 ?_
  obtain ⟨h54, hh54, hf⟩ := jbind hf
  refine j_newa 100 (N := 1200) (dt_Mo_init 137 (255, .newarray .int, 2) rfl) ⟨⟨nle rfl, nlt rfl⟩, rfl⟩ (gt1 169 rfl rfl) hh54 ⟨by decide, by decide, nle rfl⟩ ⟨nle rfl, nle rfl⟩ ?_
  obtain ⟨V55, hV55, hf⟩ := jbind hf
  refine j_putR (dt_Mo_init 138 (257, .putfield 102, 3) rfl) fl_X12_102 hV55 (Or.inr ⟨_, rfl⟩) (Or.inr ⟨rfl, rfl, rfl⟩) ?_
  refine j_aload_n (dt_Mo_init 139 (260, .aload_n 0, 1) rfl) rfl ?_
  refine j_sipush (dt_Mo_init 140 (261, .sipush 1200, 3) rfl) sp_1200 ?_
  obtain ⟨h56, hh56, hf⟩ := jbind hf
  refine j_newa 100 (N := 1200) (dt_Mo_init 141 (264, .newarray .int, 2) rfl) ⟨⟨nle rfl, nlt rfl⟩, rfl⟩ (gt1 169 rfl rfl) hh56 ⟨by decide, by decide, nle rfl⟩ ⟨nle rfl, nle rfl⟩ ?_
  obtain ⟨V57, hV57, hf⟩ := jbind hf
  refine j_putR (dt_Mo_init 142 (266, .putfield 105, 3) rfl) fl_X12_105 hV57 (Or.inr ⟨_, rfl⟩) (Or.inr ⟨rfl, rfl, rfl⟩) ?_
  refine j_aload_n (dt_Mo_init 143 (269, .aload_n 0, 1) rfl) rfl ?_
  refine j_bipush (dt_Mo_init 144 (270, .bipush 10, 2) rfl) bp_10 ?_
  obtain ⟨h58, hh58, hf⟩ := jbind hf
  refine j_newa 100 (N := 10) (dt_Mo_init 145 (272, .newarray .int, 2) rfl) ⟨⟨nle rfl, nlt rfl⟩, rfl⟩ (gt1 169 rfl rfl) hh58 ⟨by decide, by decide, nle rfl⟩ ⟨nle rfl, nle rfl⟩ ?_
  obtain ⟨V59, hV59, hf⟩ := jbind hf
  refine j_putR (dt_Mo_init 146 (274, .putfield 108, 3) rfl) fl_X12_108 hV59 (Or.inr ⟨_, rfl⟩) (Or.inr ⟨rfl, rfl, rfl⟩) ?_
  refine j_aload_n (dt_Mo_init 147 (277, .aload_n 0, 1) rfl) rfl ?_
  refine j_bipush (dt_Mo_init 148 (278, .bipush 100, 2) rfl) bp_100 ?_
  obtain ⟨h60, hh60, hf⟩ := jbind hf
  refine j_newa 102 (N := 100) (dt_Mo_init 149 (280, .newarray .boolean, 2) rfl) ⟨⟨nle rfl, nlt rfl⟩, rfl⟩ (gt6 213 rfl rfl) hh60 ⟨by decide, by decide, nle rfl⟩ ⟨nle rfl, nle rfl⟩ ?_
  obtain ⟨V61, hV61, hf⟩ := jbind hf
  refine j_putR (dt_Mo_init 150 (282, .putfield 111, 3) rfl) fl_X12_111 hV61 (Or.inr ⟨_, rfl⟩) (Or.inr ⟨rfl, rfl, rfl⟩) ?_
  refine j_aload_n (dt_Mo_init 151 (285, .aload_n 0, 1) rfl) rfl ?_
  refine j_bipush (dt_Mo_init 152 (286, .bipush 100, 2) rfl) bp_100 ?_
  obtain ⟨h62, hh62, hf⟩ := jbind hf
  refine j_newa 102 (N := 100) (dt_Mo_init 153 (288, .newarray .boolean, 2) rfl) ⟨⟨nle rfl, nlt rfl⟩, rfl⟩ (gt6 213 rfl rfl) hh62 ⟨by decide, by decide, nle rfl⟩ ⟨nle rfl, nle rfl⟩ ?_
  obtain ⟨V63, hV63, hf⟩ := jbind hf
  refine j_putR (dt_Mo_init 154 (290, .putfield 113, 3) rfl) fl_X12_113 hV63 (Or.inr ⟨_, rfl⟩) (Or.inr ⟨rfl, rfl, rfl⟩) ?_
  refine j_aload_n (dt_Mo_init 155 (293, .aload_n 0, 1) rfl) rfl ?_
  refine j_bipush (dt_Mo_init 156 (294, .bipush 10, 2) rfl) bp_10 ?_
  obtain ⟨h64, hh64, hf⟩ := jbind hf
  refine j_newa 100 (N := 10) (dt_Mo_init 157 (296, .newarray .int, 2) rfl) ⟨⟨nle rfl, nlt rfl⟩, rfl⟩ (gt1 169 rfl rfl) hh64 ⟨by decide, by decide, nle rfl⟩ ⟨nle rfl, nle rfl⟩ ?_
  obtain ⟨V65, hV65, hf⟩ := jbind hf
  refine j_putR (dt_Mo_init 158 (298, .putfield 115, 3) rfl) fl_X12_115 hV65 (Or.inr ⟨_, rfl⟩) (Or.inr ⟨rfl, rfl, rfl⟩) ?_
  refine j_aload_n (dt_Mo_init 159 (301, .aload_n 0, 1) rfl) rfl ?_
  refine j_bipush (dt_Mo_init 160 (302, .bipush 10, 2) rfl) bp_10 ?_
  obtain ⟨h66, hh66, hf⟩ := jbind hf
  refine j_newa 100 (N := 10) (dt_Mo_init 161 (304, .newarray .int, 2) rfl) ⟨⟨nle rfl, nlt rfl⟩, rfl⟩ (gt1 169 rfl rfl) hh66 ⟨by decide, by decide, nle rfl⟩ ⟨nle rfl, nle rfl⟩ ?_
  obtain ⟨V67, hV67, hf⟩ := jbind hf
  refine j_putR (dt_Mo_init 162 (306, .putfield 118, 3) rfl) fl_X12_118 hV67 (Or.inr ⟨_, rfl⟩) (Or.inr ⟨rfl, rfl, rfl⟩) ?_
  refine j_aload_n (dt_Mo_init 163 (309, .aload_n 0, 1) rfl) rfl ?_
  refine j_bipush (dt_Mo_init 164 (310, .bipush 10, 2) rfl) bp_10 ?_
  obtain ⟨h68, hh68, hf⟩ := jbind hf
  refine j_newa 100 (N := 10) (dt_Mo_init 165 (312, .newarray .int, 2) rfl) ⟨⟨nle rfl, nlt rfl⟩, rfl⟩ (gt1 169 rfl rfl) hh68 ⟨by decide, by decide, nle rfl⟩ ⟨nle rfl, nle rfl⟩ ?_
  obtain ⟨V69, hV69, hf⟩ := jbind hf
  refine j_putR (dt_Mo_init 166 (314, .putfield 121, 3) rfl) fl_X12_121 hV69 (Or.inr ⟨_, rfl⟩) (Or.inr ⟨rfl, rfl, rfl⟩) ?_
  refine j_aload_n (dt_Mo_init 167 (317, .aload_n 0, 1) rfl) rfl ?_
  refine j_bipush (dt_Mo_init 168 (318, .bipush 10, 2) rfl) bp_10 ?_
  obtain ⟨h70, hh70, hf⟩ := jbind hf
  refine j_newa 100 (N := 10) (dt_Mo_init 169 (320, .newarray .int, 2) rfl) ⟨⟨nle rfl, nlt rfl⟩, rfl⟩ (gt1 169 rfl rfl) hh70 ⟨by decide, by decide, nle rfl⟩ ⟨nle rfl, nle rfl⟩ ?_
  obtain ⟨V71, hV71, hf⟩ := jbind hf
  refine j_putR (dt_Mo_init 170 (322, .putfield 124, 3) rfl) fl_X12_124 hV71 (Or.inr ⟨_, rfl⟩) (Or.inr ⟨rfl, rfl, rfl⟩) ?_
  refine j_aload_n (dt_Mo_init 171 (325, .aload_n 0, 1) rfl) rfl ?_
  refine j_sipush (dt_Mo_init 172 (326, .sipush 1024, 3) rfl) sp_1024 ?_
  obtain ⟨h72, hh72, hf⟩ := jbind hf
  refine j_newa 100 (N := 1024) (dt_Mo_init 173 (329, .newarray .int, 2) rfl) ⟨⟨nle rfl, nlt rfl⟩, rfl⟩ (gt1 169 rfl rfl) hh72 ⟨by decide, by decide, nle rfl⟩ ⟨nle rfl, nle rfl⟩ ?_
  obtain ⟨V73, hV73, hf⟩ := jbind hf
  refine j_putR (dt_Mo_init 174 (331, .putfield 127, 3) rfl) fl_X12_127 hV73 (Or.inr ⟨_, rfl⟩) (Or.inr ⟨rfl, rfl, rfl⟩) ?_
  refine j_aload_n (dt_Mo_init 175 (334, .aload_n 0, 1) rfl) rfl ?_
  refine j_bipush (dt_Mo_init 176 (335, .bipush 10, 2) rfl) bp_10 ?_
  obtain ⟨h74, hh74, hf⟩ := jbind hf
  refine j_newa 100 (N := 10) (dt_Mo_init 177 (337, .newarray .int, 2) rfl) ⟨⟨nle rfl, nlt rfl⟩, rfl⟩ (gt1 169 rfl rfl) hh74 ⟨by decide, by decide, nle rfl⟩ ⟨nle rfl, nle rfl⟩ ?_
  obtain ⟨V75, hV75, hf⟩ := jbind hf
  refine j_putR (dt_Mo_init 178 (339, .putfield 130, 3) rfl) fl_X12_130 hV75 (Or.inr ⟨_, rfl⟩) (Or.inr ⟨rfl, rfl, rfl⟩) ?_
  refine j_aload_n (dt_Mo_init 179 (342, .aload_n 0, 1) rfl) rfl ?_
  refine j_bipush (dt_Mo_init 180 (343, .bipush 10, 2) rfl) bp_10 ?_
  obtain ⟨h76, hh76, hf⟩ := jbind hf
  refine j_newa 100 (N := 10) (dt_Mo_init 181 (345, .newarray .int, 2) rfl) ⟨⟨nle rfl, nlt rfl⟩, rfl⟩ (gt1 169 rfl rfl) hh76 ⟨by decide, by decide, nle rfl⟩ ⟨nle rfl, nle rfl⟩ ?_
  obtain ⟨V77, hV77, hf⟩ := jbind hf
  refine j_putR (dt_Mo_init 182 (347, .putfield 133, 3) rfl) fl_X12_133 hV77 (Or.inr ⟨_, rfl⟩) (Or.inr ⟨rfl, rfl, rfl⟩) ?_
  refine j_aload_n (dt_Mo_init 183 (350, .aload_n 0, 1) rfl) rfl ?_
  refine j_bipush (dt_Mo_init 184 (351, .bipush 10, 2) rfl) bp_10 ?_
  obtain ⟨h78, hh78, hf⟩ := jbind hf
  refine j_newa 100 (N := 10) (dt_Mo_init 185 (353, .newarray .int, 2) rfl) ⟨⟨nle rfl, nlt rfl⟩, rfl⟩ (gt1 169 rfl rfl) hh78 ⟨by decide, by decide, nle rfl⟩ ⟨nle rfl, nle rfl⟩ ?_
  obtain ⟨V79, hV79, hf⟩ := jbind hf
  refine j_putR (dt_Mo_init 186 (355, .putfield 136, 3) rfl) fl_X12_136 hV79 (Or.inr ⟨_, rfl⟩) (Or.inr ⟨rfl, rfl, rfl⟩) ?_
  refine j_aload_n (dt_Mo_init 187 (358, .aload_n 0, 1) rfl) rfl ?_
  refine j_sipush (dt_Mo_init 188 (359, .sipush 1024, 3) rfl) sp_1024 ?_
  obtain ⟨h80, hh80, hf⟩ := jbind hf
  refine j_newa 102 (N := 1024) (dt_Mo_init 189 (362, .newarray .boolean, 2) rfl) ⟨⟨nle rfl, nlt rfl⟩, rfl⟩ (gt6 213 rfl rfl) hh80 ⟨by decide, by decide, nle rfl⟩ ⟨nle rfl, nle rfl⟩ ?_
  obtain ⟨V81, hV81, hf⟩ := jbind hf
  refine j_putR (dt_Mo_init 190 (364, .putfield 139, 3) rfl) fl_X12_139 hV81 (Or.inr ⟨_, rfl⟩) (Or.inr ⟨rfl, rfl, rfl⟩) ?_
  refine j_aload_n (dt_Mo_init 191 (367, .aload_n 0, 1) rfl) rfl ?_
  refine j_sipush (dt_Mo_init 192 (368, .sipush 6400, 3) rfl) sp_6400 ?_
  obtain ⟨h82, hh82, hf⟩ := jbind hf
  refine j_newa 100 (N := 6400) (dt_Mo_init 193 (371, .newarray .int, 2) rfl) ⟨⟨nle rfl, nlt rfl⟩, rfl⟩ (gt1 169 rfl rfl) hh82 ⟨by decide, by decide, nle rfl⟩ ⟨nle rfl, nle rfl⟩ ?_
  obtain ⟨V83, hV83, hf⟩ := jbind hf
  refine j_putR (dt_Mo_init 194 (373, .putfield 142, 3) rfl) fl_X12_142 hV83 (Or.inr ⟨_, rfl⟩) (Or.inr ⟨rfl, rfl, rfl⟩) ?_
  refine j_aload_n (dt_Mo_init 195 (376, .aload_n 0, 1) rfl) rfl ?_
  refine j_sipush (dt_Mo_init 196 (377, .sipush 6400, 3) rfl) sp_6400 ?_
  obtain ⟨h84, hh84, hf⟩ := jbind hf
  refine j_newa 100 (N := 6400) (dt_Mo_init 197 (380, .newarray .int, 2) rfl) ⟨⟨nle rfl, nlt rfl⟩, rfl⟩ (gt1 169 rfl rfl) hh84 ⟨by decide, by decide, nle rfl⟩ ⟨nle rfl, nle rfl⟩ ?_
  obtain ⟨V85, hV85, hf⟩ := jbind hf
  refine j_putR (dt_Mo_init 198 (382, .putfield 145, 3) rfl) fl_X12_145 hV85 (Or.inr ⟨_, rfl⟩) (Or.inr ⟨rfl, rfl, rfl⟩) ?_
  refine j_aload_n (dt_Mo_init 199 (385, .aload_n 0, 1) rfl) rfl ?_
  refine j_bipush (dt_Mo_init 200 (386, .bipush 10, 2) rfl) bp_10 ?_
  obtain ⟨h86, hh86, hf⟩ := jbind hf
  refine j_newa 100 (N := 10) (dt_Mo_init 201 (388, .newarray .int, 2) rfl) ⟨⟨nle rfl, nlt rfl⟩, rfl⟩ (gt1 169 rfl rfl) hh86 ⟨by decide, by decide, nle rfl⟩ ⟨nle rfl, nle rfl⟩ ?_
  obtain ⟨V87, hV87, hf⟩ := jbind hf
  refine j_putR (dt_Mo_init 202 (390, .putfield 148, 3) rfl) fl_X12_148 hV87 (Or.inr ⟨_, rfl⟩) (Or.inr ⟨rfl, rfl, rfl⟩) ?_
  refine j_aload_n (dt_Mo_init 203 (393, .aload_n 0, 1) rfl) rfl ?_
  refine j_bipush (dt_Mo_init 204 (394, .bipush 10, 2) rfl) bp_10 ?_
  obtain ⟨h88, hh88, hf⟩ := jbind hf
  refine j_newa 100 (N := 10) (dt_Mo_init 205 (396, .newarray .int, 2) rfl) ⟨⟨nle rfl, nlt rfl⟩, rfl⟩ (gt1 169 rfl rfl) hh88 ⟨by decide, by decide, nle rfl⟩ ⟨nle rfl, nle rfl⟩ ?_
  obtain ⟨V89, hV89, hf⟩ := jbind hf
  refine j_putR (dt_Mo_init 206 (398, .putfield 151, 3) rfl) fl_X12_151 hV89 (Or.inr ⟨_, rfl⟩) (Or.inr ⟨rfl, rfl, rfl⟩) ?_
  refine j_aload_n (dt_Mo_init 207 (401, .aload_n 0, 1) rfl) rfl ?_
  refine j_bipush (dt_Mo_init 208 (402, .bipush 10, 2) rfl) bp_10 ?_
  obtain ⟨h90, hh90, hf⟩ := jbind hf
  refine j_newa 100 (N := 10) (dt_Mo_init 209 (404, .newarray .int, 2) rfl) ⟨⟨nle rfl, nlt rfl⟩, rfl⟩ (gt1 169 rfl rfl) hh90 ⟨by decide, by decide, nle rfl⟩ ⟨nle rfl, nle rfl⟩ ?_
  obtain ⟨V91, hV91, hf⟩ := jbind hf
  refine j_putR (dt_Mo_init 210 (406, .putfield 154, 3) rfl) fl_X12_154 hV91 (Or.inr ⟨_, rfl⟩) (Or.inr ⟨rfl, rfl, rfl⟩) ?_
  refine j_aload_n (dt_Mo_init 211 (409, .aload_n 0, 1) rfl) rfl ?_
  refine j_bipush (dt_Mo_init 212 (410, .bipush 10, 2) rfl) bp_10 ?_
  obtain ⟨h92, hh92, hf⟩ := jbind hf
  refine j_newa 100 (N := 10) (dt_Mo_init 213 (412, .newarray .int, 2) rfl) ⟨⟨nle rfl, nlt rfl⟩, rfl⟩ (gt1 169 rfl rfl) hh92 ⟨by decide, by decide, nle rfl⟩ ⟨nle rfl, nle rfl⟩ ?_
  obtain ⟨V93, hV93, hf⟩ := jbind hf
  refine j_putR (dt_Mo_init 214 (414, .putfield 157, 3) rfl) fl_X12_157 hV93 (Or.inr ⟨_, rfl⟩) (Or.inr ⟨rfl, rfl, rfl⟩) ?_
  refine j_aload_n (dt_Mo_init 215 (417, .aload_n 0, 1) rfl) rfl ?_
  refine j_bipush (dt_Mo_init 216 (418, .bipush 10, 2) rfl) bp_10 ?_
  obtain ⟨h94, hh94, hf⟩ := jbind hf
  refine j_newa 100 (N := 10) (dt_Mo_init 217 (420, .newarray .int, 2) rfl) ⟨⟨nle rfl, nlt rfl⟩, rfl⟩ (gt1 169 rfl rfl) hh94 ⟨by decide, by decide, nle rfl⟩ ⟨nle rfl, nle rfl⟩ ?_
  obtain ⟨V95, hV95, hf⟩ := jbind hf
  refine j_putR (dt_Mo_init 218 (422, .putfield 160, 3) rfl) fl_X12_160 hV95 (Or.inr ⟨_, rfl⟩) (Or.inr ⟨rfl, rfl, rfl⟩) ?_
  refine j_aload_n (dt_Mo_init 219 (425, .aload_n 0, 1) rfl) rfl ?_
  refine j_bipush (dt_Mo_init 220 (426, .bipush 8, 2) rfl) bp_8 ?_
  obtain ⟨h96, hh96, hf⟩ := jbind hf
  refine j_newa 100 (N := 8) (dt_Mo_init 221 (428, .newarray .int, 2) rfl) ⟨⟨nle rfl, nlt rfl⟩, rfl⟩ (gt1 169 rfl rfl) hh96 ⟨by decide, by decide, nle rfl⟩ ⟨nle rfl, nle rfl⟩ ?_
  obtain ⟨V97, hV97, hf⟩ := jbind hf
  refine j_putR (dt_Mo_init 222 (430, .putfield 163, 3) rfl) fl_X12_163 hV97 (Or.inr ⟨_, rfl⟩) (Or.inr ⟨rfl, rfl, rfl⟩) ?_
  refine j_aload_n (dt_Mo_init 223 (433, .aload_n 0, 1) rfl) rfl ?_
  refine j_bipush (dt_Mo_init 224 (434, .bipush 80, 2) rfl) bp_80 ?_
  obtain ⟨h98, hh98, hf⟩ := jbind hf
  refine j_newa 100 (N := 80) (dt_Mo_init 225 (436, .newarray .int, 2) rfl) ⟨⟨nle rfl, nlt rfl⟩, rfl⟩ (gt1 169 rfl rfl) hh98 ⟨by decide, by decide, nle rfl⟩ ⟨nle rfl, nle rfl⟩ ?_
  obtain ⟨V99, hV99, hf⟩ := jbind hf
  refine j_putR (dt_Mo_init 226 (438, .putfield 166, 3) rfl) fl_X12_166 hV99 (Or.inr ⟨_, rfl⟩) (Or.inr ⟨rfl, rfl, rfl⟩) ?_
  refine j_aload_n (dt_Mo_init 227 (441, .aload_n 0, 1) rfl) rfl ?_
  refine j_iconst (dt_Mo_init 228 (442, .iconst 3, 1) rfl) ic_3 ?_
  obtain ⟨h100, hh100, hf⟩ := jbind hf
  refine j_newa 100 (N := 3) (dt_Mo_init 229 (443, .newarray .int, 2) rfl) ⟨⟨nle rfl, nlt rfl⟩, rfl⟩ (gt1 169 rfl rfl) hh100 ⟨by decide, by decide, nle rfl⟩ ⟨nle rfl, nle rfl⟩ ?_
  obtain ⟨V101, hV101, hf⟩ := jbind hf
  refine j_putR (dt_Mo_init 230 (445, .putfield 169, 3) rfl) fl_X12_169 hV101 (Or.inr ⟨_, rfl⟩) (Or.inr ⟨rfl, rfl, rfl⟩) ?_
  refine j_aload_n (dt_Mo_init 231 (448, .aload_n 0, 1) rfl) rfl ?_
  refine j_iconst (dt_Mo_init 232 (449, .iconst 3, 1) rfl) ic_3 ?_
  obtain ⟨h102, hh102, hf⟩ := jbind hf
  refine j_newa 100 (N := 3) (dt_Mo_init 233 (450, .newarray .int, 2) rfl) ⟨⟨nle rfl, nlt rfl⟩, rfl⟩ (gt1 169 rfl rfl) hh102 ⟨by decide, by decide, nle rfl⟩ ⟨nle rfl, nle rfl⟩ ?_
  obtain ⟨V103, hV103, hf⟩ := jbind hf
  refine j_putR (dt_Mo_init 234 (452, .putfield 172, 3) rfl) fl_X12_172 hV103 (Or.inr ⟨_, rfl⟩) (Or.inr ⟨rfl, rfl, rfl⟩) ?_
  cases hf
  exact j_vret (dt_Mo_init 235 (455, .return_, 1) rfl) rfl
def tb_Court_init : List (Nat × Instr × Nat) := [(0, .aload_n 0, 1), (1, .invokespecial 3, 3), (4, .aload_n 0, 1), (5, .iconst 5, 1), (6, .newarray .int, 2), (8, .putfield 9, 3), (11, .aload_n 0, 1), (12, .bipush 12, 2), (14, .anewarray 15, 3), (17, .putfield 17, 3), (20, .aload_n 0, 1), (21, .bipush 10, 2), (23, .newarray .int, 2), (25, .putfield 21, 3), (28, .aload_n 0, 1), (29, .bipush 10, 2), (31, .newarray .int, 2), (33, .putfield 24, 3), (36, .aload_n 0, 1), (37, .iconst 0, 1), (38, .putfield 27, 3), (41, .aload_n 0, 1), (42, .iconst 0, 1), (43, .putfield 31, 3), (46, .aload_n 0, 1), (47, .iconst 0, 1), (48, .putfield 34, 3), (51, .aload_n 0, 1), (52, .iconst 0, 1), (53, .putfield 37, 3), (56, .aload_n 0, 1), (57, .iconst 0, 1), (58, .putfield 40, 3), (61, .aload_n 0, 1), (62, .iconst 0, 1), (63, .putfield 43, 3), (66, .aload_n 0, 1), (67, .iconst 0, 1), (68, .putfield 46, 3), (71, .iconst 0, 1), (72, .istore_n 1, 1), (73, .iload_n 1, 1), (74, .aload_n 0, 1), (75, .getfield 17, 3), (78, .arraylength, 1), (79, .if_icmp .ge 22, 3), (82, .aload_n 0, 1), (83, .getfield 17, 3), (86, .iload_n 1, 1), (87, .new 15, 3), (90, .dup, 1), (91, .invokespecial 49, 3), (94, .aastore, 1), (95, .iinc 1 1, 3), (98, .goto (-25), 3), (101, .return_, 1)]
theorem dt_Court_init (i : Nat) (q : Nat × Instr × Nat) (h : tb_Court_init[i]? = some q) : decode prog_2_method_1_code q.1 = .ok q.2 := jdt (by decide +kernel : tb_Court_init.all (fun q => decide (decode prog_2_method_1_code q.1 = .ok q.2)) = true) h
theorem ok_Court_init : jOKI M_Court_init 0 := ⟨⟨gt2 193 rfl rfl, gt1 15 rfl rfl, (by decide : "FirstIn$Court" ≠ "java/lang/invoke/MethodHandle"), (by decide : "FirstIn$Court" ≠ "java/lang/invoke/VarHandle"), (by decide +kernel : (parseMethodDescriptor "()V").map (fun d => d.parameters.length) = some 0)⟩, gt2 192 rfl rfl, rfl⟩
set_option maxRecDepth 100000 in
set_option maxHeartbeats 4000000 in
theorem c_Court_init {G : jG} {S : hS} {V : hV} {v0 : Option Nat} {res : hS × hV} (hf : Court_init S v0 V = some res) : jC G M_Court_init [ar v0] (S, V) none res := by
  unfold Court_init at hf
  obtain ⟨o0, ho, hg⟩ := jbind hf
  obtain ⟨e0, ho0⟩ := rc_spec ho
  clear hf
  subst e0
  have hf := hg
  clear hg
  refine jC_of (pf_X0 _ _) rfl (nle rfl) ?_
  show jJ G M_Court_init (jEnd G M_Court_init none res) 0 0 0 [(0, ar (some o0))] [] (S, V)
  refine j_aload_n (dt_Court_init 0 (0, .aload_n 0, 1) rfl) rfl ?_
  refine j_objInit (dt_Court_init 1 (1, .invokespecial 3, 3) rfl) (gt2 194 rfl rfl) ho0.1 (nle rfl) ⟨nle rfl, nle rfl⟩ ?_
  refine j_aload_n (dt_Court_init 2 (4, .aload_n 0, 1) rfl) rfl ?_
  refine j_iconst (dt_Court_init 3 (5, .iconst 5, 1) rfl) ic_5 ?_
  obtain ⟨h1, hh1, hf⟩ := jbind hf
  refine j_newa 100 (N := 5) (dt_Court_init 4 (6, .newarray .int, 2) rfl) ⟨⟨nle rfl, nlt rfl⟩, rfl⟩ (gt1 169 rfl rfl) hh1 ⟨by decide, by decide, nle rfl⟩ ⟨nle rfl, nle rfl⟩ ?_
  obtain ⟨V2, hV2, hf⟩ := jbind hf
  refine j_putR (dt_Court_init 5 (8, .putfield 9, 3) rfl) fl_X0_9 hV2 (Or.inr ⟨_, rfl⟩) (Or.inr ⟨rfl, rfl, rfl⟩) ?_
  refine j_aload_n (dt_Court_init 6 (11, .aload_n 0, 1) rfl) rfl ?_
  refine j_bipush (dt_Court_init 7 (12, .bipush 12, 2) rfl) bp_12 ?_
  obtain ⟨h3, hh3, hf⟩ := jbind hf
  refine j_anew 105 (N := 12) (dt_Court_init 8 (14, .anewarray 15, 3) rfl) ⟨⟨nle rfl, nlt rfl⟩, rfl⟩ (gt2 195 rfl rfl) (fun s hs => hs.2.2.1.2.2.1) hh3 ⟨by decide, by decide, nle rfl⟩ ⟨nle rfl, nle rfl⟩ ?_
  obtain ⟨V4, hV4, hf⟩ := jbind hf
  refine j_putR (dt_Court_init 9 (17, .putfield 17, 3) rfl) fl_X0_17 hV4 (Or.inr ⟨_, rfl⟩) (Or.inr ⟨rfl, rfl, rfl⟩) ?_
  refine j_aload_n (dt_Court_init 10 (20, .aload_n 0, 1) rfl) rfl ?_
  refine j_bipush (dt_Court_init 11 (21, .bipush 10, 2) rfl) bp_10 ?_
  obtain ⟨h5, hh5, hf⟩ := jbind hf
  refine j_newa 100 (N := 10) (dt_Court_init 12 (23, .newarray .int, 2) rfl) ⟨⟨nle rfl, nlt rfl⟩, rfl⟩ (gt1 169 rfl rfl) hh5 ⟨by decide, by decide, nle rfl⟩ ⟨nle rfl, nle rfl⟩ ?_
  obtain ⟨V6, hV6, hf⟩ := jbind hf
  refine j_putR (dt_Court_init 13 (25, .putfield 21, 3) rfl) fl_X0_21 hV6 (Or.inr ⟨_, rfl⟩) (Or.inr ⟨rfl, rfl, rfl⟩) ?_
  refine j_aload_n (dt_Court_init 14 (28, .aload_n 0, 1) rfl) rfl ?_
  refine j_bipush (dt_Court_init 15 (29, .bipush 10, 2) rfl) bp_10 ?_
  obtain ⟨h7, hh7, hf⟩ := jbind hf
  refine j_newa 100 (N := 10) (dt_Court_init 16 (31, .newarray .int, 2) rfl) ⟨⟨nle rfl, nlt rfl⟩, rfl⟩ (gt1 169 rfl rfl) hh7 ⟨by decide, by decide, nle rfl⟩ ⟨nle rfl, nle rfl⟩ ?_
  obtain ⟨V8, hV8, hf⟩ := jbind hf
  refine j_putR (dt_Court_init 17 (33, .putfield 24, 3) rfl) fl_X0_24 hV8 (Or.inr ⟨_, rfl⟩) (Or.inr ⟨rfl, rfl, rfl⟩) ?_
  refine j_aload_n (dt_Court_init 18 (36, .aload_n 0, 1) rfl) rfl ?_
  refine j_iconst (dt_Court_init 19 (37, .iconst 0, 1) rfl) ic_0 ?_
  obtain ⟨V9, hV9, hf⟩ := jbind hf
  refine j_putI (dt_Court_init 20 (38, .putfield 27, 3) rfl) fl_X0_27 hV9 rfl (Or.inl rfl) ?_
  refine j_aload_n (dt_Court_init 21 (41, .aload_n 0, 1) rfl) rfl ?_
  refine j_iconst (dt_Court_init 22 (42, .iconst 0, 1) rfl) ic_0 ?_
  obtain ⟨V10, hV10, hf⟩ := jbind hf
  refine j_putI (dt_Court_init 23 (43, .putfield 31, 3) rfl) fl_X0_31 hV10 rfl (Or.inl rfl) ?_
  refine j_aload_n (dt_Court_init 24 (46, .aload_n 0, 1) rfl) rfl ?_
  refine j_iconst (dt_Court_init 25 (47, .iconst 0, 1) rfl) ic_0 ?_
  obtain ⟨V11, hV11, hf⟩ := jbind hf
  refine j_putI (dt_Court_init 26 (48, .putfield 34, 3) rfl) fl_X0_34 hV11 rfl (Or.inl rfl) ?_
  refine j_aload_n (dt_Court_init 27 (51, .aload_n 0, 1) rfl) rfl ?_
  refine j_iconst (dt_Court_init 28 (52, .iconst 0, 1) rfl) ic_0 ?_
  obtain ⟨V12, hV12, hf⟩ := jbind hf
  refine j_putI (dt_Court_init 29 (53, .putfield 37, 3) rfl) fl_X0_37 hV12 rfl (Or.inl rfl) ?_
  refine j_aload_n (dt_Court_init 30 (56, .aload_n 0, 1) rfl) rfl ?_
  refine j_iconst (dt_Court_init 31 (57, .iconst 0, 1) rfl) ic_0 ?_
  obtain ⟨V13, hV13, hf⟩ := jbind hf
  refine j_putI (dt_Court_init 32 (58, .putfield 40, 3) rfl) fl_X0_40 hV13 rfl (Or.inl rfl) ?_
  refine j_aload_n (dt_Court_init 33 (61, .aload_n 0, 1) rfl) rfl ?_
  refine j_iconst (dt_Court_init 34 (62, .iconst 0, 1) rfl) ic_0 ?_
  obtain ⟨V14, hV14, hf⟩ := jbind hf
  refine j_putI (dt_Court_init 35 (63, .putfield 43, 3) rfl) fl_X0_43 hV14 rfl (Or.inl rfl) ?_
  refine j_aload_n (dt_Court_init 36 (66, .aload_n 0, 1) rfl) rfl ?_
  refine j_iconst (dt_Court_init 37 (67, .iconst 0, 1) rfl) ic_0 ?_
  obtain ⟨V15, hV15, hf⟩ := jbind hf
  refine j_putI (dt_Court_init 38 (68, .putfield 46, 3) rfl) fl_X0_46 hV15 rfl (Or.inl rfl) ?_
  refine j_iconst (dt_Court_init 39 (71, .iconst 0, 1) rfl) ic_0 ?_
  refine j_istore_n (dt_Court_init 40 (72, .istore_n 1, 1) rfl) (nlt rfl) ?_
  obtain ⟨t73, ht73, hf⟩ := jbind hf
  have hX73 : ∀ q73 : hS × hV, q73 = t73 → jJ G M_Court_init (jEnd G M_Court_init none res) 28 253 101 [] [] (q73.1, q73.2) := by
    intro q73 hq73
    subst hq73
    cases hf
    exact j_vret (dt_Court_init 55 (101, .return_, 1) rfl) rfl
  refine j_sub (ls' := [(0, ar (some o0)), (1, ai 0)]) rfl ?_
  refine jloop_J (C := fun s73 => jJ G M_Court_init (jEnd G M_Court_init none res) (4 + 2 * s73.1.toNatClampNeg) (37 + 18 * s73.1.toNatClampNeg) 73 [(0, ar (some o0)), (1, ai s73.1)] [] (s73.2.1, s73.2.2)) (fun s73 z73_ hy73 hin73 hout73 => ?_) _ _ ht73
  unfold Court_init_L73 at hy73
  obtain ⟨_, hgd73, hy73⟩ := jbind hy73
  refine j_iload_n (dt_Court_init 41 (73, .iload_n 1, 1) rfl) rfl ?_
  refine j_aload_n (dt_Court_init 42 (74, .aload_n 0, 1) rfl) rfl ?_
  obtain ⟨x16, hx16, hy73⟩ := jbind hy73
  refine j_getR (dt_Court_init 43 (75, .getfield 17, 3) rfl) fl_X0_17 hx16 (fun _ _ => rfl) ?_
  obtain ⟨x17, hx17, hy73⟩ := jbind hy73
  refine j_alen (dt_Court_init 44 (78, .arraylength, 1) rfl) hx17 ?_
  refine jite hy73 (fun hc hy73 => ?_) (fun hc hy73 => ?_)
  · refine j_icmp_ge (dt_Court_init 45 (79, .if_icmp .ge 22, 3) rfl) rfl (fun _ => ?_) (fun q => absurd hc q)
    cases hy73
    have hz := hX73 _ (hout73 _ rfl)
    exact j_widen (jgd_all hgd73) (jgd_all hgd73) (j_sub rfl hz)
  · refine j_icmp_ge (dt_Court_init 45 (79, .if_icmp .ge 22, 3) rfl) rfl (fun q => absurd q hc) (fun _ => ?_)
    refine j_aload_n (dt_Court_init 46 (82, .aload_n 0, 1) rfl) rfl ?_
    obtain ⟨x18, hx18, hy73⟩ := jbind hy73
    refine j_getR (dt_Court_init 47 (83, .getfield 17, 3) rfl) fl_X0_17 hx18 (fun _ _ => rfl) ?_
    refine j_iload_n (dt_Court_init 48 (86, .iload_n 1, 1) rfl) rfl ?_
    obtain ⟨_, hgl73, hy73⟩ := jbind hy73
    have hlt73 := jgs_lt hgl73
    obtain ⟨h19, hh19, hy73⟩ := jbind hy73
    refine j_new 7 (dt_Court_init 49 (87, .new 15, 3) rfl) (by decide) (gt2 195 rfl rfl) hh19 ⟨jrm hlt73 (nle rfl) (nle rfl), jrm hlt73 (nle rfl) (nle rfl)⟩ ?_
    refine j_dup (dt_Court_init 50 (90, .dup, 1) rfl) rfl ?_
    obtain ⟨h20, hh20, hy73⟩ := jbind hy73
    refine j_callIN M_Rule_init 0 (cs' := ((4 + 2 * s73.1.toNatClampNeg) + 2)) (ss' := ((37 + 18 * s73.1.toNatClampNeg) + 18)) (b := s73.2.1.1) [] (rest := [ar (some s73.2.1.1), ai s73.1, ar x18]) (dt_Court_init 51 (91, .invokespecial 49, 3) rfl) ml_X0_49 rfl ok_Rule_init ⟨⟨rfl, rfl⟩, ⟨nle rfl, nle rfl⟩, ⟨jrm2 hlt73 (nle rfl) (nle rfl), jrm2 hlt73 (nle rfl) (nle rfl)⟩⟩ rfl rfl (nle rfl) ⟨rfl, rfl⟩ (by have hq := nwO_lt hh19; exact hq) (c_Rule_init hh20) ?_
    obtain ⟨_, hrx, hy73⟩ := jbind hy73
    obtain ⟨V21, hV21, hy73⟩ := jbind hy73
    refine j_aastO 105 7 (dt_Court_init 52 (94, .aastore, 1) rfl) ⟨⟨nle rfl, nlt rfl⟩, rfl⟩ (nlt rfl) (rc_self hrx) hV21 ?_
    refine j_iinc (dt_Court_init 53 (95, .iinc 1 1, 3) rfl) rfl (nlt rfl) (ii_1 _) ?_
    refine j_goto (dt_Court_init 54 (98, .goto (-25), 3) rfl) rfl ?_
    cases hy73
    have hz := hin73 _ rfl
    exact j_widen (jgs_next hgl73) (jgs_next hgl73) (j_sub rfl hz)
def tb_Room_init : List (Nat × Instr × Nat) := [(0, .aload_n 0, 1), (1, .invokespecial 3, 3), (4, .aload_n 0, 1), (5, .new 9, 3), (8, .dup, 1), (9, .invokespecial 11, 3), (12, .putfield 12, 3), (15, .aload_n 0, 1), (16, .new 9, 3), (19, .dup, 1), (20, .invokespecial 11, 3), (23, .putfield 18, 3), (26, .aload_n 0, 1), (27, .new 9, 3), (30, .dup, 1), (31, .invokespecial 11, 3), (34, .putfield 21, 3), (37, .aload_n 0, 1), (38, .iconst 0, 1), (39, .putfield 24, 3), (42, .aload_n 0, 1), (43, .iconst 1, 1), (44, .putfield 28, 3), (47, .aload_n 0, 1), (48, .iconst (-1), 1), (49, .putfield 31, 3), (52, .aload_n 0, 1), (53, .iconst 0, 1), (54, .putfield 34, 3), (57, .aload_n 0, 1), (58, .iload_n 1, 1), (59, .putfield 37, 3), (62, .return_, 1)]
theorem dt_Room_init (i : Nat) (q : Nat × Instr × Nat) (h : tb_Room_init[i]? = some q) : decode prog_8_method_1_code q.1 = .ok q.2 := jdt (by decide +kernel : tb_Room_init.all (fun q => decide (decode prog_8_method_1_code q.1 = .ok q.2)) = true) h
theorem ok_Room_init : jOKI M_Room_init 1 := ⟨⟨gt1 175 rfl rfl, gt1 8 rfl rfl, (by decide : "FirstIn$Room" ≠ "java/lang/invoke/MethodHandle"), (by decide : "FirstIn$Room" ≠ "java/lang/invoke/VarHandle"), (by decide +kernel : (parseMethodDescriptor "(I)V").map (fun d => d.parameters.length) = some 1)⟩, gt1 174 rfl rfl, rfl⟩
set_option maxRecDepth 100000 in
set_option maxHeartbeats 4000000 in
theorem c_Room_init {G : jG} {S : hS} {V : hV} {v0 : Option Nat} {v1 : Int32} {res : hS × hV} (hf : Room_init S v0 v1 V = some res) : jC G M_Room_init [ar v0, ai v1] (S, V) none res := by
  unfold Room_init at hf
  obtain ⟨o0, ho, hg⟩ := jbind hf
  obtain ⟨e0, ho0⟩ := rc_spec ho
  clear hf
  subst e0
  have hf := hg
  clear hg
  refine jC_of (pf_X6 _ _) rfl (nle rfl) ?_
  show jJ G M_Room_init (jEnd G M_Room_init none res) 0 0 0 [(0, ar (some o0)), (1, ai v1)] [] (S, V)
  refine j_aload_n (dt_Room_init 0 (0, .aload_n 0, 1) rfl) rfl ?_
  refine j_objInit (dt_Room_init 1 (1, .invokespecial 3, 3) rfl) (gt1 176 rfl rfl) ho0.1 (nle rfl) ⟨nle rfl, nle rfl⟩ ?_
  refine j_aload_n (dt_Room_init 2 (4, .aload_n 0, 1) rfl) rfl ?_
  obtain ⟨h1, hh1, hf⟩ := jbind hf
  refine j_new 2 (dt_Room_init 3 (5, .new 9, 3) rfl) (by decide) (gt1 177 rfl rfl) hh1 ⟨nle rfl, nle rfl⟩ ?_
  refine j_dup (dt_Room_init 4 (8, .dup, 1) rfl) rfl ?_
  obtain ⟨h2, hh2, hf⟩ := jbind hf
  refine j_callIN M_Found_init 0 (cs' := 3) (ss' := 29) (b := S.1) [] (rest := [ar (some S.1), ar (some o0)]) (dt_Room_init 5 (9, .invokespecial 11, 3) rfl) ml_X6_11 rfl ok_Found_init ⟨⟨rfl, rfl⟩, ⟨nle rfl, nle rfl⟩, ⟨nle rfl, nle rfl⟩⟩ rfl rfl (nle rfl) ⟨rfl, rfl⟩ (by have hq := nwO_lt hh1; exact hq) (c_Found_init hh2) ?_
  obtain ⟨V3, hV3, hf⟩ := jbind hf
  refine j_putR (dt_Room_init 6 (12, .putfield 12, 3) rfl) fl_X6_12 hV3 (Or.inl ⟨_, rfl⟩) (Or.inr ⟨rfl, rfl, rfl⟩) ?_
  refine j_aload_n (dt_Room_init 7 (15, .aload_n 0, 1) rfl) rfl ?_
  obtain ⟨h4, hh4, hf⟩ := jbind hf
  refine j_new 2 (dt_Room_init 8 (16, .new 9, 3) rfl) (by decide) (gt1 177 rfl rfl) hh4 ⟨nle rfl, nle rfl⟩ ?_
  refine j_dup (dt_Room_init 9 (19, .dup, 1) rfl) rfl ?_
  obtain ⟨h5, hh5, hf⟩ := jbind hf
  refine j_callIN M_Found_init 0 (cs' := 6) (ss' := 58) (b := h2.1.1) [] (rest := [ar (some h2.1.1), ar (some o0)]) (dt_Room_init 10 (20, .invokespecial 11, 3) rfl) ml_X6_11 rfl ok_Found_init ⟨⟨rfl, rfl⟩, ⟨nle rfl, nle rfl⟩, ⟨nle rfl, nle rfl⟩⟩ rfl rfl (nle rfl) ⟨rfl, rfl⟩ (by have hq := nwO_lt hh4; exact hq) (c_Found_init hh5) ?_
  obtain ⟨V6, hV6, hf⟩ := jbind hf
  refine j_putR (dt_Room_init 11 (23, .putfield 18, 3) rfl) fl_X6_18 hV6 (Or.inl ⟨_, rfl⟩) (Or.inr ⟨rfl, rfl, rfl⟩) ?_
  refine j_aload_n (dt_Room_init 12 (26, .aload_n 0, 1) rfl) rfl ?_
  obtain ⟨h7, hh7, hf⟩ := jbind hf
  refine j_new 2 (dt_Room_init 13 (27, .new 9, 3) rfl) (by decide) (gt1 177 rfl rfl) hh7 ⟨nle rfl, nle rfl⟩ ?_
  refine j_dup (dt_Room_init 14 (30, .dup, 1) rfl) rfl ?_
  obtain ⟨h8, hh8, hf⟩ := jbind hf
  refine j_callIN M_Found_init 0 (cs' := 9) (ss' := 87) (b := h5.1.1) [] (rest := [ar (some h5.1.1), ar (some o0)]) (dt_Room_init 15 (31, .invokespecial 11, 3) rfl) ml_X6_11 rfl ok_Found_init ⟨⟨rfl, rfl⟩, ⟨nle rfl, nle rfl⟩, ⟨nle rfl, nle rfl⟩⟩ rfl rfl (nle rfl) ⟨rfl, rfl⟩ (by have hq := nwO_lt hh7; exact hq) (c_Found_init hh8) ?_
  obtain ⟨V9, hV9, hf⟩ := jbind hf
  refine j_putR (dt_Room_init 16 (34, .putfield 21, 3) rfl) fl_X6_21 hV9 (Or.inl ⟨_, rfl⟩) (Or.inr ⟨rfl, rfl, rfl⟩) ?_
  refine j_aload_n (dt_Room_init 17 (37, .aload_n 0, 1) rfl) rfl ?_
  refine j_iconst (dt_Room_init 18 (38, .iconst 0, 1) rfl) ic_0 ?_
  obtain ⟨V10, hV10, hf⟩ := jbind hf
  refine j_putI (dt_Room_init 19 (39, .putfield 24, 3) rfl) fl_X6_24 hV10 rfl (Or.inl rfl) ?_
  refine j_aload_n (dt_Room_init 20 (42, .aload_n 0, 1) rfl) rfl ?_
  refine j_iconst (dt_Room_init 21 (43, .iconst 1, 1) rfl) ic_1 ?_
  obtain ⟨V11, hV11, hf⟩ := jbind hf
  refine j_putI (dt_Room_init 22 (44, .putfield 28, 3) rfl) fl_X6_28 hV11 rfl (Or.inl rfl) ?_
  refine j_aload_n (dt_Room_init 23 (47, .aload_n 0, 1) rfl) rfl ?_
  refine j_iconst (dt_Room_init 24 (48, .iconst (-1), 1) rfl) ic_m1 ?_
  obtain ⟨V12, hV12, hf⟩ := jbind hf
  refine j_putI (dt_Room_init 25 (49, .putfield 31, 3) rfl) fl_X6_31 hV12 rfl (Or.inl rfl) ?_
  refine j_aload_n (dt_Room_init 26 (52, .aload_n 0, 1) rfl) rfl ?_
  refine j_iconst (dt_Room_init 27 (53, .iconst 0, 1) rfl) ic_0 ?_
  obtain ⟨V13, hV13, hf⟩ := jbind hf
  refine j_putI (dt_Room_init 28 (54, .putfield 34, 3) rfl) fl_X6_34 hV13 rfl (Or.inl rfl) ?_
  refine j_aload_n (dt_Room_init 29 (57, .aload_n 0, 1) rfl) rfl ?_
  refine j_iload_n (dt_Room_init 30 (58, .iload_n 1, 1) rfl) rfl ?_
  obtain ⟨V14, hV14, hf⟩ := jbind hf
  refine j_putI (dt_Room_init 31 (59, .putfield 37, 3) rfl) fl_X6_37 hV14 rfl (Or.inr ⟨rfl, rfl, rfl⟩) ?_
  cases hf
  exact j_vret (dt_Room_init 32 (62, .return_, 1) rfl) rfl
def tb_Search_init : List (Nat × Instr × Nat) := [(0, .aload_n 0, 1), (1, .invokespecial 3, 3), (4, .aload_n 0, 1), (5, .new 9, 3), (8, .dup, 1), (9, .invokespecial 11, 3), (12, .putfield 12, 3), (15, .aload_n 0, 1), (16, .bipush 7, 2), (18, .newarray .int, 2), (20, .putfield 18, 3), (23, .aload_n 0, 1), (24, .bipush 7, 2), (26, .newarray .int, 2), (28, .putfield 22, 3), (31, .aload_n 0, 1), (32, .iconst 0, 1), (33, .putfield 25, 3), (36, .aload_n 0, 1), (37, .iconst 0, 1), (38, .putfield 29, 3), (41, .aload_n 0, 1), (42, .iconst 0, 1), (43, .putfield 32, 3), (46, .aload_n 0, 1), (47, .iconst 0, 1), (48, .putfield 35, 3), (51, .aload_n 0, 1), (52, .new 38, 3), (55, .dup, 1), (56, .invokespecial 40, 3), (59, .putfield 41, 3), (62, .return_, 1)]
theorem dt_Search_init (i : Nat) (q : Nat × Instr × Nat) (h : tb_Search_init[i]? = some q) : decode prog_10_method_1_code q.1 = .ok q.2 := jdt (by decide +kernel : tb_Search_init.all (fun q => decide (decode prog_10_method_1_code q.1 = .ok q.2)) = true) h
theorem ok_Search_init : jOKI M_Search_init 0 := ⟨⟨gt2 118 rfl rfl, gt1 13 rfl rfl, (by decide : "FirstIn$Search" ≠ "java/lang/invoke/MethodHandle"), (by decide : "FirstIn$Search" ≠ "java/lang/invoke/VarHandle"), (by decide +kernel : (parseMethodDescriptor "()V").map (fun d => d.parameters.length) = some 0)⟩, gt2 117 rfl rfl, rfl⟩
set_option maxRecDepth 100000 in
set_option maxHeartbeats 4000000 in
theorem c_Search_init {G : jG} {S : hS} {V : hV} {v0 : Option Nat} {res : hS × hV} (hf : Search_init S v0 V = some res) : jC G M_Search_init [ar v0] (S, V) none res := by
  unfold Search_init at hf
  obtain ⟨o0, ho, hg⟩ := jbind hf
  obtain ⟨e0, ho0⟩ := rc_spec ho
  clear hf
  subst e0
  have hf := hg
  clear hg
  refine jC_of (pf_X8 _ _) rfl (nle rfl) ?_
  show jJ G M_Search_init (jEnd G M_Search_init none res) 0 0 0 [(0, ar (some o0))] [] (S, V)
  refine j_aload_n (dt_Search_init 0 (0, .aload_n 0, 1) rfl) rfl ?_
  refine j_objInit (dt_Search_init 1 (1, .invokespecial 3, 3) rfl) (gt2 119 rfl rfl) ho0.1 (nle rfl) ⟨nle rfl, nle rfl⟩ ?_
  refine j_aload_n (dt_Search_init 2 (4, .aload_n 0, 1) rfl) rfl ?_
  obtain ⟨h1, hh1, hf⟩ := jbind hf
  refine j_new 3 (dt_Search_init 3 (5, .new 9, 3) rfl) (by decide) (gt2 120 rfl rfl) hh1 ⟨nle rfl, nle rfl⟩ ?_
  refine j_dup (dt_Search_init 4 (8, .dup, 1) rfl) rfl ?_
  obtain ⟨h2, hh2, hf⟩ := jbind hf
  refine j_callIN M_Pairs_init 0 (cs' := 7) (ss' := 880) (b := S.1) [] (rest := [ar (some S.1), ar (some o0)]) (dt_Search_init 5 (9, .invokespecial 11, 3) rfl) ml_X8_11 rfl ok_Pairs_init ⟨⟨rfl, rfl⟩, ⟨nle rfl, nle rfl⟩, ⟨nle rfl, nle rfl⟩⟩ rfl rfl (nle rfl) ⟨rfl, rfl⟩ (by have hq := nwO_lt hh1; exact hq) (c_Pairs_init hh2) ?_
  obtain ⟨V3, hV3, hf⟩ := jbind hf
  refine j_putR (dt_Search_init 6 (12, .putfield 12, 3) rfl) fl_X8_12 hV3 (Or.inl ⟨_, rfl⟩) (Or.inr ⟨rfl, rfl, rfl⟩) ?_
  refine j_aload_n (dt_Search_init 7 (15, .aload_n 0, 1) rfl) rfl ?_
  refine j_bipush (dt_Search_init 8 (16, .bipush 7, 2) rfl) bp_7 ?_
  obtain ⟨h4, hh4, hf⟩ := jbind hf
  refine j_newa 100 (N := 7) (dt_Search_init 9 (18, .newarray .int, 2) rfl) ⟨⟨nle rfl, nlt rfl⟩, rfl⟩ (gt1 169 rfl rfl) hh4 ⟨by decide, by decide, nle rfl⟩ ⟨nle rfl, nle rfl⟩ ?_
  obtain ⟨V5, hV5, hf⟩ := jbind hf
  refine j_putR (dt_Search_init 10 (20, .putfield 18, 3) rfl) fl_X8_18 hV5 (Or.inr ⟨_, rfl⟩) (Or.inr ⟨rfl, rfl, rfl⟩) ?_
  refine j_aload_n (dt_Search_init 11 (23, .aload_n 0, 1) rfl) rfl ?_
  refine j_bipush (dt_Search_init 12 (24, .bipush 7, 2) rfl) bp_7 ?_
  obtain ⟨h6, hh6, hf⟩ := jbind hf
  refine j_newa 100 (N := 7) (dt_Search_init 13 (26, .newarray .int, 2) rfl) ⟨⟨nle rfl, nlt rfl⟩, rfl⟩ (gt1 169 rfl rfl) hh6 ⟨by decide, by decide, nle rfl⟩ ⟨nle rfl, nle rfl⟩ ?_
  obtain ⟨V7, hV7, hf⟩ := jbind hf
  refine j_putR (dt_Search_init 14 (28, .putfield 22, 3) rfl) fl_X8_22 hV7 (Or.inr ⟨_, rfl⟩) (Or.inr ⟨rfl, rfl, rfl⟩) ?_
  refine j_aload_n (dt_Search_init 15 (31, .aload_n 0, 1) rfl) rfl ?_
  refine j_iconst (dt_Search_init 16 (32, .iconst 0, 1) rfl) ic_0 ?_
  obtain ⟨V8, hV8, hf⟩ := jbind hf
  refine j_putI (dt_Search_init 17 (33, .putfield 25, 3) rfl) fl_X8_25 hV8 rfl (Or.inl rfl) ?_
  refine j_aload_n (dt_Search_init 18 (36, .aload_n 0, 1) rfl) rfl ?_
  refine j_iconst (dt_Search_init 19 (37, .iconst 0, 1) rfl) ic_0 ?_
  obtain ⟨V9, hV9, hf⟩ := jbind hf
  refine j_putI (dt_Search_init 20 (38, .putfield 29, 3) rfl) fl_X8_29 hV9 rfl (Or.inl rfl) ?_
  refine j_aload_n (dt_Search_init 21 (41, .aload_n 0, 1) rfl) rfl ?_
  refine j_iconst (dt_Search_init 22 (42, .iconst 0, 1) rfl) ic_0 ?_
  obtain ⟨V10, hV10, hf⟩ := jbind hf
  refine j_putI (dt_Search_init 23 (43, .putfield 32, 3) rfl) fl_X8_32 hV10 rfl (Or.inl rfl) ?_
  refine j_aload_n (dt_Search_init 24 (46, .aload_n 0, 1) rfl) rfl ?_
  refine j_iconst (dt_Search_init 25 (47, .iconst 0, 1) rfl) ic_0 ?_
  obtain ⟨V11, hV11, hf⟩ := jbind hf
  refine j_putI (dt_Search_init 26 (48, .putfield 35, 3) rfl) fl_X8_35 hV11 rfl (Or.inl rfl) ?_
  refine j_aload_n (dt_Search_init 27 (51, .aload_n 0, 1) rfl) rfl ?_
  obtain ⟨h12, hh12, hf⟩ := jbind hf
  refine j_new 2 (dt_Search_init 28 (52, .new 38, 3) rfl) (by decide) (gt2 162 rfl rfl) hh12 ⟨nle rfl, nle rfl⟩ ?_
  refine j_dup (dt_Search_init 29 (55, .dup, 1) rfl) rfl ?_
  obtain ⟨h13, hh13, hf⟩ := jbind hf
  refine j_callIN M_Found_init 0 (cs' := 12) (ss' := 923) (b := h6.1.1) [] (rest := [ar (some h6.1.1), ar (some o0)]) (dt_Search_init 30 (56, .invokespecial 40, 3) rfl) ml_X8_40 rfl ok_Found_init ⟨⟨rfl, rfl⟩, ⟨nle rfl, nle rfl⟩, ⟨nle rfl, nle rfl⟩⟩ rfl rfl (nle rfl) ⟨rfl, rfl⟩ (by have hq := nwO_lt hh12; exact hq) (c_Found_init hh13) ?_
  obtain ⟨V14, hV14, hf⟩ := jbind hf
  refine j_putR (dt_Search_init 31 (59, .putfield 41, 3) rfl) fl_X8_41 hV14 (Or.inl ⟨_, rfl⟩) (Or.inl rfl) ?_
  cases hf
  exact j_vret (dt_Search_init 32 (62, .return_, 1) rfl) rfl
def tb_Reader_init : List (Nat × Instr × Nat) := [(0, .aload_n 0, 1), (1, .invokespecial 3, 3), (4, .aload_n 0, 1), (5, .ldc 9, 2), (7, .invokestatic 11, 3), (10, .putfield 17, 3), (13, .aload_n 0, 1), (14, .ldc 23, 2), (16, .invokestatic 11, 3), (19, .putfield 25, 3), (22, .aload_n 0, 1), (23, .ldc 28, 2), (25, .invokestatic 11, 3), (28, .putfield 30, 3), (31, .aload_n 0, 1), (32, .ldc 33, 2), (34, .invokestatic 11, 3), (37, .putfield 35, 3), (40, .aload_n 0, 1), (41, .ldc 38, 2), (43, .invokestatic 11, 3), (46, .putfield 40, 3), (49, .aload_n 0, 1), (50, .ldc 43, 2), (52, .invokestatic 11, 3), (55, .putfield 45, 3), (58, .aload_n 0, 1), (59, .ldc 48, 2), (61, .invokestatic 11, 3), (64, .putfield 50, 3), (67, .aload_n 0, 1), (68, .ldc 53, 2), (70, .invokestatic 11, 3), (73, .putfield 55, 3), (76, .aload_n 0, 1), (77, .ldc 58, 2), (79, .invokestatic 11, 3), (82, .putfield 60, 3), (85, .aload_n 0, 1), (86, .bipush 15, 2), (88, .newarray .long, 2), (90, .putfield 63, 3), (93, .aload_n 0, 1), (94, .bipush 15, 2), (96, .newarray .int, 2), (98, .putfield 67, 3), (101, .aload_n 0, 1), (102, .iconst 0, 1), (103, .putfield 71, 3), (106, .aload_n 0, 1), (107, .aload_n 1, 1), (108, .putfield 75, 3), (111, .return_, 1)]
theorem dt_Reader_init (i : Nat) (q : Nat × Instr × Nat) (h : tb_Reader_init[i]? = some q) : decode prog_7_method_1_code q.1 = .ok q.2 := jdt (by decide +kernel : tb_Reader_init.all (fun q => decide (decode prog_7_method_1_code q.1 = .ok q.2)) = true) h
theorem ok_Reader_init : jOKI M_Reader_init 1 := ⟨⟨gt1 64 rfl rfl, gt1 3 rfl rfl, (by decide : "FirstIn$Reader" ≠ "java/lang/invoke/MethodHandle"), (by decide : "FirstIn$Reader" ≠ "java/lang/invoke/VarHandle"), (by decide +kernel : (parseMethodDescriptor "(LFirstIn$Text;)V").map (fun d => d.parameters.length) = some 1)⟩, gt1 63 rfl rfl, rfl⟩
set_option maxRecDepth 100000 in
set_option maxHeartbeats 4000000 in
theorem c_Reader_init {G : jG} {S : hS} {V : hV} {v0 : Option Nat} {v1 : Option Nat} {res : hS × hV} (hf : Reader_init S v0 v1 V = some res) : jC G M_Reader_init [ar v0, ar v1] (S, V) none res := by
  unfold Reader_init at hf
  obtain ⟨o0, ho, hg⟩ := jbind hf
  obtain ⟨e0, ho0⟩ := rc_spec ho
  clear hf
  subst e0
  have hf := hg
  clear hg
  refine jC_of (pf_X5 _ _) rfl (nle rfl) ?_
  show jJ G M_Reader_init (jEnd G M_Reader_init none res) 0 0 0 [(0, ar (some o0)), (1, ar v1)] [] (S, V)
  refine j_aload_n (dt_Reader_init 0 (0, .aload_n 0, 1) rfl) rfl ?_
  refine j_objInit (dt_Reader_init 1 (1, .invokespecial 3, 3) rfl) (gt1 65 rfl rfl) ho0.1 (nle rfl) ⟨nle rfl, nle rfl⟩ ?_
  refine j_aload_n (dt_Reader_init 2 (4, .aload_n 0, 1) rfl) rfl ?_
  refine j_ldcS (i := 0) (tx := "guest") (dt_Reader_init 3 (5, .ldc 9, 2) rfl) (List.mem_of_getElem? (i := 0) rfl) ?_
  obtain ⟨x1, hx1, hf⟩ := jbind hf
  refine j_callS M_Text_codeOf 1 [ar (some (1000000 + 0))] (rest := [ar (some o0)]) (dt_Reader_init 4 (7, .invokestatic 11, 3) rfl) ml_X5_11 ok_Text_codeOf ⟨⟨rfl, rfl⟩, ⟨nle rfl, nle rfl⟩, ⟨nle rfl, nle rfl⟩⟩ rfl rfl (nle rfl) ⟨rfl, rfl⟩ ((c_Text_codeOf hx1)) ?_
  obtain ⟨V2, hV2, hf⟩ := jbind hf
  refine j_putL (dt_Reader_init 5 (10, .putfield 17, 3) rfl) fl_X5_17 hV2 rfl (Or.inr ⟨rfl, rfl, rfl⟩) ?_
  refine j_aload_n (dt_Reader_init 6 (13, .aload_n 0, 1) rfl) rfl ?_
  refine j_ldcS (i := 1) (tx := "mark") (dt_Reader_init 7 (14, .ldc 23, 2) rfl) (List.mem_of_getElem? (i := 1) rfl) ?_
  obtain ⟨x3, hx3, hf⟩ := jbind hf
  refine j_callS M_Text_codeOf 1 [ar (some (1000000 + 1))] (rest := [ar (some o0)]) (dt_Reader_init 8 (16, .invokestatic 11, 3) rfl) ml_X5_11 ok_Text_codeOf ⟨⟨rfl, rfl⟩, ⟨nle rfl, nle rfl⟩, ⟨nle rfl, nle rfl⟩⟩ rfl rfl (nle rfl) ⟨rfl, rfl⟩ ((c_Text_codeOf hx3)) ?_
  obtain ⟨V4, hV4, hf⟩ := jbind hf
  refine j_putL (dt_Reader_init 9 (19, .putfield 25, 3) rfl) fl_X5_25 hV4 rfl (Or.inr ⟨rfl, rfl, rfl⟩) ?_
  refine j_aload_n (dt_Reader_init 10 (22, .aload_n 0, 1) rfl) rfl ?_
  refine j_ldcS (i := 2) (tx := "is") (dt_Reader_init 11 (23, .ldc 28, 2) rfl) (List.mem_of_getElem? (i := 2) rfl) ?_
  obtain ⟨x5, hx5, hf⟩ := jbind hf
  refine j_callS M_Text_codeOf 1 [ar (some (1000000 + 2))] (rest := [ar (some o0)]) (dt_Reader_init 12 (25, .invokestatic 11, 3) rfl) ml_X5_11 ok_Text_codeOf ⟨⟨rfl, rfl⟩, ⟨nle rfl, nle rfl⟩, ⟨nle rfl, nle rfl⟩⟩ rfl rfl (nle rfl) ⟨rfl, rfl⟩ ((c_Text_codeOf hx5)) ?_
  obtain ⟨V6, hV6, hf⟩ := jbind hf
  refine j_putL (dt_Reader_init 13 (28, .putfield 30, 3) rfl) fl_X5_30 hV6 rfl (Or.inr ⟨rfl, rfl, rfl⟩) ?_
  refine j_aload_n (dt_Reader_init 14 (31, .aload_n 0, 1) rfl) rfl ?_
  refine j_ldcS (i := 3) (tx := "above") (dt_Reader_init 15 (32, .ldc 33, 2) rfl) (List.mem_of_getElem? (i := 3) rfl) ?_
  obtain ⟨x7, hx7, hf⟩ := jbind hf
  refine j_callS M_Text_codeOf 1 [ar (some (1000000 + 3))] (rest := [ar (some o0)]) (dt_Reader_init 16 (34, .invokestatic 11, 3) rfl) ml_X5_11 ok_Text_codeOf ⟨⟨rfl, rfl⟩, ⟨nle rfl, nle rfl⟩, ⟨nle rfl, nle rfl⟩⟩ rfl rfl (nle rfl) ⟨rfl, rfl⟩ ((c_Text_codeOf hx7)) ?_
  obtain ⟨V8, hV8, hf⟩ := jbind hf
  refine j_putL (dt_Reader_init 17 (37, .putfield 35, 3) rfl) fl_X5_35 hV8 rfl (Or.inr ⟨rfl, rfl, rfl⟩) ?_
  refine j_aload_n (dt_Reader_init 18 (40, .aload_n 0, 1) rfl) rfl ?_
  refine j_ldcS (i := 4) (tx := "even") (dt_Reader_init 19 (41, .ldc 38, 2) rfl) (List.mem_of_getElem? (i := 4) rfl) ?_
  obtain ⟨x9, hx9, hf⟩ := jbind hf
  refine j_callS M_Text_codeOf 1 [ar (some (1000000 + 4))] (rest := [ar (some o0)]) (dt_Reader_init 20 (43, .invokestatic 11, 3) rfl) ml_X5_11 ok_Text_codeOf ⟨⟨rfl, rfl⟩, ⟨nle rfl, nle rfl⟩, ⟨nle rfl, nle rfl⟩⟩ rfl rfl (nle rfl) ⟨rfl, rfl⟩ ((c_Text_codeOf hx9)) ?_
  obtain ⟨V10, hV10, hf⟩ := jbind hf
  refine j_putL (dt_Reader_init 21 (46, .putfield 40, 3) rfl) fl_X5_40 hV10 rfl (Or.inr ⟨rfl, rfl, rfl⟩) ?_
  refine j_aload_n (dt_Reader_init 22 (49, .aload_n 0, 1) rfl) rfl ?_
  refine j_ldcS (i := 5) (tx := "apart") (dt_Reader_init 23 (50, .ldc 43, 2) rfl) (List.mem_of_getElem? (i := 5) rfl) ?_
  obtain ⟨x11, hx11, hf⟩ := jbind hf
  refine j_callS M_Text_codeOf 1 [ar (some (1000000 + 5))] (rest := [ar (some o0)]) (dt_Reader_init 24 (52, .invokestatic 11, 3) rfl) ml_X5_11 ok_Text_codeOf ⟨⟨rfl, rfl⟩, ⟨nle rfl, nle rfl⟩, ⟨nle rfl, nle rfl⟩⟩ rfl rfl (nle rfl) ⟨rfl, rfl⟩ ((c_Text_codeOf hx11)) ?_
  obtain ⟨V12, hV12, hf⟩ := jbind hf
  refine j_putL (dt_Reader_init 25 (55, .putfield 45, 3) rfl) fl_X5_45 hV12 rfl (Or.inr ⟨rfl, rfl, rfl⟩) ?_
  refine j_aload_n (dt_Reader_init 26 (58, .aload_n 0, 1) rfl) rfl ?_
  refine j_ldcS (i := 6) (tx := "by") (dt_Reader_init 27 (59, .ldc 48, 2) rfl) (List.mem_of_getElem? (i := 6) rfl) ?_
  obtain ⟨x13, hx13, hf⟩ := jbind hf
  refine j_callS M_Text_codeOf 1 [ar (some (1000000 + 6))] (rest := [ar (some o0)]) (dt_Reader_init 28 (61, .invokestatic 11, 3) rfl) ml_X5_11 ok_Text_codeOf ⟨⟨rfl, rfl⟩, ⟨nle rfl, nle rfl⟩, ⟨nle rfl, nle rfl⟩⟩ rfl rfl (nle rfl) ⟨rfl, rfl⟩ ((c_Text_codeOf hx13)) ?_
  obtain ⟨V14, hV14, hf⟩ := jbind hf
  refine j_putL (dt_Reader_init 29 (64, .putfield 50, 3) rfl) fl_X5_50 hV14 rfl (Or.inr ⟨rfl, rfl, rfl⟩) ?_
  refine j_aload_n (dt_Reader_init 30 (67, .aload_n 0, 1) rfl) rfl ?_
  refine j_ldcS (i := 7) (tx := "in") (dt_Reader_init 31 (68, .ldc 53, 2) rfl) (List.mem_of_getElem? (i := 7) rfl) ?_
  obtain ⟨x15, hx15, hf⟩ := jbind hf
  refine j_callS M_Text_codeOf 1 [ar (some (1000000 + 7))] (rest := [ar (some o0)]) (dt_Reader_init 32 (70, .invokestatic 11, 3) rfl) ml_X5_11 ok_Text_codeOf ⟨⟨rfl, rfl⟩, ⟨nle rfl, nle rfl⟩, ⟨nle rfl, nle rfl⟩⟩ rfl rfl (nle rfl) ⟨rfl, rfl⟩ ((c_Text_codeOf hx15)) ?_
  obtain ⟨V16, hV16, hf⟩ := jbind hf
  refine j_putL (dt_Reader_init 33 (73, .putfield 55, 3) rfl) fl_X5_55 hV16 rfl (Or.inr ⟨rfl, rfl, rfl⟩) ?_
  refine j_aload_n (dt_Reader_init 34 (76, .aload_n 0, 1) rfl) rfl ?_
  refine j_ldcS (i := 8) (tx := "unless") (dt_Reader_init 35 (77, .ldc 58, 2) rfl) (List.mem_of_getElem? (i := 8) rfl) ?_
  obtain ⟨x17, hx17, hf⟩ := jbind hf
  refine j_callS M_Text_codeOf 1 [ar (some (1000000 + 8))] (rest := [ar (some o0)]) (dt_Reader_init 36 (79, .invokestatic 11, 3) rfl) ml_X5_11 ok_Text_codeOf ⟨⟨rfl, rfl⟩, ⟨nle rfl, nle rfl⟩, ⟨nle rfl, nle rfl⟩⟩ rfl rfl (nle rfl) ⟨rfl, rfl⟩ ((c_Text_codeOf hx17)) ?_
  obtain ⟨V18, hV18, hf⟩ := jbind hf
  refine j_putL (dt_Reader_init 37 (82, .putfield 60, 3) rfl) fl_X5_60 hV18 rfl (Or.inr ⟨rfl, rfl, rfl⟩) ?_
  refine j_aload_n (dt_Reader_init 38 (85, .aload_n 0, 1) rfl) rfl ?_
  refine j_bipush (dt_Reader_init 39 (86, .bipush 15, 2) rfl) bp_15 ?_
  obtain ⟨h19, hh19, hf⟩ := jbind hf
  refine j_newa 103 (N := 15) (dt_Reader_init 40 (88, .newarray .long, 2) rfl) ⟨⟨nle rfl, nlt rfl⟩, rfl⟩ (gt1 168 rfl rfl) hh19 ⟨by decide, by decide, nle rfl⟩ ⟨nle rfl, nle rfl⟩ ?_
  obtain ⟨V20, hV20, hf⟩ := jbind hf
  refine j_putR (dt_Reader_init 41 (90, .putfield 63, 3) rfl) fl_X5_63 hV20 (Or.inr ⟨_, rfl⟩) (Or.inr ⟨rfl, rfl, rfl⟩) ?_
  refine j_aload_n (dt_Reader_init 42 (93, .aload_n 0, 1) rfl) rfl ?_
  refine j_bipush (dt_Reader_init 43 (94, .bipush 15, 2) rfl) bp_15 ?_
  obtain ⟨h21, hh21, hf⟩ := jbind hf
  refine j_newa 100 (N := 15) (dt_Reader_init 44 (96, .newarray .int, 2) rfl) ⟨⟨nle rfl, nlt rfl⟩, rfl⟩ (gt1 169 rfl rfl) hh21 ⟨by decide, by decide, nle rfl⟩ ⟨nle rfl, nle rfl⟩ ?_
  obtain ⟨V22, hV22, hf⟩ := jbind hf
  refine j_putR (dt_Reader_init 45 (98, .putfield 67, 3) rfl) fl_X5_67 hV22 (Or.inr ⟨_, rfl⟩) (Or.inr ⟨rfl, rfl, rfl⟩) ?_
  refine j_aload_n (dt_Reader_init 46 (101, .aload_n 0, 1) rfl) rfl ?_
  refine j_iconst (dt_Reader_init 47 (102, .iconst 0, 1) rfl) ic_0 ?_
  obtain ⟨V23, hV23, hf⟩ := jbind hf
  refine j_putI (dt_Reader_init 48 (103, .putfield 71, 3) rfl) fl_X5_71 hV23 rfl (Or.inl rfl) ?_
  refine j_aload_n (dt_Reader_init 49 (106, .aload_n 0, 1) rfl) rfl ?_
  refine j_aload_n (dt_Reader_init 50 (107, .aload_n 1, 1) rfl) rfl ?_
  obtain ⟨V24, hV24, hf⟩ := jbind hf
  refine j_putR (dt_Reader_init 51 (108, .putfield 75, 3) rfl) fl_X5_75 hV24 (Or.inl ⟨_, rfl⟩) (Or.inr ⟨rfl, rfl, rfl⟩) ?_
  cases hf
  exact j_vret (dt_Reader_init 52 (111, .return_, 1) rfl) rfl
def tb_Fi_init : List (Nat × Instr × Nat) := [(0, .aload_n 0, 1), (1, .invokespecial 3, 3), (4, .aload_n 0, 1), (5, .new 9, 3), (8, .dup, 1), (9, .invokespecial 11, 3), (12, .putfield 12, 3), (15, .aload_n 0, 1), (16, .new 16, 3), (19, .dup, 1), (20, .aload_n 0, 1), (21, .getfield 12, 3), (24, .invokespecial 18, 3), (27, .putfield 21, 3), (30, .aload_n 0, 1), (31, .iconst 4, 1), (32, .anewarray 25, 3), (35, .putfield 27, 3), (38, .iconst 0, 1), (39, .istore_n 1, 1), (40, .iload_n 1, 1), (41, .aload_n 0, 1), (42, .getfield 27, 3), (45, .arraylength, 1), (46, .if_icmp .ge 23, 3), (49, .aload_n 0, 1), (50, .getfield 27, 3), (53, .iload_n 1, 1), (54, .new 25, 3), (57, .dup, 1), (58, .iload_n 1, 1), (59, .invokespecial 31, 3), (62, .aastore, 1), (63, .iinc 1 1, 3), (66, .goto (-26), 3), (69, .aload_n 0, 1), (70, .new 34, 3), (73, .dup, 1), (74, .invokespecial 36, 3), (77, .putfield 37, 3), (80, .aload_n 0, 1), (81, .new 41, 3), (84, .dup, 1), (85, .invokespecial 43, 3), (88, .putfield 44, 3), (91, .aload_n 0, 1), (92, .new 48, 3), (95, .dup, 1), (96, .invokespecial 50, 3), (99, .putfield 51, 3), (102, .aload_n 0, 1), (103, .new 55, 3), (106, .dup, 1), (107, .invokespecial 57, 3), (110, .putfield 58, 3), (113, .aload_n 0, 1), (114, .new 62, 3), (117, .dup, 1), (118, .invokespecial 64, 3), (121, .putfield 65, 3), (124, .aload_n 0, 1), (125, .new 62, 3), (128, .dup, 1), (129, .invokespecial 64, 3), (132, .putfield 69, 3), (135, .aload_n 0, 1), (136, .iconst 0, 1), (137, .putfield 72, 3), (140, .return_, 1)]
theorem dt_Fi_init (i : Nat) (q : Nat × Instr × Nat) (h : tb_Fi_init[i]? = some q) : decode prog_1_method_1_code q.1 = .ok q.2 := jdt (by decide +kernel : tb_Fi_init.all (fun q => decide (decode prog_1_method_1_code q.1 = .ok q.2)) = true) h
theorem ok_Fi_init : jOKI M_Fi_init 0 := ⟨⟨gt1 26 rfl rfl, gt1 1 rfl rfl, (by decide : "FirstIn" ≠ "java/lang/invoke/MethodHandle"), (by decide : "FirstIn" ≠ "java/lang/invoke/VarHandle"), (by decide +kernel : (parseMethodDescriptor "()V").map (fun d => d.parameters.length) = some 0)⟩, gt1 25 rfl rfl, rfl⟩
set_option maxRecDepth 100000 in
set_option maxHeartbeats 4000000 in
theorem c_Fi_init {G : jG} {S : hS} {V : hV} {v0 : Option Nat} {res : hS × hV} (hf : Fi_init S v0 V = some res) : jC G M_Fi_init [ar v0] (S, V) none res := by
  unfold Fi_init at hf
  obtain ⟨o0, ho, hg⟩ := jbind hf
  obtain ⟨e0, ho0⟩ := rc_spec ho
  clear hf
  subst e0
  have hf := hg
  clear hg
  refine jC_of (pf_X11 _ _) rfl (nle rfl) ?_
  show jJ G M_Fi_init (jEnd G M_Fi_init none res) 0 0 0 [(0, ar (some o0))] [] (S, V)
  refine j_aload_n (dt_Fi_init 0 (0, .aload_n 0, 1) rfl) rfl ?_
  refine j_objInit (dt_Fi_init 1 (1, .invokespecial 3, 3) rfl) (gt1 27 rfl rfl) ho0.1 (nle rfl) ⟨nle rfl, nle rfl⟩ ?_
  refine j_aload_n (dt_Fi_init 2 (4, .aload_n 0, 1) rfl) rfl ?_
  obtain ⟨h1, hh1, hf⟩ := jbind hf
  refine j_new 10 (dt_Fi_init 3 (5, .new 9, 3) rfl) (by decide) (gt1 30 rfl rfl) hh1 ⟨nle rfl, nle rfl⟩ ?_
  refine j_dup (dt_Fi_init 4 (8, .dup, 1) rfl) rfl ?_
  obtain ⟨h2, hh2, hf⟩ := jbind hf
  refine j_callIN M_Text_init 0 (cs' := 2) (ss' := 706) (b := S.1) [] (rest := [ar (some S.1), ar (some o0)]) (dt_Fi_init 5 (9, .invokespecial 11, 3) rfl) ml_X11_11 rfl ok_Text_init ⟨⟨rfl, rfl⟩, ⟨nle rfl, nle rfl⟩, ⟨nle rfl, nle rfl⟩⟩ rfl rfl (nle rfl) ⟨rfl, rfl⟩ (by have hq := nwO_lt hh1; exact hq) (c_Text_init hh2) ?_
  obtain ⟨V3, hV3, hf⟩ := jbind hf
  refine j_putR (dt_Fi_init 6 (12, .putfield 12, 3) rfl) fl_X11_12 hV3 (Or.inl ⟨_, rfl⟩) (Or.inr ⟨rfl, rfl, rfl⟩) ?_
  refine j_aload_n (dt_Fi_init 7 (15, .aload_n 0, 1) rfl) rfl ?_
  obtain ⟨h4, hh4, hf⟩ := jbind hf
  refine j_new 5 (dt_Fi_init 8 (16, .new 16, 3) rfl) (by decide) (gt1 60 rfl rfl) hh4 ⟨nle rfl, nle rfl⟩ ?_
  refine j_dup (dt_Fi_init 9 (19, .dup, 1) rfl) rfl ?_
  refine j_aload_n (dt_Fi_init 10 (20, .aload_n 0, 1) rfl) rfl ?_
  obtain ⟨x5, hx5, hf⟩ := jbind hf
  refine j_getR (dt_Fi_init 11 (21, .getfield 12, 3) rfl) fl_X11_12 hx5 (fun _ _ => rfl) ?_
  obtain ⟨h6, hh6, hf⟩ := jbind hf
  refine j_callI M_Reader_init 1 (cs' := 5) (ss' := 749) (b := h2.1.1) [ar x5] (rest := [ar (some h2.1.1), ar (some o0)]) (dt_Fi_init 12 (24, .invokespecial 18, 3) rfl) ml_X11_18 rfl ok_Reader_init ⟨⟨rfl, rfl⟩, ⟨nle rfl, nle rfl⟩, ⟨nle rfl, nle rfl⟩⟩ rfl rfl (nle rfl) ⟨rfl, rfl⟩ (by have hq := nwO_lt hh4; exact hq) (c_Reader_init hh6) ?_
  obtain ⟨V7, hV7, hf⟩ := jbind hf
  refine j_putR (dt_Fi_init 13 (27, .putfield 21, 3) rfl) fl_X11_21 hV7 (Or.inl ⟨_, rfl⟩) (Or.inr ⟨rfl, rfl, rfl⟩) ?_
  refine j_aload_n (dt_Fi_init 14 (30, .aload_n 0, 1) rfl) rfl ?_
  refine j_iconst (dt_Fi_init 15 (31, .iconst 4, 1) rfl) ic_4 ?_
  obtain ⟨h8, hh8, hf⟩ := jbind hf
  refine j_anew 104 (N := 4) (dt_Fi_init 16 (32, .anewarray 25, 3) rfl) ⟨⟨nle rfl, nlt rfl⟩, rfl⟩ (gt1 170 rfl rfl) (fun s hs => hs.2.2.1.2.1) hh8 ⟨by decide, by decide, nle rfl⟩ ⟨nle rfl, nle rfl⟩ ?_
  obtain ⟨V9, hV9, hf⟩ := jbind hf
  refine j_putR (dt_Fi_init 17 (35, .putfield 27, 3) rfl) fl_X11_27 hV9 (Or.inr ⟨_, rfl⟩) (Or.inr ⟨rfl, rfl, rfl⟩) ?_
  refine j_iconst (dt_Fi_init 18 (38, .iconst 0, 1) rfl) ic_0 ?_
  refine j_istore_n (dt_Fi_init 19 (39, .istore_n 1, 1) rfl) (nlt rfl) ?_
  obtain ⟨t40, ht40, hf⟩ := jbind hf
  have hX40 : ∀ q40 : hS × hV, q40 = t40 → jJ G M_Fi_init (jEnd G M_Fi_init none res) 46 1133 69 [(0, ar (some o0))] [] (q40.1, q40.2) := by
    intro q40 hq40
    subst hq40
    refine j_aload_n (dt_Fi_init 35 (69, .aload_n 0, 1) rfl) rfl ?_
    obtain ⟨h16, hh16, hf⟩ := jbind hf
    refine j_new 4 (dt_Fi_init 36 (70, .new 34, 3) rfl) (by decide) (gt2 22 rfl rfl) hh16 ⟨nle rfl, nle rfl⟩ ?_
    refine j_dup (dt_Fi_init 37 (73, .dup, 1) rfl) rfl ?_
    obtain ⟨h17, hh17, hf⟩ := jbind hf
    refine j_callIN M_Rank_init 0 (cs' := 54) (ss' := 2225) (b := q40.1.1) [] (rest := [ar (some q40.1.1), ar (some o0)]) (dt_Fi_init 38 (74, .invokespecial 36, 3) rfl) ml_X11_36 rfl ok_Rank_init ⟨⟨rfl, rfl⟩, ⟨nle rfl, nle rfl⟩, ⟨nle rfl, nle rfl⟩⟩ rfl rfl (nle rfl) ⟨rfl, rfl⟩ (by have hq := nwO_lt hh16; exact hq) (c_Rank_init hh17) ?_
    obtain ⟨V18, hV18, hf⟩ := jbind hf
    refine j_putR (dt_Fi_init 39 (77, .putfield 37, 3) rfl) fl_X11_37 hV18 (Or.inl ⟨_, rfl⟩) (Or.inr ⟨rfl, rfl, rfl⟩) ?_
    refine j_aload_n (dt_Fi_init 40 (80, .aload_n 0, 1) rfl) rfl ?_
    obtain ⟨h19, hh19, hf⟩ := jbind hf
    refine j_new 9 (dt_Fi_init 41 (81, .new 41, 3) rfl) (by decide) (gt2 54 rfl rfl) hh19 ⟨nle rfl, nle rfl⟩ ?_
    refine j_dup (dt_Fi_init 42 (84, .dup, 1) rfl) rfl ?_
    obtain ⟨h20, hh20, hf⟩ := jbind hf
    refine j_callIN M_Slights_init 0 (cs' := 57) (ss' := 2254) (b := h17.1.1) [] (rest := [ar (some h17.1.1), ar (some o0)]) (dt_Fi_init 43 (85, .invokespecial 43, 3) rfl) ml_X11_43 rfl ok_Slights_init ⟨⟨rfl, rfl⟩, ⟨nle rfl, nle rfl⟩, ⟨nle rfl, nle rfl⟩⟩ rfl rfl (nle rfl) ⟨rfl, rfl⟩ (by have hq := nwO_lt hh19; exact hq) (c_Slights_init hh20) ?_
    obtain ⟨V21, hV21, hf⟩ := jbind hf
    refine j_putR (dt_Fi_init 44 (88, .putfield 44, 3) rfl) fl_X11_44 hV21 (Or.inl ⟨_, rfl⟩) (Or.inr ⟨rfl, rfl, rfl⟩) ?_
    refine j_aload_n (dt_Fi_init 45 (91, .aload_n 0, 1) rfl) rfl ?_
    obtain ⟨h22, hh22, hf⟩ := jbind hf
    refine j_new 1 (dt_Fi_init 46 (92, .new 48, 3) rfl) (by decide) (gt2 96 rfl rfl) hh22 ⟨nle rfl, nle rfl⟩ ?_
    refine j_dup (dt_Fi_init 47 (95, .dup, 1) rfl) rfl ?_
    obtain ⟨h23, hh23, hf⟩ := jbind hf
    refine j_callIN M_Evening_init 0 (cs' := 60) (ss' := 2340) (b := h20.1.1) [] (rest := [ar (some h20.1.1), ar (some o0)]) (dt_Fi_init 48 (96, .invokespecial 50, 3) rfl) ml_X11_50 rfl ok_Evening_init ⟨⟨rfl, rfl⟩, ⟨nle rfl, nle rfl⟩, ⟨nle rfl, nle rfl⟩⟩ rfl rfl (nle rfl) ⟨rfl, rfl⟩ (by have hq := nwO_lt hh22; exact hq) (c_Evening_init hh23) ?_
    obtain ⟨V24, hV24, hf⟩ := jbind hf
    refine j_putR (dt_Fi_init 49 (99, .putfield 51, 3) rfl) fl_X11_51 hV24 (Or.inl ⟨_, rfl⟩) (Or.inr ⟨rfl, rfl, rfl⟩) ?_
    refine j_aload_n (dt_Fi_init 50 (102, .aload_n 0, 1) rfl) rfl ?_
    obtain ⟨h25, hh25, hf⟩ := jbind hf
    refine j_new 8 (dt_Fi_init 51 (103, .new 55, 3) rfl) (by decide) (gt2 114 rfl rfl) hh25 ⟨nle rfl, nle rfl⟩ ?_
    refine j_dup (dt_Fi_init 52 (106, .dup, 1) rfl) rfl ?_
    obtain ⟨h26, hh26, hf⟩ := jbind hf
    refine j_callIN M_Search_init 0 (cs' := 73) (ss' := 3271) (b := h23.1.1) [] (rest := [ar (some h23.1.1), ar (some o0)]) (dt_Fi_init 53 (107, .invokespecial 57, 3) rfl) ml_X11_57 rfl ok_Search_init ⟨⟨rfl, rfl⟩, ⟨nle rfl, nle rfl⟩, ⟨nle rfl, nle rfl⟩⟩ rfl rfl (nle rfl) ⟨rfl, rfl⟩ (by have hq := nwO_lt hh25; exact hq) (c_Search_init hh26) ?_
    obtain ⟨V27, hV27, hf⟩ := jbind hf
    refine j_putR (dt_Fi_init 54 (110, .putfield 58, 3) rfl) fl_X11_58 hV27 (Or.inl ⟨_, rfl⟩) (Or.inr ⟨rfl, rfl, rfl⟩) ?_
    refine j_aload_n (dt_Fi_init 55 (113, .aload_n 0, 1) rfl) rfl ?_
    obtain ⟨h28, hh28, hf⟩ := jbind hf
    refine j_new 0 (dt_Fi_init 56 (114, .new 62, 3) rfl) (by decide) (gt2 189 rfl rfl) hh28 ⟨nle rfl, nle rfl⟩ ?_
    refine j_dup (dt_Fi_init 57 (117, .dup, 1) rfl) rfl ?_
    obtain ⟨h29, hh29, hf⟩ := jbind hf
    refine j_callI M_Court_init 0 (cs' := 102) (ss' := 3535) (b := h26.1.1) [] (rest := [ar (some h26.1.1), ar (some o0)]) (dt_Fi_init 58 (118, .invokespecial 64, 3) rfl) ml_X11_64 rfl ok_Court_init ⟨⟨rfl, rfl⟩, ⟨nle rfl, nle rfl⟩, ⟨nle rfl, nle rfl⟩⟩ rfl rfl (nle rfl) ⟨rfl, rfl⟩ (by have hq := nwO_lt hh28; exact hq) (c_Court_init hh29) ?_
    obtain ⟨V30, hV30, hf⟩ := jbind hf
    refine j_putR (dt_Fi_init 59 (121, .putfield 65, 3) rfl) fl_X11_65 hV30 (Or.inl ⟨_, rfl⟩) (Or.inl rfl) ?_
    refine j_aload_n (dt_Fi_init 60 (124, .aload_n 0, 1) rfl) rfl ?_
    obtain ⟨h31, hh31, hf⟩ := jbind hf
    refine j_new 0 (dt_Fi_init 61 (125, .new 62, 3) rfl) (by decide) (gt2 189 rfl rfl) hh31 ⟨nle rfl, nle rfl⟩ ?_
    refine j_dup (dt_Fi_init 62 (128, .dup, 1) rfl) rfl ?_
    obtain ⟨h32, hh32, hf⟩ := jbind hf
    refine j_callI M_Court_init 0 (cs' := 131) (ss' := 3799) (b := h29.1.1) [] (rest := [ar (some h29.1.1), ar (some o0)]) (dt_Fi_init 63 (129, .invokespecial 64, 3) rfl) ml_X11_64 rfl ok_Court_init ⟨⟨rfl, rfl⟩, ⟨nle rfl, nle rfl⟩, ⟨nle rfl, nle rfl⟩⟩ rfl rfl (nle rfl) ⟨rfl, rfl⟩ (by have hq := nwO_lt hh31; exact hq) (c_Court_init hh32) ?_
    obtain ⟨V33, hV33, hf⟩ := jbind hf
    refine j_putR (dt_Fi_init 64 (132, .putfield 69, 3) rfl) fl_X11_69 hV33 (Or.inl ⟨_, rfl⟩) (Or.inl rfl) ?_
    refine j_aload_n (dt_Fi_init 65 (135, .aload_n 0, 1) rfl) rfl ?_
    refine j_iconst (dt_Fi_init 66 (136, .iconst 0, 1) rfl) ic_0 ?_
    obtain ⟨V34, hV34, hf⟩ := jbind hf
    refine j_putI (dt_Fi_init 67 (137, .putfield 72, 3) rfl) fl_X11_72 hV34 rfl (Or.inl rfl) ?_
    cases hf
    exact j_vret (dt_Fi_init 68 (140, .return_, 1) rfl) rfl
  refine j_sub (ls' := [(0, ar (some o0)), (1, ai 0)]) rfl ?_
  refine jloop_J (C := fun s40 => jJ G M_Fi_init (jEnd G M_Fi_init none res) (6 + 10 * s40.1.toNatClampNeg) (753 + 95 * s40.1.toNatClampNeg) 40 [(0, ar (some o0)), (1, ai s40.1)] [] (s40.2.1, s40.2.2)) (fun s40 z40_ hy40 hin40 hout40 => ?_) _ _ ht40
  unfold Fi_init_L40 at hy40
  obtain ⟨_, hgd40, hy40⟩ := jbind hy40
  refine j_iload_n (dt_Fi_init 20 (40, .iload_n 1, 1) rfl) rfl ?_
  refine j_aload_n (dt_Fi_init 21 (41, .aload_n 0, 1) rfl) rfl ?_
  obtain ⟨x10, hx10, hy40⟩ := jbind hy40
  refine j_getR (dt_Fi_init 22 (42, .getfield 27, 3) rfl) fl_X11_27 hx10 (fun _ _ => rfl) ?_
  obtain ⟨x11, hx11, hy40⟩ := jbind hy40
  refine j_alen (dt_Fi_init 23 (45, .arraylength, 1) rfl) hx11 ?_
  refine jite hy40 (fun hc hy40 => ?_) (fun hc hy40 => ?_)
  · refine j_icmp_ge (dt_Fi_init 24 (46, .if_icmp .ge 23, 3) rfl) rfl (fun _ => ?_) (fun q => absurd hc q)
    cases hy40
    have hz := hX40 _ (hout40 _ rfl)
    exact j_widen (jgd_all hgd40) (jgd_all hgd40) (j_sub rfl hz)
  · refine j_icmp_ge (dt_Fi_init 24 (46, .if_icmp .ge 23, 3) rfl) rfl (fun q => absurd q hc) (fun _ => ?_)
    refine j_aload_n (dt_Fi_init 25 (49, .aload_n 0, 1) rfl) rfl ?_
    obtain ⟨x12, hx12, hy40⟩ := jbind hy40
    refine j_getR (dt_Fi_init 26 (50, .getfield 27, 3) rfl) fl_X11_27 hx12 (fun _ _ => rfl) ?_
    refine j_iload_n (dt_Fi_init 27 (53, .iload_n 1, 1) rfl) rfl ?_
    obtain ⟨_, hgl40, hy40⟩ := jbind hy40
    have hlt40 := jgs_lt hgl40
    obtain ⟨h13, hh13, hy40⟩ := jbind hy40
    refine j_new 6 (dt_Fi_init 28 (54, .new 25, 3) rfl) (by decide) (gt1 170 rfl rfl) hh13 ⟨jrm hlt40 (nle rfl) (nle rfl), jrm hlt40 (nle rfl) (nle rfl)⟩ ?_
    refine j_dup (dt_Fi_init 29 (57, .dup, 1) rfl) rfl ?_
    refine j_iload_n (dt_Fi_init 30 (58, .iload_n 1, 1) rfl) rfl ?_
    obtain ⟨h14, hh14, hy40⟩ := jbind hy40
    refine j_callI M_Room_init 1 (cs' := ((6 + 10 * s40.1.toNatClampNeg) + 10)) (ss' := ((753 + 95 * s40.1.toNatClampNeg) + 95)) (b := s40.2.1.1) [ai s40.1] (rest := [ar (some s40.2.1.1), ai s40.1, ar x12]) (dt_Fi_init 31 (59, .invokespecial 31, 3) rfl) ml_X11_31 rfl ok_Room_init ⟨⟨rfl, rfl⟩, ⟨nle rfl, nle rfl⟩, ⟨jrm2 hlt40 (nle rfl) (nle rfl), jrm2 hlt40 (nle rfl) (nle rfl)⟩⟩ rfl rfl (nle rfl) ⟨rfl, rfl⟩ (by have hq := nwO_lt hh13; exact hq) (c_Room_init hh14) ?_
    obtain ⟨_, hrx, hy40⟩ := jbind hy40
    obtain ⟨V15, hV15, hy40⟩ := jbind hy40
    refine j_aastO 104 6 (dt_Fi_init 32 (62, .aastore, 1) rfl) ⟨⟨nle rfl, nlt rfl⟩, rfl⟩ (nlt rfl) (rc_self hrx) hV15 ?_
    refine j_iinc (dt_Fi_init 33 (63, .iinc 1 1, 3) rfl) rfl (nlt rfl) (ii_1 _) ?_
    refine j_goto (dt_Fi_init 34 (66, .goto (-26), 3) rfl) rfl ?_
    cases hy40
    have hz := hin40 _ rfl
    exact j_widen (jgs_next hgl40) (jgs_next hgl40) (j_sub rfl hz)
