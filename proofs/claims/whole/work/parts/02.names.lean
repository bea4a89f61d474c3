def RX0 : String := "FirstIn$Court"
def TX0 : u_T := fun k => match k with
  | 0 => ("FirstIn$Court", "members", "[I", true)
  | 1 => ("FirstIn$Court", "rules", "[LFirstIn$Rule;", true)
  | 2 => ("FirstIn$Court", "roomOf", "[I", true)
  | 3 => ("FirstIn$Court", "placeOf", "[I", true)
  | 4 => ("FirstIn$Court", "guests", "I", false)
  | 5 => ("FirstIn$Court", "marks", "I", false)
  | 6 => ("FirstIn$Court", "ruleCount", "I", false)
  | 7 => ("FirstIn$Court", "coming", "I", false)
  | 8 => ("FirstIn$Court", "sitting", "I", false)
  | 9 => ("FirstIn$Court", "rankChanges", "I", false)
  | _ => ("FirstIn$Court", "changes", "I", false)
def tyX0 : Nat → FieldType := fun k => match k with
  | 0 => .array .int
  | 1 => .array (.object "FirstIn$Rule")
  | 2 => .array .int
  | 3 => .array .int
  | 4 => .int
  | 5 => .int
  | 6 => .int
  | 7 => .int
  | 8 => .int
  | 9 => .int
  | _ => .int
theorem nmX0 : ∀ a, a < 11 → ∀ b, b < 11 → a ≠ b → (TX0 a).2.1 ≠ (TX0 b).2.1 := by decide +kernel
theorem tyX0_ok : ∀ k, k < 11 → parseFieldDescriptor (TX0 k).2.2.1 = some (tyX0 k) := by decide +kernel
theorem layX0 : ∀ k, k < 11 → u_lay RX0 TX0 k ∈ gw := fun k hk => match k, hk with
  | 0, _ => gt3 43 rfl rfl
  | 1, _ => gt3 45 rfl rfl
  | 2, _ => gt3 47 rfl rfl
  | 3, _ => gt3 49 rfl rfl
  | 4, _ => gt3 51 rfl rfl
  | 5, _ => gt3 53 rfl rfl
  | 6, _ => gt3 55 rfl rfl
  | 7, _ => gt3 57 rfl rfl
  | 8, _ => gt3 59 rfl rfl
  | 9, _ => gt3 61 rfl rfl
  | 10, _ => gt3 63 rfl rfl
  | k + 11, h => absurd h (by omega)
def RX1 : String := "FirstIn$Evening"
def TX1 : u_T := fun k => match k with
  | 0 => ("FirstIn$Evening", "minds", "[I", true)
  | 1 => ("FirstIn$Evening", "row", "[I", true)
  | _ => ("FirstIn$Evening", "greatest", "I", false)
def tyX1 : Nat → FieldType := fun k => match k with
  | 0 => .array .int
  | 1 => .array .int
  | _ => .int
theorem nmX1 : ∀ a, a < 3 → ∀ b, b < 3 → a ≠ b → (TX1 a).2.1 ≠ (TX1 b).2.1 := by decide +kernel
theorem tyX1_ok : ∀ k, k < 3 → parseFieldDescriptor (TX1 k).2.2.1 = some (tyX1 k) := by decide +kernel
theorem layX1 : ∀ k, k < 3 → u_lay RX1 TX1 k ∈ gw := fun k hk => match k, hk with
  | 0, _ => gt2 107 rfl rfl
  | 1, _ => gt2 109 rfl rfl
  | 2, _ => gt2 111 rfl rfl
  | k + 3, h => absurd h (by omega)
def RX2 : String := "FirstIn$Found"
def TX2 : u_T := fun k => match k with
  | 0 => ("FirstIn$Found", "place", "[I", true)
  | 1 => ("FirstIn$Found", "ever", "[I", true)
  | 2 => ("FirstIn$Found", "knownAt", "I", false)
  | 3 => ("FirstIn$Found", "limit", "I", false)
  | 4 => ("FirstIn$Found", "any", "Z", false)
  | 5 => ("FirstIn$Found", "weight", "I", false)
  | 6 => ("FirstIn$Found", "heaviest", "I", false)
  | 7 => ("FirstIn$Found", "moved", "I", false)
  | _ => ("FirstIn$Found", "number", "I", false)
def tyX2 : Nat → FieldType := fun k => match k with
  | 0 => .array .int
  | 1 => .array .int
  | 2 => .int
  | 3 => .int
  | 4 => .boolean
  | 5 => .int
  | 6 => .int
  | 7 => .int
  | _ => .int
theorem nmX2 : ∀ a, a < 9 → ∀ b, b < 9 → a ≠ b → (TX2 a).2.1 ≠ (TX2 b).2.1 := by decide +kernel
theorem tyX2_ok : ∀ k, k < 9 → parseFieldDescriptor (TX2 k).2.2.1 = some (tyX2 k) := by decide +kernel
theorem layX2 : ∀ k, k < 9 → u_lay RX2 TX2 k ∈ gw := fun k hk => match k, hk with
  | 0, _ => gt1 209 rfl rfl
  | 1, _ => gt1 211 rfl rfl
  | 2, _ => gt1 213 rfl rfl
  | 3, _ => gt1 215 rfl rfl
  | 4, _ => gt1 217 rfl rfl
  | 5, _ => gt1 219 rfl rfl
  | 6, _ => gt1 221 rfl rfl
  | 7, _ => gt1 223 rfl rfl
  | 8, _ => gt1 225 rfl rfl
  | k + 9, h => absurd h (by omega)
def RX3 : String := "FirstIn$Pairs"
def TX3 : u_T := fun k => match k with
  | 0 => ("FirstIn$Pairs", "guests", "[I", true)
  | 1 => ("FirstIn$Pairs", "ways", "[I", true)
  | 2 => ("FirstIn$Pairs", "weights", "[I", true)
  | 3 => ("FirstIn$Pairs", "heaviest", "[I", true)
  | 4 => ("FirstIn$Pairs", "weightToCome", "[I", true)
  | 5 => ("FirstIn$Pairs", "heaviestToCome", "[I", true)
  | 6 => ("FirstIn$Pairs", "number", "I", false)
  | 7 => ("FirstIn$Pairs", "places", "I", false)
  | _ => ("FirstIn$Pairs", "waysThere", "I", false)
def tyX3 : Nat → FieldType := fun k => match k with
  | 0 => .array .int
  | 1 => .array .int
  | 2 => .array .int
  | 3 => .array .int
  | 4 => .array .int
  | 5 => .array .int
  | 6 => .int
  | 7 => .int
  | _ => .int
theorem nmX3 : ∀ a, a < 9 → ∀ b, b < 9 → a ≠ b → (TX3 a).2.1 ≠ (TX3 b).2.1 := by decide +kernel
theorem tyX3_ok : ∀ k, k < 9 → parseFieldDescriptor (TX3 k).2.2.1 = some (tyX3 k) := by decide +kernel
theorem layX3 : ∀ k, k < 9 → u_lay RX3 TX3 k ∈ gw := fun k hk => match k, hk with
  | 0, _ => gt2 143 rfl rfl
  | 1, _ => gt2 145 rfl rfl
  | 2, _ => gt2 147 rfl rfl
  | 3, _ => gt2 149 rfl rfl
  | 4, _ => gt2 151 rfl rfl
  | 5, _ => gt2 153 rfl rfl
  | 6, _ => gt2 155 rfl rfl
  | 7, _ => gt2 157 rfl rfl
  | 8, _ => gt2 159 rfl rfl
  | k + 9, h => absurd h (by omega)
def RX4 : String := "FirstIn$Rank"
def TX4 : u_T := fun k => match k with
  | 0 => ("FirstIn$Rank", "above", "[I", true)
  | 1 => ("FirstIn$Rank", "even", "[I", true)
  | 2 => ("FirstIn$Rank", "row", "[I", true)
  | 3 => ("FirstIn$Rank", "heaps", "[I", true)
  | 4 => ("FirstIn$Rank", "together", "[I", true)
  | 5 => ("FirstIn$Rank", "ahead", "[I", true)
  | 6 => ("FirstIn$Rank", "roundsFor", "[I", true)
  | _ => ("FirstIn$Rank", "coming", "I", false)
def tyX4 : Nat → FieldType := fun k => match k with
  | 0 => .array .int
  | 1 => .array .int
  | 2 => .array .int
  | 3 => .array .int
  | 4 => .array .int
  | 5 => .array .int
  | 6 => .array .int
  | _ => .int
theorem nmX4 : ∀ a, a < 8 → ∀ b, b < 8 → a ≠ b → (TX4 a).2.1 ≠ (TX4 b).2.1 := by decide +kernel
theorem tyX4_ok : ∀ k, k < 8 → parseFieldDescriptor (TX4 k).2.2.1 = some (tyX4 k) := by decide +kernel
theorem layX4 : ∀ k, k < 8 → u_lay RX4 TX4 k ∈ gw := fun k hk => match k, hk with
  | 0, _ => gt2 37 rfl rfl
  | 1, _ => gt2 39 rfl rfl
  | 2, _ => gt2 41 rfl rfl
  | 3, _ => gt2 43 rfl rfl
  | 4, _ => gt2 45 rfl rfl
  | 5, _ => gt2 47 rfl rfl
  | 6, _ => gt2 49 rfl rfl
  | 7, _ => gt2 51 rfl rfl
  | k + 8, h => absurd h (by omega)
def RX5 : String := "FirstIn$Reader"
def TX5 : u_T := fun k => match k with
  | 0 => ("FirstIn$Reader", "text", "LFirstIn$Text;", true)
  | 1 => ("FirstIn$Reader", "guestWord", "J", true)
  | 2 => ("FirstIn$Reader", "markWord", "J", true)
  | 3 => ("FirstIn$Reader", "isWord", "J", true)
  | 4 => ("FirstIn$Reader", "aboveWord", "J", true)
  | 5 => ("FirstIn$Reader", "evenWord", "J", true)
  | 6 => ("FirstIn$Reader", "apartWord", "J", true)
  | 7 => ("FirstIn$Reader", "byWord", "J", true)
  | 8 => ("FirstIn$Reader", "inWord", "J", true)
  | 9 => ("FirstIn$Reader", "unlessWord", "J", true)
  | 10 => ("FirstIn$Reader", "nameCodes", "[J", true)
  | 11 => ("FirstIn$Reader", "nameMeans", "[I", true)
  | _ => ("FirstIn$Reader", "names", "I", false)
def tyX5 : Nat → FieldType := fun k => match k with
  | 0 => .object "FirstIn$Text"
  | 1 => .long
  | 2 => .long
  | 3 => .long
  | 4 => .long
  | 5 => .long
  | 6 => .long
  | 7 => .long
  | 8 => .long
  | 9 => .long
  | 10 => .array .long
  | 11 => .array .int
  | _ => .int
theorem nmX5 : ∀ a, a < 13 → ∀ b, b < 13 → a ≠ b → (TX5 a).2.1 ≠ (TX5 b).2.1 := by decide +kernel
theorem tyX5_ok : ∀ k, k < 13 → parseFieldDescriptor (TX5 k).2.2.1 = some (tyX5 k) := by decide +kernel
theorem layX5 : ∀ k, k < 13 → u_lay RX5 TX5 k ∈ gw := fun k hk => match k, hk with
  | 0, _ => gt1 141 rfl rfl
  | 1, _ => gt1 143 rfl rfl
  | 2, _ => gt1 145 rfl rfl
  | 3, _ => gt1 147 rfl rfl
  | 4, _ => gt1 149 rfl rfl
  | 5, _ => gt1 151 rfl rfl
  | 6, _ => gt1 153 rfl rfl
  | 7, _ => gt1 155 rfl rfl
  | 8, _ => gt1 157 rfl rfl
  | 9, _ => gt1 159 rfl rfl
  | 10, _ => gt1 161 rfl rfl
  | 11, _ => gt1 163 rfl rfl
  | 12, _ => gt1 165 rfl rfl
  | k + 13, h => absurd h (by omega)
def RX6 : String := "FirstIn$Room"
def TX6 : u_T := fun k => match k with
  | 0 => ("FirstIn$Room", "number", "I", true)
  | 1 => ("FirstIn$Room", "least", "LFirstIn$Found;", true)
  | 2 => ("FirstIn$Room", "mildest", "LFirstIn$Found;", true)
  | 3 => ("FirstIn$Room", "mended", "LFirstIn$Found;", true)
  | 4 => ("FirstIn$Room", "kind", "I", false)
  | 5 => ("FirstIn$Room", "places", "I", false)
  | 6 => ("FirstIn$Room", "restKnownAt", "I", false)
  | _ => ("FirstIn$Room", "restBits", "I", false)
def tyX6 : Nat → FieldType := fun k => match k with
  | 0 => .int
  | 1 => .object "FirstIn$Found"
  | 2 => .object "FirstIn$Found"
  | 3 => .object "FirstIn$Found"
  | 4 => .int
  | 5 => .int
  | 6 => .int
  | _ => .int
theorem nmX6 : ∀ a, a < 8 → ∀ b, b < 8 → a ≠ b → (TX6 a).2.1 ≠ (TX6 b).2.1 := by decide +kernel
theorem tyX6_ok : ∀ k, k < 8 → parseFieldDescriptor (TX6 k).2.2.1 = some (tyX6 k) := by decide +kernel
theorem layX6 : ∀ k, k < 8 → u_lay RX6 TX6 k ∈ gw := fun k hk => match k, hk with
  | 0, _ => gt2 5 rfl rfl
  | 1, _ => gt2 7 rfl rfl
  | 2, _ => gt2 9 rfl rfl
  | 3, _ => gt2 11 rfl rfl
  | 4, _ => gt2 13 rfl rfl
  | 5, _ => gt2 15 rfl rfl
  | 6, _ => gt2 17 rfl rfl
  | 7, _ => gt2 19 rfl rfl
  | k + 8, h => absurd h (by omega)
def RX7 : String := "FirstIn$Rule"
def TX7 : u_T := fun k => match k with
  | 0 => ("FirstIn$Rule", "kind", "I", false)
  | 1 => ("FirstIn$Rule", "first", "I", false)
  | 2 => ("FirstIn$Rule", "second", "I", false)
  | 3 => ("FirstIn$Rule", "weight", "I", false)
  | 4 => ("FirstIn$Rule", "room", "I", false)
  | 5 => ("FirstIn$Rule", "unless", "I", false)
  | 6 => ("FirstIn$Rule", "rests", "Z", false)
  | _ => ("FirstIn$Rule", "couples", "[I", true)
def tyX7 : Nat → FieldType := fun k => match k with
  | 0 => .int
  | 1 => .int
  | 2 => .int
  | 3 => .int
  | 4 => .int
  | 5 => .int
  | 6 => .boolean
  | _ => .array .int
theorem nmX7 : ∀ a, a < 8 → ∀ b, b < 8 → a ≠ b → (TX7 a).2.1 ≠ (TX7 b).2.1 := by decide +kernel
theorem tyX7_ok : ∀ k, k < 8 → parseFieldDescriptor (TX7 k).2.2.1 = some (tyX7 k) := by decide +kernel
theorem layX7 : ∀ k, k < 8 → u_lay RX7 TX7 k ∈ gw := fun k hk => match k, hk with
  | 0, _ => gt2 228 rfl rfl
  | 1, _ => gt2 230 rfl rfl
  | 2, _ => gt2 232 rfl rfl
  | 3, _ => gt2 234 rfl rfl
  | 4, _ => gt2 236 rfl rfl
  | 5, _ => gt2 238 rfl rfl
  | 6, _ => gt3 0 rfl rfl
  | 7, _ => gt3 2 rfl rfl
  | k + 8, h => absurd h (by omega)
def RX8 : String := "FirstIn$Search"
def TX8 : u_T := fun k => match k with
  | 0 => ("FirstIn$Search", "pairs", "LFirstIn$Pairs;", true)
  | 1 => ("FirstIn$Search", "at", "[I", true)
  | 2 => ("FirstIn$Search", "home", "[I", true)
  | 3 => ("FirstIn$Search", "staying", "I", false)
  | 4 => ("FirstIn$Search", "kept", "I", false)
  | 5 => ("FirstIn$Search", "taken", "I", false)
  | 6 => ("FirstIn$Search", "goal", "I", false)
  | _ => ("FirstIn$Search", "found", "LFirstIn$Found;", false)
def tyX8 : Nat → FieldType := fun k => match k with
  | 0 => .object "FirstIn$Pairs"
  | 1 => .array .int
  | 2 => .array .int
  | 3 => .int
  | 4 => .int
  | 5 => .int
  | 6 => .int
  | _ => .object "FirstIn$Found"
theorem nmX8 : ∀ a, a < 8 → ∀ b, b < 8 → a ≠ b → (TX8 a).2.1 ≠ (TX8 b).2.1 := by decide +kernel
theorem tyX8_ok : ∀ k, k < 8 → parseFieldDescriptor (TX8 k).2.2.1 = some (tyX8 k) := by decide +kernel
theorem layX8 : ∀ k, k < 8 → u_lay RX8 TX8 k ∈ gw := fun k hk => match k, hk with
  | 0, _ => gt2 172 rfl rfl
  | 1, _ => gt2 174 rfl rfl
  | 2, _ => gt2 176 rfl rfl
  | 3, _ => gt2 178 rfl rfl
  | 4, _ => gt2 180 rfl rfl
  | 5, _ => gt2 182 rfl rfl
  | 6, _ => gt2 184 rfl rfl
  | 7, _ => gt2 186 rfl rfl
  | k + 8, h => absurd h (by omega)
def RX9 : String := "FirstIn$Slights"
def TX9 : u_T := fun k => match k with
  | 0 => ("FirstIn$Slights", "places", "[I", true)
  | 1 => ("FirstIn$Slights", "minded", "[I", true)
  | 2 => ("FirstIn$Slights", "weight", "I", false)
  | 3 => ("FirstIn$Slights", "number", "I", false)
  | 4 => ("FirstIn$Slights", "heaviest", "I", false)
  | 5 => ("FirstIn$Slights", "sought", "I", false)
  | 6 => ("FirstIn$Slights", "rule", "I", false)
  | 7 => ("FirstIn$Slights", "x", "I", false)
  | _ => ("FirstIn$Slights", "y", "I", false)
def tyX9 : Nat → FieldType := fun k => match k with
  | 0 => .array .int
  | 1 => .array .int
  | 2 => .int
  | 3 => .int
  | 4 => .int
  | 5 => .int
  | 6 => .int
  | 7 => .int
  | _ => .int
theorem nmX9 : ∀ a, a < 9 → ∀ b, b < 9 → a ≠ b → (TX9 a).2.1 ≠ (TX9 b).2.1 := by decide +kernel
theorem tyX9_ok : ∀ k, k < 9 → parseFieldDescriptor (TX9 k).2.2.1 = some (tyX9 k) := by decide +kernel
theorem layX9 : ∀ k, k < 9 → u_lay RX9 TX9 k ∈ gw := fun k hk => match k, hk with
  | 0, _ => gt2 77 rfl rfl
  | 1, _ => gt2 79 rfl rfl
  | 2, _ => gt2 81 rfl rfl
  | 3, _ => gt2 83 rfl rfl
  | 4, _ => gt2 85 rfl rfl
  | 5, _ => gt2 87 rfl rfl
  | 6, _ => gt2 89 rfl rfl
  | 7, _ => gt2 91 rfl rfl
  | 8, _ => gt2 93 rfl rfl
  | k + 9, h => absurd h (by omega)
def RX10 : String := "FirstIn$Text"
def TX10 : u_T := fun k => match k with
  | 0 => ("FirstIn$Text", "bytes", "[B", true)
  | 1 => ("FirstIn$Text", "length", "I", false)
  | 2 => ("FirstIn$Text", "kind", "I", false)
  | 3 => ("FirstIn$Text", "from", "I", false)
  | 4 => ("FirstIn$Text", "to", "I", false)
  | _ => ("FirstIn$Text", "code", "J", false)
def tyX10 : Nat → FieldType := fun k => match k with
  | 0 => .array .byte
  | 1 => .int
  | 2 => .int
  | 3 => .int
  | 4 => .int
  | _ => .long
theorem nmX10 : ∀ a, a < 6 → ∀ b, b < 6 → a ≠ b → (TX10 a).2.1 ≠ (TX10 b).2.1 := by decide +kernel
theorem tyX10_ok : ∀ k, k < 6 → parseFieldDescriptor (TX10 k).2.2.1 = some (tyX10 k) := by decide +kernel
theorem layX10 : ∀ k, k < 6 → u_lay RX10 TX10 k ∈ gw := fun k hk => match k, hk with
  | 0, _ => gt1 46 rfl rfl
  | 1, _ => gt1 48 rfl rfl
  | 2, _ => gt1 50 rfl rfl
  | 3, _ => gt1 52 rfl rfl
  | 4, _ => gt1 54 rfl rfl
  | 5, _ => gt1 56 rfl rfl
  | k + 6, h => absurd h (by omega)
def RX11 : String := "FirstIn"
def TX11 : u_T := fun k => match k with
  | 0 => ("FirstIn", "text", "LFirstIn$Text;", true)
  | 1 => ("FirstIn", "reader", "LFirstIn$Reader;", true)
  | 2 => ("FirstIn", "rooms", "[LFirstIn$Room;", true)
  | 3 => ("FirstIn", "rank", "LFirstIn$Rank;", true)
  | 4 => ("FirstIn", "told", "LFirstIn$Slights;", true)
  | 5 => ("FirstIn", "evening", "LFirstIn$Evening;", true)
  | 6 => ("FirstIn", "search", "LFirstIn$Search;", true)
  | 7 => ("FirstIn", "court", "LFirstIn$Court;", false)
  | 8 => ("FirstIn", "draft", "LFirstIn$Court;", false)
  | _ => ("FirstIn", "roomCount", "I", false)
def tyX11 : Nat → FieldType := fun k => match k with
  | 0 => .object "FirstIn$Text"
  | 1 => .object "FirstIn$Reader"
  | 2 => .array (.object "FirstIn$Room")
  | 3 => .object "FirstIn$Rank"
  | 4 => .object "FirstIn$Slights"
  | 5 => .object "FirstIn$Evening"
  | 6 => .object "FirstIn$Search"
  | 7 => .object "FirstIn$Court"
  | 8 => .object "FirstIn$Court"
  | _ => .int
theorem nmX11 : ∀ a, a < 10 → ∀ b, b < 10 → a ≠ b → (TX11 a).2.1 ≠ (TX11 b).2.1 := by decide +kernel
theorem tyX11_ok : ∀ k, k < 10 → parseFieldDescriptor (TX11 k).2.2.1 = some (tyX11 k) := by decide +kernel
theorem layX11 : ∀ k, k < 10 → u_lay RX11 TX11 k ∈ gw := fun k hk => match k, hk with
  | 0, _ => gt3 76 rfl rfl
  | 1, _ => gt3 78 rfl rfl
  | 2, _ => gt3 80 rfl rfl
  | 3, _ => gt3 82 rfl rfl
  | 4, _ => gt3 84 rfl rfl
  | 5, _ => gt3 86 rfl rfl
  | 6, _ => gt3 88 rfl rfl
  | 7, _ => gt3 90 rfl rfl
  | 8, _ => gt3 92 rfl rfl
  | 9, _ => gt3 94 rfl rfl
  | k + 10, h => absurd h (by omega)
def RX12 : String := "FirstInModel"
def TX12 : u_T := fun k => match k with
  | 0 => ("FirstInModel", "text", "[B", true)
  | 1 => ("FirstInModel", "textMany", "I", false)
  | 2 => ("FirstInModel", "at", "I", false)
  | 3 => ("FirstInModel", "to", "I", false)
  | 4 => ("FirstInModel", "faultAt", "I", false)
  | 5 => ("FirstInModel", "value", "I", false)
  | 6 => ("FirstInModel", "guestName", "[[J", true)
  | 7 => ("FirstInModel", "markName", "[[J", true)
  | 8 => ("FirstInModel", "marked", "[[I", true)
  | 9 => ("FirstInModel", "kind", "[[I", true)
  | 10 => ("FirstInModel", "one", "[[I", true)
  | 11 => ("FirstInModel", "other", "[[I", true)
  | 12 => ("FirstInModel", "weight", "[[I", true)
  | 13 => ("FirstInModel", "tells", "[[I", true)
  | 14 => ("FirstInModel", "unless", "[[I", true)
  | 15 => ("FirstInModel", "guests", "[I", true)
  | 16 => ("FirstInModel", "marks", "[I", true)
  | 17 => ("FirstInModel", "rules", "[I", true)
  | 18 => ("FirstInModel", "words", "[Ljava/lang/String;", true)
  | 19 => ("FirstInModel", "rests", "[Z", true)
  | 20 => ("FirstInModel", "coming", "[Z", true)
  | 21 => ("FirstInModel", "sitting", "[Z", true)
  | 22 => ("FirstInModel", "inRoom", "[I", true)
  | 23 => ("FirstInModel", "inPlace", "[I", true)
  | 24 => ("FirstInModel", "roomKind", "[I", true)
  | 25 => ("FirstInModel", "roomPlaces", "[I", true)
  | 26 => ("FirstInModel", "rooms", "I", false)
  | 27 => ("FirstInModel", "slightRule", "[I", true)
  | 28 => ("FirstInModel", "slightX", "[I", true)
  | 29 => ("FirstInModel", "slightY", "[I", true)
  | 30 => ("FirstInModel", "minding", "[I", true)
  | 31 => ("FirstInModel", "slightMany", "I", false)
  | 32 => ("FirstInModel", "above", "[Z", true)
  | 33 => ("FirstInModel", "even", "[Z", true)
  | 34 => ("FirstInModel", "far", "[I", true)
  | 35 => ("FirstInModel", "row", "[I", true)
  | 36 => ("FirstInModel", "together", "[I", true)
  | 37 => ("FirstInModel", "groupBits", "[I", true)
  | 38 => ("FirstInModel", "least", "[I", true)
  | 39 => ("FirstInModel", "heapOf", "[I", true)
  | 40 => ("FirstInModel", "heaps", "[I", true)
  | 41 => ("FirstInModel", "members", "[I", true)
  | 42 => ("FirstInModel", "quiet", "[Z", true)
  | 43 => ("FirstInModel", "memberMany", "I", false)
  | 44 => ("FirstInModel", "weighs", "[I", true)
  | 45 => ("FirstInModel", "heavy", "[I", true)
  | 46 => ("FirstInModel", "place", "[I", true)
  | 47 => ("FirstInModel", "best", "[I", true)
  | 48 => ("FirstInModel", "mild", "[I", true)
  | 49 => ("FirstInModel", "mend", "[I", true)
  | 50 => ("FirstInModel", "same", "[I", true)
  | 51 => ("FirstInModel", "seen", "[I", true)
  | 52 => ("FirstInModel", "seats", "I", false)
  | 53 => ("FirstInModel", "seaterRoom", "I", false)
  | 54 => ("FirstInModel", "leastAll", "I", false)
  | 55 => ("FirstInModel", "leastMany", "I", false)
  | 56 => ("FirstInModel", "mildMost", "I", false)
  | 57 => ("FirstInModel", "mildAll", "I", false)
  | 58 => ("FirstInModel", "limit", "I", false)
  | 59 => ("FirstInModel", "mendLeave", "I", false)
  | 60 => ("FirstInModel", "isMending", "Z", false)
  | 61 => ("FirstInModel", "mindsOn", "[I", true)
  | 62 => ("FirstInModel", "step", "[I", true)
  | _ => ("FirstInModel", "bestStep", "[I", true)
def tyX12 : Nat → FieldType := fun k => match k with
  | 0 => .array .byte
  | 1 => .int
  | 2 => .int
  | 3 => .int
  | 4 => .int
  | 5 => .int
  | 6 => .array (.array .long)
  | 7 => .array (.array .long)
  | 8 => .array (.array .int)
  | 9 => .array (.array .int)
  | 10 => .array (.array .int)
  | 11 => .array (.array .int)
  | 12 => .array (.array .int)
  | 13 => .array (.array .int)
  | 14 => .array (.array .int)
  | 15 => .array .int
  | 16 => .array .int
  | 17 => .array .int
  | 18 => .array (.object "java/lang/String")
  | 19 => .array .boolean
  | 20 => .array .boolean
  | 21 => .array .boolean
  | 22 => .array .int
  | 23 => .array .int
  | 24 => .array .int
  | 25 => .array .int
  | 26 => .int
  | 27 => .array .int
  | 28 => .array .int
  | 29 => .array .int
  | 30 => .array .int
  | 31 => .int
  | 32 => .array .boolean
  | 33 => .array .boolean
  | 34 => .array .int
  | 35 => .array .int
  | 36 => .array .int
  | 37 => .array .int
  | 38 => .array .int
  | 39 => .array .int
  | 40 => .array .int
  | 41 => .array .int
  | 42 => .array .boolean
  | 43 => .int
  | 44 => .array .int
  | 45 => .array .int
  | 46 => .array .int
  | 47 => .array .int
  | 48 => .array .int
  | 49 => .array .int
  | 50 => .array .int
  | 51 => .array .int
  | 52 => .int
  | 53 => .int
  | 54 => .int
  | 55 => .int
  | 56 => .int
  | 57 => .int
  | 58 => .int
  | 59 => .int
  | 60 => .boolean
  | 61 => .array .int
  | 62 => .array .int
  | _ => .array .int
theorem nmX12 : ∀ a, a < 64 → ∀ b, b < 64 → a ≠ b → (TX12 a).2.1 ≠ (TX12 b).2.1 := by decide +kernel
theorem tyX12_ok : ∀ k, k < 64 → parseFieldDescriptor (TX12 k).2.2.1 = some (tyX12 k) := by decide +kernel
theorem layX12 : ∀ k, k < 64 → u_lay RX12 TX12 k ∈ gw := fun k hk => match k, hk with
  | 0, _ => gt6 84 rfl rfl
  | 1, _ => gt6 86 rfl rfl
  | 2, _ => gt6 88 rfl rfl
  | 3, _ => gt6 90 rfl rfl
  | 4, _ => gt6 92 rfl rfl
  | 5, _ => gt6 94 rfl rfl
  | 6, _ => gt6 96 rfl rfl
  | 7, _ => gt6 98 rfl rfl
  | 8, _ => gt6 100 rfl rfl
  | 9, _ => gt6 102 rfl rfl
  | 10, _ => gt6 104 rfl rfl
  | 11, _ => gt6 106 rfl rfl
  | 12, _ => gt6 108 rfl rfl
  | 13, _ => gt6 110 rfl rfl
  | 14, _ => gt6 112 rfl rfl
  | 15, _ => gt6 114 rfl rfl
  | 16, _ => gt6 116 rfl rfl
  | 17, _ => gt6 118 rfl rfl
  | 18, _ => gt6 120 rfl rfl
  | 19, _ => gt6 122 rfl rfl
  | 20, _ => gt6 124 rfl rfl
  | 21, _ => gt6 126 rfl rfl
  | 22, _ => gt6 128 rfl rfl
  | 23, _ => gt6 130 rfl rfl
  | 24, _ => gt6 132 rfl rfl
  | 25, _ => gt6 134 rfl rfl
  | 26, _ => gt6 136 rfl rfl
  | 27, _ => gt6 138 rfl rfl
  | 28, _ => gt6 140 rfl rfl
  | 29, _ => gt6 142 rfl rfl
  | 30, _ => gt6 144 rfl rfl
  | 31, _ => gt6 146 rfl rfl
  | 32, _ => gt6 148 rfl rfl
  | 33, _ => gt6 150 rfl rfl
  | 34, _ => gt6 152 rfl rfl
  | 35, _ => gt6 154 rfl rfl
  | 36, _ => gt6 156 rfl rfl
  | 37, _ => gt6 158 rfl rfl
  | 38, _ => gt6 160 rfl rfl
  | 39, _ => gt6 162 rfl rfl
  | 40, _ => gt6 164 rfl rfl
  | 41, _ => gt6 166 rfl rfl
  | 42, _ => gt6 168 rfl rfl
  | 43, _ => gt6 170 rfl rfl
  | 44, _ => gt6 172 rfl rfl
  | 45, _ => gt6 174 rfl rfl
  | 46, _ => gt6 176 rfl rfl
  | 47, _ => gt6 178 rfl rfl
  | 48, _ => gt6 180 rfl rfl
  | 49, _ => gt6 182 rfl rfl
  | 50, _ => gt6 184 rfl rfl
  | 51, _ => gt6 186 rfl rfl
  | 52, _ => gt6 188 rfl rfl
  | 53, _ => gt6 190 rfl rfl
  | 54, _ => gt6 192 rfl rfl
  | 55, _ => gt6 194 rfl rfl
  | 56, _ => gt6 196 rfl rfl
  | 57, _ => gt6 198 rfl rfl
  | 58, _ => gt6 200 rfl rfl
  | 59, _ => gt6 202 rfl rfl
  | 60, _ => gt6 204 rfl rfl
  | 61, _ => gt6 206 rfl rfl
  | 62, _ => gt6 208 rfl rfl
  | 63, _ => gt6 210 rfl rfl
  | k + 64, h => absurd h (by omega)
def cN : Nat → String := fun c => match c with
  | 0 => RX0
  | 1 => RX1
  | 2 => RX2
  | 3 => RX3
  | 4 => RX4
  | 5 => RX5
  | 6 => RX6
  | 7 => RX7
  | 8 => RX8
  | 9 => RX9
  | 10 => RX10
  | 11 => RX11
  | _ => RX12
def cT : Nat → u_T := fun c => match c with
  | 0 => TX0
  | 1 => TX1
  | 2 => TX2
  | 3 => TX3
  | 4 => TX4
  | 5 => TX5
  | 6 => TX6
  | 7 => TX7
  | 8 => TX8
  | 9 => TX9
  | 10 => TX10
  | 11 => TX11
  | _ => TX12
def nF : Nat → Nat := fun c => match c with
  | 0 => 11
  | 1 => 3
  | 2 => 9
  | 3 => 9
  | 4 => 8
  | 5 => 13
  | 6 => 8
  | 7 => 8
  | 8 => 8
  | 9 => 9
  | 10 => 6
  | 11 => 10
  | _ => 64
def cTy : Nat → Nat → FieldType := fun c => match c with
  | 0 => tyX0
  | 1 => tyX1
  | 2 => tyX2
  | 3 => tyX3
  | 4 => tyX4
  | 5 => tyX5
  | 6 => tyX6
  | 7 => tyX7
  | 8 => tyX8
  | 9 => tyX9
  | 10 => tyX10
  | 11 => tyX11
  | _ => tyX12
/-- the array classes: kind 100 on -/
def aTy : Nat → FieldType := fun c => match c with
  | 100 => .int
  | 101 => .byte
  | 102 => .boolean
  | 103 => .long
  | 104 => .object "FirstIn$Room"
  | 105 => .object "FirstIn$Rule"
  | 106 => .object "java/lang/String"
  | 107 => .array .int
  | _ => .array .long
theorem c_lay : ∀ c, c < 13 → ∀ w ∈ u_ws (cN c) (cT c) (nF c), w ∈ gw := fun c hc => match c, hc with
  | 0, _ => fun w hw => by
    obtain ⟨k, hk, rfl⟩ := List.mem_map.mp hw
    exact layX0 k (List.mem_range.mp hk)
  | 1, _ => fun w hw => by
    obtain ⟨k, hk, rfl⟩ := List.mem_map.mp hw
    exact layX1 k (List.mem_range.mp hk)
  | 2, _ => fun w hw => by
    obtain ⟨k, hk, rfl⟩ := List.mem_map.mp hw
    exact layX2 k (List.mem_range.mp hk)
  | 3, _ => fun w hw => by
    obtain ⟨k, hk, rfl⟩ := List.mem_map.mp hw
    exact layX3 k (List.mem_range.mp hk)
  | 4, _ => fun w hw => by
    obtain ⟨k, hk, rfl⟩ := List.mem_map.mp hw
    exact layX4 k (List.mem_range.mp hk)
  | 5, _ => fun w hw => by
    obtain ⟨k, hk, rfl⟩ := List.mem_map.mp hw
    exact layX5 k (List.mem_range.mp hk)
  | 6, _ => fun w hw => by
    obtain ⟨k, hk, rfl⟩ := List.mem_map.mp hw
    exact layX6 k (List.mem_range.mp hk)
  | 7, _ => fun w hw => by
    obtain ⟨k, hk, rfl⟩ := List.mem_map.mp hw
    exact layX7 k (List.mem_range.mp hk)
  | 8, _ => fun w hw => by
    obtain ⟨k, hk, rfl⟩ := List.mem_map.mp hw
    exact layX8 k (List.mem_range.mp hk)
  | 9, _ => fun w hw => by
    obtain ⟨k, hk, rfl⟩ := List.mem_map.mp hw
    exact layX9 k (List.mem_range.mp hk)
  | 10, _ => fun w hw => by
    obtain ⟨k, hk, rfl⟩ := List.mem_map.mp hw
    exact layX10 k (List.mem_range.mp hk)
  | 11, _ => fun w hw => by
    obtain ⟨k, hk, rfl⟩ := List.mem_map.mp hw
    exact layX11 k (List.mem_range.mp hk)
  | 12, _ => fun w hw => by
    obtain ⟨k, hk, rfl⟩ := List.mem_map.mp hw
    exact layX12 k (List.mem_range.mp hk)
  | c + 13, h => absurd h (by omega)
theorem c_ty : ∀ c, c < 13 → ∀ k, k < nF c → parseFieldDescriptor (cT c k).2.2.1 = some (cTy c k) := fun c hc => match c, hc with
  | 0, _ => tyX0_ok
  | 1, _ => tyX1_ok
  | 2, _ => tyX2_ok
  | 3, _ => tyX3_ok
  | 4, _ => tyX4_ok
  | 5, _ => tyX5_ok
  | 6, _ => tyX6_ok
  | 7, _ => tyX7_ok
  | 8, _ => tyX8_ok
  | 9, _ => tyX9_ok
  | 10, _ => tyX10_ok
  | 11, _ => tyX11_ok
  | 12, _ => tyX12_ok
  | c + 13, h => absurd h (by omega)
theorem c_nm : ∀ c, c < 13 → ∀ a, a < nF c → ∀ b, b < nF c → a ≠ b → (cT c a).2.1 ≠ (cT c b).2.1 := fun c hc => match c, hc with
  | 0, _ => nmX0
  | 1, _ => nmX1
  | 2, _ => nmX2
  | 3, _ => nmX3
  | 4, _ => nmX4
  | 5, _ => nmX5
  | 6, _ => nmX6
  | 7, _ => nmX7
  | 8, _ => nmX8
  | 9, _ => nmX9
  | 10, _ => nmX10
  | 11, _ => nmX11
  | 12, _ => nmX12
  | c + 13, h => absurd h (by omega)
theorem c_inst : ∀ c, c < 13 → Cond.instantiable (cN c) (nF c) ∈ gw := fun c hc => match c, hc with
  | 0, _ => gt2 190 rfl rfl
  | 1, _ => gt2 97 rfl rfl
  | 2, _ => gt1 178 rfl rfl
  | 3, _ => gt2 121 rfl rfl
  | 4, _ => gt2 23 rfl rfl
  | 5, _ => gt1 61 rfl rfl
  | 6, _ => gt1 172 rfl rfl
  | 7, _ => gt2 197 rfl rfl
  | 8, _ => gt2 115 rfl rfl
  | 9, _ => gt2 55 rfl rfl
  | 10, _ => gt1 31 rfl rfl
  | 11, _ => gt1 23 rfl rfl
  | 12, _ => gt6 0 rfl rfl
  | c + 13, h => absurd h (by omega)
theorem c_init : ∀ c, c < 13 → Cond.initialized (cN c) ∈ gw := fun c hc => match c, hc with
  | 0, _ => gt1 15 rfl rfl
  | 1, _ => gt1 12 rfl rfl
  | 2, _ => gt1 9 rfl rfl
  | 3, _ => gt1 14 rfl rfl
  | 4, _ => gt1 10 rfl rfl
  | 5, _ => gt1 3 rfl rfl
  | 6, _ => gt1 8 rfl rfl
  | 7, _ => gt1 16 rfl rfl
  | 8, _ => gt1 13 rfl rfl
  | 9, _ => gt1 11 rfl rfl
  | 10, _ => gt1 2 rfl rfl
  | 11, _ => gt1 1 rfl rfl
  | 12, _ => gt1 17 rfl rfl
  | c + 13, h => absurd h (by omega)
/-- the String constants: 9 texts -/
def sLen : List Nat := [5, 4, 2, 5, 4, 5, 2, 2, 6]
def sByt : List (List Int32) := [[103, 117, 101, 115, 116], [109, 97, 114, 107], [105, 115], [97, 98, 111, 118, 101], [101, 118, 101, 110], [97, 112, 97, 114, 116], [98, 121], [105, 110], [117, 110, 108, 101, 115, 115]]
def sRefs : List (String × Nat × String × Nat) := [("FirstIn$Reader", 9, "guest", 0), ("FirstIn$Reader", 23, "mark", 1), ("FirstIn$Reader", 28, "is", 2), ("FirstIn$Reader", 33, "above", 3), ("FirstIn$Reader", 38, "even", 4), ("FirstIn$Reader", 43, "apart", 5), ("FirstIn$Reader", 48, "by", 6), ("FirstIn$Reader", 53, "in", 7), ("FirstIn$Reader", 58, "unless", 8), ("FirstInModel", 56, "guest", 0), ("FirstInModel", 58, "mark", 1), ("FirstInModel", 60, "is", 2), ("FirstInModel", 62, "above", 3), ("FirstInModel", 64, "even", 4), ("FirstInModel", 66, "apart", 5), ("FirstInModel", 68, "by", 6), ("FirstInModel", 70, "in", 7), ("FirstInModel", 72, "unless", 8)]
/-- calls of a nest mate -/
def nws : List (String × Nat × MethodName × String) := [("FirstIn", 11, ⟨"FirstIn$Text", "<init>", "()V"⟩, "FirstIn"), ("FirstIn$Room", 11, ⟨"FirstIn$Found", "<init>", "()V"⟩, "FirstIn"), ("FirstIn", 36, ⟨"FirstIn$Rank", "<init>", "()V"⟩, "FirstIn"), ("FirstIn", 43, ⟨"FirstIn$Slights", "<init>", "()V"⟩, "FirstIn"), ("FirstIn", 50, ⟨"FirstIn$Evening", "<init>", "()V"⟩, "FirstIn"), ("FirstIn", 57, ⟨"FirstIn$Search", "<init>", "()V"⟩, "FirstIn"), ("FirstIn$Search", 11, ⟨"FirstIn$Pairs", "<init>", "()V"⟩, "FirstIn"), ("FirstIn$Search", 40, ⟨"FirstIn$Found", "<init>", "()V"⟩, "FirstIn"), ("FirstIn$Court", 49, ⟨"FirstIn$Rule", "<init>", "()V"⟩, "FirstIn"), ("FirstIn$Reader", 134, ⟨"FirstIn", "has", "(II)Z"⟩, "FirstIn"), ("FirstIn$Rule", 44, ⟨"FirstIn", "has", "(II)Z"⟩, "FirstIn"), ("FirstIn$Court", 64, ⟨"FirstIn", "has", "(II)Z"⟩, "FirstIn"), ("FirstIn$Slights", 84, ⟨"FirstIn", "has", "(II)Z"⟩, "FirstIn"), ("FirstIn$Slights", 98, ⟨"FirstIn", "isSlight", "(IIZ)Z"⟩, "FirstIn"), ("FirstIn$Rank", 53, ⟨"FirstIn", "has", "(II)Z"⟩, "FirstIn"), ("FirstIn$Rank", 90, ⟨"FirstIn", "lowest", "(I)I"⟩, "FirstIn"), ("FirstIn$Pairs", 96, ⟨"FirstIn", "has", "(II)Z"⟩, "FirstIn"), ("FirstIn$Pairs", 112, ⟨"FirstIn", "isSlight", "(IIZ)Z"⟩, "FirstIn"), ("FirstIn$Search", 80, ⟨"FirstIn", "has", "(II)Z"⟩, "FirstIn"), ("FirstIn$Found", 47, ⟨"FirstIn", "bitAt", "(II)I"⟩, "FirstIn")]
