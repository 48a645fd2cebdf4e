def mr0 : String := "KeptPromises$Breaking"
def mT0 : u_T := fun k => match k with
  | 0 => ("KeptPromises$Breaking", "number", "[I", true)
  | 1 => ("KeptPromises$Breaking", "price", "[I", true)
  | 2 => ("KeptPromises$Breaking", "fails", "[Z", true)
  | _ => ("KeptPromises$Breaking", "count", "I", false)
def mty0 : Nat → FieldType := fun k => match k with
  | 0 => .array .int
  | 1 => .array .int
  | 2 => .array .boolean
  | _ => .int
theorem mn0 : ∀ a, a < 4 → ∀ b, b < 4 → a ≠ b → (mT0 a).2.1 ≠ (mT0 b).2.1 := by decide +kernel
theorem mtk0 : ∀ k, k < 4 → parseFieldDescriptor (mT0 k).2.2.1 = some (mty0 k) := by decide +kernel
theorem mi0 : ∀ w ∈ u_ws mr0 mT0 4, w ∈ tables_1 := by decide +kernel
def mr1 : String := "KeptPromises$Deal"
def mT1 : u_T := fun k => match k with
  | 0 => ("KeptPromises$Deal", "kind", "[I", true)
  | 1 => ("KeptPromises$Deal", "from", "[I", true)
  | 2 => ("KeptPromises$Deal", "till", "[I", true)
  | 3 => ("KeptPromises$Deal", "thing", "[I", true)
  | 4 => ("KeptPromises$Deal", "after", "[I", true)
  | 5 => ("KeptPromises$Deal", "fork", "[I", true)
  | 6 => ("KeptPromises$Deal", "how", "[I", true)
  | 7 => ("KeptPromises$Deal", "owing", "[I", true)
  | 8 => ("KeptPromises$Deal", "whom", "[I", true)
  | 9 => ("KeptPromises$Deal", "length", "[I", true)
  | 10 => ("KeptPromises$Deal", "left", "[I", true)
  | 11 => ("KeptPromises$Deal", "span", "[I", true)
  | 12 => ("KeptPromises$Deal", "handsIn", "[I", true)
  | 13 => ("KeptPromises$Deal", "knownFrom", "[I", true)
  | 14 => ("KeptPromises$Deal", "count", "I", false)
  | 15 => ("KeptPromises$Deal", "works", "I", false)
  | 16 => ("KeptPromises$Deal", "lostOnes", "I", false)
  | 17 => ("KeptPromises$Deal", "now", "I", false)
  | _ => ("KeptPromises$Deal", "turned", "I", false)
def mty1 : Nat → FieldType := fun k => match k with
  | 0 => .array .int
  | 1 => .array .int
  | 2 => .array .int
  | 3 => .array .int
  | 4 => .array .int
  | 5 => .array .int
  | 6 => .array .int
  | 7 => .array .int
  | 8 => .array .int
  | 9 => .array .int
  | 10 => .array .int
  | 11 => .array .int
  | 12 => .array .int
  | 13 => .array .int
  | 14 => .int
  | 15 => .int
  | 16 => .int
  | 17 => .int
  | _ => .int
theorem mn1 : ∀ a, a < 19 → ∀ b, b < 19 → a ≠ b → (mT1 a).2.1 ≠ (mT1 b).2.1 := by decide +kernel
theorem mtk1 : ∀ k, k < 19 → parseFieldDescriptor (mT1 k).2.2.1 = some (mty1 k) := by decide +kernel
theorem mi1 : ∀ w ∈ u_ws mr1 mT1 19, w ∈ tables_1 := by decide +kernel
def mr2 : String := "KeptPromises$Reader"
def mT2 : u_T := fun k => match k with
  | 0 => ("KeptPromises$Reader", "letters", "[J", false)
  | 1 => ("KeptPromises$Reader", "end", "I", false)
  | 2 => ("KeptPromises$Reader", "at", "I", false)
  | 3 => ("KeptPromises$Reader", "bad", "I", false)
  | 4 => ("KeptPromises$Reader", "kind", "I", false)
  | 5 => ("KeptPromises$Reader", "number", "I", false)
  | 6 => ("KeptPromises$Reader", "from", "I", false)
  | 7 => ("KeptPromises$Reader", "till", "I", false)
  | 8 => ("KeptPromises$Reader", "thing", "I", false)
  | 9 => ("KeptPromises$Reader", "after", "I", false)
  | 10 => ("KeptPromises$Reader", "fork", "I", false)
  | 11 => ("KeptPromises$Reader", "how", "I", false)
  | 12 => ("KeptPromises$Reader", "owing", "I", false)
  | _ => ("KeptPromises$Reader", "whom", "I", false)
def mty2 : Nat → FieldType := fun k => match k with
  | 0 => .array .long
  | 1 => .int
  | 2 => .int
  | 3 => .int
  | 4 => .int
  | 5 => .int
  | 6 => .int
  | 7 => .int
  | 8 => .int
  | 9 => .int
  | 10 => .int
  | 11 => .int
  | 12 => .int
  | _ => .int
theorem mn2 : ∀ a, a < 14 → ∀ b, b < 14 → a ≠ b → (mT2 a).2.1 ≠ (mT2 b).2.1 := by decide +kernel
theorem mtk2 : ∀ k, k < 14 → parseFieldDescriptor (mT2 k).2.2.1 = some (mty2 k) := by decide +kernel
theorem mi2 : ∀ w ∈ u_ws mr2 mT2 14, w ∈ tables_1 := by decide +kernel
def mr3 : String := "KeptPromises$Search"
def mT3 : u_T := fun k => match k with
  | 0 => ("KeptPromises$Search", "deal", "LKeptPromises$Deal;", false)
  | 1 => ("KeptPromises$Search", "meant", "I", false)
  | 2 => ("KeptPromises$Search", "groups", "I", false)
  | 3 => ("KeptPromises$Search", "outcome", "I", false)
  | 4 => ("KeptPromises$Search", "hopeless", "Z", false)
  | 5 => ("KeptPromises$Search", "places", "I", false)
  | 6 => ("KeptPromises$Search", "start", "I", false)
  | 7 => ("KeptPromises$Search", "startGroup", "I", false)
  | 8 => ("KeptPromises$Search", "sameThing", "I", false)
  | 9 => ("KeptPromises$Search", "pinHour", "I", false)
  | 10 => ("KeptPromises$Search", "pinBit", "I", false)
  | 11 => ("KeptPromises$Search", "number", "[I", true)
  | 12 => ("KeptPromises$Search", "afterPlace", "[I", true)
  | 13 => ("KeptPromises$Search", "order", "[I", true)
  | 14 => ("KeptPromises$Search", "deadline", "[I", true)
  | 15 => ("KeptPromises$Search", "standings", "[I", true)
  | 16 => ("KeptPromises$Search", "leftAhead", "[I", true)
  | 17 => ("KeptPromises$Search", "leftAfter", "[I", true)
  | 18 => ("KeptPromises$Search", "roomBefore", "[I", true)
  | _ => ("KeptPromises$Search", "marks", "[J", false)
def mty3 : Nat → FieldType := fun k => match k with
  | 0 => .object "KeptPromises$Deal"
  | 1 => .int
  | 2 => .int
  | 3 => .int
  | 4 => .boolean
  | 5 => .int
  | 6 => .int
  | 7 => .int
  | 8 => .int
  | 9 => .int
  | 10 => .int
  | 11 => .array .int
  | 12 => .array .int
  | 13 => .array .int
  | 14 => .array .int
  | 15 => .array .int
  | 16 => .array .int
  | 17 => .array .int
  | 18 => .array .int
  | _ => .array .long
theorem mn3 : ∀ a, a < 20 → ∀ b, b < 20 → a ≠ b → (mT3 a).2.1 ≠ (mT3 b).2.1 := by decide +kernel
theorem mtk3 : ∀ k, k < 20 → parseFieldDescriptor (mT3 k).2.2.1 = some (mty3 k) := by decide +kernel
theorem mi3 : ∀ w ∈ u_ws mr3 mT3 20, w ∈ tables_1 := by decide +kernel
def mr4 : String := "KeptPromises$Telling"
def mT4 : u_T := fun k => match k with
  | 0 => ("KeptPromises$Telling", "lefts", "[I", true)
  | 1 => ("KeptPromises$Telling", "lostOnes", "I", false)
  | _ => ("KeptPromises$Telling", "clash", "I", false)
def mty4 : Nat → FieldType := fun k => match k with
  | 0 => .array .int
  | 1 => .int
  | _ => .int
theorem mn4 : ∀ a, a < 3 → ∀ b, b < 3 → a ≠ b → (mT4 a).2.1 ≠ (mT4 b).2.1 := by decide +kernel
theorem mtk4 : ∀ k, k < 3 → parseFieldDescriptor (mT4 k).2.2.1 = some (mty4 k) := by decide +kernel
theorem mi4 : ∀ w ∈ u_ws mr4 mT4 3, w ∈ tables_1 := by decide +kernel
def mr5 : String := "KeptPromises"
def mT5 : u_T := fun k => match k with
  | 0 => ("KeptPromises", "content", "[I", true)
  | 1 => ("KeptPromises", "sizes", "[I", true)
  | 2 => ("KeptPromises", "cells", "[[J", true)
  | 3 => ("KeptPromises", "refusals", "[I", true)
  | 4 => ("KeptPromises", "trail", "[I", true)
  | 5 => ("KeptPromises", "deal", "LKeptPromises$Deal;", true)
  | 6 => ("KeptPromises", "kept", "LKeptPromises$Deal;", true)
  | 7 => ("KeptPromises", "reader", "LKeptPromises$Reader;", true)
  | 8 => ("KeptPromises", "search", "LKeptPromises$Search;", true)
  | 9 => ("KeptPromises", "breaking", "LKeptPromises$Breaking;", true)
  | 10 => ("KeptPromises", "telling", "LKeptPromises$Telling;", true)
  | 11 => ("KeptPromises", "hasImage", "Z", false)
  | 12 => ("KeptPromises", "faultPlace", "I", false)
  | _ => ("KeptPromises", "bodies", "I", false)
def mty5 : Nat → FieldType := fun k => match k with
  | 0 => .array .int
  | 1 => .array .int
  | 2 => .array (.array .long)
  | 3 => .array .int
  | 4 => .array .int
  | 5 => .object "KeptPromises$Deal"
  | 6 => .object "KeptPromises$Deal"
  | 7 => .object "KeptPromises$Reader"
  | 8 => .object "KeptPromises$Search"
  | 9 => .object "KeptPromises$Breaking"
  | 10 => .object "KeptPromises$Telling"
  | 11 => .boolean
  | 12 => .int
  | _ => .int
theorem mn5 : ∀ a, a < 14 → ∀ b, b < 14 → a ≠ b → (mT5 a).2.1 ≠ (mT5 b).2.1 := by decide +kernel
theorem mtk5 : ∀ k, k < 14 → parseFieldDescriptor (mT5 k).2.2.1 = some (mty5 k) := by decide +kernel
theorem mi5 : ∀ w ∈ u_ws mr5 mT5 14, w ∈ tables_1 := by decide +kernel
def mr6 : String := "KeptPromisesModel"
def mT6 : u_T := fun k => match k with
  | 0 => ("KeptPromisesModel", "n", "I", false)
  | 1 => ("KeptPromisesModel", "now", "I", false)
  | 2 => ("KeptPromisesModel", "turned", "I", false)
  | 3 => ("KeptPromisesModel", "fault", "I", false)
  | 4 => ("KeptPromisesModel", "refused", "[I", true)
  | 5 => ("KeptPromisesModel", "hands", "[I", true)
  | 6 => ("KeptPromisesModel", "knownFrom", "[I", true)
  | 7 => ("KeptPromisesModel", "kind", "[I", true)
  | 8 => ("KeptPromisesModel", "from", "[I", true)
  | 9 => ("KeptPromisesModel", "to", "[I", true)
  | 10 => ("KeptPromisesModel", "thing", "[I", true)
  | 11 => ("KeptPromisesModel", "after", "[I", true)
  | 12 => ("KeptPromisesModel", "fork", "[I", true)
  | 13 => ("KeptPromisesModel", "way", "[I", true)
  | 14 => ("KeptPromisesModel", "owed", "[I", true)
  | 15 => ("KeptPromisesModel", "whom", "[I", true)
  | 16 => ("KeptPromisesModel", "length", "[I", true)
  | 17 => ("KeptPromisesModel", "span", "[I", true)
  | 18 => ("KeptPromisesModel", "left", "[I", true)
  | 19 => ("KeptPromisesModel", "gone", "[I", true)
  | 20 => ("KeptPromisesModel", "held", "[I", true)
  | 21 => ("KeptPromisesModel", "sort", "[I", true)
  | 22 => ("KeptPromisesModel", "size", "[I", true)
  | 23 => ("KeptPromisesModel", "shown", "[I", true)
  | 24 => ("KeptPromisesModel", "cells", "[J", true)
  | 25 => ("KeptPromisesModel", "carried", "[J", true)
  | 26 => ("KeptPromisesModel", "base", "I", false)
  | 27 => ("KeptPromisesModel", "at", "I", false)
  | 28 => ("KeptPromisesModel", "end", "I", false)
  | 29 => ("KeptPromisesModel", "number", "I", false)
  | 30 => ("KeptPromisesModel", "digitAt", "I", false)
  | 31 => ("KeptPromisesModel", "wrongAt", "I", false)
  | 32 => ("KeptPromisesModel", "stage", "I", false)
  | 33 => ("KeptPromisesModel", "tKind", "I", false)
  | 34 => ("KeptPromisesModel", "tFrom", "I", false)
  | 35 => ("KeptPromisesModel", "tTo", "I", false)
  | 36 => ("KeptPromisesModel", "tThing", "I", false)
  | 37 => ("KeptPromisesModel", "tAfter", "I", false)
  | 38 => ("KeptPromisesModel", "tFork", "I", false)
  | 39 => ("KeptPromisesModel", "tWay", "I", false)
  | 40 => ("KeptPromisesModel", "tOwed", "I", false)
  | 41 => ("KeptPromisesModel", "tWhom", "I", false)
  | 42 => ("KeptPromisesModel", "tLength", "I", false)
  | 43 => ("KeptPromisesModel", "tSpan", "I", false)
  | 44 => ("KeptPromisesModel", "power", "[I", true)
  | 45 => ("KeptPromisesModel", "figure", "[I", true)
  | 46 => ("KeptPromisesModel", "ringSet", "I", false)
  | 47 => ("KeptPromisesModel", "lostNow", "I", false)
  | 48 => ("KeptPromisesModel", "mark", "[I", true)
  | 49 => ("KeptPromisesModel", "markOf", "[I", true)
  | 50 => ("KeptPromisesModel", "worth", "[I", true)
  | 51 => ("KeptPromisesModel", "round", "I", false)
  | 52 => ("KeptPromisesModel", "marks", "I", false)
  | 53 => ("KeptPromisesModel", "theO", "I", false)
  | 54 => ("KeptPromisesModel", "theMeant", "I", false)
  | 55 => ("KeptPromisesModel", "isCounting", "Z", false)
  | 56 => ("KeptPromisesModel", "clash", "I", false)
  | 57 => ("KeptPromisesModel", "lostSet", "I", false)
  | 58 => ("KeptPromisesModel", "trace", "[I", true)
  | 59 => ("KeptPromisesModel", "ran", "I", false)
  | 60 => ("KeptPromisesModel", "iN", "I", false)
  | 61 => ("KeptPromisesModel", "iNow", "I", false)
  | 62 => ("KeptPromisesModel", "iTurned", "I", false)
  | _ => ("KeptPromisesModel", "kept", "[I", true)
def mty6 : Nat → FieldType := fun k => match k with
  | 0 => .int
  | 1 => .int
  | 2 => .int
  | 3 => .int
  | 4 => .array .int
  | 5 => .array .int
  | 6 => .array .int
  | 7 => .array .int
  | 8 => .array .int
  | 9 => .array .int
  | 10 => .array .int
  | 11 => .array .int
  | 12 => .array .int
  | 13 => .array .int
  | 14 => .array .int
  | 15 => .array .int
  | 16 => .array .int
  | 17 => .array .int
  | 18 => .array .int
  | 19 => .array .int
  | 20 => .array .int
  | 21 => .array .int
  | 22 => .array .int
  | 23 => .array .int
  | 24 => .array .long
  | 25 => .array .long
  | 26 => .int
  | 27 => .int
  | 28 => .int
  | 29 => .int
  | 30 => .int
  | 31 => .int
  | 32 => .int
  | 33 => .int
  | 34 => .int
  | 35 => .int
  | 36 => .int
  | 37 => .int
  | 38 => .int
  | 39 => .int
  | 40 => .int
  | 41 => .int
  | 42 => .int
  | 43 => .int
  | 44 => .array .int
  | 45 => .array .int
  | 46 => .int
  | 47 => .int
  | 48 => .array .int
  | 49 => .array .int
  | 50 => .array .int
  | 51 => .int
  | 52 => .int
  | 53 => .int
  | 54 => .int
  | 55 => .boolean
  | 56 => .int
  | 57 => .int
  | 58 => .array .int
  | 59 => .int
  | 60 => .int
  | 61 => .int
  | 62 => .int
  | _ => .array .int
theorem mn6 : ∀ a, a < 64 → ∀ b, b < 64 → a ≠ b → (mT6 a).2.1 ≠ (mT6 b).2.1 := by decide +kernel
theorem mtk6 : ∀ k, k < 64 → parseFieldDescriptor (mT6 k).2.2.1 = some (mty6 k) := by decide +kernel
theorem mi6 : ∀ w ∈ u_ws mr6 mT6 64, w ∈ tables_1 := by decide +kernel
abbrev mj_classes : List vw_C := [(mr0, mT0, 4), (mr1, mT1, 19), (mr2, mT2, 14), (mr3, mT3, 20), (mr4, mT4, 3), (mr5, mT5, 14), (mr6, mT6, 64)]
def mj_own : Nat → String := fun k => match k with
  | 0 => "KeptPromises$Breaking"
  | 1 => "KeptPromises$Deal"
  | 2 => "KeptPromises$Reader"
  | 3 => "KeptPromises$Search"
  | 4 => "KeptPromises$Telling"
  | 5 => "KeptPromises"
  | 6 => "KeptPromisesModel"
  | 7 => "KeptPromisesLaw"
  | 8 => "java/util/Arrays"
  | 9 => "java/lang/Integer"
  | 10 => "java/lang/Math"
  | 11 => "java/lang/String"
  | 12 => "java/lang/System"
  | _ => ""
/-- the links of the fields: whose pool, the entry, the class, the field, the word's place, the nest host -/
def mj_fldL : List (Nat × Nat × Nat × Nat × Nat × String) := [(1, 9, 1, 0, 35, ""), (5, 117, 1, 0, 36, "KeptPromises"), (3, 198, 1, 0, 37, "KeptPromises"), (1, 15, 1, 1, 38, ""), (5, 139, 1, 1, 39, "KeptPromises"), (1, 18, 1, 2, 40, ""), (3, 151, 1, 2, 41, "KeptPromises"), (0, 79, 1, 2, 42, "KeptPromises"), (5, 142, 1, 2, 43, "KeptPromises"), (1, 21, 1, 3, 44, ""), (3, 181, 1, 3, 45, "KeptPromises"), (5, 145, 1, 3, 46, "KeptPromises"), (1, 24, 1, 4, 47, ""), (0, 91, 1, 4, 48, "KeptPromises"), (3, 164, 1, 4, 49, "KeptPromises"), (5, 148, 1, 4, 50, "KeptPromises"), (1, 27, 1, 5, 51, ""), (3, 190, 1, 5, 52, "KeptPromises"), (5, 151, 1, 5, 53, "KeptPromises"), (1, 30, 1, 6, 54, ""), (5, 154, 1, 6, 55, "KeptPromises"), (1, 33, 1, 7, 56, ""), (0, 72, 1, 7, 57, "KeptPromises"), (5, 157, 1, 7, 58, "KeptPromises"), (1, 36, 1, 8, 59, ""), (5, 160, 1, 8, 60, "KeptPromises"), (1, 39, 1, 9, 61, ""), (4, 22, 1, 9, 62, "KeptPromises"), (3, 201, 1, 9, 63, "KeptPromises"), (5, 163, 1, 9, 64, "KeptPromises"), (1, 42, 1, 10, 65, ""), (3, 148, 1, 10, 66, "KeptPromises"), (0, 88, 1, 10, 67, "KeptPromises"), (5, 166, 1, 10, 68, "KeptPromises"), (1, 45, 1, 11, 69, ""), (1, 48, 1, 12, 70, ""), (5, 175, 1, 12, 71, "KeptPromises"), (3, 219, 1, 12, 72, "KeptPromises"), (1, 51, 1, 13, 73, ""), (5, 181, 1, 13, 74, "KeptPromises"), (3, 213, 1, 13, 75, "KeptPromises"), (1, 54, 1, 14, 76, ""), (0, 68, 1, 14, 77, "KeptPromises"), (3, 138, 1, 14, 78, "KeptPromises"), (5, 220, 1, 14, 79, "KeptPromises"), (1, 58, 1, 15, 80, ""), (5, 286, 1, 15, 81, "KeptPromises"), (1, 61, 1, 16, 82, ""), (3, 88, 1, 16, 83, "KeptPromises"), (0, 52, 1, 16, 84, "KeptPromises"), (5, 169, 1, 16, 85, "KeptPromises"), (1, 64, 1, 17, 86, ""), (3, 94, 1, 17, 87, "KeptPromises"), (0, 82, 1, 17, 88, "KeptPromises"), (5, 184, 1, 17, 89, "KeptPromises"), (1, 67, 1, 18, 90, ""), (3, 76, 1, 18, 91, "KeptPromises"), (5, 190, 1, 18, 92, "KeptPromises"), (2, 9, 2, 0, 140, ""), (2, 15, 2, 1, 141, ""), (2, 19, 2, 2, 142, ""), (2, 22, 2, 3, 143, ""), (2, 25, 2, 4, 144, ""), (1, 96, 2, 4, 145, "KeptPromises"), (5, 130, 2, 4, 146, "KeptPromises"), (2, 28, 2, 5, 147, ""), (1, 120, 2, 5, 148, "KeptPromises"), (2, 31, 2, 6, 149, ""), (1, 100, 2, 6, 150, "KeptPromises"), (5, 298, 2, 6, 151, "KeptPromises"), (2, 34, 2, 7, 152, ""), (1, 102, 2, 7, 153, "KeptPromises"), (2, 37, 2, 8, 154, ""), (1, 104, 2, 8, 155, "KeptPromises"), (2, 40, 2, 9, 156, ""), (1, 106, 2, 9, 157, "KeptPromises"), (2, 43, 2, 10, 158, ""), (1, 108, 2, 10, 159, "KeptPromises"), (2, 46, 2, 11, 160, ""), (1, 110, 2, 11, 161, "KeptPromises"), (2, 49, 2, 12, 162, ""), (1, 112, 2, 12, 163, "KeptPromises"), (2, 52, 2, 13, 164, ""), (1, 114, 2, 13, 165, "KeptPromises"), (3, 9, 3, 0, 201, ""), (3, 15, 3, 1, 202, ""), (3, 19, 3, 2, 203, ""), (3, 22, 3, 3, 204, ""), (3, 25, 3, 4, 205, ""), (3, 29, 3, 5, 206, ""), (3, 32, 3, 6, 207, ""), (3, 35, 3, 7, 208, ""), (3, 38, 3, 8, 209, ""), (3, 41, 3, 9, 210, ""), (3, 44, 3, 10, 211, ""), (3, 47, 3, 11, 212, ""), (3, 51, 3, 12, 213, ""), (3, 54, 3, 13, 214, ""), (3, 57, 3, 14, 215, ""), (3, 60, 3, 15, 216, ""), (3, 63, 3, 16, 217, ""), (3, 66, 3, 17, 218, ""), (3, 69, 3, 18, 219, ""), (3, 72, 3, 19, 220, ""), (0, 9, 0, 0, 268, ""), (0, 15, 0, 1, 269, ""), (0, 18, 0, 2, 270, ""), (0, 22, 0, 3, 271, ""), (4, 9, 4, 0, 288, ""), (4, 15, 4, 1, 289, ""), (5, 259, 4, 1, 290, "KeptPromises"), (4, 19, 4, 2, 291, ""), (5, 256, 4, 2, 292, "KeptPromises"), (5, 9, 5, 0, 301, ""), (5, 13, 5, 1, 302, ""), (5, 18, 5, 2, 303, ""), (5, 21, 5, 3, 304, ""), (5, 24, 5, 4, 305, ""), (5, 30, 5, 5, 306, ""), (5, 34, 5, 6, 307, ""), (5, 40, 5, 7, 308, ""), (5, 47, 5, 8, 309, ""), (5, 54, 5, 9, 310, ""), (5, 61, 5, 10, 311, ""), (5, 65, 5, 11, 312, ""), (5, 69, 5, 12, 313, ""), (5, 73, 5, 13, 314, ""), (6, 107, 6, 0, 1070, ""), (6, 218, 6, 1, 1071, ""), (6, 230, 6, 2, 1072, ""), (6, 9, 6, 3, 1073, ""), (6, 13, 6, 4, 1074, ""), (6, 17, 6, 5, 1075, ""), (6, 20, 6, 6, 1076, ""), (6, 23, 6, 7, 1077, ""), (6, 26, 6, 8, 1078, ""), (6, 29, 6, 9, 1079, ""), (6, 32, 6, 10, 1080, ""), (6, 35, 6, 11, 1081, ""), (6, 38, 6, 12, 1082, ""), (6, 41, 6, 13, 1083, ""), (6, 44, 6, 14, 1084, ""), (6, 47, 6, 15, 1085, ""), (6, 50, 6, 16, 1086, ""), (6, 53, 6, 17, 1087, ""), (6, 56, 6, 18, 1088, ""), (6, 59, 6, 19, 1089, ""), (6, 62, 6, 20, 1090, ""), (6, 65, 6, 21, 1091, ""), (6, 68, 6, 22, 1092, ""), (6, 71, 6, 23, 1093, ""), (6, 74, 6, 24, 1094, ""), (6, 78, 6, 25, 1095, ""), (6, 127, 6, 26, 1096, ""), (6, 121, 6, 27, 1097, ""), (6, 124, 6, 28, 1098, ""), (6, 147, 6, 29, 1099, ""), (6, 140, 6, 30, 1100, ""), (6, 130, 6, 31, 1101, ""), (6, 178, 6, 32, 1102, ""), (6, 150, 6, 33, 1103, ""), (6, 163, 6, 34, 1104, ""), (6, 166, 6, 35, 1105, ""), (6, 181, 6, 36, 1106, ""), (6, 187, 6, 37, 1107, ""), (6, 175, 6, 38, 1108, ""), (6, 190, 6, 39, 1109, ""), (6, 193, 6, 40, 1110, ""), (6, 196, 6, 41, 1111, ""), (6, 172, 6, 42, 1112, ""), (6, 169, 6, 43, 1113, ""), (6, 83, 6, 44, 1114, ""), (6, 86, 6, 45, 1115, ""), (6, 239, 6, 46, 1116, ""), (6, 266, 6, 47, 1117, ""), (6, 89, 6, 48, 1118, ""), (6, 92, 6, 49, 1119, ""), (6, 95, 6, 50, 1120, ""), (6, 269, 6, 51, 1121, ""), (6, 272, 6, 52, 1122, ""), (6, 289, 6, 53, 1123, ""), (6, 292, 6, 54, 1124, ""), (6, 337, 6, 55, 1125, ""), (6, 357, 6, 56, 1126, ""), (6, 360, 6, 57, 1127, ""), (6, 98, 6, 58, 1128, ""), (6, 366, 6, 59, 1129, ""), (6, 101, 6, 60, 1130, ""), (6, 386, 6, 61, 1131, ""), (6, 389, 6, 62, 1132, ""), (6, 104, 6, 63, 1133, "")]
/-- the methods: name, bytes, locals, type of the answer, number of arguments (with the receiver), 0 or the receiver's class + 1; places of its words: code, instance or static, selects, initialized; whose pool -/
theorem mj_t1 {w : Cond} (h : w ∈ tables_1_1) : w ∈ tables_1 := List.mem_append_left _ h
theorem mj_t2 {w : Cond} (h : w ∈ tables_1_2) : w ∈ tables_1 := List.mem_append_right _ (List.mem_append_left _ h)
theorem mj_t3 {w : Cond} (h : w ∈ tables_1_3) : w ∈ tables_1 := List.mem_append_right _ (List.mem_append_right _ (List.mem_append_left _ h))
theorem mj_t4 {w : Cond} (h : w ∈ tables_1_4) : w ∈ tables_1 := List.mem_append_right _ (List.mem_append_right _ (List.mem_append_right _ (List.mem_append_left _ h)))
theorem mj_t5 {w : Cond} (h : w ∈ tables_1_5) : w ∈ tables_1 := List.mem_append_right _ (List.mem_append_right _ (List.mem_append_right _ (List.mem_append_right _ (List.mem_append_left _ h))))
theorem mj_t6 {w : Cond} (h : w ∈ tables_1_6) : w ∈ tables_1 := List.mem_append_right _ (List.mem_append_right _ (List.mem_append_right _ (List.mem_append_right _ (List.mem_append_right _ (List.mem_append_left _ h)))))
theorem mj_t7 {w : Cond} (h : w ∈ tables_1_7) : w ∈ tables_1 := List.mem_append_right _ (List.mem_append_right _ (List.mem_append_right _ (List.mem_append_right _ (List.mem_append_right _ (List.mem_append_right _ (h))))))
def mj_mL0 : List (MethodName × ByteArray × Nat × Option FieldType × Nat × Nat × Nat × Nat × Nat × Nat × Nat) := [
  (⟨"java/util/Arrays", "fill", "([II)V"⟩, prog_15_method_103_code, 4, none, 2, 0, 34, 33, 0, 3, 8),
  (⟨"KeptPromises", "row", "(III)I"⟩, prog_1_method_2_code, 4, (some .int), 4, 6, 347, 345, 498, 1, 5),
  (⟨"KeptPromises", "isShelf", "(I)Z"⟩, prog_1_method_48_code, 1, (some .boolean), 1, 0, 350, 349, 0, 1, 5),
  (⟨"KeptPromises", "refuse", "(I)I"⟩, prog_1_method_43_code, 3, (some .int), 2, 6, 354, 353, 0, 1, 5),
  (⟨"java/util/Arrays", "fill", "([JJ)V"⟩, prog_15_method_101_code, 5, none, 2, 0, 357, 356, 0, 3, 8),
  (⟨"KeptPromises", "set", "(IIJ)I"⟩, prog_1_method_3_code, 6, (some .int), 4, 6, 361, 359, 512, 1, 5),
  (⟨"KeptPromises", "rowRefusal", "(I)I"⟩, prog_1_method_44_code, 2, (some .int), 2, 6, 365, 364, 1, 1, 5),
  (⟨"KeptPromises", "lowest", "(IJ)J"⟩, prog_1_method_54_code, 3, (some .long), 2, 0, 368, 367, 0, 1, 5),
  (⟨"KeptPromises", "copy", "(IIIII)I"⟩, prog_1_method_4_code, 7, (some .int), 6, 6, 372, 370, 523, 1, 5),
  (⟨"KeptPromises", "copyRefusal", "(II)I"⟩, prog_1_method_45_code, 5, (some .int), 3, 6, 376, 375, 2, 1, 5),
  (⟨"KeptPromises", "isPart", "(III)Z"⟩, prog_1_method_53_code, 4, (some .boolean), 4, 6, 380, 379, 3, 1, 5),
  (⟨"KeptPromises", "element", "(II)J"⟩, prog_1_method_5_code, 3, (some .long), 3, 6, 387, 385, 538, 1, 5),
  (⟨"KeptPromises", "put", "(II)I"⟩, prog_1_method_6_code, 3, (some .int), 3, 6, 391, 389, 542, 1, 5),
  (⟨"KeptPromises$Deal", "has", "(I)Z"⟩, prog_3_method_8_code, 2, (some .boolean), 2, 2, 395, 394, 4, 2, 1),
  (⟨"KeptPromises", "holds", "(I)I"⟩, prog_1_method_7_code, 2, (some .int), 2, 6, 399, 397, 550, 1, 5),
  (⟨"KeptPromises", "says", "(II)I"⟩, prog_1_method_8_code, 4, (some .int), 3, 6, 403, 401, 554, 1, 5),
  (⟨"KeptPromises", "isUnder", "(II)Z"⟩, prog_1_method_56_code, 2, (some .boolean), 2, 0, 406, 405, 0, 1, 5),
  (⟨"KeptPromises", "kindAbove", "(I)I"⟩, prog_1_method_55_code, 1, (some .int), 1, 0, 409, 408, 0, 1, 5),
  (⟨"KeptPromises", "sayingAs", "(II)I"⟩, prog_1_method_57_code, 3, (some .int), 3, 6, 413, 412, 5, 1, 5),
  (⟨"KeptPromises", "promise", "(I)I"⟩, prog_1_method_9_code, 3, (some .int), 2, 6, 417, 415, 568, 1, 5),
  (⟨"KeptPromises", "readingRefusal", "(I)I"⟩, prog_1_method_46_code, 3, (some .int), 2, 6, 421, 420, 6, 1, 5),
  (⟨"KeptPromises$Reader", "readPromise", "(LKeptPromises$Deal;[JI)I"⟩, prog_4_method_2_code, 4, (some .int), 4, 3, 425, 424, 7, 4, 2),
  (⟨"KeptPromises$Reader", "readHead", "()Z"⟩, prog_4_method_10_code, 1, (some .boolean), 1, 3, 432, 431, 8, 4, 2),
  (⟨"KeptPromises$Reader", "letterAt", "(I)I"⟩, prog_4_method_6_code, 2, (some .int), 2, 3, 436, 435, 9, 4, 2),
  (⟨"KeptPromises$Reader", "readHeadAs", "(ILjava/lang/String;II)Z"⟩, prog_4_method_11_code, 5, (some .boolean), 5, 3, 441, 440, 10, 4, 2),
  (⟨"KeptPromises$Reader", "reads", "(Ljava/lang/String;)Z"⟩, prog_4_method_7_code, 3, (some .boolean), 2, 3, 445, 444, 11, 4, 2),
  (⟨"KeptPromises$Reader", "isBadAt", "(I)Z"⟩, prog_4_method_5_code, 2, (some .boolean), 2, 3, 497, 496, 12, 4, 2),
  (⟨"KeptPromises$Reader", "numberOf", "(III)I"⟩, prog_4_method_9_code, 7, (some .int), 4, 3, 501, 500, 13, 4, 2),
  (⟨"KeptPromises$Reader", "isDigitHere", "()Z"⟩, prog_4_method_8_code, 1, (some .boolean), 1, 3, 505, 504, 14, 4, 2),
  (⟨"KeptPromises$Reader", "readHours", "()Z"⟩, prog_4_method_12_code, 2, (some .boolean), 1, 3, 514, 513, 15, 4, 2),
  (⟨"KeptPromises$Reader", "hasLengthTill", "(I)Z"⟩, prog_4_method_13_code, 2, (some .boolean), 2, 3, 520, 519, 16, 4, 2),
  (⟨"KeptPromises$Reader", "spansTill", "(I)I"⟩, prog_4_method_4_code, 2, (some .int), 2, 3, 524, 523, 17, 4, 2)]
set_option maxRecDepth 100000 in
theorem mj_mcode0 : ∀ e ∈ mj_mL0, Cond.code e.1 e.2.1 e.2.2.1 e.2.2.2.1 ∈ tables_1 := List.forall_mem_cons.mpr ⟨mj_t1 (List.mem_of_getElem? (i := 34) rfl), List.forall_mem_cons.mpr ⟨mj_t2 (List.mem_of_getElem? (i := 107) rfl), List.forall_mem_cons.mpr ⟨mj_t2 (List.mem_of_getElem? (i := 110) rfl), List.forall_mem_cons.mpr ⟨mj_t2 (List.mem_of_getElem? (i := 114) rfl), List.forall_mem_cons.mpr ⟨mj_t2 (List.mem_of_getElem? (i := 117) rfl), List.forall_mem_cons.mpr ⟨mj_t2 (List.mem_of_getElem? (i := 121) rfl), List.forall_mem_cons.mpr ⟨mj_t2 (List.mem_of_getElem? (i := 125) rfl), List.forall_mem_cons.mpr ⟨mj_t2 (List.mem_of_getElem? (i := 128) rfl), List.forall_mem_cons.mpr ⟨mj_t2 (List.mem_of_getElem? (i := 132) rfl), List.forall_mem_cons.mpr ⟨mj_t2 (List.mem_of_getElem? (i := 136) rfl), List.forall_mem_cons.mpr ⟨mj_t2 (List.mem_of_getElem? (i := 140) rfl), List.forall_mem_cons.mpr ⟨mj_t2 (List.mem_of_getElem? (i := 147) rfl), List.forall_mem_cons.mpr ⟨mj_t2 (List.mem_of_getElem? (i := 151) rfl), List.forall_mem_cons.mpr ⟨mj_t2 (List.mem_of_getElem? (i := 155) rfl), List.forall_mem_cons.mpr ⟨mj_t2 (List.mem_of_getElem? (i := 159) rfl), List.forall_mem_cons.mpr ⟨mj_t2 (List.mem_of_getElem? (i := 163) rfl), List.forall_mem_cons.mpr ⟨mj_t2 (List.mem_of_getElem? (i := 166) rfl), List.forall_mem_cons.mpr ⟨mj_t2 (List.mem_of_getElem? (i := 169) rfl), List.forall_mem_cons.mpr ⟨mj_t2 (List.mem_of_getElem? (i := 173) rfl), List.forall_mem_cons.mpr ⟨mj_t2 (List.mem_of_getElem? (i := 177) rfl), List.forall_mem_cons.mpr ⟨mj_t2 (List.mem_of_getElem? (i := 181) rfl), List.forall_mem_cons.mpr ⟨mj_t2 (List.mem_of_getElem? (i := 185) rfl), List.forall_mem_cons.mpr ⟨mj_t2 (List.mem_of_getElem? (i := 192) rfl), List.forall_mem_cons.mpr ⟨mj_t2 (List.mem_of_getElem? (i := 196) rfl), List.forall_mem_cons.mpr ⟨mj_t2 (List.mem_of_getElem? (i := 201) rfl), List.forall_mem_cons.mpr ⟨mj_t2 (List.mem_of_getElem? (i := 205) rfl), List.forall_mem_cons.mpr ⟨mj_t3 (List.mem_of_getElem? (i := 17) rfl), List.forall_mem_cons.mpr ⟨mj_t3 (List.mem_of_getElem? (i := 21) rfl), List.forall_mem_cons.mpr ⟨mj_t3 (List.mem_of_getElem? (i := 25) rfl), List.forall_mem_cons.mpr ⟨mj_t3 (List.mem_of_getElem? (i := 34) rfl), List.forall_mem_cons.mpr ⟨mj_t3 (List.mem_of_getElem? (i := 40) rfl), List.forall_mem_cons.mpr ⟨mj_t3 (List.mem_of_getElem? (i := 44) rfl), fun _ h => absurd h List.not_mem_nil⟩⟩⟩⟩⟩⟩⟩⟩⟩⟩⟩⟩⟩⟩⟩⟩⟩⟩⟩⟩⟩⟩⟩⟩⟩⟩⟩⟩⟩⟩⟩⟩
def mj_mL1 : List (MethodName × ByteArray × Nat × Option FieldType × Nat × Nat × Nat × Nat × Nat × Nat × Nat) := [
  (⟨"KeptPromises$Reader", "readExtras", "(LKeptPromises$Deal;)V"⟩, prog_4_method_14_code, 5, none, 2, 3, 528, 527, 18, 4, 2),
  (⟨"KeptPromises$Reader", "extraAt", "(I)I"⟩, prog_4_method_15_code, 2, (some .int), 2, 3, 533, 532, 19, 4, 2),
  (⟨"KeptPromises$Reader", "mayFollow", "(II)Z"⟩, prog_4_method_16_code, 3, (some .boolean), 3, 3, 537, 536, 20, 4, 2),
  (⟨"KeptPromises$Reader", "readExtra", "(LKeptPromises$Deal;I)V"⟩, prog_4_method_17_code, 3, none, 3, 3, 541, 540, 21, 4, 2),
  (⟨"KeptPromises$Reader", "readAfter", "(LKeptPromises$Deal;)V"⟩, prog_4_method_18_code, 3, none, 2, 3, 546, 545, 22, 4, 2),
  (⟨"KeptPromises$Deal", "isWork", "(I)Z"⟩, prog_3_method_9_code, 2, (some .boolean), 2, 2, 551, 550, 23, 2, 1),
  (⟨"KeptPromises$Deal", "isWorkKind", "(I)Z"⟩, prog_3_method_7_code, 1, (some .boolean), 1, 0, 555, 554, 0, 2, 1),
  (⟨"KeptPromises$Deal", "hasRoomFor", "(I)Z"⟩, prog_3_method_4_code, 2, (some .boolean), 2, 2, 563, 562, 24, 2, 1),
  (⟨"KeptPromises$Deal", "add", "(LKeptPromises$Reader;)I"⟩, prog_3_method_5_code, 3, (some .int), 2, 2, 567, 566, 25, 2, 1),
  (⟨"KeptPromises$Reader", "lengthOf", "()I"⟩, prog_4_method_3_code, 1, (some .int), 1, 3, 571, 570, 26, 4, 2),
  (⟨"KeptPromises", "fault", "()I"⟩, prog_1_method_10_code, 1, (some .int), 1, 6, 576, 574, 727, 1, 5),
  (⟨"KeptPromises", "promiseOf", "(II)I"⟩, prog_1_method_11_code, 3, (some .int), 3, 6, 580, 578, 731, 1, 5),
  (⟨"KeptPromises", "hands", "(II)I"⟩, prog_1_method_12_code, 4, (some .int), 3, 6, 584, 582, 735, 1, 5),
  (⟨"KeptPromises", "isHour", "(I)Z"⟩, prog_1_method_49_code, 1, (some .boolean), 1, 0, 587, 586, 0, 1, 5),
  (⟨"KeptPromises", "known", "(II)I"⟩, prog_1_method_13_code, 4, (some .int), 3, 6, 591, 589, 742, 1, 5),
  (⟨"KeptPromises", "isFork", "(I)Z"⟩, prog_1_method_50_code, 1, (some .boolean), 1, 0, 594, 593, 0, 1, 5),
  (⟨"KeptPromises", "turn", "(II)I"⟩, prog_1_method_14_code, 4, (some .int), 3, 6, 598, 596, 749, 1, 5),
  (⟨"KeptPromises$Deal", "hasBegunBy", "(I)Z"⟩, prog_3_method_19_code, 3, (some .boolean), 2, 2, 602, 601, 27, 2, 1),
  (⟨"KeptPromises", "swap", "(II)I"⟩, prog_1_method_15_code, 4, (some .int), 3, 6, 606, 604, 757, 1, 5),
  (⟨"KeptPromises", "can", "(I)I"⟩, prog_1_method_16_code, 2, (some .int), 2, 6, 611, 609, 762, 1, 5),
  (⟨"KeptPromises", "isOutcome", "(I)Z"⟩, prog_1_method_51_code, 1, (some .boolean), 1, 0, 614, 613, 0, 1, 5),
  (⟨"KeptPromises$Deal", "everyone", "()I"⟩, prog_3_method_10_code, 1, (some .int), 1, 2, 618, 617, 28, 2, 1),
  (⟨"KeptPromises", "isKept", "(II)Z"⟩, prog_1_method_63_code, 3, (some .boolean), 3, 6, 622, 621, 29, 1, 5),
  (⟨"KeptPromises$Search", "prepare", "(LKeptPromises$Deal;III)V"⟩, prog_5_method_2_code, 8, none, 5, 4, 626, 625, 30, 5, 3),
  (⟨"KeptPromises$Deal", "toldForks", "()I"⟩, prog_3_method_17_code, 3, (some .int), 1, 2, 630, 629, 31, 2, 1),
  (⟨"KeptPromises$Deal", "forksInUse", "()I"⟩, prog_3_method_18_code, 3, (some .int), 1, 2, 634, 633, 32, 2, 1),
  (⟨"KeptPromises$Search", "findPlaces", "()V"⟩, prog_5_method_4_code, 2, none, 1, 4, 638, 637, 33, 5, 3),
  (⟨"KeptPromises$Search", "isMeant", "(I)Z"⟩, prog_5_method_5_code, 2, (some .boolean), 2, 4, 642, 641, 34, 5, 3),
  (⟨"KeptPromises$Search", "standing", "(III)I"⟩, prog_5_method_6_code, 5, (some .int), 4, 4, 647, 646, 35, 5, 3),
  (⟨"KeptPromises$Deal", "isKnownIn", "(II)Z"⟩, prog_3_method_13_code, 3, (some .boolean), 3, 2, 651, 650, 36, 2, 1),
  (⟨"KeptPromises$Deal", "isAsked", "(II)Z"⟩, prog_3_method_12_code, 3, (some .boolean), 3, 2, 655, 654, 37, 2, 1),
  (⟨"KeptPromises$Deal", "ringOnes", "()I"⟩, prog_3_method_21_code, 3, (some .int), 1, 2, 659, 658, 38, 2, 1)]
set_option maxRecDepth 100000 in
theorem mj_mcode1 : ∀ e ∈ mj_mL1, Cond.code e.1 e.2.1 e.2.2.1 e.2.2.2.1 ∈ tables_1 := List.forall_mem_cons.mpr ⟨mj_t3 (List.mem_of_getElem? (i := 48) rfl), List.forall_mem_cons.mpr ⟨mj_t3 (List.mem_of_getElem? (i := 53) rfl), List.forall_mem_cons.mpr ⟨mj_t3 (List.mem_of_getElem? (i := 57) rfl), List.forall_mem_cons.mpr ⟨mj_t3 (List.mem_of_getElem? (i := 61) rfl), List.forall_mem_cons.mpr ⟨mj_t3 (List.mem_of_getElem? (i := 66) rfl), List.forall_mem_cons.mpr ⟨mj_t3 (List.mem_of_getElem? (i := 71) rfl), List.forall_mem_cons.mpr ⟨mj_t3 (List.mem_of_getElem? (i := 75) rfl), List.forall_mem_cons.mpr ⟨mj_t3 (List.mem_of_getElem? (i := 83) rfl), List.forall_mem_cons.mpr ⟨mj_t3 (List.mem_of_getElem? (i := 87) rfl), List.forall_mem_cons.mpr ⟨mj_t3 (List.mem_of_getElem? (i := 91) rfl), List.forall_mem_cons.mpr ⟨mj_t3 (List.mem_of_getElem? (i := 96) rfl), List.forall_mem_cons.mpr ⟨mj_t3 (List.mem_of_getElem? (i := 100) rfl), List.forall_mem_cons.mpr ⟨mj_t3 (List.mem_of_getElem? (i := 104) rfl), List.forall_mem_cons.mpr ⟨mj_t3 (List.mem_of_getElem? (i := 107) rfl), List.forall_mem_cons.mpr ⟨mj_t3 (List.mem_of_getElem? (i := 111) rfl), List.forall_mem_cons.mpr ⟨mj_t3 (List.mem_of_getElem? (i := 114) rfl), List.forall_mem_cons.mpr ⟨mj_t3 (List.mem_of_getElem? (i := 118) rfl), List.forall_mem_cons.mpr ⟨mj_t3 (List.mem_of_getElem? (i := 122) rfl), List.forall_mem_cons.mpr ⟨mj_t3 (List.mem_of_getElem? (i := 126) rfl), List.forall_mem_cons.mpr ⟨mj_t3 (List.mem_of_getElem? (i := 131) rfl), List.forall_mem_cons.mpr ⟨mj_t3 (List.mem_of_getElem? (i := 134) rfl), List.forall_mem_cons.mpr ⟨mj_t3 (List.mem_of_getElem? (i := 138) rfl), List.forall_mem_cons.mpr ⟨mj_t3 (List.mem_of_getElem? (i := 142) rfl), List.forall_mem_cons.mpr ⟨mj_t3 (List.mem_of_getElem? (i := 146) rfl), List.forall_mem_cons.mpr ⟨mj_t3 (List.mem_of_getElem? (i := 150) rfl), List.forall_mem_cons.mpr ⟨mj_t3 (List.mem_of_getElem? (i := 154) rfl), List.forall_mem_cons.mpr ⟨mj_t3 (List.mem_of_getElem? (i := 158) rfl), List.forall_mem_cons.mpr ⟨mj_t3 (List.mem_of_getElem? (i := 162) rfl), List.forall_mem_cons.mpr ⟨mj_t3 (List.mem_of_getElem? (i := 167) rfl), List.forall_mem_cons.mpr ⟨mj_t3 (List.mem_of_getElem? (i := 171) rfl), List.forall_mem_cons.mpr ⟨mj_t3 (List.mem_of_getElem? (i := 175) rfl), List.forall_mem_cons.mpr ⟨mj_t3 (List.mem_of_getElem? (i := 179) rfl), fun _ h => absurd h List.not_mem_nil⟩⟩⟩⟩⟩⟩⟩⟩⟩⟩⟩⟩⟩⟩⟩⟩⟩⟩⟩⟩⟩⟩⟩⟩⟩⟩⟩⟩⟩⟩⟩⟩
def mj_mL2 : List (MethodName × ByteArray × Nat × Option FieldType × Nat × Nat × Nat × Nat × Nat × Nat × Nat) := [
  (⟨"KeptPromises$Deal", "chainOf", "(I)I"⟩, prog_3_method_20_code, 5, (some .int), 2, 2, 664, 663, 39, 2, 1),
  (⟨"KeptPromises$Search", "findAfters", "(I)V"⟩, prog_5_method_8_code, 5, none, 2, 4, 668, 667, 40, 5, 3),
  (⟨"KeptPromises$Search", "placeOf", "(I)I"⟩, prog_5_method_7_code, 3, (some .int), 2, 4, 673, 672, 41, 5, 3),
  (⟨"KeptPromises$Search", "findSameThings", "()V"⟩, prog_5_method_9_code, 5, none, 1, 4, 677, 676, 42, 5, 3),
  (⟨"java/lang/Integer", "bitCount", "(I)I"⟩, prog_9_method_49_code, 1, (some .int), 1, 0, 682, 681, 0, 15, 9),
  (⟨"java/lang/Integer", "numberOfTrailingZeros", "(I)I"⟩, prog_9_method_48_code, 2, (some .int), 1, 0, 688, 687, 0, 15, 9),
  (⟨"java/lang/Integer", "numberOfLeadingZeros", "(I)I"⟩, prog_9_method_47_code, 2, (some .int), 1, 0, 692, 691, 0, 15, 9),
  (⟨"KeptPromises$Search", "findDeadlines", "()V"⟩, prog_5_method_10_code, 6, none, 1, 4, 696, 695, 43, 5, 3),
  (⟨"KeptPromises$Search", "fillLefts", "(I)V"⟩, prog_5_method_11_code, 7, none, 2, 4, 701, 700, 44, 5, 3),
  (⟨"KeptPromises$Deal", "spanAt", "(II)I"⟩, prog_3_method_15_code, 3, (some .int), 3, 2, 705, 704, 45, 2, 1),
  (⟨"KeptPromises$Deal", "endsSpan", "(II)Z"⟩, prog_3_method_16_code, 3, (some .boolean), 3, 2, 709, 708, 46, 2, 1),
  (⟨"KeptPromises$Deal", "covers", "(II)Z"⟩, prog_3_method_14_code, 3, (some .boolean), 3, 2, 713, 712, 47, 2, 1),
  (⟨"KeptPromises$Search", "freshForks", "(I)I"⟩, prog_5_method_14_code, 4, (some .int), 2, 4, 718, 717, 48, 5, 3),
  (⟨"KeptPromises$Search", "closedPlaces", "(II)I"⟩, prog_5_method_13_code, 6, (some .int), 3, 4, 722, 721, 49, 5, 3),
  (⟨"KeptPromises$Search", "standingsIn", "(III)I"⟩, prog_5_method_12_code, 9, (some .int), 4, 4, 727, 726, 50, 5, 3),
  (⟨"KeptPromises$Search", "makeReady", "()V"⟩, prog_5_method_3_code, 1, none, 1, 4, 731, 730, 51, 5, 3),
  (⟨"KeptPromises$Search", "countRoom", "()V"⟩, prog_5_method_15_code, 4, none, 1, 4, 735, 734, 52, 5, 3),
  (⟨"KeptPromises$Search", "lacksHours", "()Z"⟩, prog_5_method_16_code, 4, (some .boolean), 1, 4, 742, 741, 53, 5, 3),
  (⟨"KeptPromises$Search", "clearMarks", "()V"⟩, prog_5_method_18_code, 2, none, 1, 4, 746, 745, 54, 5, 3),
  (⟨"KeptPromises$Search", "halfOfMarks", "()I"⟩, prog_5_method_17_code, 1, (some .int), 1, 4, 750, 749, 55, 5, 3),
  (⟨"java/util/Arrays", "fill", "([JIIJ)V"⟩, prog_15_method_102_code, 6, none, 4, 0, 753, 752, 0, 3, 8),
  (⟨"java/util/Arrays", "rangeCheck", "(III)V"⟩, prog_15_method_30_code, 3, none, 3, 0, 756, 755, 0, 3, 8),
  (⟨"KeptPromises$Search", "succeeds", "()Z"⟩, prog_5_method_20_code, 1, (some .boolean), 1, 4, 760, 759, 56, 5, 3),
  (⟨"KeptPromises$Search", "wins", "(III)Z"⟩, prog_5_method_21_code, 11, (some .boolean), 4, 4, 764, 763, 57, 5, 3),
  (⟨"KeptPromises$Search", "movesIn", "(III)I"⟩, prog_5_method_26_code, 11, (some .int), 4, 4, 768, 767, 58, 5, 3),
  (⟨"KeptPromises$Search", "hasRoom", "(III)Z"⟩, prog_5_method_27_code, 12, (some .boolean), 4, 4, 772, 771, 59, 5, 3),
  (⟨"KeptPromises$Search", "isReady", "(IIII)Z"⟩, prog_5_method_28_code, 7, (some .boolean), 5, 4, 776, 775, 60, 5, 3),
  (⟨"KeptPromises$Search", "isUnderWay", "(II)Z"⟩, prog_5_method_29_code, 4, (some .boolean), 3, 4, 780, 779, 61, 5, 3),
  (⟨"KeptPromises$Search", "winsBy", "(IIII)Z"⟩, prog_5_method_22_code, 6, (some .boolean), 5, 4, 784, 783, 62, 5, 3),
  (⟨"KeptPromises$Search", "isMove", "(III)Z"⟩, prog_5_method_24_code, 6, (some .boolean), 4, 4, 788, 787, 63, 5, 3),
  (⟨"KeptPromises$Search", "follows", "(III)Z"⟩, prog_5_method_25_code, 6, (some .boolean), 4, 4, 794, 793, 64, 5, 3),
  (⟨"KeptPromises", "hour", "(II)I"⟩, prog_1_method_17_code, 4, (some .int), 3, 6, 798, 796, 949, 1, 5)]
set_option maxRecDepth 100000 in
theorem mj_mcode2 : ∀ e ∈ mj_mL2, Cond.code e.1 e.2.1 e.2.2.1 e.2.2.2.1 ∈ tables_1 := List.forall_mem_cons.mpr ⟨mj_t3 (List.mem_of_getElem? (i := 184) rfl), List.forall_mem_cons.mpr ⟨mj_t3 (List.mem_of_getElem? (i := 188) rfl), List.forall_mem_cons.mpr ⟨mj_t3 (List.mem_of_getElem? (i := 193) rfl), List.forall_mem_cons.mpr ⟨mj_t3 (List.mem_of_getElem? (i := 197) rfl), List.forall_mem_cons.mpr ⟨mj_t3 (List.mem_of_getElem? (i := 202) rfl), List.forall_mem_cons.mpr ⟨mj_t3 (List.mem_of_getElem? (i := 208) rfl), List.forall_mem_cons.mpr ⟨mj_t3 (List.mem_of_getElem? (i := 212) rfl), List.forall_mem_cons.mpr ⟨mj_t3 (List.mem_of_getElem? (i := 216) rfl), List.forall_mem_cons.mpr ⟨mj_t3 (List.mem_of_getElem? (i := 221) rfl), List.forall_mem_cons.mpr ⟨mj_t3 (List.mem_of_getElem? (i := 225) rfl), List.forall_mem_cons.mpr ⟨mj_t3 (List.mem_of_getElem? (i := 229) rfl), List.forall_mem_cons.mpr ⟨mj_t3 (List.mem_of_getElem? (i := 233) rfl), List.forall_mem_cons.mpr ⟨mj_t3 (List.mem_of_getElem? (i := 238) rfl), List.forall_mem_cons.mpr ⟨mj_t4 (List.mem_of_getElem? (i := 2) rfl), List.forall_mem_cons.mpr ⟨mj_t4 (List.mem_of_getElem? (i := 7) rfl), List.forall_mem_cons.mpr ⟨mj_t4 (List.mem_of_getElem? (i := 11) rfl), List.forall_mem_cons.mpr ⟨mj_t4 (List.mem_of_getElem? (i := 15) rfl), List.forall_mem_cons.mpr ⟨mj_t4 (List.mem_of_getElem? (i := 22) rfl), List.forall_mem_cons.mpr ⟨mj_t4 (List.mem_of_getElem? (i := 26) rfl), List.forall_mem_cons.mpr ⟨mj_t4 (List.mem_of_getElem? (i := 30) rfl), List.forall_mem_cons.mpr ⟨mj_t4 (List.mem_of_getElem? (i := 33) rfl), List.forall_mem_cons.mpr ⟨mj_t4 (List.mem_of_getElem? (i := 36) rfl), List.forall_mem_cons.mpr ⟨mj_t4 (List.mem_of_getElem? (i := 40) rfl), List.forall_mem_cons.mpr ⟨mj_t4 (List.mem_of_getElem? (i := 44) rfl), List.forall_mem_cons.mpr ⟨mj_t4 (List.mem_of_getElem? (i := 48) rfl), List.forall_mem_cons.mpr ⟨mj_t4 (List.mem_of_getElem? (i := 52) rfl), List.forall_mem_cons.mpr ⟨mj_t4 (List.mem_of_getElem? (i := 56) rfl), List.forall_mem_cons.mpr ⟨mj_t4 (List.mem_of_getElem? (i := 60) rfl), List.forall_mem_cons.mpr ⟨mj_t4 (List.mem_of_getElem? (i := 64) rfl), List.forall_mem_cons.mpr ⟨mj_t4 (List.mem_of_getElem? (i := 68) rfl), List.forall_mem_cons.mpr ⟨mj_t4 (List.mem_of_getElem? (i := 74) rfl), List.forall_mem_cons.mpr ⟨mj_t4 (List.mem_of_getElem? (i := 78) rfl), fun _ h => absurd h List.not_mem_nil⟩⟩⟩⟩⟩⟩⟩⟩⟩⟩⟩⟩⟩⟩⟩⟩⟩⟩⟩⟩⟩⟩⟩⟩⟩⟩⟩⟩⟩⟩⟩⟩
def mj_mL3 : List (MethodName × ByteArray × Nat × Option FieldType × Nat × Nat × Nat × Nat × Nat × Nat × Nat) := [
  (⟨"KeptPromises$Search", "firstSetOf", "(I)I"⟩, prog_5_method_31_code, 5, (some .int), 2, 4, 802, 801, 65, 5, 3),
  (⟨"KeptPromises$Search", "nextChoice", "(IIII)I"⟩, prog_5_method_23_code, 7, (some .int), 5, 4, 807, 806, 66, 5, 3),
  (⟨"KeptPromises$Search", "promisesOf", "(I)I"⟩, prog_5_method_30_code, 4, (some .int), 2, 4, 811, 810, 67, 5, 3),
  (⟨"KeptPromises", "all", "()I"⟩, prog_1_method_18_code, 1, (some .int), 1, 6, 815, 813, 966, 1, 5),
  (⟨"KeptPromises", "bearsAll", "()Z"⟩, prog_1_method_65_code, 3, (some .boolean), 1, 6, 819, 818, 68, 1, 5),
  (⟨"KeptPromises", "begin", "()I"⟩, prog_1_method_19_code, 2, (some .int), 1, 6, 825, 823, 976, 1, 5),
  (⟨"KeptPromises", "trap", "()I"⟩, prog_1_method_20_code, 3, (some .int), 1, 6, 829, 827, 980, 1, 5),
  (⟨"KeptPromises", "quarrel", "(I)I"⟩, prog_1_method_21_code, 5, (some .int), 2, 6, 833, 831, 984, 1, 5),
  (⟨"KeptPromises", "dear", "(I)I"⟩, prog_1_method_22_code, 2, (some .int), 2, 6, 837, 835, 988, 1, 5),
  (⟨"KeptPromises$Breaking", "least", "(LKeptPromises$Deal;LKeptPromises$Search;IZ)I"⟩, prog_2_method_2_code, 10, (some .int), 5, 1, 841, 840, 69, 6, 0),
  (⟨"KeptPromises$Breaking", "findThoseToBreak", "(LKeptPromises$Deal;IZ)I"⟩, prog_2_method_4_code, 7, (some .int), 4, 1, 845, 844, 70, 6, 0),
  (⟨"KeptPromises$Deal", "isLost", "(I)Z"⟩, prog_3_method_11_code, 2, (some .boolean), 2, 2, 850, 849, 71, 2, 1),
  (⟨"KeptPromises$Breaking", "isWholeChoice", "(LKeptPromises$Deal;I)Z"⟩, prog_2_method_8_code, 6, (some .boolean), 3, 1, 855, 854, 72, 6, 0),
  (⟨"KeptPromises$Breaking", "promisesOf", "(I)I"⟩, prog_2_method_6_code, 4, (some .int), 2, 1, 859, 858, 73, 6, 0),
  (⟨"KeptPromises$Breaking", "suffices", "(LKeptPromises$Deal;LKeptPromises$Search;II)Z"⟩, prog_2_method_3_code, 6, (some .boolean), 5, 1, 863, 862, 74, 6, 0),
  (⟨"KeptPromises$Breaking", "priceOf", "(I)I"⟩, prog_2_method_5_code, 4, (some .int), 2, 1, 870, 869, 75, 6, 0),
  (⟨"KeptPromises$Breaking", "isInFailing", "(II)Z"⟩, prog_2_method_7_code, 4, (some .boolean), 3, 1, 874, 873, 76, 6, 0),
  (⟨"KeptPromises", "fewest", "(I)I"⟩, prog_1_method_23_code, 2, (some .int), 2, 6, 878, 876, 1029, 1, 5),
  (⟨"KeptPromises", "ends", "(II)I"⟩, prog_1_method_24_code, 6, (some .int), 3, 6, 882, 880, 1033, 1, 5),
  (⟨"KeptPromises", "canBegin", "(III)Z"⟩, prog_1_method_64_code, 4, (some .boolean), 4, 6, 886, 885, 77, 1, 5),
  (⟨"KeptPromises$Search", "pin", "(II)Z"⟩, prog_5_method_19_code, 5, (some .boolean), 3, 4, 891, 890, 78, 5, 3),
  (⟨"KeptPromises", "must", "(I)I"⟩, prog_1_method_25_code, 3, (some .int), 2, 6, 895, 893, 1046, 1, 5),
  (⟨"KeptPromises$Search", "commonSetNow", "()I"⟩, prog_5_method_32_code, 4, (some .int), 1, 4, 899, 898, 79, 5, 3),
  (⟨"KeptPromises", "spare", "(I)I"⟩, prog_1_method_26_code, 4, (some .int), 2, 6, 903, 901, 1054, 1, 5),
  (⟨"KeptPromises", "doomed", "(II)I"⟩, prog_1_method_27_code, 3, (some .int), 3, 6, 909, 907, 1060, 1, 5),
  (⟨"KeptPromises", "give", "(I)I"⟩, prog_1_method_28_code, 4, (some .int), 2, 6, 914, 912, 1065, 1, 5),
  (⟨"KeptPromises$Deal", "dropLast", "()V"⟩, prog_3_method_6_code, 1, none, 1, 2, 918, 917, 80, 2, 1),
  (⟨"KeptPromises", "many", "(I)I"⟩, prog_1_method_29_code, 6, (some .int), 2, 6, 922, 920, 1073, 1, 5),
  (⟨"KeptPromises", "ring", "()I"⟩, prog_1_method_30_code, 1, (some .int), 1, 6, 926, 924, 1077, 1, 5),
  (⟨"KeptPromises", "opening", "()I"⟩, prog_1_method_31_code, 4, (some .int), 1, 6, 931, 929, 1082, 1, 5),
  (⟨"KeptPromises", "judge", "(II)I"⟩, prog_1_method_32_code, 4, (some .int), 3, 6, 935, 933, 1086, 1, 5),
  (⟨"KeptPromises", "handRefusal", "(III)I"⟩, prog_1_method_47_code, 5, (some .int), 4, 6, 939, 938, 81, 1, 5)]
set_option maxRecDepth 100000 in
theorem mj_mcode3 : ∀ e ∈ mj_mL3, Cond.code e.1 e.2.1 e.2.2.1 e.2.2.2.1 ∈ tables_1 := List.forall_mem_cons.mpr ⟨mj_t4 (List.mem_of_getElem? (i := 82) rfl), List.forall_mem_cons.mpr ⟨mj_t4 (List.mem_of_getElem? (i := 87) rfl), List.forall_mem_cons.mpr ⟨mj_t4 (List.mem_of_getElem? (i := 91) rfl), List.forall_mem_cons.mpr ⟨mj_t4 (List.mem_of_getElem? (i := 95) rfl), List.forall_mem_cons.mpr ⟨mj_t4 (List.mem_of_getElem? (i := 99) rfl), List.forall_mem_cons.mpr ⟨mj_t4 (List.mem_of_getElem? (i := 105) rfl), List.forall_mem_cons.mpr ⟨mj_t4 (List.mem_of_getElem? (i := 109) rfl), List.forall_mem_cons.mpr ⟨mj_t4 (List.mem_of_getElem? (i := 113) rfl), List.forall_mem_cons.mpr ⟨mj_t4 (List.mem_of_getElem? (i := 117) rfl), List.forall_mem_cons.mpr ⟨mj_t4 (List.mem_of_getElem? (i := 121) rfl), List.forall_mem_cons.mpr ⟨mj_t4 (List.mem_of_getElem? (i := 125) rfl), List.forall_mem_cons.mpr ⟨mj_t4 (List.mem_of_getElem? (i := 130) rfl), List.forall_mem_cons.mpr ⟨mj_t4 (List.mem_of_getElem? (i := 135) rfl), List.forall_mem_cons.mpr ⟨mj_t4 (List.mem_of_getElem? (i := 139) rfl), List.forall_mem_cons.mpr ⟨mj_t4 (List.mem_of_getElem? (i := 143) rfl), List.forall_mem_cons.mpr ⟨mj_t4 (List.mem_of_getElem? (i := 150) rfl), List.forall_mem_cons.mpr ⟨mj_t4 (List.mem_of_getElem? (i := 154) rfl), List.forall_mem_cons.mpr ⟨mj_t4 (List.mem_of_getElem? (i := 158) rfl), List.forall_mem_cons.mpr ⟨mj_t4 (List.mem_of_getElem? (i := 162) rfl), List.forall_mem_cons.mpr ⟨mj_t4 (List.mem_of_getElem? (i := 166) rfl), List.forall_mem_cons.mpr ⟨mj_t4 (List.mem_of_getElem? (i := 171) rfl), List.forall_mem_cons.mpr ⟨mj_t4 (List.mem_of_getElem? (i := 175) rfl), List.forall_mem_cons.mpr ⟨mj_t4 (List.mem_of_getElem? (i := 179) rfl), List.forall_mem_cons.mpr ⟨mj_t4 (List.mem_of_getElem? (i := 183) rfl), List.forall_mem_cons.mpr ⟨mj_t4 (List.mem_of_getElem? (i := 189) rfl), List.forall_mem_cons.mpr ⟨mj_t4 (List.mem_of_getElem? (i := 194) rfl), List.forall_mem_cons.mpr ⟨mj_t4 (List.mem_of_getElem? (i := 198) rfl), List.forall_mem_cons.mpr ⟨mj_t4 (List.mem_of_getElem? (i := 202) rfl), List.forall_mem_cons.mpr ⟨mj_t4 (List.mem_of_getElem? (i := 206) rfl), List.forall_mem_cons.mpr ⟨mj_t4 (List.mem_of_getElem? (i := 211) rfl), List.forall_mem_cons.mpr ⟨mj_t4 (List.mem_of_getElem? (i := 215) rfl), List.forall_mem_cons.mpr ⟨mj_t4 (List.mem_of_getElem? (i := 219) rfl), fun _ h => absurd h List.not_mem_nil⟩⟩⟩⟩⟩⟩⟩⟩⟩⟩⟩⟩⟩⟩⟩⟩⟩⟩⟩⟩⟩⟩⟩⟩⟩⟩⟩⟩⟩⟩⟩⟩
def mj_mL4 : List (MethodName × ByteArray × Nat × Option FieldType × Nat × Nat × Nat × Nat × Nat × Nat × Nat) := [
  (⟨"KeptPromises", "isPerson", "(I)Z"⟩, prog_1_method_52_code, 1, (some .boolean), 1, 0, 942, 941, 0, 1, 5),
  (⟨"KeptPromises$Telling", "tell", "(LKeptPromises$Deal;[JII)V"⟩, prog_6_method_2_code, 10, none, 5, 5, 946, 945, 82, 7, 4),
  (⟨"KeptPromises$Deal", "whyNot", "(III[II)I"⟩, prog_3_method_25_code, 6, (some .int), 6, 2, 951, 950, 83, 2, 1),
  (⟨"KeptPromises$Deal", "areOpen", "(III[II)Z"⟩, prog_3_method_24_code, 7, (some .boolean), 6, 2, 955, 954, 84, 2, 1),
  (⟨"KeptPromises$Deal", "isOpen", "(III[II)Z"⟩, prog_3_method_23_code, 7, (some .boolean), 6, 2, 961, 960, 85, 2, 1),
  (⟨"KeptPromises$Deal", "hasThingTwice", "(I)Z"⟩, prog_3_method_27_code, 5, (some .boolean), 2, 2, 968, 967, 86, 2, 1),
  (⟨"KeptPromises$Deal", "thingsOf", "(I)I"⟩, prog_3_method_26_code, 4, (some .int), 2, 2, 972, 971, 87, 2, 1),
  (⟨"KeptPromises$Deal", "brokenOnes", "(IIII)I"⟩, prog_3_method_28_code, 8, (some .int), 5, 2, 976, 975, 88, 2, 1),
  (⟨"KeptPromises$Deal", "pass", "(III[II)I"⟩, prog_3_method_29_code, 10, (some .int), 6, 2, 981, 980, 89, 2, 1),
  (⟨"KeptPromises$Deal", "missesSpan", "(III)Z"⟩, prog_3_method_30_code, 4, (some .boolean), 4, 2, 985, 984, 90, 2, 1),
  (⟨"KeptPromises", "lost", "(II)I"⟩, prog_1_method_33_code, 4, (some .int), 3, 6, 990, 988, 1141, 1, 5),
  (⟨"KeptPromises", "owed", "(III)I"⟩, prog_1_method_34_code, 5, (some .int), 4, 6, 994, 992, 1145, 1, 5),
  (⟨"KeptPromises$Deal", "owedBy", "(II)I"⟩, prog_3_method_22_code, 5, (some .int), 3, 2, 998, 997, 91, 2, 1),
  (⟨"KeptPromises", "work", "(I)I"⟩, prog_1_method_35_code, 3, (some .int), 2, 6, 1002, 1000, 1153, 1, 5),
  (⟨"KeptPromises", "debt", "(I)I"⟩, prog_1_method_36_code, 2, (some .int), 2, 6, 1008, 1006, 1159, 1, 5),
  (⟨"KeptPromises", "mend", "(II)I"⟩, prog_1_method_37_code, 5, (some .int), 3, 6, 1012, 1010, 1163, 1, 5),
  (⟨"KeptPromises", "act", "(III)I"⟩, prog_1_method_38_code, 4, (some .int), 4, 6, 1017, 1015, 1168, 1, 5),
  (⟨"KeptPromises", "callAct", "(IIII)I"⟩, prog_1_method_60_code, 5, (some .int), 5, 6, 1021, 1020, 92, 1, 5),
  (⟨"KeptPromises", "bodyFrom", "(II)I"⟩, prog_1_method_59_code, 4, (some .int), 2, 0, 1024, 1023, 0, 1, 5),
  (⟨"KeptPromises", "ownBody", "(II)I"⟩, prog_1_method_58_code, 2, (some .int), 2, 0, 1027, 1026, 0, 1, 5),
  (⟨"KeptPromises", "runBody", "(IIII)I"⟩, prog_1_method_62_code, 7, (some .int), 5, 6, 1031, 1030, 93, 1, 5),
  (⟨"KeptPromises", "callAbove", "(IIIII)I"⟩, prog_1_method_61_code, 6, (some .int), 6, 6, 1035, 1034, 94, 1, 5),
  (⟨"KeptPromises", "trace", "(I)I"⟩, prog_1_method_39_code, 2, (some .int), 2, 6, 1039, 1037, 1190, 1, 5),
  (⟨"KeptPromises", "image", "()I"⟩, prog_1_method_40_code, 1, (some .int), 1, 6, 1043, 1041, 1194, 1, 5),
  (⟨"KeptPromises$Deal", "takeFrom", "(LKeptPromises$Deal;)V"⟩, prog_3_method_2_code, 2, none, 2, 2, 1047, 1046, 95, 2, 1),
  (⟨"KeptPromises$Deal", "take", "([I[I)V"⟩, prog_3_method_3_code, 2, none, 2, 0, 1050, 1049, 0, 2, 1),
  (⟨"KeptPromises", "restore", "()I"⟩, prog_1_method_41_code, 2, (some .int), 1, 6, 1056, 1054, 1207, 1, 5),
  (⟨"KeptPromises", "status", "(I)I"⟩, prog_1_method_42_code, 2, (some .int), 2, 6, 1060, 1058, 1211, 1, 5),
  (⟨"KeptPromisesModel", "row", "(III)I"⟩, prog_8_method_8_code, 5, (some .int), 4, 7, 1266, 1264, 1417, 8, 6),
  (⟨"KeptPromisesModel", "isShelf", "(I)Z"⟩, prog_8_method_4_code, 2, (some .boolean), 2, 7, 1270, 1269, 96, 8, 6),
  (⟨"KeptPromisesModel", "no", "(I)I"⟩, prog_8_method_2_code, 2, (some .int), 2, 7, 1274, 1273, 97, 8, 6),
  (⟨"KeptPromisesModel", "set", "(IIJ)I"⟩, prog_8_method_9_code, 5, (some .int), 4, 7, 1278, 1276, 1429, 8, 6)]
set_option maxRecDepth 100000 in
theorem mj_mcode4 : ∀ e ∈ mj_mL4, Cond.code e.1 e.2.1 e.2.2.1 e.2.2.2.1 ∈ tables_1 := List.forall_mem_cons.mpr ⟨mj_t4 (List.mem_of_getElem? (i := 222) rfl), List.forall_mem_cons.mpr ⟨mj_t4 (List.mem_of_getElem? (i := 226) rfl), List.forall_mem_cons.mpr ⟨mj_t4 (List.mem_of_getElem? (i := 231) rfl), List.forall_mem_cons.mpr ⟨mj_t4 (List.mem_of_getElem? (i := 235) rfl), List.forall_mem_cons.mpr ⟨mj_t5 (List.mem_of_getElem? (i := 1) rfl), List.forall_mem_cons.mpr ⟨mj_t5 (List.mem_of_getElem? (i := 8) rfl), List.forall_mem_cons.mpr ⟨mj_t5 (List.mem_of_getElem? (i := 12) rfl), List.forall_mem_cons.mpr ⟨mj_t5 (List.mem_of_getElem? (i := 16) rfl), List.forall_mem_cons.mpr ⟨mj_t5 (List.mem_of_getElem? (i := 21) rfl), List.forall_mem_cons.mpr ⟨mj_t5 (List.mem_of_getElem? (i := 25) rfl), List.forall_mem_cons.mpr ⟨mj_t5 (List.mem_of_getElem? (i := 30) rfl), List.forall_mem_cons.mpr ⟨mj_t5 (List.mem_of_getElem? (i := 34) rfl), List.forall_mem_cons.mpr ⟨mj_t5 (List.mem_of_getElem? (i := 38) rfl), List.forall_mem_cons.mpr ⟨mj_t5 (List.mem_of_getElem? (i := 42) rfl), List.forall_mem_cons.mpr ⟨mj_t5 (List.mem_of_getElem? (i := 48) rfl), List.forall_mem_cons.mpr ⟨mj_t5 (List.mem_of_getElem? (i := 52) rfl), List.forall_mem_cons.mpr ⟨mj_t5 (List.mem_of_getElem? (i := 57) rfl), List.forall_mem_cons.mpr ⟨mj_t5 (List.mem_of_getElem? (i := 61) rfl), List.forall_mem_cons.mpr ⟨mj_t5 (List.mem_of_getElem? (i := 64) rfl), List.forall_mem_cons.mpr ⟨mj_t5 (List.mem_of_getElem? (i := 67) rfl), List.forall_mem_cons.mpr ⟨mj_t5 (List.mem_of_getElem? (i := 71) rfl), List.forall_mem_cons.mpr ⟨mj_t5 (List.mem_of_getElem? (i := 75) rfl), List.forall_mem_cons.mpr ⟨mj_t5 (List.mem_of_getElem? (i := 79) rfl), List.forall_mem_cons.mpr ⟨mj_t5 (List.mem_of_getElem? (i := 83) rfl), List.forall_mem_cons.mpr ⟨mj_t5 (List.mem_of_getElem? (i := 87) rfl), List.forall_mem_cons.mpr ⟨mj_t5 (List.mem_of_getElem? (i := 90) rfl), List.forall_mem_cons.mpr ⟨mj_t5 (List.mem_of_getElem? (i := 96) rfl), List.forall_mem_cons.mpr ⟨mj_t5 (List.mem_of_getElem? (i := 100) rfl), List.forall_mem_cons.mpr ⟨mj_t6 (List.mem_of_getElem? (i := 66) rfl), List.forall_mem_cons.mpr ⟨mj_t6 (List.mem_of_getElem? (i := 70) rfl), List.forall_mem_cons.mpr ⟨mj_t6 (List.mem_of_getElem? (i := 74) rfl), List.forall_mem_cons.mpr ⟨mj_t6 (List.mem_of_getElem? (i := 78) rfl), fun _ h => absurd h List.not_mem_nil⟩⟩⟩⟩⟩⟩⟩⟩⟩⟩⟩⟩⟩⟩⟩⟩⟩⟩⟩⟩⟩⟩⟩⟩⟩⟩⟩⟩⟩⟩⟩⟩
def mj_mL5 : List (MethodName × ByteArray × Nat × Option FieldType × Nat × Nat × Nat × Nat × Nat × Nat × Nat) := [
  (⟨"KeptPromisesModel", "copy", "(IIIII)I"⟩, prog_8_method_10_code, 7, (some .int), 6, 7, 1282, 1280, 1433, 8, 6),
  (⟨"KeptPromisesModel", "element", "(II)J"⟩, prog_8_method_11_code, 3, (some .long), 3, 7, 1286, 1284, 1437, 8, 6),
  (⟨"KeptPromisesModel", "put", "(II)I"⟩, prog_8_method_12_code, 3, (some .int), 3, 7, 1290, 1288, 1441, 8, 6),
  (⟨"KeptPromisesModel", "isPromise", "(I)Z"⟩, prog_8_method_5_code, 2, (some .boolean), 2, 7, 1294, 1293, 98, 8, 6),
  (⟨"KeptPromisesModel", "holds", "(I)I"⟩, prog_8_method_13_code, 2, (some .int), 2, 7, 1298, 1296, 1449, 8, 6),
  (⟨"KeptPromisesModel", "says", "(II)I"⟩, prog_8_method_14_code, 4, (some .int), 3, 7, 1302, 1300, 1453, 8, 6),
  (⟨"KeptPromisesModel", "promise", "(I)I"⟩, prog_8_method_30_code, 3, (some .int), 2, 7, 1306, 1304, 1457, 8, 6),
  (⟨"KeptPromisesModel", "text", "(I)I"⟩, prog_8_method_28_code, 3, (some .int), 2, 7, 1310, 1309, 99, 8, 6),
  (⟨"KeptPromisesModel", "wants", "(I)I"⟩, prog_8_method_15_code, 2, (some .int), 2, 7, 1314, 1313, 100, 8, 6),
  (⟨"KeptPromisesModel", "reads", "()Z"⟩, prog_8_method_25_code, 1, (some .boolean), 1, 7, 1318, 1317, 101, 8, 6),
  (⟨"KeptPromisesModel", "head", "()Z"⟩, prog_8_method_22_code, 2, (some .boolean), 1, 7, 1322, 1321, 102, 8, 6),
  (⟨"KeptPromisesModel", "letter", "()I"⟩, prog_8_method_16_code, 1, (some .int), 1, 7, 1326, 1325, 103, 8, 6),
  (⟨"KeptPromisesModel", "takes", "(I)Z"⟩, prog_8_method_18_code, 2, (some .boolean), 2, 7, 1330, 1329, 104, 8, 6),
  (⟨"KeptPromisesModel", "wrong", "(I)Z"⟩, prog_8_method_17_code, 2, (some .boolean), 2, 7, 1334, 1333, 105, 8, 6),
  (⟨"KeptPromisesModel", "digit", "(II)Z"⟩, prog_8_method_20_code, 3, (some .boolean), 3, 7, 1338, 1337, 106, 8, 6),
  (⟨"KeptPromisesModel", "isDigit", "()Z"⟩, prog_8_method_19_code, 1, (some .boolean), 1, 7, 1342, 1341, 107, 8, 6),
  (⟨"KeptPromisesModel", "spans", "()Z"⟩, prog_8_method_23_code, 1, (some .boolean), 1, 7, 1346, 1345, 108, 8, 6),
  (⟨"KeptPromisesModel", "digits", "(I)Z"⟩, prog_8_method_21_code, 2, (some .boolean), 2, 7, 1350, 1349, 109, 8, 6),
  (⟨"KeptPromisesModel", "more", "()Z"⟩, prog_8_method_24_code, 4, (some .boolean), 1, 7, 1354, 1353, 110, 8, 6),
  (⟨"KeptPromisesModel", "isWork", "(I)Z"⟩, prog_8_method_6_code, 2, (some .boolean), 2, 7, 1358, 1357, 111, 8, 6),
  (⟨"KeptPromisesModel", "isRoom", "()Z"⟩, prog_8_method_27_code, 1, (some .boolean), 1, 7, 1362, 1361, 112, 8, 6),
  (⟨"KeptPromisesModel", "kinds", "(Z)I"⟩, prog_8_method_26_code, 4, (some .int), 2, 7, 1366, 1365, 113, 8, 6),
  (⟨"KeptPromisesModel", "adds", "()V"⟩, prog_8_method_29_code, 1, none, 1, 7, 1370, 1369, 114, 8, 6),
  (⟨"KeptPromisesModel", "fault", "()I"⟩, prog_8_method_31_code, 1, (some .int), 1, 7, 1374, 1372, 1525, 8, 6),
  (⟨"KeptPromisesModel", "promiseOf", "(II)I"⟩, prog_8_method_32_code, 3, (some .int), 3, 7, 1378, 1376, 1529, 8, 6),
  (⟨"KeptPromisesModel", "hands", "(II)I"⟩, prog_8_method_33_code, 4, (some .int), 3, 7, 1382, 1380, 1533, 8, 6),
  (⟨"KeptPromisesModel", "known", "(II)I"⟩, prog_8_method_34_code, 4, (some .int), 3, 7, 1386, 1384, 1537, 8, 6),
  (⟨"KeptPromisesModel", "turn", "(II)I"⟩, prog_8_method_35_code, 4, (some .int), 3, 7, 1390, 1388, 1541, 8, 6),
  (⟨"KeptPromisesModel", "swap", "(II)I"⟩, prog_8_method_36_code, 4, (some .int), 3, 7, 1394, 1392, 1545, 8, 6),
  (⟨"KeptPromisesModel", "noTen", "(I)I"⟩, prog_8_method_3_code, 2, (some .int), 2, 7, 1398, 1397, 115, 8, 6),
  (⟨"KeptPromisesModel", "can", "(I)I"⟩, prog_8_method_57_code, 2, (some .int), 2, 7, 1402, 1400, 1553, 8, 6),
  (⟨"KeptPromisesModel", "isOutcome", "(I)Z"⟩, prog_8_method_7_code, 2, (some .boolean), 2, 7, 1406, 1405, 116, 8, 6)]
set_option maxRecDepth 100000 in
theorem mj_mcode5 : ∀ e ∈ mj_mL5, Cond.code e.1 e.2.1 e.2.2.1 e.2.2.2.1 ∈ tables_1 := List.forall_mem_cons.mpr ⟨mj_t6 (List.mem_of_getElem? (i := 82) rfl), List.forall_mem_cons.mpr ⟨mj_t6 (List.mem_of_getElem? (i := 86) rfl), List.forall_mem_cons.mpr ⟨mj_t6 (List.mem_of_getElem? (i := 90) rfl), List.forall_mem_cons.mpr ⟨mj_t6 (List.mem_of_getElem? (i := 94) rfl), List.forall_mem_cons.mpr ⟨mj_t6 (List.mem_of_getElem? (i := 98) rfl), List.forall_mem_cons.mpr ⟨mj_t6 (List.mem_of_getElem? (i := 102) rfl), List.forall_mem_cons.mpr ⟨mj_t6 (List.mem_of_getElem? (i := 106) rfl), List.forall_mem_cons.mpr ⟨mj_t6 (List.mem_of_getElem? (i := 110) rfl), List.forall_mem_cons.mpr ⟨mj_t6 (List.mem_of_getElem? (i := 114) rfl), List.forall_mem_cons.mpr ⟨mj_t6 (List.mem_of_getElem? (i := 118) rfl), List.forall_mem_cons.mpr ⟨mj_t6 (List.mem_of_getElem? (i := 122) rfl), List.forall_mem_cons.mpr ⟨mj_t6 (List.mem_of_getElem? (i := 126) rfl), List.forall_mem_cons.mpr ⟨mj_t6 (List.mem_of_getElem? (i := 130) rfl), List.forall_mem_cons.mpr ⟨mj_t6 (List.mem_of_getElem? (i := 134) rfl), List.forall_mem_cons.mpr ⟨mj_t6 (List.mem_of_getElem? (i := 138) rfl), List.forall_mem_cons.mpr ⟨mj_t6 (List.mem_of_getElem? (i := 142) rfl), List.forall_mem_cons.mpr ⟨mj_t6 (List.mem_of_getElem? (i := 146) rfl), List.forall_mem_cons.mpr ⟨mj_t6 (List.mem_of_getElem? (i := 150) rfl), List.forall_mem_cons.mpr ⟨mj_t6 (List.mem_of_getElem? (i := 154) rfl), List.forall_mem_cons.mpr ⟨mj_t6 (List.mem_of_getElem? (i := 158) rfl), List.forall_mem_cons.mpr ⟨mj_t6 (List.mem_of_getElem? (i := 162) rfl), List.forall_mem_cons.mpr ⟨mj_t6 (List.mem_of_getElem? (i := 166) rfl), List.forall_mem_cons.mpr ⟨mj_t6 (List.mem_of_getElem? (i := 170) rfl), List.forall_mem_cons.mpr ⟨mj_t6 (List.mem_of_getElem? (i := 174) rfl), List.forall_mem_cons.mpr ⟨mj_t6 (List.mem_of_getElem? (i := 178) rfl), List.forall_mem_cons.mpr ⟨mj_t6 (List.mem_of_getElem? (i := 182) rfl), List.forall_mem_cons.mpr ⟨mj_t6 (List.mem_of_getElem? (i := 186) rfl), List.forall_mem_cons.mpr ⟨mj_t6 (List.mem_of_getElem? (i := 190) rfl), List.forall_mem_cons.mpr ⟨mj_t6 (List.mem_of_getElem? (i := 194) rfl), List.forall_mem_cons.mpr ⟨mj_t6 (List.mem_of_getElem? (i := 198) rfl), List.forall_mem_cons.mpr ⟨mj_t6 (List.mem_of_getElem? (i := 202) rfl), List.forall_mem_cons.mpr ⟨mj_t6 (List.mem_of_getElem? (i := 206) rfl), fun _ h => absurd h List.not_mem_nil⟩⟩⟩⟩⟩⟩⟩⟩⟩⟩⟩⟩⟩⟩⟩⟩⟩⟩⟩⟩⟩⟩⟩⟩⟩⟩⟩⟩⟩⟩⟩⟩
def mj_mL6 : List (MethodName × ByteArray × Nat × Option FieldType × Nat × Nat × Nat × Nat × Nat × Nat × Nat) := [
  (⟨"KeptPromisesModel", "everything", "()I"⟩, prog_8_method_54_code, 1, (some .int), 1, 7, 1410, 1409, 117, 8, 6),
  (⟨"KeptPromisesModel", "isKept", "(II)Z"⟩, prog_8_method_56_code, 3, (some .boolean), 3, 7, 1414, 1413, 118, 8, 6),
  (⟨"KeptPromisesModel", "isLost", "(I)Z"⟩, prog_8_method_55_code, 3, (some .boolean), 2, 7, 1418, 1417, 119, 8, 6),
  (⟨"KeptPromisesModel", "isIn", "(II)Z"⟩, prog_8_method_41_code, 3, (some .boolean), 3, 7, 1422, 1421, 120, 8, 6),
  (⟨"KeptPromisesModel", "begins", "()V"⟩, prog_8_method_48_code, 1, none, 1, 7, 1426, 1425, 121, 8, 6),
  (⟨"KeptPromisesModel", "codeNow", "()I"⟩, prog_8_method_37_code, 4, (some .int), 1, 7, 1430, 1429, 122, 8, 6),
  (⟨"KeptPromisesModel", "ring", "()I"⟩, prog_8_method_79_code, 5, (some .int), 1, 7, 1434, 1432, 1585, 8, 6),
  (⟨"KeptPromisesModel", "keeps", "(II)Z"⟩, prog_8_method_52_code, 4, (some .boolean), 3, 7, 1438, 1437, 123, 8, 6),
  (⟨"KeptPromisesModel", "isMarked", "(I)Z"⟩, prog_8_method_50_code, 2, (some .boolean), 2, 7, 1442, 1441, 124, 8, 6),
  (⟨"KeptPromisesModel", "placeOf", "(I)I"⟩, prog_8_method_49_code, 3, (some .int), 2, 7, 1446, 1445, 125, 8, 6),
  (⟨"KeptPromisesModel", "firstSet", "(III)I"⟩, prog_8_method_53_code, 7, (some .int), 4, 7, 1451, 1450, 126, 8, 6),
  (⟨"KeptPromisesModel", "openSet", "(IIII)I"⟩, prog_8_method_43_code, 7, (some .int), 5, 7, 1455, 1454, 127, 8, 6),
  (⟨"KeptPromisesModel", "isOpen", "(IIIII)Z"⟩, prog_8_method_42_code, 7, (some .boolean), 6, 7, 1459, 1458, 128, 8, 6),
  (⟨"KeptPromisesModel", "isAsked", "(II)Z"⟩, prog_8_method_40_code, 3, (some .boolean), 3, 7, 1463, 1462, 129, 8, 6),
  (⟨"KeptPromisesModel", "leftIn", "(II)I"⟩, prog_8_method_39_code, 3, (some .int), 3, 7, 1467, 1466, 130, 8, 6),
  (⟨"KeptPromisesModel", "bars", "(IIII)I"⟩, prog_8_method_46_code, 7, (some .int), 5, 7, 1471, 1470, 131, 8, 6),
  (⟨"KeptPromisesModel", "many", "(II)I"⟩, prog_8_method_44_code, 5, (some .int), 3, 7, 1475, 1474, 132, 8, 6),
  (⟨"KeptPromisesModel", "isBarring", "(IIII)Z"⟩, prog_8_method_45_code, 5, (some .boolean), 5, 7, 1479, 1478, 133, 8, 6),
  (⟨"KeptPromisesModel", "behind", "(IIIII)I"⟩, prog_8_method_47_code, 13, (some .int), 6, 7, 1483, 1482, 134, 8, 6),
  (⟨"KeptPromisesModel", "marks", "(II)V"⟩, prog_8_method_51_code, 4, none, 3, 7, 1487, 1486, 135, 8, 6),
  (⟨"KeptPromisesModel", "hour", "(II)I"⟩, prog_8_method_58_code, 6, (some .int), 3, 7, 1491, 1489, 1642, 8, 6),
  (⟨"KeptPromisesModel", "all", "()I"⟩, prog_8_method_63_code, 1, (some .int), 1, 7, 1495, 1493, 1646, 8, 6),
  (⟨"KeptPromisesModel", "bearsAll", "()Z"⟩, prog_8_method_62_code, 1, (some .boolean), 1, 7, 1499, 1498, 136, 8, 6),
  (⟨"KeptPromisesModel", "knownBy", "(I)I"⟩, prog_8_method_59_code, 4, (some .int), 2, 7, 1503, 1502, 137, 8, 6),
  (⟨"KeptPromisesModel", "bears", "(III)Z"⟩, prog_8_method_60_code, 7, (some .boolean), 4, 7, 1507, 1506, 138, 8, 6),
  (⟨"KeptPromisesModel", "bearing", "(IIII)I"⟩, prog_8_method_61_code, 12, (some .int), 5, 7, 1511, 1510, 139, 8, 6),
  (⟨"KeptPromisesModel", "begin", "()I"⟩, prog_8_method_64_code, 1, (some .int), 1, 7, 1515, 1513, 1666, 8, 6),
  (⟨"KeptPromisesModel", "trap", "()I"⟩, prog_8_method_65_code, 3, (some .int), 1, 7, 1519, 1517, 1670, 8, 6),
  (⟨"KeptPromisesModel", "quarrel", "(I)I"⟩, prog_8_method_66_code, 4, (some .int), 2, 7, 1523, 1521, 1674, 8, 6),
  (⟨"KeptPromisesModel", "dear", "(I)I"⟩, prog_8_method_70_code, 2, (some .int), 2, 7, 1527, 1525, 1678, 8, 6),
  (⟨"KeptPromisesModel", "cheap", "(IZ)I"⟩, prog_8_method_69_code, 8, (some .int), 3, 7, 1531, 1530, 140, 8, 6),
  (⟨"KeptPromisesModel", "price", "(I)I"⟩, prog_8_method_67_code, 2, (some .int), 2, 7, 1535, 1534, 141, 8, 6)]
set_option maxRecDepth 100000 in
theorem mj_mcode6 : ∀ e ∈ mj_mL6, Cond.code e.1 e.2.1 e.2.2.1 e.2.2.2.1 ∈ tables_1 := List.forall_mem_cons.mpr ⟨mj_t6 (List.mem_of_getElem? (i := 210) rfl), List.forall_mem_cons.mpr ⟨mj_t6 (List.mem_of_getElem? (i := 214) rfl), List.forall_mem_cons.mpr ⟨mj_t6 (List.mem_of_getElem? (i := 218) rfl), List.forall_mem_cons.mpr ⟨mj_t6 (List.mem_of_getElem? (i := 222) rfl), List.forall_mem_cons.mpr ⟨mj_t6 (List.mem_of_getElem? (i := 226) rfl), List.forall_mem_cons.mpr ⟨mj_t6 (List.mem_of_getElem? (i := 230) rfl), List.forall_mem_cons.mpr ⟨mj_t6 (List.mem_of_getElem? (i := 234) rfl), List.forall_mem_cons.mpr ⟨mj_t6 (List.mem_of_getElem? (i := 238) rfl), List.forall_mem_cons.mpr ⟨mj_t7 (List.mem_of_getElem? (i := 2) rfl), List.forall_mem_cons.mpr ⟨mj_t7 (List.mem_of_getElem? (i := 6) rfl), List.forall_mem_cons.mpr ⟨mj_t7 (List.mem_of_getElem? (i := 11) rfl), List.forall_mem_cons.mpr ⟨mj_t7 (List.mem_of_getElem? (i := 15) rfl), List.forall_mem_cons.mpr ⟨mj_t7 (List.mem_of_getElem? (i := 19) rfl), List.forall_mem_cons.mpr ⟨mj_t7 (List.mem_of_getElem? (i := 23) rfl), List.forall_mem_cons.mpr ⟨mj_t7 (List.mem_of_getElem? (i := 27) rfl), List.forall_mem_cons.mpr ⟨mj_t7 (List.mem_of_getElem? (i := 31) rfl), List.forall_mem_cons.mpr ⟨mj_t7 (List.mem_of_getElem? (i := 35) rfl), List.forall_mem_cons.mpr ⟨mj_t7 (List.mem_of_getElem? (i := 39) rfl), List.forall_mem_cons.mpr ⟨mj_t7 (List.mem_of_getElem? (i := 43) rfl), List.forall_mem_cons.mpr ⟨mj_t7 (List.mem_of_getElem? (i := 47) rfl), List.forall_mem_cons.mpr ⟨mj_t7 (List.mem_of_getElem? (i := 51) rfl), List.forall_mem_cons.mpr ⟨mj_t7 (List.mem_of_getElem? (i := 55) rfl), List.forall_mem_cons.mpr ⟨mj_t7 (List.mem_of_getElem? (i := 59) rfl), List.forall_mem_cons.mpr ⟨mj_t7 (List.mem_of_getElem? (i := 63) rfl), List.forall_mem_cons.mpr ⟨mj_t7 (List.mem_of_getElem? (i := 67) rfl), List.forall_mem_cons.mpr ⟨mj_t7 (List.mem_of_getElem? (i := 71) rfl), List.forall_mem_cons.mpr ⟨mj_t7 (List.mem_of_getElem? (i := 75) rfl), List.forall_mem_cons.mpr ⟨mj_t7 (List.mem_of_getElem? (i := 79) rfl), List.forall_mem_cons.mpr ⟨mj_t7 (List.mem_of_getElem? (i := 83) rfl), List.forall_mem_cons.mpr ⟨mj_t7 (List.mem_of_getElem? (i := 87) rfl), List.forall_mem_cons.mpr ⟨mj_t7 (List.mem_of_getElem? (i := 91) rfl), List.forall_mem_cons.mpr ⟨mj_t7 (List.mem_of_getElem? (i := 95) rfl), fun _ h => absurd h List.not_mem_nil⟩⟩⟩⟩⟩⟩⟩⟩⟩⟩⟩⟩⟩⟩⟩⟩⟩⟩⟩⟩⟩⟩⟩⟩⟩⟩⟩⟩⟩⟩⟩⟩
def mj_mL7 : List (MethodName × ByteArray × Nat × Option FieldType × Nat × Nat × Nat × Nat × Nat × Nat × Nat) := [
  (⟨"KeptPromisesModel", "cheapest", "(II)I"⟩, prog_8_method_68_code, 9, (some .int), 3, 7, 1539, 1538, 142, 8, 6),
  (⟨"KeptPromisesModel", "fewest", "(I)I"⟩, prog_8_method_71_code, 2, (some .int), 2, 7, 1543, 1541, 1694, 8, 6),
  (⟨"KeptPromisesModel", "ends", "(II)I"⟩, prog_8_method_73_code, 6, (some .int), 3, 7, 1547, 1545, 1698, 8, 6),
  (⟨"KeptPromisesModel", "firstIn", "(IIII)Z"⟩, prog_8_method_72_code, 9, (some .boolean), 5, 7, 1551, 1550, 143, 8, 6),
  (⟨"KeptPromisesModel", "must", "(I)I"⟩, prog_8_method_74_code, 5, (some .int), 2, 7, 1555, 1553, 1706, 8, 6),
  (⟨"KeptPromisesModel", "spare", "(I)I"⟩, prog_8_method_75_code, 4, (some .int), 2, 7, 1559, 1557, 1710, 8, 6),
  (⟨"KeptPromisesModel", "doomed", "(II)I"⟩, prog_8_method_76_code, 5, (some .int), 3, 7, 1563, 1561, 1714, 8, 6),
  (⟨"KeptPromisesModel", "give", "(I)I"⟩, prog_8_method_77_code, 4, (some .int), 2, 7, 1567, 1565, 1718, 8, 6),
  (⟨"KeptPromisesModel", "many", "(I)I"⟩, prog_8_method_78_code, 6, (some .int), 2, 7, 1571, 1569, 1722, 8, 6),
  (⟨"KeptPromisesModel", "opening", "()I"⟩, prog_8_method_80_code, 5, (some .int), 1, 7, 1576, 1574, 1727, 8, 6),
  (⟨"KeptPromisesModel", "judge", "(II)I"⟩, prog_8_method_82_code, 4, (some .int), 3, 7, 1580, 1578, 1731, 8, 6),
  (⟨"KeptPromisesModel", "plays", "(II)V"⟩, prog_8_method_81_code, 11, none, 3, 7, 1584, 1583, 144, 8, 6),
  (⟨"KeptPromisesModel", "codeFirst", "()I"⟩, prog_8_method_38_code, 3, (some .int), 1, 7, 1588, 1587, 145, 8, 6),
  (⟨"KeptPromisesModel", "lost", "(II)I"⟩, prog_8_method_83_code, 4, (some .int), 3, 7, 1592, 1590, 1743, 8, 6),
  (⟨"KeptPromisesModel", "owed", "(III)I"⟩, prog_8_method_84_code, 7, (some .int), 4, 7, 1596, 1594, 1747, 8, 6),
  (⟨"KeptPromisesModel", "work", "(I)I"⟩, prog_8_method_85_code, 5, (some .int), 2, 7, 1600, 1598, 1751, 8, 6),
  (⟨"KeptPromisesModel", "debt", "(I)I"⟩, prog_8_method_86_code, 4, (some .int), 2, 7, 1604, 1602, 1755, 8, 6),
  (⟨"KeptPromisesModel", "mend", "(II)I"⟩, prog_8_method_87_code, 3, (some .int), 3, 7, 1608, 1606, 1759, 8, 6),
  (⟨"KeptPromisesModel", "act", "(III)I"⟩, prog_8_method_92_code, 4, (some .int), 4, 7, 1612, 1610, 1763, 8, 6),
  (⟨"KeptPromisesModel", "needs", "(II)I"⟩, prog_8_method_89_code, 4, (some .int), 3, 7, 1616, 1615, 146, 8, 6),
  (⟨"KeptPromisesModel", "body", "(I)V"⟩, prog_8_method_88_code, 2, none, 2, 7, 1620, 1619, 147, 8, 6),
  (⟨"KeptPromisesModel", "costs", "(II)I"⟩, prog_8_method_90_code, 4, (some .int), 3, 7, 1624, 1623, 148, 8, 6),
  (⟨"KeptPromisesModel", "ending", "(II)I"⟩, prog_8_method_91_code, 5, (some .int), 3, 7, 1628, 1627, 149, 8, 6),
  (⟨"KeptPromisesModel", "trace", "(I)I"⟩, prog_8_method_93_code, 2, (some .int), 2, 7, 1632, 1630, 1783, 8, 6),
  (⟨"KeptPromisesModel", "image", "()I"⟩, prog_8_method_96_code, 1, (some .int), 1, 7, 1636, 1634, 1787, 8, 6),
  (⟨"KeptPromisesModel", "all", "(Z)V"⟩, prog_8_method_95_code, 3, none, 2, 7, 1640, 1639, 150, 8, 6),
  (⟨"KeptPromisesModel", "keepsRow", "([IIIZ)I"⟩, prog_8_method_94_code, 6, (some .int), 5, 7, 1644, 1643, 151, 8, 6),
  (⟨"KeptPromisesModel", "restore", "()I"⟩, prog_8_method_97_code, 2, (some .int), 1, 7, 1648, 1646, 1799, 8, 6),
  (⟨"KeptPromisesModel", "status", "(I)I"⟩, prog_8_method_98_code, 4, (some .int), 2, 7, 1652, 1650, 1803, 8, 6)]
set_option maxRecDepth 100000 in
theorem mj_mcode7 : ∀ e ∈ mj_mL7, Cond.code e.1 e.2.1 e.2.2.1 e.2.2.2.1 ∈ tables_1 := List.forall_mem_cons.mpr ⟨mj_t7 (List.mem_of_getElem? (i := 99) rfl), List.forall_mem_cons.mpr ⟨mj_t7 (List.mem_of_getElem? (i := 103) rfl), List.forall_mem_cons.mpr ⟨mj_t7 (List.mem_of_getElem? (i := 107) rfl), List.forall_mem_cons.mpr ⟨mj_t7 (List.mem_of_getElem? (i := 111) rfl), List.forall_mem_cons.mpr ⟨mj_t7 (List.mem_of_getElem? (i := 115) rfl), List.forall_mem_cons.mpr ⟨mj_t7 (List.mem_of_getElem? (i := 119) rfl), List.forall_mem_cons.mpr ⟨mj_t7 (List.mem_of_getElem? (i := 123) rfl), List.forall_mem_cons.mpr ⟨mj_t7 (List.mem_of_getElem? (i := 127) rfl), List.forall_mem_cons.mpr ⟨mj_t7 (List.mem_of_getElem? (i := 131) rfl), List.forall_mem_cons.mpr ⟨mj_t7 (List.mem_of_getElem? (i := 136) rfl), List.forall_mem_cons.mpr ⟨mj_t7 (List.mem_of_getElem? (i := 140) rfl), List.forall_mem_cons.mpr ⟨mj_t7 (List.mem_of_getElem? (i := 144) rfl), List.forall_mem_cons.mpr ⟨mj_t7 (List.mem_of_getElem? (i := 148) rfl), List.forall_mem_cons.mpr ⟨mj_t7 (List.mem_of_getElem? (i := 152) rfl), List.forall_mem_cons.mpr ⟨mj_t7 (List.mem_of_getElem? (i := 156) rfl), List.forall_mem_cons.mpr ⟨mj_t7 (List.mem_of_getElem? (i := 160) rfl), List.forall_mem_cons.mpr ⟨mj_t7 (List.mem_of_getElem? (i := 164) rfl), List.forall_mem_cons.mpr ⟨mj_t7 (List.mem_of_getElem? (i := 168) rfl), List.forall_mem_cons.mpr ⟨mj_t7 (List.mem_of_getElem? (i := 172) rfl), List.forall_mem_cons.mpr ⟨mj_t7 (List.mem_of_getElem? (i := 176) rfl), List.forall_mem_cons.mpr ⟨mj_t7 (List.mem_of_getElem? (i := 180) rfl), List.forall_mem_cons.mpr ⟨mj_t7 (List.mem_of_getElem? (i := 184) rfl), List.forall_mem_cons.mpr ⟨mj_t7 (List.mem_of_getElem? (i := 188) rfl), List.forall_mem_cons.mpr ⟨mj_t7 (List.mem_of_getElem? (i := 192) rfl), List.forall_mem_cons.mpr ⟨mj_t7 (List.mem_of_getElem? (i := 196) rfl), List.forall_mem_cons.mpr ⟨mj_t7 (List.mem_of_getElem? (i := 200) rfl), List.forall_mem_cons.mpr ⟨mj_t7 (List.mem_of_getElem? (i := 204) rfl), List.forall_mem_cons.mpr ⟨mj_t7 (List.mem_of_getElem? (i := 208) rfl), List.forall_mem_cons.mpr ⟨mj_t7 (List.mem_of_getElem? (i := 212) rfl), fun _ h => absurd h List.not_mem_nil⟩⟩⟩⟩⟩⟩⟩⟩⟩⟩⟩⟩⟩⟩⟩⟩⟩⟩⟩⟩⟩⟩⟩⟩⟩⟩⟩⟩⟩
def mj_mL : List (MethodName × ByteArray × Nat × Option FieldType × Nat × Nat × Nat × Nat × Nat × Nat × Nat) := mj_mL0 ++ (mj_mL1 ++ (mj_mL2 ++ (mj_mL3 ++ (mj_mL4 ++ (mj_mL5 ++ (mj_mL6 ++ (mj_mL7)))))))
theorem mj_mcode : ∀ e ∈ mj_mL, Cond.code e.1 e.2.1 e.2.2.1 e.2.2.2.1 ∈ tables_1 := List.forall_mem_append.mpr ⟨mj_mcode0, List.forall_mem_append.mpr ⟨mj_mcode1, List.forall_mem_append.mpr ⟨mj_mcode2, List.forall_mem_append.mpr ⟨mj_mcode3, List.forall_mem_append.mpr ⟨mj_mcode4, List.forall_mem_append.mpr ⟨mj_mcode5, List.forall_mem_append.mpr ⟨mj_mcode6, mj_mcode7⟩⟩⟩⟩⟩⟩⟩
/-- the links of the calls: whose pool, the entry, the method's number, the word's place, the nest host -/
def mj_calL : List (Nat × Nat × Nat × Nat × String) := [(1, 70, 0, 32, ""), (5, 76, 0, 300, ""), (7, 13, 1, 344, ""), (5, 82, 2, 348, ""), (5, 86, 3, 351, ""), (5, 90, 4, 355, ""), (7, 20, 5, 358, ""), (5, 93, 6, 362, ""), (5, 96, 7, 366, ""), (7, 25, 8, 369, ""), (5, 100, 9, 373, ""), (5, 104, 10, 377, ""), (5, 108, 1000, 381, ""), (7, 30, 11, 384, ""), (7, 35, 12, 388, ""), (5, 114, 13, 392, "KeptPromises"), (7, 40, 14, 396, ""), (7, 45, 15, 400, ""), (5, 120, 16, 404, ""), (5, 300, 17, 407, ""), (5, 124, 18, 410, ""), (7, 49, 19, 414, ""), (5, 127, 20, 418, ""), (5, 294, 21, 422, "KeptPromises"), (2, 55, 1001, 426, ""), (2, 61, 22, 429, ""), (2, 93, 23, 433, ""), (2, 98, 24, 438, ""), (2, 112, 25, 442, ""), (2, 76, 1003, 446, ""), (2, 82, 1004, 456, ""), (2, 86, 26, 494, ""), (2, 116, 27, 498, ""), (2, 90, 28, 502, ""), (2, 65, 29, 511, ""), (2, 124, 30, 517, ""), (2, 72, 31, 521, ""), (2, 68, 32, 525, ""), (2, 129, 33, 530, ""), (2, 132, 34, 534, ""), (2, 136, 35, 538, ""), (2, 142, 36, 543, ""), (2, 155, 37, 548, "KeptPromises"), (1, 123, 13, 552, ""), (1, 92, 38, 553, ""), (5, 132, 39, 560, "KeptPromises"), (5, 135, 40, 564, "KeptPromises"), (1, 116, 41, 568, "KeptPromises"), (7, 53, 42, 573, ""), (7, 58, 43, 577, ""), (7, 62, 44, 581, ""), (5, 172, 45, 585, ""), (7, 66, 46, 588, ""), (5, 178, 47, 592, ""), (7, 70, 48, 595, ""), (5, 187, 49, 599, "KeptPromises"), (7, 74, 50, 603, ""), (5, 193, 37, 607, "KeptPromises"), (7, 78, 51, 608, ""), (5, 196, 52, 612, ""), (5, 199, 53, 615, "KeptPromises"), (5, 203, 54, 619, ""), (5, 206, 55, 623, "KeptPromises"), (3, 81, 56, 627, "KeptPromises"), (3, 85, 57, 631, "KeptPromises"), (3, 91, 58, 635, ""), (3, 141, 59, 639, ""), (3, 145, 37, 643, "KeptPromises"), (3, 154, 60, 644, ""), (3, 157, 61, 648, "KeptPromises"), (3, 161, 62, 652, "KeptPromises"), (3, 97, 63, 656, "KeptPromises"), (1, 133, 37, 660, ""), (1, 136, 64, 661, ""), (3, 100, 65, 665, ""), (3, 167, 13, 669, "KeptPromises"), (3, 170, 66, 670, ""), (3, 104, 67, 674, ""), (3, 176, 68, 680, ""), (3, 184, 69, 686, ""), (3, 187, 70, 690, ""), (3, 107, 71, 693, ""), (3, 193, 1001, 697, ""), (3, 110, 72, 698, ""), (3, 204, 73, 702, "KeptPromises"), (3, 207, 74, 706, "KeptPromises"), (1, 126, 75, 710, ""), (1, 130, 73, 714, ""), (3, 113, 76, 715, ""), (3, 117, 77, 719, ""), (3, 210, 75, 723, "KeptPromises"), (3, 121, 78, 724, ""), (3, 125, 79, 728, ""), (3, 128, 80, 732, ""), (3, 216, 1002, 736, ""), (3, 131, 81, 739, ""), (3, 135, 82, 743, ""), (3, 222, 83, 747, ""), (3, 225, 84, 751, ""), (8, 13, 85, 754, ""), (5, 316, 86, 757, "KeptPromises"), (3, 231, 87, 761, ""), (3, 235, 88, 765, ""), (3, 251, 89, 769, ""), (3, 254, 90, 773, ""), (3, 257, 91, 777, ""), (3, 238, 92, 781, ""), (3, 242, 93, 785, ""), (3, 248, 94, 791, ""), (7, 82, 95, 795, ""), (5, 210, 96, 799, "KeptPromises"), (3, 260, 86, 803, ""), (3, 263, 97, 804, ""), (3, 267, 98, 808, ""), (7, 86, 99, 812, ""), (5, 213, 100, 816, ""), (5, 217, 56, 820, "KeptPromises"), (5, 325, 57, 821, "KeptPromises"), (7, 90, 101, 822, ""), (7, 94, 102, 826, ""), (7, 98, 103, 830, ""), (7, 102, 104, 834, ""), (5, 223, 105, 838, "KeptPromises"), (0, 26, 106, 842, ""), (0, 69, 62, 846, "KeptPromises"), (0, 75, 107, 847, "KeptPromises"), (0, 85, 37, 851, "KeptPromises"), (0, 30, 108, 852, ""), (0, 55, 109, 856, ""), (0, 34, 110, 860, ""), (0, 46, 53, 864, "KeptPromises"), (0, 58, 55, 865, "KeptPromises"), (0, 64, 86, 866, "KeptPromises"), (0, 38, 111, 867, ""), (0, 42, 112, 871, ""), (7, 106, 113, 875, ""), (7, 110, 114, 879, ""), (5, 227, 115, 883, ""), (5, 319, 75, 887, "KeptPromises"), (5, 322, 116, 888, "KeptPromises"), (7, 114, 117, 892, ""), (5, 230, 118, 896, "KeptPromises"), (7, 118, 119, 900, ""), (5, 233, 62, 904, "KeptPromises"), (5, 236, 107, 905, "KeptPromises"), (7, 122, 120, 906, ""), (5, 239, 64, 910, "KeptPromises"), (7, 126, 121, 911, ""), (5, 242, 122, 915, "KeptPromises"), (7, 130, 123, 919, ""), (7, 134, 124, 923, ""), (5, 245, 63, 927, "KeptPromises"), (7, 138, 125, 928, ""), (7, 142, 126, 932, ""), (5, 248, 127, 936, ""), (5, 270, 128, 940, ""), (5, 252, 129, 943, "KeptPromises"), (4, 27, 1000, 947, ""), (4, 33, 130, 948, "KeptPromises"), (1, 156, 131, 952, ""), (1, 146, 53, 956, ""), (1, 149, 63, 957, ""), (1, 152, 132, 958, ""), (1, 140, 62, 962, ""), (1, 143, 61, 963, ""), (1, 159, 68, 964, ""), (1, 164, 133, 965, ""), (1, 171, 134, 969, ""), (1, 167, 135, 973, ""), (4, 37, 135, 977, "KeptPromises"), (4, 41, 136, 978, "KeptPromises"), (1, 174, 137, 982, ""), (1, 178, 74, 986, ""), (7, 146, 138, 987, ""), (7, 150, 139, 991, ""), (5, 260, 140, 995, "KeptPromises"), (7, 154, 141, 999, ""), (5, 263, 130, 1003, "KeptPromises"), (5, 267, 136, 1004, "KeptPromises"), (7, 158, 142, 1005, ""), (7, 162, 143, 1009, ""), (5, 273, 1001, 1013, ""), (7, 166, 144, 1014, ""), (5, 278, 145, 1018, ""), (5, 306, 146, 1022, ""), (5, 303, 147, 1025, ""), (5, 309, 148, 1028, ""), (5, 312, 149, 1032, ""), (7, 170, 150, 1036, ""), (7, 174, 151, 1040, ""), (5, 282, 152, 1044, "KeptPromises"), (1, 76, 153, 1048, ""), (1, 80, 1001, 1051, ""), (1, 86, 1000, 1052, ""), (7, 178, 154, 1053, ""), (7, 182, 155, 1057, ""), (5, 289, 68, 1061, ""), (7, 17, 156, 1263, ""), (6, 110, 157, 1267, ""), (6, 114, 158, 1271, ""), (7, 24, 159, 1275, ""), (7, 29, 160, 1279, ""), (7, 34, 161, 1283, ""), (7, 39, 162, 1287, ""), (6, 118, 163, 1291, ""), (7, 44, 164, 1295, ""), (7, 48, 165, 1299, ""), (7, 52, 166, 1303, ""), (6, 221, 167, 1307, ""), (6, 212, 168, 1311, ""), (6, 215, 169, 1315, ""), (6, 199, 170, 1319, ""), (6, 133, 171, 1323, ""), (6, 153, 172, 1327, ""), (6, 137, 173, 1331, ""), (6, 156, 174, 1335, ""), (6, 143, 175, 1339, ""), (6, 202, 176, 1343, ""), (6, 160, 177, 1347, ""), (6, 205, 178, 1351, ""), (6, 184, 179, 1355, ""), (6, 224, 180, 1359, ""), (6, 208, 181, 1363, ""), (6, 227, 182, 1367, ""), (7, 57, 183, 1371, ""), (7, 61, 184, 1375, ""), (7, 65, 185, 1379, ""), (7, 69, 186, 1383, ""), (7, 73, 187, 1387, ""), (7, 77, 188, 1391, ""), (6, 233, 189, 1395, ""), (7, 81, 190, 1399, ""), (6, 315, 191, 1403, ""), (6, 318, 192, 1407, ""), (6, 321, 193, 1411, ""), (6, 309, 194, 1415, ""), (6, 245, 195, 1419, ""), (6, 312, 196, 1423, ""), (6, 242, 197, 1427, ""), (6, 236, 198, 1431, ""), (6, 306, 199, 1435, ""), (6, 279, 200, 1439, ""), (6, 276, 201, 1443, ""), (6, 282, 202, 1448, ""), (6, 295, 203, 1452, ""), (6, 255, 204, 1456, ""), (6, 248, 205, 1460, ""), (6, 251, 206, 1464, ""), (6, 299, 207, 1468, ""), (6, 259, 208, 1472, ""), (6, 262, 209, 1476, ""), (6, 302, 210, 1480, ""), (6, 286, 211, 1484, ""), (7, 85, 212, 1488, ""), (7, 89, 213, 1492, ""), (6, 334, 214, 1496, ""), (6, 324, 215, 1500, ""), (6, 330, 216, 1504, ""), (6, 327, 217, 1508, ""), (7, 93, 218, 1512, ""), (7, 97, 219, 1516, ""), (7, 101, 220, 1520, ""), (7, 105, 221, 1524, ""), (6, 347, 222, 1528, ""), (6, 341, 223, 1532, ""), (6, 344, 224, 1536, ""), (7, 109, 225, 1540, ""), (7, 113, 226, 1544, ""), (6, 351, 227, 1548, ""), (7, 117, 228, 1552, ""), (7, 121, 229, 1556, ""), (7, 125, 230, 1560, ""), (7, 129, 231, 1564, ""), (7, 133, 232, 1568, ""), (7, 137, 198, 1572, ""), (7, 141, 233, 1573, ""), (7, 145, 234, 1577, ""), (6, 363, 235, 1581, ""), (6, 354, 236, 1585, ""), (7, 149, 237, 1589, ""), (7, 153, 238, 1593, ""), (7, 157, 239, 1597, ""), (7, 161, 240, 1601, ""), (7, 165, 241, 1605, ""), (7, 169, 242, 1609, ""), (6, 373, 243, 1613, ""), (6, 369, 244, 1617, ""), (6, 376, 245, 1621, ""), (6, 379, 246, 1625, ""), (7, 173, 247, 1629, ""), (7, 177, 248, 1633, ""), (6, 392, 249, 1637, ""), (6, 382, 250, 1641, ""), (7, 181, 251, 1645, ""), (7, 185, 252, 1649, "")]
