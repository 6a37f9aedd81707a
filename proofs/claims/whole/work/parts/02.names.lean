/-! ===== the classes, their fields, the methods, the links: written by wip/whole/gen02.py ===== -/
def cnm (ci : Nat) : String := match ci with
  | 0 => "ReelReader$Block"
  | 1 => "ReelReader$Picture"
  | 2 => "ReelReader$Plane"
  | 3 => "ReelReader$Reel"
  | 4 => "ReelReader$StreamReader"
  | 5 => "ReelReader$Tape"
  | 6 => "ReelReader"
  | 7 => "ReelReaderModel"
  | _ => "ReelReaderLaw"
def cT0 : u_T := fun k => match k with
  | 0 => ("ReelReader$Block", "factors", "[I", true)
  | 1 => ("ReelReader$Block", "sums", "[I", true)
  | 2 => ("ReelReader$Block", "total", "I", false)
  | _ => ("ReelReader$Block", "rows", "I", false)
def cY0 : Nat → FieldType := fun k => match k with
  | 0 => .array .int
  | 1 => .array .int
  | 2 => .int
  | _ => .int
def cT1 : u_T := fun k => match k with
  | 0 => ("ReelReader$Picture", "planes", "[LReelReader$Plane;", true)
  | _ => ("ReelReader$Picture", "facts", "[I", true)
def cY1 : Nat → FieldType := fun k => match k with
  | 0 => .array (.object "ReelReader$Plane")
  | _ => .array .int
def cT2 : u_T := fun k => match k with
  | 0 => ("ReelReader$Plane", "side", "I", true)
  | 1 => ("ReelReader$Plane", "width", "I", false)
  | 2 => ("ReelReader$Plane", "height", "I", false)
  | _ => ("ReelReader$Plane", "dots", "[I", false)
def cY2 : Nat → FieldType := fun k => match k with
  | 0 => .int
  | 1 => .int
  | 2 => .int
  | _ => .array .int
def cT3 : u_T := fun k => match k with
  | 0 => ("ReelReader$Reel", "tally", "[I", true)
  | 1 => ("ReelReader$Reel", "kept", "[LReelReader$Picture;", true)
  | 2 => ("ReelReader$Reel", "across", "I", false)
  | 3 => ("ReelReader$Reel", "down", "I", false)
  | 4 => ("ReelReader$Reel", "now", "LReelReader$Picture;", false)
  | 5 => ("ReelReader$Reel", "latest", "LReelReader$Picture;", false)
  | 6 => ("ReelReader$Reel", "older", "LReelReader$Picture;", false)
  | _ => ("ReelReader$Reel", "leanable", "I", false)
def cY3 : Nat → FieldType := fun k => match k with
  | 0 => .array .int
  | 1 => .array (.object "ReelReader$Picture")
  | 2 => .int
  | 3 => .int
  | 4 => .object "ReelReader$Picture"
  | 5 => .object "ReelReader$Picture"
  | 6 => .object "ReelReader$Picture"
  | _ => .int
def cT4 : u_T := fun k => match k with
  | 0 => ("ReelReader$StreamReader", "tape", "LReelReader$Tape;", true)
  | 1 => ("ReelReader$StreamReader", "reel", "LReelReader$Reel;", true)
  | 2 => ("ReelReader$StreamReader", "block", "LReelReader$Block;", true)
  | 3 => ("ReelReader$StreamReader", "dcs", "[I", true)
  | 4 => ("ReelReader$StreamReader", "forward", "[I", true)
  | 5 => ("ReelReader$StreamReader", "backward", "[I", true)
  | 6 => ("ReelReader$StreamReader", "sort", "I", false)
  | 7 => ("ReelReader$StreamReader", "quant", "I", false)
  | 8 => ("ReelReader$StreamReader", "range", "I", false)
  | _ => ("ReelReader$StreamReader", "waysAhead", "I", false)
def cY4 : Nat → FieldType := fun k => match k with
  | 0 => .object "ReelReader$Tape"
  | 1 => .object "ReelReader$Reel"
  | 2 => .object "ReelReader$Block"
  | 3 => .array .int
  | 4 => .array .int
  | 5 => .array .int
  | 6 => .int
  | 7 => .int
  | 8 => .int
  | _ => .int
def cT5 : u_T := fun k => match k with
  | 0 => ("ReelReader$Tape", "bytes", "[B", true)
  | 1 => ("ReelReader$Tape", "length", "I", false)
  | 2 => ("ReelReader$Tape", "position", "I", false)
  | _ => ("ReelReader$Tape", "wrongBit", "I", false)
def cY5 : Nat → FieldType := fun k => match k with
  | 0 => .array .byte
  | 1 => .int
  | 2 => .int
  | _ => .int
def cT6 : u_T := fun k => match k with
  | 0 => ("ReelReader", "tape", "LReelReader$Tape;", true)
  | 1 => ("ReelReader", "reel", "LReelReader$Reel;", true)
  | _ => ("ReelReader", "stream", "LReelReader$StreamReader;", true)
def cY6 : Nat → FieldType := fun k => match k with
  | 0 => .object "ReelReader$Tape"
  | 1 => .object "ReelReader$Reel"
  | _ => .object "ReelReader$StreamReader"
def cT7 : u_T := fun k => match k with
  | 0 => ("ReelReaderModel", "thrown", "I", false)
  | 1 => ("ReelReaderModel", "tape", "[B", true)
  | 2 => ("ReelReaderModel", "tapeBits", "I", false)
  | 3 => ("ReelReaderModel", "bits", "[B", true)
  | 4 => ("ReelReaderModel", "at", "I", false)
  | 5 => ("ReelReaderModel", "end", "I", false)
  | 6 => ("ReelReaderModel", "wrong", "I", false)
  | 7 => ("ReelReaderModel", "across", "I", false)
  | 8 => ("ReelReaderModel", "down", "I", false)
  | 9 => ("ReelReaderModel", "picture", "[I", true)
  | 10 => ("ReelReaderModel", "latest", "[I", true)
  | 11 => ("ReelReaderModel", "ahead", "[I", true)
  | 12 => ("ReelReaderModel", "hasLatest", "Z", false)
  | 13 => ("ReelReaderModel", "hasAhead", "Z", false)
  | 14 => ("ReelReaderModel", "latestSort", "I", false)
  | 15 => ("ReelReaderModel", "latestNumber", "I", false)
  | 16 => ("ReelReaderModel", "latestInner", "I", false)
  | 17 => ("ReelReaderModel", "latestPassed", "I", false)
  | 18 => ("ReelReaderModel", "shownDots", "[B", true)
  | 19 => ("ReelReaderModel", "shownFacts", "[I", true)
  | 20 => ("ReelReaderModel", "width", "I", false)
  | 21 => ("ReelReaderModel", "height", "I", false)
  | 22 => ("ReelReaderModel", "shown", "I", false)
  | 23 => ("ReelReaderModel", "whole", "I", false)
  | 24 => ("ReelReaderModel", "squares", "I", false)
  | 25 => ("ReelReaderModel", "passed", "I", false)
  | 26 => ("ReelReaderModel", "blocks", "I", false)
  | 27 => ("ReelReaderModel", "levels", "I", false)
  | 28 => ("ReelReaderModel", "vectors", "[I", true)
  | 29 => ("ReelReaderModel", "foretold", "[I", true)
  | 30 => ("ReelReaderModel", "isForward", "Z", false)
  | 31 => ("ReelReaderModel", "isBackward", "Z", false)
  | 32 => ("ReelReaderModel", "isInner", "Z", false)
  | 33 => ("ReelReaderModel", "dcs", "[I", true)
  | 34 => ("ReelReaderModel", "sort", "I", false)
  | 35 => ("ReelReaderModel", "quant", "I", false)
  | 36 => ("ReelReaderModel", "span", "I", false)
  | 37 => ("ReelReaderModel", "order", "[I", true)
  | 38 => ("ReelReaderModel", "factors", "[I", true)
  | 39 => ("ReelReaderModel", "rows", "[I", true)
  | 40 => ("ReelReaderModel", "inner", "I", false)
  | 41 => ("ReelReaderModel", "over", "I", false)
  | _ => ("ReelReaderModel", "five", "[I", true)
def cY7 : Nat → FieldType := fun k => match k with
  | 0 => .int
  | 1 => .array .byte
  | 2 => .int
  | 3 => .array .byte
  | 4 => .int
  | 5 => .int
  | 6 => .int
  | 7 => .int
  | 8 => .int
  | 9 => .array .int
  | 10 => .array .int
  | 11 => .array .int
  | 12 => .boolean
  | 13 => .boolean
  | 14 => .int
  | 15 => .int
  | 16 => .int
  | 17 => .int
  | 18 => .array .byte
  | 19 => .array .int
  | 20 => .int
  | 21 => .int
  | 22 => .int
  | 23 => .int
  | 24 => .int
  | 25 => .int
  | 26 => .int
  | 27 => .int
  | 28 => .array .int
  | 29 => .array .int
  | 30 => .boolean
  | 31 => .boolean
  | 32 => .boolean
  | 33 => .array .int
  | 34 => .int
  | 35 => .int
  | 36 => .int
  | 37 => .array .int
  | 38 => .array .int
  | 39 => .array .int
  | 40 => .int
  | 41 => .int
  | _ => .array .int
def cT (ci : Nat) : u_T := match ci with
  | 0 => cT0
  | 1 => cT1
  | 2 => cT2
  | 3 => cT3
  | 4 => cT4
  | 5 => cT5
  | 6 => cT6
  | _ => cT7
def cY (ci : Nat) : Nat → FieldType := match ci with
  | 0 => cY0
  | 1 => cY1
  | 2 => cY2
  | 3 => cY3
  | 4 => cY4
  | 5 => cY5
  | 6 => cY6
  | _ => cY7
def cN (ci : Nat) : Nat := match ci with
  | 0 => 4
  | 1 => 2
  | 2 => 4
  | 3 => 8
  | 4 => 10
  | 5 => 4
  | 6 => 3
  | _ => 43
/-- is it a field of references -/
def isR (ci k : Nat) : Bool := match cY ci k with
  | .object _ => true
  | .array _ => true
  | _ => false
theorem cYo0 : ∀ k, k < 4 → parseFieldDescriptor (cT0 k).2.2.1 = some (cY0 k) := by decide +kernel
theorem cNo0 : ∀ a, a < 4 → ∀ b, b < 4 → a ≠ b → (cT0 a).2.1 ≠ (cT0 b).2.1 := by decide +kernel
theorem cDo0 : ∀ k, k < 4 → (cT0 k).1 = cnm 0 := by decide +kernel
theorem cWo0 : GoodIn lw_tbl (u_ws (cnm 0) cT0 4) := goodIn_r _ [195, 197, 199, 201] (by decide +kernel) (by decide +kernel)
theorem cYo1 : ∀ k, k < 2 → parseFieldDescriptor (cT1 k).2.2.1 = some (cY1 k) := by decide +kernel
theorem cNo1 : ∀ a, a < 2 → ∀ b, b < 2 → a ≠ b → (cT1 a).2.1 ≠ (cT1 b).2.1 := by decide +kernel
theorem cDo1 : ∀ k, k < 2 → (cT1 k).1 = cnm 1 := by decide +kernel
theorem cWo1 : GoodIn lw_tbl (u_ws (cnm 1) cT1 2) := goodIn_r _ [140, 142] (by decide +kernel) (by decide +kernel)
theorem cYo2 : ∀ k, k < 4 → parseFieldDescriptor (cT2 k).2.2.1 = some (cY2 k) := by decide +kernel
theorem cNo2 : ∀ a, a < 4 → ∀ b, b < 4 → a ≠ b → (cT2 a).2.1 ≠ (cT2 b).2.1 := by decide +kernel
theorem cDo2 : ∀ k, k < 4 → (cT2 k).1 = cnm 2 := by decide +kernel
theorem cWo2 : GoodIn lw_tbl (u_ws (cnm 2) cT2 4) := goodIn_r _ [123, 125, 127, 129] (by decide +kernel) (by decide +kernel)
theorem cYo3 : ∀ k, k < 8 → parseFieldDescriptor (cT3 k).2.2.1 = some (cY3 k) := by decide +kernel
theorem cNo3 : ∀ a, a < 8 → ∀ b, b < 8 → a ≠ b → (cT3 a).2.1 ≠ (cT3 b).2.1 := by decide +kernel
theorem cDo3 : ∀ k, k < 8 → (cT3 k).1 = cnm 3 := by decide +kernel
theorem cWo3 : GoodIn lw_tbl (u_ws (cnm 3) cT3 8) := goodIn_r _ [161, 163, 165, 167, 169, 171, 173, 175] (by decide +kernel) (by decide +kernel)
theorem cYo4 : ∀ k, k < 10 → parseFieldDescriptor (cT4 k).2.2.1 = some (cY4 k) := by decide +kernel
theorem cNo4 : ∀ a, a < 10 → ∀ b, b < 10 → a ≠ b → (cT4 a).2.1 ≠ (cT4 b).2.1 := by decide +kernel
theorem cDo4 : ∀ k, k < 10 → (cT4 k).1 = cnm 4 := by decide +kernel
theorem cWo4 : GoodIn lw_tbl (u_ws (cnm 4) cT4 10) := goodIn_r _ [214, 216, 218, 220, 222, 224, 226, 228, 230, 232] (by decide +kernel) (by decide +kernel)
theorem cYo5 : ∀ k, k < 4 → parseFieldDescriptor (cT5 k).2.2.1 = some (cY5 k) := by decide +kernel
theorem cNo5 : ∀ a, a < 4 → ∀ b, b < 4 → a ≠ b → (cT5 a).2.1 ≠ (cT5 b).2.1 := by decide +kernel
theorem cDo5 : ∀ k, k < 4 → (cT5 k).1 = cnm 5 := by decide +kernel
theorem cWo5 : GoodIn lw_tbl (u_ws (cnm 5) cT5 4) := goodIn_r _ [89, 91, 93, 95] (by decide +kernel) (by decide +kernel)
theorem cYo6 : ∀ k, k < 3 → parseFieldDescriptor (cT6 k).2.2.1 = some (cY6 k) := by decide +kernel
theorem cNo6 : ∀ a, a < 3 → ∀ b, b < 3 → a ≠ b → (cT6 a).2.1 ≠ (cT6 b).2.1 := by decide +kernel
theorem cDo6 : ∀ k, k < 3 → (cT6 k).1 = cnm 6 := by decide +kernel
theorem cWo6 : GoodIn lw_tbl (u_ws (cnm 6) cT6 3) := goodIn_r _ [238, 240, 242] (by decide +kernel) (by decide +kernel)
theorem cYo7 : ∀ k, k < 43 → parseFieldDescriptor (cT7 k).2.2.1 = some (cY7 k) := by decide +kernel
theorem cNo7 : ∀ a, a < 43 → ∀ b, b < 43 → a ≠ b → (cT7 a).2.1 ≠ (cT7 b).2.1 := by decide +kernel
theorem cDo7 : ∀ k, k < 43 → (cT7 k).1 = cnm 7 := by decide +kernel
theorem cWo7 : GoodIn lw_tbl (u_ws (cnm 7) cT7 43) := goodIn_r _ [650, 652, 654, 656, 658, 660, 662, 664, 666, 668, 670, 672, 674, 676, 678, 680, 682, 684, 686, 688, 690, 692, 694, 696, 698, 700, 702, 704, 706, 708, 710, 712, 714, 716, 718, 720, 722, 724, 726, 728, 730, 732, 734] (by decide +kernel) (by decide +kernel)
theorem cY_ok {ci : Nat} (h : ci < 8) : ∀ k, k < cN ci → parseFieldDescriptor (cT ci k).2.2.1 = some (cY ci k) := match ci, h with
  | 0, _ => cYo0
  | 1, _ => cYo1
  | 2, _ => cYo2
  | 3, _ => cYo3
  | 4, _ => cYo4
  | 5, _ => cYo5
  | 6, _ => cYo6
  | 7, _ => cYo7
  | n + 8, h => absurd h (by omega)
theorem cN_ok {ci : Nat} (h : ci < 8) : ∀ a, a < cN ci → ∀ b, b < cN ci → a ≠ b → (cT ci a).2.1 ≠ (cT ci b).2.1 := match ci, h with
  | 0, _ => cNo0
  | 1, _ => cNo1
  | 2, _ => cNo2
  | 3, _ => cNo3
  | 4, _ => cNo4
  | 5, _ => cNo5
  | 6, _ => cNo6
  | 7, _ => cNo7
  | n + 8, h => absurd h (by omega)
theorem cD_ok {ci : Nat} (h : ci < 8) : ∀ k, k < cN ci → (cT ci k).1 = cnm ci := match ci, h with
  | 0, _ => cDo0
  | 1, _ => cDo1
  | 2, _ => cDo2
  | 3, _ => cDo3
  | 4, _ => cDo4
  | 5, _ => cDo5
  | 6, _ => cDo6
  | 7, _ => cDo7
  | n + 8, h => absurd h (by omega)
theorem cW_ok {ci : Nat} (h : ci < 8) : GoodIn lw_tbl (u_ws (cnm ci) (cT ci) (cN ci)) := match ci, h with
  | 0, _ => cWo0
  | 1, _ => cWo1
  | 2, _ => cWo2
  | 3, _ => cWo3
  | 4, _ => cWo4
  | 5, _ => cWo5
  | 6, _ => cWo6
  | 7, _ => cWo7
  | n + 8, h => absurd h (by omega)
theorem cI_ok {ci : Nat} (h : ci < 8) : Cond.instantiable (cnm ci) (cN ci) ∈ lw_tbl := match ci, h with
  | 0, _ => List.mem_of_getElem? (i := 185) (by decide +kernel)
  | 1, _ => List.mem_of_getElem? (i := 107) (by decide +kernel)
  | 2, _ => List.mem_of_getElem? (i := 114) (by decide +kernel)
  | 3, _ => List.mem_of_getElem? (i := 100) (by decide +kernel)
  | 4, _ => List.mem_of_getElem? (i := 179) (by decide +kernel)
  | 5, _ => List.mem_of_getElem? (i := 78) (by decide +kernel)
  | 6, _ => List.mem_of_getElem? (i := 70) (by decide +kernel)
  | 7, _ => List.mem_of_getElem? (i := 601) (by decide +kernel)
  | n + 8, h => absurd h (by omega)
theorem cA_ok {ci : Nat} (h : ci < 8) : Cond.initialized (cnm ci) ∈ lw_tbl := match ci, h with
  | 0, _ => List.mem_of_getElem? (i := 59) (by decide +kernel)
  | 1, _ => List.mem_of_getElem? (i := 56) (by decide +kernel)
  | 2, _ => List.mem_of_getElem? (i := 57) (by decide +kernel)
  | 3, _ => List.mem_of_getElem? (i := 55) (by decide +kernel)
  | 4, _ => List.mem_of_getElem? (i := 58) (by decide +kernel)
  | 5, _ => List.mem_of_getElem? (i := 54) (by decide +kernel)
  | 6, _ => List.mem_of_getElem? (i := 53) (by decide +kernel)
  | 7, _ => List.mem_of_getElem? (i := 60) (by decide +kernel)
  | n + 8, h => absurd h (by omega)
abbrev MI : Type := MethodName × ByteArray × Nat × Option FieldType × List (Nat × Nat × Nat × Nat) × Nat × Nat
abbrev M_X_init : MI := (⟨cnm 6, "<init>", "()V"⟩, prog_1_method_1_code, 1, none, [], 4, 81)
abbrev M_T_init : MI := (⟨cnm 5, "<init>", "()V"⟩, prog_7_method_1_code, 1, none, [], 1, 20)
abbrev M_R_init : MI := (⟨cnm 3, "<init>", "()V"⟩, prog_5_method_1_code, 1, none, [], 3, 61)
abbrev M_P_init : MI := (⟨cnm 1, "<init>", "()V"⟩, prog_3_method_1_code, 1, none, [], 2, 41)
abbrev M_L_init : MI := (⟨cnm 2, "<init>", "(I)V"⟩, prog_4_method_1_code, 2, none, [], 1, 20)
abbrev M_S_init : MI := (⟨cnm 4, "<init>", "(LReelReader$Tape;LReelReader$Reel;)V"⟩, prog_6_method_1_code, 3, none, [], 2, 40)
abbrev M_B_init : MI := (⟨cnm 0, "<init>", "()V"⟩, prog_2_method_1_code, 1, none, [], 1, 20)
abbrev M_X_feed : MI := (⟨cnm 6, "feed", "(IIIII)I"⟩, prog_1_method_2_code, 7, some .int, [], 2, 47)
abbrev M_T_byteCount : MI := (⟨cnm 5, "byteCount", "()I"⟩, prog_7_method_2_code, 1, some .int, [], 0, 0)
abbrev M_T_cut : MI := (⟨cnm 5, "cut", "(I)Z"⟩, prog_7_method_3_code, 2, some .boolean, [], 1, 20)
abbrev M_T_append : MI := (⟨cnm 5, "append", "(II)I"⟩, prog_7_method_4_code, 4, some .int, [], 1, 24)
abbrev M_T_appendBit : MI := (⟨cnm 5, "appendBit", "(I)V"⟩, prog_7_method_5_code, 5, none, [], 0, 0)
abbrev M_X_end : MI := (⟨cnm 6, "end", "(I)Z"⟩, prog_1_method_3_code, 2, some .boolean, [], 2, 41)
abbrev M_X_bits : MI := (⟨cnm 6, "bits", "(II)I"⟩, prog_1_method_4_code, 3, some .int, [], 2, 47)
abbrev M_X_read : MI := (⟨cnm 6, "read", "()I"⟩, prog_1_method_5_code, 2, some .int, [(14, 54, 57, 61)], 12, 236)
abbrev M_R_clear : MI := (⟨cnm 3, "clear", "()V"⟩, prog_5_method_2_code, 1, none, [], 1, 23)
abbrev M_J_fill : MI := (⟨"java/util/Arrays", "fill", "([II)V"⟩, prog_16_method_103_code, 4, none, [], 0, 0)
abbrev M_T_rewind : MI := (⟨cnm 5, "rewind", "()V"⟩, prog_7_method_6_code, 1, none, [], 2, 41)
abbrev M_S_readSize : MI := (⟨cnm 4, "readSize", "()V"⟩, prog_6_method_2_code, 3, none, [], 9, 153)
abbrev M_T_expect : MI := (⟨cnm 5, "expect", "(II)V"⟩, prog_7_method_11_code, 4, none, [], 7, 110)
abbrev M_T_next : MI := (⟨cnm 5, "next", "()I"⟩, prog_7_method_8_code, 2, some .int, [], 6, 89)
abbrev M_T_failAt : MI := (⟨cnm 5, "failAt", "(I)V"⟩, prog_7_method_7_code, 2, none, [], 6, 89)
abbrev M_T_number : MI := (⟨cnm 5, "number", "(I)I"⟩, prog_7_method_9_code, 4, some .int, [], 7, 110)
abbrev M_R_setSize : MI := (⟨cnm 3, "setSize", "(II)V"⟩, prog_5_method_3_code, 3, none, [], 0, 0)
abbrev M_T_align : MI := (⟨cnm 5, "align", "()V"⟩, prog_7_method_12_code, 1, none, [], 8, 133)
abbrev M_S_pictureComes : MI := (⟨cnm 4, "pictureComes", "()Z"⟩, prog_6_method_3_code, 2, some .boolean, [], 8, 133)
abbrev M_S_readPicture : MI := (⟨cnm 4, "readPicture", "(I)V"⟩, prog_6_method_4_code, 4, none, [], 11, 213)
abbrev M_S_readHead : MI := (⟨cnm 4, "readHead", "()V"⟩, prog_6_method_5_code, 3, none, [], 9, 155)
abbrev M_T_nonZero : MI := (⟨cnm 5, "nonZero", "(I)I"⟩, prog_7_method_10_code, 3, some .int, [], 8, 133)
abbrev M_R_begin : MI := (⟨cnm 3, "begin", "(II)V"⟩, prog_5_method_4_code, 3, none, [], 2, 45)
abbrev M_P_resize : MI := (⟨cnm 1, "resize", "(II)V"⟩, prog_3_method_2_code, 4, none, [], 1, 22)
abbrev M_L_resize : MI := (⟨cnm 2, "resize", "(II)V"⟩, prog_4_method_2_code, 3, none, [], 0, 0)
abbrev M_S_passOver : MI := (⟨cnm 4, "passOver", "(II)I"⟩, prog_6_method_6_code, 5, some .int, [], 8, 135)
abbrev M_S_mostPassedInB : MI := (⟨cnm 4, "mostPassedInB", "(I)I"⟩, prog_6_method_7_code, 3, some .int, [], 0, 0)
abbrev M_T_unsigned : MI := (⟨cnm 5, "unsigned", "(I)I"⟩, prog_7_method_13_code, 6, some .int, [], 7, 110)
abbrev M_S_foretellSquare : MI := (⟨cnm 4, "foretellSquare", "(II)V"⟩, prog_6_method_11_code, 10, none, [], 3, 85)
abbrev M_S_forgetDcs : MI := (⟨cnm 4, "forgetDcs", "()V"⟩, prog_6_method_12_code, 1, none, [], 1, 23)
abbrev M_S_forgetVectors : MI := (⟨cnm 4, "forgetVectors", "()V"⟩, prog_6_method_13_code, 1, none, [], 1, 23)
abbrev M_L_foretell : MI := (⟨cnm 2, "foretell", "(LReelReader$Plane;II[IZ)V"⟩, prog_4_method_6_code, 12, none, [], 2, 54)
abbrev M_L_foretellLine : MI := (⟨cnm 2, "foretellLine", "(LReelReader$Plane;IIIZ)V"⟩, prog_4_method_7_code, 13, none, [], 1, 22)
abbrev M_X_held : MI := (⟨cnm 6, "held", "(III)I"⟩, prog_1_method_11_code, 3, some .int, [], 0, 0)
abbrev M_S_readSquare : MI := (⟨cnm 4, "readSquare", "(I)V"⟩, prog_6_method_8_code, 7, none, [], 10, 187)
abbrev M_S_readWays : MI := (⟨cnm 4, "readWays", "()I"⟩, prog_6_method_9_code, 1, some .int, [], 9, 155)
abbrev M_S_readVector : MI := (⟨cnm 4, "readVector", "([I)V"⟩, prog_6_method_10_code, 5, none, [], 9, 160)
abbrev M_T_signed : MI := (⟨cnm 5, "signed", "(II)I"⟩, prog_7_method_14_code, 6, some .int, [], 8, 135)
abbrev M_S_readBlock : MI := (⟨cnm 4, "readBlock", "(IZ)V"⟩, prog_6_method_14_code, 8, none, [], 9, 160)
abbrev M_B_clear : MI := (⟨cnm 0, "clear", "()V"⟩, prog_2_method_2_code, 1, none, [], 1, 23)
abbrev M_B_putDc : MI := (⟨cnm 0, "putDc", "(I)V"⟩, prog_2_method_3_code, 2, none, [], 1, 22)
abbrev M_B_put : MI := (⟨cnm 0, "put", "(II)V"⟩, prog_2_method_5_code, 3, none, [], 0, 0)
abbrev M_B_putLevel : MI := (⟨cnm 0, "putLevel", "(IIIZ)V"⟩, prog_2_method_4_code, 8, none, [], 1, 22)
abbrev M_S_drawBlock : MI := (⟨cnm 4, "drawBlock", "(IIZ)V"⟩, prog_6_method_15_code, 8, none, [], 2, 50)
abbrev M_B_makeSums : MI := (⟨cnm 0, "makeSums", "()V"⟩, prog_2_method_6_code, 2, none, [], 1, 24)
abbrev M_B_addRow : MI := (⟨cnm 0, "addRow", "(I)V"⟩, prog_2_method_7_code, 5, none, [], 0, 0)
abbrev M_L_draw : MI := (⟨cnm 2, "draw", "([IIIZ)V"⟩, prog_4_method_8_code, 9, none, [], 1, 22)
abbrev M_R_takeWhole : MI := (⟨cnm 3, "takeWhole", "()V"⟩, prog_5_method_5_code, 3, none, [], 4, 106)
abbrev M_R_show : MI := (⟨cnm 3, "show", "(LReelReader$Picture;)V"⟩, prog_5_method_7_code, 4, none, [], 3, 83)
abbrev M_P_copyFrom : MI := (⟨cnm 1, "copyFrom", "(LReelReader$Picture;)V"⟩, prog_3_method_3_code, 3, none, [], 2, 61)
abbrev M_L_copyFrom : MI := (⟨cnm 2, "copyFrom", "(LReelReader$Plane;)V"⟩, prog_4_method_3_code, 2, none, [], 1, 40)
abbrev M_R_finish : MI := (⟨cnm 3, "finish", "()V"⟩, prog_5_method_6_code, 1, none, [], 4, 106)
abbrev M_X_wrong : MI := (⟨cnm 6, "wrong", "()I"⟩, prog_1_method_6_code, 1, some .int, [], 0, 0)
abbrev M_X_dot : MI := (⟨cnm 6, "dot", "(IIII)I"⟩, prog_1_method_9_code, 6, some .int, [], 2, 44)
abbrev M_R_keptPlane : MI := (⟨cnm 3, "keptPlane", "(II)LReelReader$Plane;"⟩, prog_5_method_9_code, 4, some (.object "ReelReader$Plane"), [], 1, 21)
abbrev M_R_keptPicture : MI := (⟨cnm 3, "keptPicture", "(I)LReelReader$Picture;"⟩, prog_5_method_8_code, 2, some (.object "ReelReader$Picture"), [], 0, 0)
abbrev M_L_dotOrNone : MI := (⟨cnm 2, "dotOrNone", "(II)I"⟩, prog_4_method_4_code, 3, some .int, [], 0, 0)
abbrev M_X_sum : MI := (⟨cnm 6, "sum", "(II)I"⟩, prog_1_method_10_code, 4, some .int, [], 2, 44)
abbrev M_L_numberedTotal : MI := (⟨cnm 2, "numberedTotal", "()I"⟩, prog_4_method_5_code, 3, some .int, [], 0, 0)
abbrev M_W_look : MI := (⟨cnm 8, "look", "(LReelReader;I[J)I"⟩, method_3_code, 4, some .int, [(0, 9, 12, 13)], 7, 110)
abbrev M_X_look : MI := (⟨cnm 6, "look", "(I)I"⟩, prog_1_method_7_code, 2, some .int, [], 6, 89)
abbrev M_W_shown : MI := (⟨cnm 8, "shown", "(LReelReader;II[J)I"⟩, method_4_code, 5, some .int, [(0, 10, 13, 13)], 7, 112)
abbrev M_X_shown : MI := (⟨cnm 6, "shown", "(II)I"⟩, prog_1_method_8_code, 4, some .int, [], 6, 89)
abbrev M_M_thrown : MI := (⟨cnm 7, "thrown", "()I"⟩, prog_9_method_1_code, 1, some .int, [], 0, 0)
abbrev M_M_init : MI := (⟨cnm 7, "<init>", "()V"⟩, prog_9_method_20_code, 6, none, [], 1, 20)
abbrev M_M_feed : MI := (⟨cnm 7, "feed", "(IIIII)I"⟩, prog_9_method_38_code, 8, some .int, [], 1, 20)
abbrev M_M_taped : MI := (⟨cnm 7, "taped", "()I"⟩, prog_9_method_37_code, 1, some .int, [], 0, 0)
abbrev M_M_end : MI := (⟨cnm 7, "end", "(I)Z"⟩, prog_9_method_39_code, 2, some .boolean, [], 1, 20)
abbrev M_M_bits : MI := (⟨cnm 7, "bits", "(II)I"⟩, prog_9_method_40_code, 5, some .int, [], 0, 0)
abbrev M_M_read : MI := (⟨cnm 7, "read", "()I"⟩, prog_9_method_41_code, 3, some .int, [], 11, 252)
abbrev M_M_stream : MI := (⟨cnm 7, "stream", "()V"⟩, prog_9_method_36_code, 6, none, [], 10, 227)
abbrev M_M_isFirst : MI := (⟨cnm 7, "isFirst", "(III)Z"⟩, prog_9_method_9_code, 9, some .boolean, [], 2, 42)
abbrev M_M_bit : MI := (⟨cnm 7, "bit", "()I"⟩, prog_9_method_3_code, 2, some .int, [], 1, 21)
abbrev M_M_isWrong : MI := (⟨cnm 7, "isWrong", "(I)Z"⟩, prog_9_method_2_code, 2, some .boolean, [], 0, 0)
abbrev M_M_number : MI := (⟨cnm 7, "number", "(I)I"⟩, prog_9_method_4_code, 4, some .int, [], 2, 42)
abbrev M_M_align : MI := (⟨cnm 7, "align", "()V"⟩, prog_9_method_8_code, 2, none, [], 2, 42)
abbrev M_M_picture : MI := (⟨cnm 7, "picture", "()Z"⟩, prog_9_method_34_code, 2, some .boolean, [], 9, 206)
abbrev M_M_numberAbove : MI := (⟨cnm 7, "numberAbove", "(I)I"⟩, prog_9_method_5_code, 4, some .int, [], 3, 65)
abbrev M_M_allSquares : MI := (⟨cnm 7, "allSquares", "()Z"⟩, prog_9_method_33_code, 4, some .boolean, [], 8, 183)
abbrev M_M_readU : MI := (⟨cnm 7, "readU", "()I"⟩, prog_9_method_6_code, 3, some .int, [], 3, 65)
abbrev M_M_passes : MI := (⟨cnm 7, "passes", "(III)Z"⟩, prog_9_method_31_code, 6, some .boolean, [], 6, 151)
abbrev M_M_begins : MI := (⟨cnm 7, "begins", "()V"⟩, prog_9_method_32_code, 1, none, [], 1, 21)
abbrev M_M_resetDcs : MI := (⟨cnm 7, "resetDcs", "()V"⟩, prog_9_method_28_code, 2, none, [], 0, 0)
abbrev M_M_resetVectors : MI := (⟨cnm 7, "resetVectors", "()V"⟩, prog_9_method_27_code, 2, none, [], 0, 0)
abbrev M_M_foretells : MI := (⟨cnm 7, "foretells", "(I)V"⟩, prog_9_method_19_code, 6, none, [], 5, 126)
abbrev M_M_planeAt : MI := (⟨cnm 7, "planeAt", "(I)I"⟩, prog_9_method_12_code, 2, some .int, [], 0, 0)
abbrev M_M_planeWidth : MI := (⟨cnm 7, "planeWidth", "(I)I"⟩, prog_9_method_10_code, 2, some .int, [], 0, 0)
abbrev M_M_foretoldDot : MI := (⟨cnm 7, "foretoldDot", "(III)I"⟩, prog_9_method_18_code, 4, some .int, [], 4, 103)
abbrev M_M_forward : MI := (⟨cnm 7, "forward", "()[I"⟩, prog_9_method_17_code, 1, some (.array .int), [], 0, 0)
abbrev M_M_moved : MI := (⟨cnm 7, "moved", "([IIIII)I"⟩, prog_9_method_16_code, 8, some .int, [], 3, 76)
abbrev M_M_between : MI := (⟨cnm 7, "between", "([IIII)I"⟩, prog_9_method_15_code, 8, some .int, [], 2, 49)
abbrev M_M_dotOf : MI := (⟨cnm 7, "dotOf", "([IIII)I"⟩, prog_9_method_14_code, 9, some .int, [], 1, 21)
abbrev M_M_planeHeight : MI := (⟨cnm 7, "planeHeight", "(I)I"⟩, prog_9_method_11_code, 2, some .int, [], 0, 0)
abbrev M_M_square : MI := (⟨cnm 7, "square", "(I)Z"⟩, prog_9_method_30_code, 5, some .boolean, [], 7, 159)
abbrev M_M_vector : MI := (⟨cnm 7, "vector", "(I)Z"⟩, prog_9_method_29_code, 7, some .boolean, [], 5, 108)
abbrev M_M_readS : MI := (⟨cnm 7, "readS", "()I"⟩, prog_9_method_7_code, 2, some .int, [], 4, 87)
abbrev M_M_allBlocks : MI := (⟨cnm 7, "allBlocks", "(II)Z"⟩, prog_9_method_26_code, 7, some .boolean, [], 6, 133)
abbrev M_M_block : MI := (⟨cnm 7, "block", "(I)Z"⟩, prog_9_method_25_code, 6, some .boolean, [], 5, 108)
abbrev M_M_factor : MI := (⟨cnm 7, "factor", "(II)I"⟩, prog_9_method_23_code, 5, some .int, [], 1, 22)
abbrev M_M_held : MI := (⟨cnm 7, "held", "(III)I"⟩, prog_9_method_22_code, 3, some .int, [], 0, 0)
abbrev M_M_sums : MI := (⟨cnm 7, "sums", "(III)V"⟩, prog_9_method_24_code, 9, none, [], 1, 22)
abbrev M_M_wave : MI := (⟨cnm 7, "wave", "(II)I"⟩, prog_9_method_21_code, 2, some .int, [], 0, 0)
abbrev M_M_lands : MI := (⟨cnm 7, "lands", "(I)V"⟩, prog_9_method_35_code, 3, none, [], 1, 26)
abbrev M_M_shows : MI := (⟨cnm 7, "shows", "([IIIII)V"⟩, prog_9_method_13_code, 7, none, [], 0, 0)
abbrev M_M_wrong : MI := (⟨cnm 7, "wrong", "()I"⟩, prog_9_method_42_code, 1, some .int, [], 0, 0)
abbrev M_M_look : MI := (⟨cnm 7, "look", "(I)I"⟩, prog_9_method_43_code, 2, some .int, [], 0, 0)
abbrev M_M_shown : MI := (⟨cnm 7, "shown", "(II)I"⟩, prog_9_method_45_code, 3, some .int, [], 1, 21)
abbrev M_M_noPicture : MI := (⟨cnm 7, "noPicture", "(I)Z"⟩, prog_9_method_44_code, 2, some .boolean, [], 0, 0)
abbrev M_M_dot : MI := (⟨cnm 7, "dot", "(IIII)I"⟩, prog_9_method_47_code, 5, some .int, [], 2, 43)
abbrev M_M_noPlane : MI := (⟨cnm 7, "noPlane", "(II)Z"⟩, prog_9_method_46_code, 3, some .boolean, [], 1, 21)
abbrev M_M_sum : MI := (⟨cnm 7, "sum", "(II)I"⟩, prog_9_method_48_code, 5, some .int, [], 2, 43)
abbrev M_W_law : MI := (⟨cnm 8, "law", "([I)Z"⟩, code, 7, some .boolean, [], 15, 580)
def FL (own : String) (idx ci k : Nat) : Prop := ci < 8 ∧ k < cN ci ∧ Cond.fieldLink own idx (cnm ci) (cT ci k).2.1 (cT ci k).2.2.1 ∈ lw_tbl
theorem fX_10 : FL (cnm 6) 10 6 0 := ⟨by decide, by decide, List.mem_of_getElem? (i := 235) (by decide +kernel)⟩
theorem fX_19 : FL (cnm 6) 19 6 1 := ⟨by decide, by decide, List.mem_of_getElem? (i := 236) (by decide +kernel)⟩
theorem fX_28 : FL (cnm 6) 28 6 2 := ⟨by decide, by decide, List.mem_of_getElem? (i := 237) (by decide +kernel)⟩
theorem fX_66 : FL (cnm 6) 66 3 0 := ⟨by decide, by decide, List.mem_of_getElem? (i := 146) (by decide +kernel)⟩
theorem fX_70 : FL (cnm 6) 70 5 3 := ⟨by decide, by decide, List.mem_of_getElem? (i := 88) (by decide +kernel)⟩
theorem fX_81 : FL (cnm 6) 81 1 1 := ⟨by decide, by decide, List.mem_of_getElem? (i := 139) (by decide +kernel)⟩
theorem fB_7 : FL (cnm 0) 7 0 0 := ⟨by decide, by decide, List.mem_of_getElem? (i := 190) (by decide +kernel)⟩
theorem fB_13 : FL (cnm 0) 13 0 1 := ⟨by decide, by decide, List.mem_of_getElem? (i := 191) (by decide +kernel)⟩
theorem fB_22 : FL (cnm 0) 22 0 2 := ⟨by decide, by decide, List.mem_of_getElem? (i := 193) (by decide +kernel)⟩
theorem fB_26 : FL (cnm 0) 26 0 3 := ⟨by decide, by decide, List.mem_of_getElem? (i := 194) (by decide +kernel)⟩
theorem fP_12 : FL (cnm 1) 12 1 0 := ⟨by decide, by decide, List.mem_of_getElem? (i := 133) (by decide +kernel)⟩
theorem fP_18 : FL (cnm 1) 18 1 1 := ⟨by decide, by decide, List.mem_of_getElem? (i := 136) (by decide +kernel)⟩
theorem fL_9 : FL (cnm 2) 9 2 3 := ⟨by decide, by decide, List.mem_of_getElem? (i := 122) (by decide +kernel)⟩
theorem fL_15 : FL (cnm 2) 15 2 0 := ⟨by decide, by decide, List.mem_of_getElem? (i := 119) (by decide +kernel)⟩
theorem fL_19 : FL (cnm 2) 19 2 1 := ⟨by decide, by decide, List.mem_of_getElem? (i := 120) (by decide +kernel)⟩
theorem fL_22 : FL (cnm 2) 22 2 2 := ⟨by decide, by decide, List.mem_of_getElem? (i := 121) (by decide +kernel)⟩
theorem fR_9 : FL (cnm 3) 9 3 0 := ⟨by decide, by decide, List.mem_of_getElem? (i := 145) (by decide +kernel)⟩
theorem fR_17 : FL (cnm 3) 17 3 1 := ⟨by decide, by decide, List.mem_of_getElem? (i := 148) (by decide +kernel)⟩
theorem fR_21 : FL (cnm 3) 21 3 2 := ⟨by decide, by decide, List.mem_of_getElem? (i := 149) (by decide +kernel)⟩
theorem fR_25 : FL (cnm 3) 25 3 3 := ⟨by decide, by decide, List.mem_of_getElem? (i := 151) (by decide +kernel)⟩
theorem fR_29 : FL (cnm 3) 29 3 4 := ⟨by decide, by decide, List.mem_of_getElem? (i := 153) (by decide +kernel)⟩
theorem fR_33 : FL (cnm 3) 33 3 5 := ⟨by decide, by decide, List.mem_of_getElem? (i := 155) (by decide +kernel)⟩
theorem fR_36 : FL (cnm 3) 36 3 6 := ⟨by decide, by decide, List.mem_of_getElem? (i := 157) (by decide +kernel)⟩
theorem fR_45 : FL (cnm 3) 45 3 7 := ⟨by decide, by decide, List.mem_of_getElem? (i := 159) (by decide +kernel)⟩
theorem fR_52 : FL (cnm 3) 52 1 1 := ⟨by decide, by decide, List.mem_of_getElem? (i := 137) (by decide +kernel)⟩
theorem fR_72 : FL (cnm 3) 72 1 0 := ⟨by decide, by decide, List.mem_of_getElem? (i := 134) (by decide +kernel)⟩
theorem fS_12 : FL (cnm 4) 12 4 2 := ⟨by decide, by decide, List.mem_of_getElem? (i := 206) (by decide +kernel)⟩
theorem fS_18 : FL (cnm 4) 18 4 3 := ⟨by decide, by decide, List.mem_of_getElem? (i := 207) (by decide +kernel)⟩
theorem fS_22 : FL (cnm 4) 22 4 4 := ⟨by decide, by decide, List.mem_of_getElem? (i := 208) (by decide +kernel)⟩
theorem fS_25 : FL (cnm 4) 25 4 5 := ⟨by decide, by decide, List.mem_of_getElem? (i := 209) (by decide +kernel)⟩
theorem fS_28 : FL (cnm 4) 28 4 0 := ⟨by decide, by decide, List.mem_of_getElem? (i := 204) (by decide +kernel)⟩
theorem fS_32 : FL (cnm 4) 32 4 1 := ⟨by decide, by decide, List.mem_of_getElem? (i := 205) (by decide +kernel)⟩
theorem fS_61 : FL (cnm 4) 61 4 6 := ⟨by decide, by decide, List.mem_of_getElem? (i := 210) (by decide +kernel)⟩
theorem fS_68 : FL (cnm 4) 68 3 2 := ⟨by decide, by decide, List.mem_of_getElem? (i := 150) (by decide +kernel)⟩
theorem fS_71 : FL (cnm 4) 71 3 3 := ⟨by decide, by decide, List.mem_of_getElem? (i := 152) (by decide +kernel)⟩
theorem fS_85 : FL (cnm 4) 85 5 2 := ⟨by decide, by decide, List.mem_of_getElem? (i := 85) (by decide +kernel)⟩
theorem fS_91 : FL (cnm 4) 91 3 7 := ⟨by decide, by decide, List.mem_of_getElem? (i := 160) (by decide +kernel)⟩
theorem fS_97 : FL (cnm 4) 97 4 7 := ⟨by decide, by decide, List.mem_of_getElem? (i := 211) (by decide +kernel)⟩
theorem fS_100 : FL (cnm 4) 100 4 8 := ⟨by decide, by decide, List.mem_of_getElem? (i := 212) (by decide +kernel)⟩
theorem fS_109 : FL (cnm 4) 109 4 9 := ⟨by decide, by decide, List.mem_of_getElem? (i := 213) (by decide +kernel)⟩
theorem fS_115 : FL (cnm 4) 115 3 4 := ⟨by decide, by decide, List.mem_of_getElem? (i := 154) (by decide +kernel)⟩
theorem fS_119 : FL (cnm 4) 119 1 1 := ⟨by decide, by decide, List.mem_of_getElem? (i := 138) (by decide +kernel)⟩
theorem fS_124 : FL (cnm 4) 124 3 0 := ⟨by decide, by decide, List.mem_of_getElem? (i := 147) (by decide +kernel)⟩
theorem fS_151 : FL (cnm 4) 151 3 5 := ⟨by decide, by decide, List.mem_of_getElem? (i := 156) (by decide +kernel)⟩
theorem fS_154 : FL (cnm 4) 154 3 6 := ⟨by decide, by decide, List.mem_of_getElem? (i := 158) (by decide +kernel)⟩
theorem fS_157 : FL (cnm 4) 157 1 0 := ⟨by decide, by decide, List.mem_of_getElem? (i := 135) (by decide +kernel)⟩
theorem fS_186 : FL (cnm 4) 186 0 1 := ⟨by decide, by decide, List.mem_of_getElem? (i := 192) (by decide +kernel)⟩
theorem fT_11 : FL (cnm 5) 11 5 0 := ⟨by decide, by decide, List.mem_of_getElem? (i := 83) (by decide +kernel)⟩
theorem fT_15 : FL (cnm 5) 15 5 3 := ⟨by decide, by decide, List.mem_of_getElem? (i := 87) (by decide +kernel)⟩
theorem fT_19 : FL (cnm 5) 19 5 1 := ⟨by decide, by decide, List.mem_of_getElem? (i := 84) (by decide +kernel)⟩
theorem fT_34 : FL (cnm 5) 34 5 2 := ⟨by decide, by decide, List.mem_of_getElem? (i := 86) (by decide +kernel)⟩
theorem fM_1 : FL (cnm 7) 1 7 0 := ⟨by decide, by decide, List.mem_of_getElem? (i := 607) (by decide +kernel)⟩
theorem fM_7 : FL (cnm 7) 7 7 6 := ⟨by decide, by decide, List.mem_of_getElem? (i := 613) (by decide +kernel)⟩
theorem fM_10 : FL (cnm 7) 10 7 4 := ⟨by decide, by decide, List.mem_of_getElem? (i := 611) (by decide +kernel)⟩
theorem fM_13 : FL (cnm 7) 13 7 5 := ⟨by decide, by decide, List.mem_of_getElem? (i := 612) (by decide +kernel)⟩
theorem fM_20 : FL (cnm 7) 20 7 3 := ⟨by decide, by decide, List.mem_of_getElem? (i := 610) (by decide +kernel)⟩
theorem fM_35 : FL (cnm 7) 35 7 7 := ⟨by decide, by decide, List.mem_of_getElem? (i := 614) (by decide +kernel)⟩
theorem fM_38 : FL (cnm 7) 38 7 8 := ⟨by decide, by decide, List.mem_of_getElem? (i := 615) (by decide +kernel)⟩
theorem fM_41 : FL (cnm 7) 41 7 22 := ⟨by decide, by decide, List.mem_of_getElem? (i := 629) (by decide +kernel)⟩
theorem fM_44 : FL (cnm 7) 44 7 18 := ⟨by decide, by decide, List.mem_of_getElem? (i := 625) (by decide +kernel)⟩
theorem fM_47 : FL (cnm 7) 47 7 19 := ⟨by decide, by decide, List.mem_of_getElem? (i := 626) (by decide +kernel)⟩
theorem fM_64 : FL (cnm 7) 64 7 28 := ⟨by decide, by decide, List.mem_of_getElem? (i := 635) (by decide +kernel)⟩
theorem fM_70 : FL (cnm 7) 70 7 34 := ⟨by decide, by decide, List.mem_of_getElem? (i := 641) (by decide +kernel)⟩
theorem fM_73 : FL (cnm 7) 73 7 10 := ⟨by decide, by decide, List.mem_of_getElem? (i := 617) (by decide +kernel)⟩
theorem fM_76 : FL (cnm 7) 76 7 11 := ⟨by decide, by decide, List.mem_of_getElem? (i := 618) (by decide +kernel)⟩
theorem fM_79 : FL (cnm 7) 79 7 30 := ⟨by decide, by decide, List.mem_of_getElem? (i := 637) (by decide +kernel)⟩
theorem fM_83 : FL (cnm 7) 83 7 31 := ⟨by decide, by decide, List.mem_of_getElem? (i := 638) (by decide +kernel)⟩
theorem fM_94 : FL (cnm 7) 94 7 9 := ⟨by decide, by decide, List.mem_of_getElem? (i := 616) (by decide +kernel)⟩
theorem fM_107 : FL (cnm 7) 107 7 1 := ⟨by decide, by decide, List.mem_of_getElem? (i := 608) (by decide +kernel)⟩
theorem fM_111 : FL (cnm 7) 111 7 29 := ⟨by decide, by decide, List.mem_of_getElem? (i := 636) (by decide +kernel)⟩
theorem fM_114 : FL (cnm 7) 114 7 33 := ⟨by decide, by decide, List.mem_of_getElem? (i := 640) (by decide +kernel)⟩
theorem fM_117 : FL (cnm 7) 117 7 37 := ⟨by decide, by decide, List.mem_of_getElem? (i := 644) (by decide +kernel)⟩
theorem fM_120 : FL (cnm 7) 120 7 38 := ⟨by decide, by decide, List.mem_of_getElem? (i := 645) (by decide +kernel)⟩
theorem fM_123 : FL (cnm 7) 123 7 39 := ⟨by decide, by decide, List.mem_of_getElem? (i := 646) (by decide +kernel)⟩
theorem fM_126 : FL (cnm 7) 126 7 42 := ⟨by decide, by decide, List.mem_of_getElem? (i := 649) (by decide +kernel)⟩
theorem fM_132 : FL (cnm 7) 132 7 32 := ⟨by decide, by decide, List.mem_of_getElem? (i := 639) (by decide +kernel)⟩
theorem fM_135 : FL (cnm 7) 135 7 35 := ⟨by decide, by decide, List.mem_of_getElem? (i := 642) (by decide +kernel)⟩
theorem fM_151 : FL (cnm 7) 151 7 27 := ⟨by decide, by decide, List.mem_of_getElem? (i := 634) (by decide +kernel)⟩
theorem fM_157 : FL (cnm 7) 157 7 26 := ⟨by decide, by decide, List.mem_of_getElem? (i := 633) (by decide +kernel)⟩
theorem fM_164 : FL (cnm 7) 164 7 36 := ⟨by decide, by decide, List.mem_of_getElem? (i := 643) (by decide +kernel)⟩
theorem fM_181 : FL (cnm 7) 181 7 24 := ⟨by decide, by decide, List.mem_of_getElem? (i := 631) (by decide +kernel)⟩
theorem fM_184 : FL (cnm 7) 184 7 40 := ⟨by decide, by decide, List.mem_of_getElem? (i := 647) (by decide +kernel)⟩
theorem fM_196 : FL (cnm 7) 196 7 25 := ⟨by decide, by decide, List.mem_of_getElem? (i := 632) (by decide +kernel)⟩
theorem fM_199 : FL (cnm 7) 199 7 41 := ⟨by decide, by decide, List.mem_of_getElem? (i := 648) (by decide +kernel)⟩
theorem fM_212 : FL (cnm 7) 212 7 12 := ⟨by decide, by decide, List.mem_of_getElem? (i := 619) (by decide +kernel)⟩
theorem fM_215 : FL (cnm 7) 215 7 13 := ⟨by decide, by decide, List.mem_of_getElem? (i := 620) (by decide +kernel)⟩
theorem fM_222 : FL (cnm 7) 222 7 23 := ⟨by decide, by decide, List.mem_of_getElem? (i := 630) (by decide +kernel)⟩
theorem fM_229 : FL (cnm 7) 229 7 14 := ⟨by decide, by decide, List.mem_of_getElem? (i := 621) (by decide +kernel)⟩
theorem fM_232 : FL (cnm 7) 232 7 15 := ⟨by decide, by decide, List.mem_of_getElem? (i := 622) (by decide +kernel)⟩
theorem fM_235 : FL (cnm 7) 235 7 16 := ⟨by decide, by decide, List.mem_of_getElem? (i := 623) (by decide +kernel)⟩
theorem fM_238 : FL (cnm 7) 238 7 17 := ⟨by decide, by decide, List.mem_of_getElem? (i := 624) (by decide +kernel)⟩
theorem fM_244 : FL (cnm 7) 244 7 20 := ⟨by decide, by decide, List.mem_of_getElem? (i := 627) (by decide +kernel)⟩
theorem fM_247 : FL (cnm 7) 247 7 21 := ⟨by decide, by decide, List.mem_of_getElem? (i := 628) (by decide +kernel)⟩
theorem fM_255 : FL (cnm 7) 255 7 2 := ⟨by decide, by decide, List.mem_of_getElem? (i := 609) (by decide +kernel)⟩
