def RX0 : String := "SumDoor$Gaol"
def TX0 : u_T := fun k => match k with
  | 0 => ("SumDoor$Gaol", "skill", "[I", true)
  | 1 => ("SumDoor$Gaol", "chalk", "[I", true)
  | 2 => ("SumDoor$Gaol", "price", "[I", true)
  | 3 => ("SumDoor$Gaol", "cell", "[I", true)
  | 4 => ("SumDoor$Gaol", "may", "[I", true)
  | 5 => ("SumDoor$Gaol", "number", "[I", true)
  | 6 => ("SumDoor$Gaol", "answer", "[I", true)
  | 7 => ("SumDoor$Gaol", "work", "[I", true)
  | 8 => ("SumDoor$Gaol", "isOut", "[I", true)
  | 9 => ("SumDoor$Gaol", "theSum", "I", false)
  | 10 => ("SumDoor$Gaol", "rich", "I", false)
  | 11 => ("SumDoor$Gaol", "minute", "I", false)
  | _ => ("SumDoor$Gaol", "isMoved", "Z", false)
def tyX0 : Nat → FieldType := fun k => match k with
  | 0 => .array .int
  | 1 => .array .int
  | 2 => .array .int
  | 3 => .array .int
  | 4 => .array .int
  | 5 => .array .int
  | 6 => .array .int
  | 7 => .array .int
  | 8 => .array .int
  | 9 => .int
  | 10 => .int
  | 11 => .int
  | _ => .boolean
theorem nmX0 : ∀ a, a < 13 → ∀ b, b < 13 → a ≠ b → (TX0 a).2.1 ≠ (TX0 b).2.1 := by decide +kernel
theorem tyX0_ok : ∀ k, k < 13 → parseFieldDescriptor (TX0 k).2.2.1 = some (tyX0 k) := by decide +kernel
def RX1 : String := "SumDoor$Sheet"
def TX1 : u_T := fun k => match k with
  | 0 => ("SumDoor$Sheet", "numbers", "[I", true)
  | 1 => ("SumDoor$Sheet", "bits", "I", false)
  | _ => ("SumDoor$Sheet", "length", "I", false)
def tyX1 : Nat → FieldType := fun k => match k with
  | 0 => .array .int
  | 1 => .int
  | _ => .int
theorem nmX1 : ∀ a, a < 3 → ∀ b, b < 3 → a ≠ b → (TX1 a).2.1 ≠ (TX1 b).2.1 := by decide +kernel
theorem tyX1_ok : ∀ k, k < 3 → parseFieldDescriptor (TX1 k).2.2.1 = some (tyX1 k) := by decide +kernel
def RX2 : String := "SumDoor$Side"
def TX2 : u_T := fun k => match k with
  | 0 => ("SumDoor$Side", "steps", "[I", true)
  | 1 => ("SumDoor$Side", "length", "I", false)
  | 2 => ("SumDoor$Side", "pile", "[I", true)
  | _ => ("SumDoor$Side", "height", "I", false)
def tyX2 : Nat → FieldType := fun k => match k with
  | 0 => .array .int
  | 1 => .int
  | 2 => .array .int
  | _ => .int
theorem nmX2 : ∀ a, a < 4 → ∀ b, b < 4 → a ≠ b → (TX2 a).2.1 ≠ (TX2 b).2.1 := by decide +kernel
theorem tyX2_ok : ∀ k, k < 4 → parseFieldDescriptor (TX2 k).2.2.1 = some (tyX2 k) := by decide +kernel
def RX3 : String := "SumDoor$Sums"
def TX3 : u_T := fun k => match k with
  | 0 => ("SumDoor$Sums", "texts", "[LSumDoor$Text;", true)
  | 1 => ("SumDoor$Sums", "kinds", "[I", true)
  | 2 => ("SumDoor$Sums", "ms", "[I", true)
  | _ => ("SumDoor$Sums", "size", "I", false)
def tyX3 : Nat → FieldType := fun k => match k with
  | 0 => .array (.object "SumDoor$Text")
  | 1 => .array .int
  | 2 => .array .int
  | _ => .int
theorem nmX3 : ∀ a, a < 4 → ∀ b, b < 4 → a ≠ b → (TX3 a).2.1 ≠ (TX3 b).2.1 := by decide +kernel
theorem tyX3_ok : ∀ k, k < 4 → parseFieldDescriptor (TX3 k).2.2.1 = some (tyX3 k) := by decide +kernel
def RX4 : String := "SumDoor$Tape"
def TX4 : u_T := fun k => match k with
  | 0 => ("SumDoor$Tape", "bytes", "[I", true)
  | 1 => ("SumDoor$Tape", "length", "I", false)
  | 2 => ("SumDoor$Tape", "wantsOperand", "Z", false)
  | 3 => ("SumDoor$Tape", "digits", "I", false)
  | 4 => ("SumDoor$Tape", "open", "I", false)
  | _ => ("SumDoor$Tape", "isParted", "Z", false)
def tyX4 : Nat → FieldType := fun k => match k with
  | 0 => .array .int
  | 1 => .int
  | 2 => .boolean
  | 3 => .int
  | 4 => .int
  | _ => .boolean
theorem nmX4 : ∀ a, a < 6 → ∀ b, b < 6 → a ≠ b → (TX4 a).2.1 ≠ (TX4 b).2.1 := by decide +kernel
theorem tyX4_ok : ∀ k, k < 6 → parseFieldDescriptor (TX4 k).2.2.1 = some (tyX4 k) := by decide +kernel
def RX5 : String := "SumDoor$Text"
def TX5 : u_T := fun k => match k with
  | 0 => ("SumDoor$Text", "left", "LSumDoor$Side;", true)
  | 1 => ("SumDoor$Text", "right", "LSumDoor$Side;", true)
  | 2 => ("SumDoor$Text", "lefts", "[I", true)
  | 3 => ("SumDoor$Text", "rights", "[I", true)
  | _ => ("SumDoor$Text", "marks", "I", true)
def tyX5 : Nat → FieldType := fun k => match k with
  | 0 => .object "SumDoor$Side"
  | 1 => .object "SumDoor$Side"
  | 2 => .array .int
  | 3 => .array .int
  | _ => .int
theorem nmX5 : ∀ a, a < 5 → ∀ b, b < 5 → a ≠ b → (TX5 a).2.1 ≠ (TX5 b).2.1 := by decide +kernel
theorem tyX5_ok : ∀ k, k < 5 → parseFieldDescriptor (TX5 k).2.2.1 = some (tyX5 k) := by decide +kernel
def RX6 : String := "SumDoor$World"
def TX6 : u_T := fun k => match k with
  | 0 => ("SumDoor$World", "sums", "LSumDoor$Sums;", true)
  | 1 => ("SumDoor$World", "gaol", "LSumDoor$Gaol;", true)
  | 2 => ("SumDoor$World", "spots", "[I", true)
  | _ => ("SumDoor$World", "z", "I", false)
def tyX6 : Nat → FieldType := fun k => match k with
  | 0 => .object "SumDoor$Sums"
  | 1 => .object "SumDoor$Gaol"
  | 2 => .array .int
  | _ => .int
theorem nmX6 : ∀ a, a < 4 → ∀ b, b < 4 → a ≠ b → (TX6 a).2.1 ≠ (TX6 b).2.1 := by decide +kernel
theorem tyX6_ok : ∀ k, k < 4 → parseFieldDescriptor (TX6 k).2.2.1 = some (tyX6 k) := by decide +kernel
def RX7 : String := "SumDoor"
def TX7 : u_T := fun k => match k with
  | 0 => ("SumDoor", "tape", "LSumDoor$Tape;", true)
  | 1 => ("SumDoor", "now", "LSumDoor$World;", true)
  | 2 => ("SumDoor", "kept", "LSumDoor$World;", true)
  | 3 => ("SumDoor", "trial", "LSumDoor$Gaol;", true)
  | 4 => ("SumDoor", "sheets", "[LSumDoor$Sheet;", true)
  | 5 => ("SumDoor", "letsBySum", "[I", true)
  | 6 => ("SumDoor", "told", "[I", true)
  | _ => ("SumDoor", "isKept", "Z", false)
def tyX7 : Nat → FieldType := fun k => match k with
  | 0 => .object "SumDoor$Tape"
  | 1 => .object "SumDoor$World"
  | 2 => .object "SumDoor$World"
  | 3 => .object "SumDoor$Gaol"
  | 4 => .array (.object "SumDoor$Sheet")
  | 5 => .array .int
  | 6 => .array .int
  | _ => .boolean
theorem nmX7 : ∀ a, a < 8 → ∀ b, b < 8 → a ≠ b → (TX7 a).2.1 ≠ (TX7 b).2.1 := by decide +kernel
theorem tyX7_ok : ∀ k, k < 8 → parseFieldDescriptor (TX7 k).2.2.1 = some (tyX7 k) := by decide +kernel
def RX8 : String := "SumDoorModel"
def TX8 : u_T := fun k => match k with
  | 0 => ("SumDoorModel", "s", "[I", true)
  | 1 => ("SumDoorModel", "keptS", "[I", true)
  | 2 => ("SumDoorModel", "other", "[I", true)
  | 3 => ("SumDoorModel", "statuses", "[I", true)
  | 4 => ("SumDoorModel", "isKept", "Z", false)
  | 5 => ("SumDoorModel", "tape", "[I", true)
  | 6 => ("SumDoorModel", "put", "[I", true)
  | 7 => ("SumDoorModel", "done", "[I", true)
  | 8 => ("SumDoorModel", "taped", "I", false)
  | 9 => ("SumDoorModel", "putMany", "I", false)
  | 10 => ("SumDoorModel", "doneMany", "I", false)
  | 11 => ("SumDoorModel", "open", "I", false)
  | 12 => ("SumDoorModel", "sides", "I", false)
  | 13 => ("SumDoorModel", "digits", "I", false)
  | 14 => ("SumDoorModel", "firstLength", "I", false)
  | 15 => ("SumDoorModel", "isWanted", "Z", false)
  | 16 => ("SumDoorModel", "stack", "[I", true)
  | 17 => ("SumDoorModel", "shown", "[I", true)
  | 18 => ("SumDoorModel", "letSets", "[I", true)
  | 19 => ("SumDoorModel", "bitsOf", "[I", true)
  | 20 => ("SumDoorModel", "sizeOf", "[I", true)
  | 21 => ("SumDoorModel", "number", "[I", true)
  | _ => ("SumDoorModel", "moved", "[I", true)
def tyX8 : Nat → FieldType := fun k => match k with
  | 0 => .array .int
  | 1 => .array .int
  | 2 => .array .int
  | 3 => .array .int
  | 4 => .boolean
  | 5 => .array .int
  | 6 => .array .int
  | 7 => .array .int
  | 8 => .int
  | 9 => .int
  | 10 => .int
  | 11 => .int
  | 12 => .int
  | 13 => .int
  | 14 => .int
  | 15 => .boolean
  | 16 => .array .int
  | 17 => .array .int
  | 18 => .array .int
  | 19 => .array .int
  | 20 => .array .int
  | 21 => .array .int
  | _ => .array .int
theorem nmX8 : ∀ a, a < 23 → ∀ b, b < 23 → a ≠ b → (TX8 a).2.1 ≠ (TX8 b).2.1 := by decide +kernel
theorem tyX8_ok : ∀ k, k < 23 → parseFieldDescriptor (TX8 k).2.2.1 = some (tyX8 k) := by decide +kernel
abbrev sd_cl : List vw_C := [(RX0, TX0, 13), (RX1, TX1, 3), (RX2, TX2, 4), (RX3, TX3, 4), (RX4, TX4, 6), (RX5, TX5, 5), (RX6, TX6, 4), (RX7, TX7, 8), (RX8, TX8, 23)]
/-- kinds of the fields: 0 int, 1 boolean, 2 a reference -/
def sd_fk : List (List Nat) := [[2, 2, 2, 2, 2, 2, 2, 2, 2, 0, 0, 0, 1], [2, 0, 0], [2, 0, 2, 0], [2, 2, 2, 0], [2, 0, 1, 0, 0, 1], [2, 2, 2, 2, 0], [2, 2, 2, 0], [2, 2, 2, 2, 2, 2, 2, 1], [2, 2, 2, 2, 1, 2, 2, 2, 0, 0, 0, 0, 0, 0, 0, 1, 2, 2, 2, 2, 2, 2, 2]]
/-- final fields -/
def sd_ff : List (List Bool) := [[true, true, true, true, true, true, true, true, true, false, false, false, false], [true, false, false], [true, false, true, false], [true, true, true, false], [true, false, false, false, false, false], [true, true, true, true, true], [true, true, true, false], [true, true, true, true, true, true, true, false], [true, true, true, true, false, true, true, true, false, false, false, false, false, false, false, false, true, true, true, true, true, true, true]]
def sd_own : List String := ["SumDoor$Gaol", "SumDoor$Sheet", "SumDoor$Side", "SumDoor$Sums", "SumDoor$Tape", "SumDoor$Text", "SumDoor$World", "SumDoor", "SumDoorModel", "SumDoorLaw", "java/lang/Integer", "java/lang/Math", "java/util/Arrays"]
def sd_ft : List (List (Nat × Nat × Nat × Bool)) := [[(9, 0, 0, false), (15, 0, 1, false), (18, 0, 2, false), (21, 0, 3, false), (24, 0, 4, false), (27, 0, 5, false), (30, 0, 6, false), (33, 0, 7, false), (36, 0, 8, false), (39, 0, 9, false), (43, 0, 10, false), (46, 0, 11, false), (49, 0, 12, false)],
  [(9, 1, 0, false), (15, 1, 1, false), (19, 1, 2, false)],
  [(9, 2, 0, false), (15, 2, 1, false), (19, 2, 2, false), (22, 2, 3, false)],
  [(11, 3, 0, false), (17, 3, 1, false), (21, 3, 2, false), (24, 3, 3, false), (32, 5, 4, true), (39, 5, 0, true), (49, 5, 1, true), (56, 5, 2, true), (59, 5, 3, true)],
  [(9, 4, 0, false), (15, 4, 1, false), (19, 4, 2, false), (23, 4, 3, false), (26, 4, 4, false), (29, 4, 5, false)],
  [(9, 5, 2, false), (15, 5, 3, false), (18, 4, 1, true), (24, 4, 0, true), (34, 5, 4, false), (42, 5, 0, false), (46, 5, 1, false)],
  [(12, 6, 0, false), (21, 6, 1, false), (25, 6, 2, false), (29, 6, 3, false)],
  [(10, 7, 0, false), (19, 7, 1, false), (23, 7, 2, false), (29, 7, 3, false), (35, 7, 4, false), (39, 7, 5, false), (43, 7, 6, false), (46, 7, 7, false), (60, 4, 1, true), (73, 6, 0, true), (77, 3, 3, true), (97, 3, 1, true), (100, 3, 2, true), (135, 6, 1, true), (142, 0, 9, true), (148, 0, 10, true), (161, 0, 0, true), (168, 0, 11, true), (190, 0, 8, true), (216, 6, 3, true), (222, 6, 2, true), (237, 1, 2, true), (245, 1, 1, true), (251, 1, 0, true), (269, 0, 6, true)],
  [(7, 8, 0, false), (13, 8, 1, false), (16, 8, 2, false), (19, 8, 3, false), (22, 8, 5, false), (25, 8, 6, false), (28, 8, 7, false), (31, 8, 16, false), (34, 8, 17, false), (37, 8, 18, false), (40, 8, 19, false), (43, 8, 20, false), (46, 8, 21, false), (49, 8, 22, false), (72, 8, 8, false), (77, 8, 9, false), (83, 8, 10, false), (90, 8, 13, false), (93, 8, 15, false), (108, 8, 11, false), (111, 8, 12, false), (114, 8, 14, false), (245, 8, 4, false)],
  [],
  [],
  [],
  []]
def sd_ct : List (List (Nat × Nat × Nat × Nat × Nat)) := [[(3, 6, 0, 0, 0), (53, 0, 12, 0, 2), (59, 1, 0, 1, 1), (63, 7, 0, 0, 0), (69, 0, 0, 7, 2), (73, 3, 7, 46, 1), (77, 0, 11, 1, 2), (83, 0, 11, 0, 2), (86, 4, 3, 4, 1), (92, 4, 3, 1, 1), (95, 1, 0, 6, 0), (99, 1, 0, 4, 0), (102, 1, 0, 14, 3), (106, 1, 0, 15, 1), (110, 1, 0, 17, 2), (114, 1, 0, 19, 1), (117, 1, 0, 12, 1), (120, 4, 3, 6, 2), (124, 1, 0, 16, 0), (127, 1, 0, 9, 2), (130, 1, 0, 13, 1), (133, 1, 0, 18, 2)],
  [(3, 6, 0, 0, 0), (22, 0, 12, 0, 2), (28, 1, 1, 4, 1)],
  [(3, 6, 0, 0, 0), (25, 0, 11, 0, 2), (31, 3, 4, 5, 1), (37, 1, 2, 1, 1), (41, 1, 2, 5, 1), (44, 1, 2, 4, 1), (47, 1, 2, 2, 1), (50, 1, 2, 6, 1), (53, 0, 2, 3, 1), (57, 0, 2, 8, 3)],
  [(3, 6, 0, 0, 0), (28, 1, 3, 1, 1), (35, 3, 7, 50, 2), (43, 4, 2, 7, 1), (52, 1, 3, 8, 3), (62, 0, 3, 9, 2), (65, 3, 7, 43, 3)],
  [(3, 6, 0, 0, 0), (32, 1, 4, 3, 1), (36, 1, 4, 4, 1), (39, 0, 4, 5, 1), (42, 0, 4, 6, 1)],
  [(3, 6, 0, 0, 0), (27, 3, 4, 5, 1), (31, 3, 4, 6, 1), (39, 5, 2, 0, 3), (49, 4, 2, 7, 1)],
  [(3, 6, 0, 0, 0), (11, 5, 3, 0, 0), (20, 5, 0, 0, 0), (33, 0, 12, 0, 2), (39, 4, 3, 3, 1), (43, 4, 0, 2, 1), (46, 7, 0, 0, 0)],
  [(1, 6, 0, 0, 0), (9, 5, 4, 0, 0), (18, 5, 6, 0, 0), (28, 5, 0, 0, 0), (50, 5, 1, 0, 0), (51, 0, 7, 43, 3), (56, 1, 7, 42, 1), (65, 4, 4, 1, 1), (69, 0, 7, 44, 1), (82, 4, 4, 2, 0), (88, 5, 5, 0, 1), (91, 4, 3, 2, 3), (94, 1, 7, 48, 1), (103, 4, 3, 4, 1), (106, 4, 3, 7, 2), (110, 0, 7, 51, 3), (114, 4, 3, 5, 3), (118, 0, 7, 45, 1), (121, 4, 3, 6, 2), (126, 0, 7, 46, 1), (138, 4, 0, 1, 1), (145, 4, 0, 3, 1), (151, 4, 6, 2, 0), (154, 4, 0, 9, 2), (158, 4, 0, 8, 0), (165, 4, 0, 10, 2), (171, 4, 0, 4, 0), (174, 0, 10, 0, 1), (179, 4, 0, 11, 2), (183, 4, 0, 2, 1), (187, 4, 0, 6, 0), (193, 1, 7, 53, 2), (196, 4, 0, 5, 0), (199, 1, 7, 54, 1), (202, 1, 7, 52, 1), (205, 0, 11, 1, 2), (210, 1, 7, 55, 2), (213, 1, 7, 56, 3), (219, 0, 7, 47, 1), (226, 0, 7, 50, 2), (230, 1, 7, 49, 1), (234, 4, 1, 2, 2), (238, 4, 1, 1, 0), (242, 4, 1, 3, 2), (248, 4, 1, 5, 2), (254, 7, 0, 0, 0), (260, 4, 6, 1, 1), (266, 4, 3, 1, 1), (272, 4, 0, 14, 3)],
  [(1, 6, 0, 0, 0), (52, 0, 8, 3, 2), (57, 0, 8, 1, 3), (68, 1, 8, 2, 1), (80, 0, 8, 14, 1), (97, 1, 8, 17, 2), (101, 0, 8, 13, 1), (104, 1, 8, 15, 1), (117, 1, 8, 16, 1), (123, 1, 8, 18, 0), (127, 1, 8, 19, 0), (130, 1, 8, 7, 2), (133, 0, 8, 21, 3), (137, 1, 8, 22, 3), (140, 1, 8, 23, 2), (144, 1, 8, 4, 1), (149, 1, 8, 24, 1), (152, 1, 8, 25, 1), (155, 0, 8, 6, 1), (163, 0, 8, 5, 1), (166, 0, 8, 33, 2), (171, 1, 8, 36, 0), (176, 1, 8, 10, 0), (179, 1, 8, 39, 0), (183, 1, 8, 43, 1), (186, 1, 8, 42, 1), (189, 1, 8, 44, 1), (192, 1, 8, 45, 1), (195, 1, 8, 46, 0), (200, 1, 8, 48, 0), (203, 0, 8, 9, 1), (206, 1, 8, 47, 1), (213, 1, 8, 52, 0), (216, 1, 8, 53, 0), (219, 1, 8, 56, 2), (222, 1, 8, 58, 0), (225, 1, 8, 59, 2), (228, 0, 8, 8, 2), (235, 0, 8, 69, 1), (239, 1, 8, 72, 1), (242, 0, 8, 71, 2)],
  [(9, 2, 7, 0, 0), (12, 2, 8, 0, 0), (13, 1, 7, 1, 2), (17, 1, 8, 11, 2), (18, 1, 7, 2, 0), (22, 1, 8, 12, 0), (23, 1, 7, 3, 2), (26, 1, 8, 20, 2), (27, 1, 7, 4, 2), (30, 1, 8, 26, 2), (31, 1, 7, 5, 3), (35, 1, 8, 27, 3), (36, 1, 7, 6, 3), (39, 1, 8, 28, 3), (40, 1, 7, 7, 2), (43, 1, 8, 29, 2), (44, 1, 7, 8, 2), (47, 1, 8, 30, 2), (48, 1, 7, 9, 2), (51, 1, 8, 31, 2), (52, 1, 7, 10, 1), (56, 1, 8, 32, 1), (57, 1, 7, 11, 3), (60, 1, 8, 34, 3), (61, 1, 7, 12, 2), (64, 1, 8, 35, 2), (65, 1, 7, 13, 1), (68, 1, 8, 37, 1), (69, 1, 7, 14, 1), (72, 1, 8, 38, 1), (73, 1, 7, 15, 1), (76, 1, 8, 40, 1), (77, 1, 7, 16, 2), (80, 1, 8, 41, 2), (81, 1, 7, 17, 1), (84, 1, 8, 49, 1), (85, 1, 7, 18, 0), (88, 1, 8, 50, 0), (89, 1, 7, 19, 0), (92, 1, 8, 51, 0), (93, 1, 7, 20, 2), (96, 1, 8, 54, 2), (97, 1, 7, 21, 1), (100, 1, 8, 55, 1), (101, 1, 7, 22, 2), (104, 1, 8, 57, 2), (105, 1, 7, 23, 1), (108, 1, 8, 60, 1), (109, 1, 7, 24, 2), (112, 1, 8, 61, 2), (113, 1, 7, 25, 1), (116, 1, 8, 62, 1), (117, 1, 7, 26, 3), (120, 1, 8, 63, 3), (121, 1, 7, 27, 1), (124, 1, 8, 64, 1), (125, 1, 7, 28, 2), (128, 1, 8, 65, 2), (129, 1, 7, 29, 1), (132, 1, 8, 66, 1), (133, 1, 7, 30, 2), (136, 1, 8, 67, 2), (137, 1, 7, 31, 2), (140, 1, 8, 68, 2), (141, 1, 7, 32, 3), (144, 1, 8, 70, 3), (145, 1, 7, 33, 3), (148, 1, 8, 73, 3), (149, 1, 7, 34, 5), (153, 1, 8, 74, 5), (154, 1, 7, 35, 1), (157, 1, 8, 75, 1), (158, 1, 7, 36, 2), (161, 1, 8, 76, 2), (162, 1, 7, 37, 0), (165, 1, 8, 77, 0), (166, 1, 7, 38, 0), (169, 1, 8, 78, 0), (170, 1, 7, 39, 0), (173, 1, 8, 79, 0), (174, 1, 7, 40, 1), (177, 1, 8, 80, 1), (178, 1, 7, 41, 1), (181, 1, 8, 81, 1)],
  [],
  [],
  []]
def sd_kt : List (List (Nat × Int32)) := [[],
  [],
  [],
  [],
  [],
  [],
  [(52, (1103515245))],
  [(55, (-1000001)), (64, (-1000002)), (125, (-1000004)), (164, (-1000005)), (225, (-1000006)), (229, (-1000003)), (233, (-1000007))],
  [(56, (-1000001)), (65, (1103515245)), (76, (-1000002)), (158, (-1000004)), (182, (-1000005)), (233, (-1000006)), (234, (-1000003)), (238, (-1000007))],
  [],
  [(265, (1431655765)), (266, (858993459)), (267, (252645135))],
  [],
  []]
def sd_lt : List (List (Nat × Int64)) := [[],
  [],
  [],
  [],
  [],
  [],
  [],
  [],
  [(61, (9)), (63, (99)), (66, (4)), (86, (48)), (88, (57)), (121, (6)), (147, (3)), (159, (999)), (161, (19)), (169, (8)), (174, (10)), (198, (100)), (209, (200)), (211, (2)), (231, (480)), (248, (-1))],
  [],
  [],
  [],
  []]
def sd_nt : List (List (Nat × Nat)) := [[],
  [],
  [],
  [(9, 5)],
  [],
  [(37, 2)],
  [(9, 3), (18, 0)],
  [(7, 4), (16, 6), (26, 0), (33, 1), (86, 5)],
  [],
  [(7, 7), (10, 8)],
  [],
  [],
  []]
def sd_st : List (List (Nat × Nat)) := [[],
  [],
  [],
  [],
  [],
  [],
  [],
  [(129, 1), (132, 2), (263, 0)],
  [],
  [],
  [],
  [],
  []]
