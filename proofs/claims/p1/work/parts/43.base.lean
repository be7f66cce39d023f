def nfl : List Cond := flatC (Jvm.Cond.and given_1 narrow_1)
def nis (i : Nat) (w : Cond) : Bool := match nfl[i]? with
  | some v => decide (v = w)
  | none => false
theorem nis_mem {i : Nat} {w : Cond} (h : nis i w = true) : w ∈ nfl := by
  unfold nis at h
  split at h
  · rename_i v hv
    rw [← of_decide_eq_true h]
    exact List.mem_of_getElem? hv
  · cases h
def nSt : List (String × Nat × Nat × Nat × Nat × Nat × Nat × List Nat) := [("TypedDescent$Text", 23, 9, 10, 11, 12, 37, [13, 14, 15, 16, 17, 18, 19, 20, 21, 22, 23, 24, 25, 26, 27, 28, 29, 30, 31, 32, 33, 34, 35, 36, 37, 38, 39, 40, 41, 42, 43]), ("TypedDescent$Text", 32, 44, 45, 46, 47, 93, [48, 49, 50, 51, 52, 53, 54, 55, 56, 57, 58, 59, 60, 61, 62, 63, 64, 65, 66, 67, 68, 69, 70, 71, 72, 73, 74, 75, 76, 77, 78, 79, 80, 81, 82, 83, 84, 85, 86, 87, 88, 89, 90, 91, 92, 93, 94, 95, 96, 97, 98, 99, 100, 101, 102, 103, 104, 105, 106, 107, 108, 109, 110, 111, 112, 113, 114, 115, 116, 117, 118]), ("TypedDescent$Text", 37, 120, 121, 122, 123, 94, [124, 125, 126, 127, 128, 129, 130, 131, 132, 133, 134, 135, 136, 137, 138, 139, 140, 141, 142, 143, 144, 145, 146, 147, 148, 149, 150, 151, 152, 153, 154, 155, 156, 157, 158, 159, 160, 161, 162, 163, 164, 165, 166, 167, 168, 169, 170, 171, 172, 173, 174]), ("TypedDescent$Text", 123, 177, 178, 179, 180, 2101, [181, 182, 183, 184, 185, 186, 187, 188, 189, 190, 191, 192, 193, 194, 195, 196, 197, 198]), ("TypedDescent$Kinds", 140, 202, 203, 204, 205, 4154, [206, 207, 208]), ("TypedDescent$Kinds", 162, 213, 214, 215, 216, 4179, []), ("TypedDescent$Kinds", 164, 222, 223, 224, 225, 4180, [226]), ("TypedDescent$Kinds", 166, 233, 234, 235, 236, 4181, [237]), ("TypedDescent$Kinds", 153, 245, 246, 247, 248, 4182, [249, 250]), ("TypedDescent$Kinds", 155, 259, 260, 261, 262, 4183, [263, 264, 265, 266]), ("TypedDescent$Kinds", 157, 276, 277, 278, 279, 4184, [280]), ("TypedDescent$Kinds", 168, 291, 292, 293, 294, 4189, [295]), ("TypedDescent$Kinds", 170, 307, 308, 309, 310, 4190, [311]), ("TypedDescent$Kinds", 172, 324, 325, 326, 327, 4191, [328])]
def nTx : List String := ["int all fun fix typ let in if0 ", "int code some pack as mov add sub mul ld st malloc bnz unpack jmp halt ", "r1 r2 r3 r4 r5 r6 r7 r8 r9 r10 r11 r12 r13 r14 r15 ", ".:,;()[]{}<>#+-*=?", "int", "", "(", ")", "->", "all ", ".", "<", ",", ">"]
def nNe : List (List (Nat × Bool)) := [[(0, true), (119, true), (175, true), (199, true), (209, true), (217, true), (227, true), (238, true), (251, true), (267, true), (281, true), (296, true), (312, true), (329, true)], [(119, false), (0, true), (176, true), (200, true), (210, true), (218, true), (228, true), (239, true), (252, true), (268, true), (282, true), (297, true), (313, true), (330, true)], [(175, false), (176, false), (0, true), (201, true), (211, true), (219, true), (229, true), (240, true), (253, true), (269, true), (283, true), (298, true), (314, true), (331, true)], [(199, false), (200, false), (201, false), (0, true), (212, true), (220, true), (230, true), (241, true), (254, true), (270, true), (284, true), (299, true), (315, true), (332, true)], [(209, false), (210, false), (211, false), (212, false), (0, true), (221, true), (231, true), (242, true), (255, true), (271, true), (285, true), (300, true), (316, true), (333, true)], [(217, false), (218, false), (219, false), (220, false), (221, false), (0, true), (232, true), (243, true), (256, true), (272, true), (286, true), (301, true), (317, true), (334, true)], [(227, false), (228, false), (229, false), (230, false), (231, false), (232, false), (0, true), (244, true), (257, true), (273, true), (287, true), (302, true), (318, true), (335, true)], [(238, false), (239, false), (240, false), (241, false), (242, false), (243, false), (244, false), (0, true), (258, true), (274, true), (288, true), (303, true), (319, true), (336, true)], [(251, false), (252, false), (253, false), (254, false), (255, false), (256, false), (257, false), (258, false), (0, true), (275, true), (289, true), (304, true), (320, true), (337, true)], [(267, false), (268, false), (269, false), (270, false), (271, false), (272, false), (273, false), (274, false), (275, false), (0, true), (290, true), (305, true), (321, true), (338, true)], [(281, false), (282, false), (283, false), (284, false), (285, false), (286, false), (287, false), (288, false), (289, false), (290, false), (0, true), (306, true), (322, true), (339, true)], [(296, false), (297, false), (298, false), (299, false), (300, false), (301, false), (302, false), (303, false), (304, false), (305, false), (306, false), (0, true), (323, true), (340, true)], [(312, false), (313, false), (314, false), (315, false), (316, false), (317, false), (318, false), (319, false), (320, false), (321, false), (322, false), (323, false), (0, true), (341, true)], [(329, false), (330, false), (331, false), (332, false), (333, false), (334, false), (335, false), (336, false), (337, false), (338, false), (339, false), (340, false), (341, false), (0, true)]]
def nQ (i : Nat) : String × Nat × Nat × Nat × Nat × Nat × Nat × List Nat := nSt.getD i ("", 0, 0, 0, 0, 0, 0, [])
def nTm (i : Nat) : Term := .string (nQ i).1 (nQ i).2.1
def nVal (i : Nat) : Term := .field (nTm i) "java/lang/String" "value" "[B"
def nCk (i : Nat) : Bool := nis (nQ i).2.2.1 (.exactly (nTm i) "java/lang/String") && nis (nQ i).2.2.2.1 (.eq (.field (nTm i) "java/lang/String" "coder" "B") (.int 0)) && nis (nQ i).2.2.2.2.1 (.arrayOf (nVal i) .byte) && nis (nQ i).2.2.2.2.2.1 (.eq (.length (nVal i)) (.int (Int32.ofNat (xlen.getD i 0)))) && decide (xlen.getD i 0 < 1000)
def nCe (i : Nat) : Bool := (List.range (xlen.getD i 0)).all fun j => nis ((nQ i).2.2.2.2.2.2.2.getD j 0) (.eq (.elem (nVal i) (.int (Int32.ofNat j))) (.int ((xbyt.getD i []).getD j 0)))
def nCn (i : Nat) : Bool := (List.range 14).all fun j => Nat.beq i j || (match (nNe.getD i []).getD j (0, true) with
  | (a, true) => nis a (.not (.eq (nTm i) (nTm j)))
  | (a, false) => nis a (.not (.eq (nTm j) (nTm i))))
def nCs (i : Nat) : Bool := match xg (nQ i).2.2.2.2.2.2.1 with
  | some v => decide (v = .stringRef (nQ i).1 (nQ i).2.1 (nTx.getD i ""))
  | none => false
theorem nCk_ok : (List.range 14).all nCk = true := by decide +kernel
theorem nCe_ok : (List.range 14).all nCe = true := by decide +kernel
theorem nCn_ok : (List.range 14).all nCn = true := by decide +kernel
theorem nCs_ok : (List.range 14).all nCs = true := by decide +kernel
def nCl (o : Nat) (e : Nat × Nat × Nat) : Bool := decide (e.2.1 < 14) && decide (xnmF o = (nQ e.2.1).1) && decide (e.1 = (nQ e.2.1).2.1)
theorem nCl_ok : (ySi.zipIdx.all fun q => q.1.all (nCl q.2)) = true := by decide +kernel
def nis2 (i : Nat) (w : Cond) : Bool := match xg i with
  | some v => decide (v = w)
  | none => false
theorem nis2_mem {i : Nat} {w : Cond} (h : nis2 i w = true) : w ∈ lw_tbl := by
  unfold nis2 at h
  split at h
  · rename_i v hv
    rw [← of_decide_eq_true h]
    exact xsg_mem _ _ (List.mem_of_getElem? hv)
  · cases h
def nSv : List (String × String × String × Int32 × Nat × Nat × Nat) := [("java/lang/String", "COMPACT_STRINGS", "Z", 1, 4, 50, 3), ("java/lang/StringUTF16", "$assertionsDisabled", "Z", 1, 6, 84, 6), ("java/lang/StringUTF16", "HI_BYTE_SHIFT", "I", 0, 7, 86, 6), ("java/lang/StringUTF16", "LO_BYTE_SHIFT", "I", 8, 8, 88, 6)]
def nSk (e : String × String × String × Int32 × Nat × Nat × Nat) : Bool := nis e.2.2.2.2.1 (.eq (.static e.1 e.2.1 e.2.2.1) (.int e.2.2.2.1)) && nis2 e.2.2.2.2.2.1 (.laysStatic e.1 e.2.1 e.2.2.1) && nis2 e.2.2.2.2.2.2 (.initialized e.1)
theorem nSk_ok : nSv.all nSk = true := by decide +kernel
theorem nFm_ok : (nis 5 (.isRef (.static "jdk/internal/util/Preconditions" "SIOOBE_FORMATTER" "Ljava/util/function/BiFunction;")) && nis2 66 (.laysStatic "jdk/internal/util/Preconditions" "SIOOBE_FORMATTER" "Ljava/util/function/BiFunction;") && nis2 5 (.initialized "jdk/internal/util/Preconditions")) = true := by decide +kernel
/-- every static of the tables: one of nSv, or the formatter -/
def nGk (e : Nat × (Value × String × String × String) × Nat) : Bool := (nSv.any fun q => decide (e.2.1 = (.int q.2.2.2.1, q.1, q.2.1, q.2.2.1))) || decide (e.2.1.2 = ("jdk/internal/util/Preconditions", "SIOOBE_FORMATTER", "Ljava/util/function/BiFunction;"))
theorem nG0_ok : ((yGi .null).all fun q => q.all nGk) = true := by decide +kernel
theorem nGf (fm : Value) : ∀ l ∈ yGi fm, ∀ e ∈ l, (∃ q ∈ nSv, e.2.1 = (.int q.2.2.2.1, q.1, q.2.1, q.2.2.1)) ∨ e.2.1 = (fm, "jdk/internal/util/Preconditions", "SIOOBE_FORMATTER", "Ljava/util/function/BiFunction;") := by
  intro l hl e he
  simp only [yGi, List.mem_cons, List.not_mem_nil, or_false] at hl
  rcases hl with rfl | rfl | rfl | rfl | rfl | rfl | rfl | rfl | rfl | rfl | rfl | rfl | rfl | rfl | rfl | rfl | rfl | rfl | rfl | rfl | rfl <;> simp only [List.mem_cons, List.not_mem_nil, or_false] at he
  · rcases he with rfl | rfl
    · exact Or.inl ⟨_, List.mem_of_getElem? (i := 0) rfl, rfl⟩
    · exact Or.inr rfl
  · rcases he with rfl | rfl | rfl
    · exact Or.inl ⟨_, List.mem_of_getElem? (i := 1) rfl, rfl⟩
    · exact Or.inl ⟨_, List.mem_of_getElem? (i := 2) rfl, rfl⟩
    · exact Or.inl ⟨_, List.mem_of_getElem? (i := 3) rfl, rfl⟩
theorem nNw_ok : (xNw.zip [33, 155, 196, 212, 1115]).all (fun q => nis2 q.2 (.methodLinkNest q.1.1 q.1.2.1 q.1.2.2.1 q.1.2.2.2)) = true := by decide +kernel
theorem nIn_ok : (xcl.zip [24, 32, 154, 195, 211, 1020, 1030, 1055, 1098, 1114, 1157, 1188, 7088]).all (fun q => nis2 q.2 (.instantiable q.1.1 q.1.2.2)) = true := by decide +kernel
