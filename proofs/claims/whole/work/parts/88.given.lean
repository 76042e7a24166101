-- what the Statement gives of the start, by places
def gvn : List Cond := flatC (Jvm.Cond.and given_1 narrow_1)
def tmS (i : Nat) : Term := .string RX2 (sx_i.getD i 0)
abbrev fvS (i : Nat) : Term := .field (tmS i) "java/lang/String" "value" "[B"
abbrev kaT : Term := .static "WindowChairs" "KIND_ABOVE" "[I"
set_option maxRecDepth 20000 in
theorem gv_ex : ∀ i, i < 14 → gvn[([73, 18, 25, 36, 46, 58, 87, 102, 119, 133, 151, 169, 191, 214] : List Nat).getD i 0]? = some (Cond.exactly (tmS i) "java/lang/String") := by decide +kernel
set_option maxRecDepth 20000 in
theorem gv_co : ∀ i, i < 14 → gvn[([74, 19, 26, 37, 47, 59, 88, 103, 120, 134, 152, 170, 192, 215] : List Nat).getD i 0]? = some (Cond.eq (.field (tmS i) "java/lang/String" "coder" "B") (.int 0)) := by decide +kernel
set_option maxRecDepth 20000 in
theorem gv_ar : ∀ i, i < 14 → gvn[([75, 20, 27, 38, 48, 60, 89, 104, 121, 135, 153, 171, 193, 216] : List Nat).getD i 0]? = some (Cond.arrayOf (fvS i) .byte) := by decide +kernel
set_option maxRecDepth 20000 in
theorem gv_le : ∀ i, i < 14 → gvn[([76, 21, 28, 39, 49, 61, 90, 105, 122, 136, 154, 172, 194, 217] : List Nat).getD i 0]? = some (Cond.eq (.length (fvS i)) (.int (Int32.ofNat (sx_n.getD i 0)))) := by decide +kernel
set_option maxRecDepth 20000 in
theorem gv_el : ∀ i, i < 14 → ∀ j, j < sx_n.getD i 0 → gvn[(([[77, 78, 79, 80, 81], [22, 23, 24], [29, 30, 31, 32, 33, 34], [40, 41, 42, 43], [50, 51, 52, 53, 54], [62, 63, 64, 65, 66, 67, 68], [91, 92, 93, 94, 95], [106, 107, 108, 109, 110, 111], [123, 124], [137, 138, 139, 140, 141], [155, 156, 157, 158], [173, 174, 175, 176, 177, 178, 179], [195, 196, 197, 198, 199, 200, 201], [218, 219, 220, 221, 222]] : List (List Nat)).getD i []).getD j 0]? = some (Cond.eq (.elem (fvS i) (.int (Int32.ofNat j))) (.int ((sx_b.getD i []).getD j 0))) := by decide +kernel
set_option maxRecDepth 20000 in
theorem gv_ne : ∀ i, i < 14 → ∀ j, j < 14 → i ≠ j → gvn[(([[0, 0, 0, 0, 0, 0, 101, 117, 130, 147, 164, 185, 207, 228], [82, 0, 35, 44, 55, 69, 96, 112, 125, 142, 159, 180, 202, 223], [83, 0, 0, 45, 56, 70, 97, 113, 126, 143, 160, 181, 203, 224], [84, 0, 0, 0, 57, 71, 98, 114, 127, 144, 161, 182, 204, 225], [85, 0, 0, 0, 0, 72, 99, 115, 128, 145, 162, 183, 205, 226], [86, 0, 0, 0, 0, 0, 100, 116, 129, 146, 163, 184, 206, 227], [0, 0, 0, 0, 0, 0, 0, 118, 131, 148, 165, 186, 208, 229], [0, 0, 0, 0, 0, 0, 0, 0, 132, 149, 166, 187, 209, 230], [0, 0, 0, 0, 0, 0, 0, 0, 0, 150, 167, 188, 210, 231], [0, 0, 0, 0, 0, 0, 0, 0, 0, 0, 168, 189, 211, 232], [0, 0, 0, 0, 0, 0, 0, 0, 0, 0, 0, 190, 212, 233], [0, 0, 0, 0, 0, 0, 0, 0, 0, 0, 0, 0, 213, 234], [0, 0, 0, 0, 0, 0, 0, 0, 0, 0, 0, 0, 0, 235], [0, 0, 0, 0, 0, 0, 0, 0, 0, 0, 0, 0, 0, 0]] : List (List Nat)).getD i []).getD j 0]? = some (Cond.not (Cond.eq (tmS i) (tmS j))) ∨ gvn[(([[0, 0, 0, 0, 0, 0, 101, 117, 130, 147, 164, 185, 207, 228], [82, 0, 35, 44, 55, 69, 96, 112, 125, 142, 159, 180, 202, 223], [83, 0, 0, 45, 56, 70, 97, 113, 126, 143, 160, 181, 203, 224], [84, 0, 0, 0, 57, 71, 98, 114, 127, 144, 161, 182, 204, 225], [85, 0, 0, 0, 0, 72, 99, 115, 128, 145, 162, 183, 205, 226], [86, 0, 0, 0, 0, 0, 100, 116, 129, 146, 163, 184, 206, 227], [0, 0, 0, 0, 0, 0, 0, 118, 131, 148, 165, 186, 208, 229], [0, 0, 0, 0, 0, 0, 0, 0, 132, 149, 166, 187, 209, 230], [0, 0, 0, 0, 0, 0, 0, 0, 0, 150, 167, 188, 210, 231], [0, 0, 0, 0, 0, 0, 0, 0, 0, 0, 168, 189, 211, 232], [0, 0, 0, 0, 0, 0, 0, 0, 0, 0, 0, 190, 212, 233], [0, 0, 0, 0, 0, 0, 0, 0, 0, 0, 0, 0, 213, 234], [0, 0, 0, 0, 0, 0, 0, 0, 0, 0, 0, 0, 0, 235], [0, 0, 0, 0, 0, 0, 0, 0, 0, 0, 0, 0, 0, 0]] : List (List Nat)).getD j []).getD i 0]? = some (Cond.not (Cond.eq (tmS j) (tmS i))) := by decide +kernel
set_option maxRecDepth 20000 in
theorem gv_kar : gvn[5]? = some (Cond.arrayOf kaT .int) := by decide +kernel
set_option maxRecDepth 20000 in
theorem gv_kle : gvn[6]? = some (Cond.eq (.length kaT) (.int (Int32.ofNat 6))) := by decide +kernel
set_option maxRecDepth 20000 in
theorem gv_kel : ∀ j, j < 6 → gvn[([7, 8, 9, 10, 11, 12] : List Nat).getD j 0]? = some (Cond.eq (.elem kaT (.int (Int32.ofNat j))) (.int (kaF j))) := by decide +kernel
set_option maxRecDepth 20000 in
theorem gv_cs : gvn[13]? = some (Cond.eq (.static "java/lang/String" "COMPACT_STRINGS" "Z") (.int 1)) := by decide +kernel
set_option maxRecDepth 20000 in
theorem gv_sf : gvn[14]? = some (Cond.isRef (.static "jdk/internal/util/Preconditions" "SIOOBE_FORMATTER" "Ljava/util/function/BiFunction;")) := by decide +kernel
set_option maxRecDepth 20000 in
theorem tb_ka : Cond.laysStatic "WindowChairs" "KIND_ABOVE" "[I" ∈ lw_tbl := List.mem_append_right _ (List.mem_of_getElem? (i := 222) (by decide +kernel))
set_option maxRecDepth 20000 in
theorem tb_cs : Cond.laysStatic "java/lang/String" "COMPACT_STRINGS" "Z" ∈ lw_tbl := List.mem_append_right _ (List.mem_of_getElem? (i := 447) (by decide +kernel))
set_option maxRecDepth 20000 in
theorem tb_sf : Cond.laysStatic "jdk/internal/util/Preconditions" "SIOOBE_FORMATTER" "Ljava/util/function/BiFunction;" ∈ lw_tbl := List.mem_append_right _ (List.mem_of_getElem? (i := 463) (by decide +kernel))
set_option maxRecDepth 20000 in
theorem tb_i1 : Cond.initialized "WindowChairs" ∈ lw_tbl := List.mem_append_right _ (List.mem_of_getElem? (i := 1) (by decide +kernel))
set_option maxRecDepth 20000 in
theorem tb_i2 : Cond.initialized "java/lang/String" ∈ lw_tbl := List.mem_append_right _ (List.mem_of_getElem? (i := 9) (by decide +kernel))
set_option maxRecDepth 20000 in
theorem tb_i3 : Cond.initialized "jdk/internal/util/Preconditions" ∈ lw_tbl := List.mem_append_right _ (List.mem_of_getElem? (i := 11) (by decide +kernel))
set_option maxRecDepth 20000 in
theorem tb_n1 : Cond.methodLinkNest RX0 76 yX3_isOfKind "WindowChairs" ∈ lw_tbl := List.mem_append_right _ (List.mem_of_getElem? (i := 276) (by decide +kernel))
set_option maxRecDepth 20000 in
theorem tb_n2 : Cond.methodLinkNest RX0 64 yX3_isChair "WindowChairs" ∈ lw_tbl := List.mem_append_right _ (List.mem_of_getElem? (i := 385) (by decide +kernel))
set_option maxRecDepth 20000 in
theorem tb_n3 : Cond.methodLinkNest RX2 63 yX3_isKind "WindowChairs" ∈ lw_tbl := List.mem_append_right _ (List.mem_of_getElem? (i := 486) (by decide +kernel))
set_option maxRecDepth 20000 in
theorem tb_ao : Cond.arrayOver (.object "WindowChairs$Sheet") ∈ lw_tbl := List.mem_append_right _ (List.mem_of_getElem? (i := 115) (by decide +kernel))
set_option maxRecDepth 20000 in
theorem tb_sr0 : ∀ i, i < 14 → tables_1[([433, 428, 429, 430, 431, 432, 492, 501, 502, 504, 509, 510, 511, 517] : List Nat).getD i 0]? = some (Cond.stringRef RX2 (sx_i.getD i 0) (sx_t.getD i "")) := by decide +kernel
theorem tb_sr {i : Nat} (hi : i < 14) : Cond.stringRef RX2 (sx_i.getD i 0) (sx_t.getD i "") ∈ lw_tbl := List.mem_append_right _ (List.mem_of_getElem? (tb_sr0 i hi))
