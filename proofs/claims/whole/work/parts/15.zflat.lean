-- the start: what the Statement gives, as the pure machine's world
abbrev hc_FL : List Cond := flatC (Jvm.Cond.and given_1 narrow_1)
def hc_tm (i : Nat) : Term := .string "CathedralCoin$Tokens" ((hc_S.getD i ("", 0, "")).2.1)
set_option maxRecDepth 100000 in
theorem hf_ex : ∀ i, i < 21 → Cond.exactly (hc_tm i) "java/lang/String" ∈ hc_FL := by decide +kernel
set_option maxRecDepth 100000 in
theorem hf_co : ∀ i, i < 21 → Cond.eq (.field (hc_tm i) "java/lang/String" "coder" "B") (.int 0) ∈ hc_FL := by decide +kernel
set_option maxRecDepth 100000 in
theorem hf_ar : ∀ i, i < 21 → Cond.arrayOf (.field (hc_tm i) "java/lang/String" "value" "[B") .byte ∈ hc_FL := by decide +kernel
set_option maxRecDepth 100000 in
theorem hf_le : ∀ i, i < 21 → Cond.eq (.length (.field (hc_tm i) "java/lang/String" "value" "[B")) (.int (Int32.ofNat (hc_lens.getD i 0))) ∈ hc_FL := by decide +kernel
set_option maxRecDepth 100000 in
theorem hf_el : ∀ i, i < 21 → ∀ j, j < hc_lens.getD i 0 → Cond.eq (.elem (.field (hc_tm i) "java/lang/String" "value" "[B") (.int (Int32.ofNat j))) (.int ((hc_byts.getD i []).getD j 0)) ∈ hc_FL := by decide +kernel
def hf_ix : List (List Nat) := [[0, 25, 33, 44, 55, 65, 78, 90, 103, 118, 133, 150, 168, 187, 209, 230, 253, 277, 305, 330, 353], [0, 0, 34, 45, 56, 66, 79, 91, 104, 119, 134, 151, 169, 188, 210, 231, 254, 278, 306, 331, 354], [0, 0, 0, 46, 57, 67, 80, 92, 105, 120, 135, 152, 170, 189, 211, 232, 255, 279, 307, 332, 355], [0, 0, 0, 0, 58, 68, 81, 93, 106, 121, 136, 153, 171, 190, 212, 233, 256, 280, 308, 333, 356], [0, 0, 0, 0, 0, 69, 82, 94, 107, 122, 137, 154, 172, 191, 213, 234, 257, 281, 309, 334, 357], [0, 0, 0, 0, 0, 0, 83, 95, 108, 123, 138, 155, 173, 192, 214, 235, 258, 282, 310, 335, 358], [0, 0, 0, 0, 0, 0, 0, 96, 109, 124, 139, 156, 174, 193, 215, 236, 259, 283, 311, 336, 359], [0, 0, 0, 0, 0, 0, 0, 0, 110, 125, 140, 157, 175, 194, 216, 237, 260, 284, 312, 337, 360], [0, 0, 0, 0, 0, 0, 0, 0, 0, 126, 141, 158, 176, 195, 217, 238, 261, 285, 313, 338, 361], [0, 0, 0, 0, 0, 0, 0, 0, 0, 0, 142, 159, 177, 196, 218, 239, 262, 286, 314, 339, 362], [0, 0, 0, 0, 0, 0, 0, 0, 0, 0, 0, 160, 178, 197, 219, 240, 263, 287, 315, 340, 363], [0, 0, 0, 0, 0, 0, 0, 0, 0, 0, 0, 0, 179, 198, 220, 241, 264, 288, 316, 341, 364], [0, 0, 0, 0, 0, 0, 0, 0, 0, 0, 0, 0, 0, 199, 221, 242, 265, 289, 317, 342, 365], [0, 0, 0, 0, 0, 0, 0, 0, 0, 0, 0, 0, 0, 0, 222, 243, 266, 290, 318, 343, 366], [0, 0, 0, 0, 0, 0, 0, 0, 0, 0, 0, 0, 0, 0, 0, 244, 267, 291, 319, 344, 367], [0, 0, 0, 0, 0, 0, 0, 0, 0, 0, 0, 0, 0, 0, 0, 0, 268, 292, 320, 345, 368], [0, 0, 0, 0, 0, 0, 0, 0, 0, 0, 0, 0, 0, 0, 0, 0, 0, 293, 321, 346, 369], [0, 0, 0, 0, 0, 0, 0, 0, 0, 0, 0, 0, 0, 0, 0, 0, 0, 0, 322, 347, 370], [0, 0, 0, 0, 0, 0, 0, 0, 0, 0, 0, 0, 0, 0, 0, 0, 0, 0, 0, 348, 371], [0, 0, 0, 0, 0, 0, 0, 0, 0, 0, 0, 0, 0, 0, 0, 0, 0, 0, 0, 0, 372], [0, 0, 0, 0, 0, 0, 0, 0, 0, 0, 0, 0, 0, 0, 0, 0, 0, 0, 0, 0, 0]]
set_option maxRecDepth 100000 in
theorem hf_ne0 : ∀ i, i < 21 → ∀ j, j < 21 → i < j → hc_gt hc_FL ((hf_ix.getD i []).getD j 0) = some (Cond.not (Cond.eq (hc_tm i) (hc_tm j))) := by decide +kernel
theorem hf_ne (i : Nat) (hi : i < 21) (j : Nat) (hj : j < 21) (hij : i ≠ j) : Cond.not (Cond.eq (hc_tm i) (hc_tm j)) ∈ hc_FL ∨ Cond.not (Cond.eq (hc_tm j) (hc_tm i)) ∈ hc_FL := by
  rcases Nat.lt_or_ge i j with q | q
  · have := hf_ne0 i hi j hj q
    rw [hc_gt_eq] at this
    exact Or.inl (List.mem_of_getElem? this)
  · have := hf_ne0 j hj i hi (by omega)
    rw [hc_gt_eq] at this
    exact Or.inr (List.mem_of_getElem? this)
set_option maxRecDepth 100000 in
theorem hf_st : Cond.eq (.static "java/lang/String" "COMPACT_STRINGS" "Z") (.int 1) ∈ hc_FL ∧ Cond.isRef (.static "jdk/internal/util/Preconditions" "SIOOBE_FORMATTER" "Ljava/util/function/BiFunction;") ∈ hc_FL := by decide +kernel
set_option maxRecDepth 100000 in
theorem hf_tb : Cond.laysStatic "java/lang/String" "COMPACT_STRINGS" "Z" ∈ lw_tbl ∧ Cond.laysStatic "jdk/internal/util/Preconditions" "SIOOBE_FORMATTER" "Ljava/util/function/BiFunction;" ∈ lw_tbl ∧ Cond.arrayOver (.object "CathedralCoin$Text") ∈ lw_tbl ∧ Cond.castable "[I" "java/lang/Cloneable" ∈ lw_tbl := by decide +kernel
set_option maxRecDepth 100000 in
theorem hf_tr : ∀ i, i < 21 → Cond.stringRef "CathedralCoin$Tokens" ((hc_S.getD i ("", 0, "")).2.1) ((hc_S.getD i ("", 0, "")).2.2) ∈ lw_tbl := by decide +kernel
theorem hf_own : ∀ i, i < 21 → (hc_S.getD i ("", 0, "")).1 = "CathedralCoin$Tokens" := by decide
