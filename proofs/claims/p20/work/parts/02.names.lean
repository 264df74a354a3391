def pm_ws : List Cond := lw_tbl.filter goodWord
theorem pm_mem {i : Nat} {w : Cond} (h : lw_tbl[i]? = some w) (g : goodWord w = true) : w ∈ pm_ws := List.mem_filter.mpr ⟨List.mem_of_getElem? h, g⟩
theorem pm_mem_tbl {w : Cond} (h : w ∈ pm_ws) : w ∈ lw_tbl := (List.mem_filter.mp h).1
theorem pm_goodIn {y : MethodName} {cc : ByteArray} {mL : Nat} {ret : Option FieldType} (h : Cond.code y cc mL ret ∈ pm_ws) : GoodIn pm_ws (Cond.code y cc mL ret :: pm_ws) := by
  have g : ∀ w ∈ pm_ws, w ∈ pm_ws ∧ ((w.onTables && w.keeps) = true ∨ ∃ ty, w = .arrayClass ty) := fun w hw => ⟨hw, good_of_word (List.mem_filter.mp hw).2⟩
  intro w hw
  rcases List.mem_cons.mp hw with e | hw
  · rw [e]; exact g _ h
  · exact g w hw
/-- words at places: the table in pieces of 32 -/
def pm_tb1 : List Cond := lw_tbl.drop 32
theorem pm_tb1_get {r : Nat} : pm_tb1[r]? = lw_tbl[32 * 1 + r]? := by
  unfold pm_tb1
  rw [List.getElem?_drop]
def pm_tb2 : List Cond := pm_tb1.drop 32
theorem pm_tb2_get {r : Nat} : pm_tb2[r]? = lw_tbl[32 * 2 + r]? := by
  unfold pm_tb2
  rw [List.getElem?_drop, pm_tb1_get, show 32 * 1 + (32 + r) = 32 * 2 + r by omega]
def pm_tb3 : List Cond := pm_tb2.drop 32
theorem pm_tb3_get {r : Nat} : pm_tb3[r]? = lw_tbl[32 * 3 + r]? := by
  unfold pm_tb3
  rw [List.getElem?_drop, pm_tb2_get, show 32 * 2 + (32 + r) = 32 * 3 + r by omega]
def pm_tb4 : List Cond := pm_tb3.drop 32
theorem pm_tb4_get {r : Nat} : pm_tb4[r]? = lw_tbl[32 * 4 + r]? := by
  unfold pm_tb4
  rw [List.getElem?_drop, pm_tb3_get, show 32 * 3 + (32 + r) = 32 * 4 + r by omega]
def pm_tb5 : List Cond := pm_tb4.drop 32
theorem pm_tb5_get {r : Nat} : pm_tb5[r]? = lw_tbl[32 * 5 + r]? := by
  unfold pm_tb5
  rw [List.getElem?_drop, pm_tb4_get, show 32 * 4 + (32 + r) = 32 * 5 + r by omega]
def pm_tb6 : List Cond := pm_tb5.drop 32
theorem pm_tb6_get {r : Nat} : pm_tb6[r]? = lw_tbl[32 * 6 + r]? := by
  unfold pm_tb6
  rw [List.getElem?_drop, pm_tb5_get, show 32 * 5 + (32 + r) = 32 * 6 + r by omega]
def pm_tb7 : List Cond := pm_tb6.drop 32
theorem pm_tb7_get {r : Nat} : pm_tb7[r]? = lw_tbl[32 * 7 + r]? := by
  unfold pm_tb7
  rw [List.getElem?_drop, pm_tb6_get, show 32 * 6 + (32 + r) = 32 * 7 + r by omega]
def pm_tb8 : List Cond := pm_tb7.drop 32
theorem pm_tb8_get {r : Nat} : pm_tb8[r]? = lw_tbl[32 * 8 + r]? := by
  unfold pm_tb8
  rw [List.getElem?_drop, pm_tb7_get, show 32 * 7 + (32 + r) = 32 * 8 + r by omega]
def pm_tb9 : List Cond := pm_tb8.drop 32
theorem pm_tb9_get {r : Nat} : pm_tb9[r]? = lw_tbl[32 * 9 + r]? := by
  unfold pm_tb9
  rw [List.getElem?_drop, pm_tb8_get, show 32 * 8 + (32 + r) = 32 * 9 + r by omega]
def pm_tb10 : List Cond := pm_tb9.drop 32
theorem pm_tb10_get {r : Nat} : pm_tb10[r]? = lw_tbl[32 * 10 + r]? := by
  unfold pm_tb10
  rw [List.getElem?_drop, pm_tb9_get, show 32 * 9 + (32 + r) = 32 * 10 + r by omega]
def pm_tb11 : List Cond := pm_tb10.drop 32
theorem pm_tb11_get {r : Nat} : pm_tb11[r]? = lw_tbl[32 * 11 + r]? := by
  unfold pm_tb11
  rw [List.getElem?_drop, pm_tb10_get, show 32 * 10 + (32 + r) = 32 * 11 + r by omega]
def pm_tb12 : List Cond := pm_tb11.drop 32
theorem pm_tb12_get {r : Nat} : pm_tb12[r]? = lw_tbl[32 * 12 + r]? := by
  unfold pm_tb12
  rw [List.getElem?_drop, pm_tb11_get, show 32 * 11 + (32 + r) = 32 * 12 + r by omega]
def pm_tb13 : List Cond := pm_tb12.drop 32
theorem pm_tb13_get {r : Nat} : pm_tb13[r]? = lw_tbl[32 * 13 + r]? := by
  unfold pm_tb13
  rw [List.getElem?_drop, pm_tb12_get, show 32 * 12 + (32 + r) = 32 * 13 + r by omega]
def pm_tb14 : List Cond := pm_tb13.drop 32
theorem pm_tb14_get {r : Nat} : pm_tb14[r]? = lw_tbl[32 * 14 + r]? := by
  unfold pm_tb14
  rw [List.getElem?_drop, pm_tb13_get, show 32 * 13 + (32 + r) = 32 * 14 + r by omega]
def pm_tb15 : List Cond := pm_tb14.drop 32
theorem pm_tb15_get {r : Nat} : pm_tb15[r]? = lw_tbl[32 * 15 + r]? := by
  unfold pm_tb15
  rw [List.getElem?_drop, pm_tb14_get, show 32 * 14 + (32 + r) = 32 * 15 + r by omega]
def pm_tb16 : List Cond := pm_tb15.drop 32
theorem pm_tb16_get {r : Nat} : pm_tb16[r]? = lw_tbl[32 * 16 + r]? := by
  unfold pm_tb16
  rw [List.getElem?_drop, pm_tb15_get, show 32 * 15 + (32 + r) = 32 * 16 + r by omega]
def pm_tb17 : List Cond := pm_tb16.drop 32
theorem pm_tb17_get {r : Nat} : pm_tb17[r]? = lw_tbl[32 * 17 + r]? := by
  unfold pm_tb17
  rw [List.getElem?_drop, pm_tb16_get, show 32 * 16 + (32 + r) = 32 * 17 + r by omega]
def pm_tb18 : List Cond := pm_tb17.drop 32
theorem pm_tb18_get {r : Nat} : pm_tb18[r]? = lw_tbl[32 * 18 + r]? := by
  unfold pm_tb18
  rw [List.getElem?_drop, pm_tb17_get, show 32 * 17 + (32 + r) = 32 * 18 + r by omega]
def pm_tb19 : List Cond := pm_tb18.drop 32
theorem pm_tb19_get {r : Nat} : pm_tb19[r]? = lw_tbl[32 * 19 + r]? := by
  unfold pm_tb19
  rw [List.getElem?_drop, pm_tb18_get, show 32 * 18 + (32 + r) = 32 * 19 + r by omega]
def pm_tb20 : List Cond := pm_tb19.drop 32
theorem pm_tb20_get {r : Nat} : pm_tb20[r]? = lw_tbl[32 * 20 + r]? := by
  unfold pm_tb20
  rw [List.getElem?_drop, pm_tb19_get, show 32 * 19 + (32 + r) = 32 * 20 + r by omega]
def pm_tb21 : List Cond := pm_tb20.drop 32
theorem pm_tb21_get {r : Nat} : pm_tb21[r]? = lw_tbl[32 * 21 + r]? := by
  unfold pm_tb21
  rw [List.getElem?_drop, pm_tb20_get, show 32 * 20 + (32 + r) = 32 * 21 + r by omega]
def pm_tb22 : List Cond := pm_tb21.drop 32
theorem pm_tb22_get {r : Nat} : pm_tb22[r]? = lw_tbl[32 * 22 + r]? := by
  unfold pm_tb22
  rw [List.getElem?_drop, pm_tb21_get, show 32 * 21 + (32 + r) = 32 * 22 + r by omega]
def pm_tb23 : List Cond := pm_tb22.drop 32
theorem pm_tb23_get {r : Nat} : pm_tb23[r]? = lw_tbl[32 * 23 + r]? := by
  unfold pm_tb23
  rw [List.getElem?_drop, pm_tb22_get, show 32 * 22 + (32 + r) = 32 * 23 + r by omega]
def pm_tb24 : List Cond := pm_tb23.drop 32
theorem pm_tb24_get {r : Nat} : pm_tb24[r]? = lw_tbl[32 * 24 + r]? := by
  unfold pm_tb24
  rw [List.getElem?_drop, pm_tb23_get, show 32 * 23 + (32 + r) = 32 * 24 + r by omega]
def pm_tb25 : List Cond := pm_tb24.drop 32
theorem pm_tb25_get {r : Nat} : pm_tb25[r]? = lw_tbl[32 * 25 + r]? := by
  unfold pm_tb25
  rw [List.getElem?_drop, pm_tb24_get, show 32 * 24 + (32 + r) = 32 * 25 + r by omega]
def pm_tb26 : List Cond := pm_tb25.drop 32
theorem pm_tb26_get {r : Nat} : pm_tb26[r]? = lw_tbl[32 * 26 + r]? := by
  unfold pm_tb26
  rw [List.getElem?_drop, pm_tb25_get, show 32 * 25 + (32 + r) = 32 * 26 + r by omega]
def pm_tb27 : List Cond := pm_tb26.drop 32
theorem pm_tb27_get {r : Nat} : pm_tb27[r]? = lw_tbl[32 * 27 + r]? := by
  unfold pm_tb27
  rw [List.getElem?_drop, pm_tb26_get, show 32 * 26 + (32 + r) = 32 * 27 + r by omega]
def pm_tb28 : List Cond := pm_tb27.drop 32
theorem pm_tb28_get {r : Nat} : pm_tb28[r]? = lw_tbl[32 * 28 + r]? := by
  unfold pm_tb28
  rw [List.getElem?_drop, pm_tb27_get, show 32 * 27 + (32 + r) = 32 * 28 + r by omega]
def pm_tb29 : List Cond := pm_tb28.drop 32
theorem pm_tb29_get {r : Nat} : pm_tb29[r]? = lw_tbl[32 * 29 + r]? := by
  unfold pm_tb29
  rw [List.getElem?_drop, pm_tb28_get, show 32 * 28 + (32 + r) = 32 * 29 + r by omega]
def pm_tb30 : List Cond := pm_tb29.drop 32
theorem pm_tb30_get {r : Nat} : pm_tb30[r]? = lw_tbl[32 * 30 + r]? := by
  unfold pm_tb30
  rw [List.getElem?_drop, pm_tb29_get, show 32 * 29 + (32 + r) = 32 * 30 + r by omega]
def pm_tb31 : List Cond := pm_tb30.drop 32
theorem pm_tb31_get {r : Nat} : pm_tb31[r]? = lw_tbl[32 * 31 + r]? := by
  unfold pm_tb31
  rw [List.getElem?_drop, pm_tb30_get, show 32 * 30 + (32 + r) = 32 * 31 + r by omega]
def pm_tb32 : List Cond := pm_tb31.drop 32
theorem pm_tb32_get {r : Nat} : pm_tb32[r]? = lw_tbl[32 * 32 + r]? := by
  unfold pm_tb32
  rw [List.getElem?_drop, pm_tb31_get, show 32 * 31 + (32 + r) = 32 * 32 + r by omega]
def pm_tb33 : List Cond := pm_tb32.drop 32
theorem pm_tb33_get {r : Nat} : pm_tb33[r]? = lw_tbl[32 * 33 + r]? := by
  unfold pm_tb33
  rw [List.getElem?_drop, pm_tb32_get, show 32 * 32 + (32 + r) = 32 * 33 + r by omega]
def pm_tb34 : List Cond := pm_tb33.drop 32
theorem pm_tb34_get {r : Nat} : pm_tb34[r]? = lw_tbl[32 * 34 + r]? := by
  unfold pm_tb34
  rw [List.getElem?_drop, pm_tb33_get, show 32 * 33 + (32 + r) = 32 * 34 + r by omega]
def pm_tb35 : List Cond := pm_tb34.drop 32
theorem pm_tb35_get {r : Nat} : pm_tb35[r]? = lw_tbl[32 * 35 + r]? := by
  unfold pm_tb35
  rw [List.getElem?_drop, pm_tb34_get, show 32 * 34 + (32 + r) = 32 * 35 + r by omega]
def pm_tb36 : List Cond := pm_tb35.drop 32
theorem pm_tb36_get {r : Nat} : pm_tb36[r]? = lw_tbl[32 * 36 + r]? := by
  unfold pm_tb36
  rw [List.getElem?_drop, pm_tb35_get, show 32 * 35 + (32 + r) = 32 * 36 + r by omega]
def pm_tb37 : List Cond := pm_tb36.drop 32
theorem pm_tb37_get {r : Nat} : pm_tb37[r]? = lw_tbl[32 * 37 + r]? := by
  unfold pm_tb37
  rw [List.getElem?_drop, pm_tb36_get, show 32 * 36 + (32 + r) = 32 * 37 + r by omega]
def pm_tb38 : List Cond := pm_tb37.drop 32
theorem pm_tb38_get {r : Nat} : pm_tb38[r]? = lw_tbl[32 * 38 + r]? := by
  unfold pm_tb38
  rw [List.getElem?_drop, pm_tb37_get, show 32 * 37 + (32 + r) = 32 * 38 + r by omega]
def pm_tb39 : List Cond := pm_tb38.drop 32
theorem pm_tb39_get {r : Nat} : pm_tb39[r]? = lw_tbl[32 * 39 + r]? := by
  unfold pm_tb39
  rw [List.getElem?_drop, pm_tb38_get, show 32 * 38 + (32 + r) = 32 * 39 + r by omega]
def pm_tbk (k : Nat) : List Cond := match k with
  | 0 => lw_tbl
  | 1 => pm_tb1
  | 2 => pm_tb2
  | 3 => pm_tb3
  | 4 => pm_tb4
  | 5 => pm_tb5
  | 6 => pm_tb6
  | 7 => pm_tb7
  | 8 => pm_tb8
  | 9 => pm_tb9
  | 10 => pm_tb10
  | 11 => pm_tb11
  | 12 => pm_tb12
  | 13 => pm_tb13
  | 14 => pm_tb14
  | 15 => pm_tb15
  | 16 => pm_tb16
  | 17 => pm_tb17
  | 18 => pm_tb18
  | 19 => pm_tb19
  | 20 => pm_tb20
  | 21 => pm_tb21
  | 22 => pm_tb22
  | 23 => pm_tb23
  | 24 => pm_tb24
  | 25 => pm_tb25
  | 26 => pm_tb26
  | 27 => pm_tb27
  | 28 => pm_tb28
  | 29 => pm_tb29
  | 30 => pm_tb30
  | 31 => pm_tb31
  | 32 => pm_tb32
  | 33 => pm_tb33
  | 34 => pm_tb34
  | 35 => pm_tb35
  | 36 => pm_tb36
  | 37 => pm_tb37
  | 38 => pm_tb38
  | 39 => pm_tb39
  | _ => []
theorem pm_tbk_get {k r : Nat} {w : Cond} (h : (pm_tbk k)[r]? = some w) : lw_tbl[32 * k + r]? = some w := by
  match k, h with
  | 0, h => rw [Nat.mul_zero, Nat.zero_add]; exact h
  | 1, h => exact pm_tb1_get.symm.trans h
  | 2, h => exact pm_tb2_get.symm.trans h
  | 3, h => exact pm_tb3_get.symm.trans h
  | 4, h => exact pm_tb4_get.symm.trans h
  | 5, h => exact pm_tb5_get.symm.trans h
  | 6, h => exact pm_tb6_get.symm.trans h
  | 7, h => exact pm_tb7_get.symm.trans h
  | 8, h => exact pm_tb8_get.symm.trans h
  | 9, h => exact pm_tb9_get.symm.trans h
  | 10, h => exact pm_tb10_get.symm.trans h
  | 11, h => exact pm_tb11_get.symm.trans h
  | 12, h => exact pm_tb12_get.symm.trans h
  | 13, h => exact pm_tb13_get.symm.trans h
  | 14, h => exact pm_tb14_get.symm.trans h
  | 15, h => exact pm_tb15_get.symm.trans h
  | 16, h => exact pm_tb16_get.symm.trans h
  | 17, h => exact pm_tb17_get.symm.trans h
  | 18, h => exact pm_tb18_get.symm.trans h
  | 19, h => exact pm_tb19_get.symm.trans h
  | 20, h => exact pm_tb20_get.symm.trans h
  | 21, h => exact pm_tb21_get.symm.trans h
  | 22, h => exact pm_tb22_get.symm.trans h
  | 23, h => exact pm_tb23_get.symm.trans h
  | 24, h => exact pm_tb24_get.symm.trans h
  | 25, h => exact pm_tb25_get.symm.trans h
  | 26, h => exact pm_tb26_get.symm.trans h
  | 27, h => exact pm_tb27_get.symm.trans h
  | 28, h => exact pm_tb28_get.symm.trans h
  | 29, h => exact pm_tb29_get.symm.trans h
  | 30, h => exact pm_tb30_get.symm.trans h
  | 31, h => exact pm_tb31_get.symm.trans h
  | 32, h => exact pm_tb32_get.symm.trans h
  | 33, h => exact pm_tb33_get.symm.trans h
  | 34, h => exact pm_tb34_get.symm.trans h
  | 35, h => exact pm_tb35_get.symm.trans h
  | 36, h => exact pm_tb36_get.symm.trans h
  | 37, h => exact pm_tb37_get.symm.trans h
  | 38, h => exact pm_tb38_get.symm.trans h
  | 39, h => exact pm_tb39_get.symm.trans h
  | n + 40, h => exact absurd h (by intro q; cases q)
def pm_at (p : Nat) (w : Cond) : Bool := decide ((pm_tbk (p / 32))[p % 32]? = some w) && goodWord w
theorem pm_at_mem {p : Nat} {w : Cond} (h : pm_at p w = true) : w ∈ pm_ws := by
  simp only [pm_at, Bool.and_eq_true, decide_eq_true_eq] at h
  have q := pm_tbk_get h.1
  rw [Nat.div_add_mod] at q
  exact pm_mem q h.2
def RX0 : String := "DrawLooms$Accounts"
def TX0 : u_T := fun k => match k with
  | 0 => ("DrawLooms$Accounts", "out", "[I", true)
  | 1 => ("DrawLooms$Accounts", "home", "[I", true)
  | _ => ("DrawLooms$Accounts", "waste", "[I", true)
def tyX0 : Nat → FieldType := fun k => match k with
  | 0 => .array .int
  | 1 => .array .int
  | _ => .array .int
theorem nmX0 : ∀ a, a < 3 → ∀ b, b < 3 → a ≠ b → (TX0 a).2.1 ≠ (TX0 b).2.1 := by decide +kernel
theorem tyX0_ok : ∀ k, k < 3 → parseFieldDescriptor (TX0 k).2.2.1 = some (tyX0 k) := by decide +kernel
abbrev cX0_init : ByteArray := prog_2_method_1_code
def yX0_init : MethodName := ⟨RX0, "<init>", "()V"⟩
abbrev cX0_bringHome : ByteArray := prog_2_method_2_code
def yX0_bringHome : MethodName := ⟨RX0, "bringHome", "(III)V"⟩
abbrev cX0_owed : ByteArray := prog_2_method_3_code
def yX0_owed : MethodName := ⟨RX0, "owed", "(I)I"⟩
def RX1 : String := "DrawLooms$Beam"
def TX1 : u_T := fun k => match k with
  | 0 => ("DrawLooms$Beam", "holds", "I", false)
  | 1 => ("DrawLooms$Beam", "ells", "I", false)
  | _ => ("DrawLooms$Beam", "cards", "LDrawLooms$Sheet;", true)
def tyX1 : Nat → FieldType := fun k => match k with
  | 0 => .int
  | 1 => .int
  | _ => .object "DrawLooms$Sheet"
theorem nmX1 : ∀ a, a < 3 → ∀ b, b < 3 → a ≠ b → (TX1 a).2.1 ≠ (TX1 b).2.1 := by decide +kernel
theorem tyX1_ok : ∀ k, k < 3 → parseFieldDescriptor (TX1 k).2.2.1 = some (tyX1 k) := by decide +kernel
abbrev cX1_init : ByteArray := prog_3_method_1_code
def yX1_init : MethodName := ⟨RX1, "<init>", "()V"⟩
abbrev cX1_holdWarp : ByteArray := prog_3_method_2_code
def yX1_holdWarp : MethodName := ⟨RX1, "holdWarp", "(I)V"⟩
abbrev cX1_holdCards : ByteArray := prog_3_method_3_code
def yX1_holdCards : MethodName := ⟨RX1, "holdCards", "(LDrawLooms$Sheet;)V"⟩
abbrev cX1_wrongFor : ByteArray := prog_3_method_4_code
def yX1_wrongFor : MethodName := ⟨RX1, "wrongFor", "(I)I"⟩
abbrev cX1_cardsUnlike : ByteArray := prog_3_method_5_code
def yX1_cardsUnlike : MethodName := ⟨RX1, "cardsUnlike", "(LDrawLooms$Sheet;)I"⟩
def RX2 : String := "DrawLooms$BestRow"
def TX2 : u_T := fun k => match k with
  | 0 => ("DrawLooms$BestRow", "isKnown", "Z", false)
  | 1 => ("DrawLooms$BestRow", "late", "I", false)
  | 2 => ("DrawLooms$BestRow", "places", "I", false)
  | 3 => ("DrawLooms$BestRow", "row", "[I", true)
  | 4 => ("DrawLooms$BestRow", "open", "[I", true)
  | 5 => ("DrawLooms$BestRow", "trial", "[I", true)
  | _ => ("DrawLooms$BestRow", "isTaken", "[Z", true)
def tyX2 : Nat → FieldType := fun k => match k with
  | 0 => .boolean
  | 1 => .int
  | 2 => .int
  | 3 => .array .int
  | 4 => .array .int
  | 5 => .array .int
  | _ => .array .boolean
theorem nmX2 : ∀ a, a < 7 → ∀ b, b < 7 → a ≠ b → (TX2 a).2.1 ≠ (TX2 b).2.1 := by decide +kernel
theorem tyX2_ok : ∀ k, k < 7 → parseFieldDescriptor (TX2 k).2.2.1 = some (tyX2 k) := by decide +kernel
abbrev cX2_init : ByteArray := prog_4_method_1_code
def yX2_init : MethodName := ⟨RX2, "<init>", "()V"⟩
abbrev cX2_find : ByteArray := prog_4_method_2_code
def yX2_find : MethodName := ⟨RX2, "find", "(LDrawLooms$Loom;)V"⟩
abbrev cX2_goOn : ByteArray := prog_4_method_3_code
def yX2_goOn : MethodName := ⟨RX2, "goOn", "(LDrawLooms$Loom;IIII)V"⟩
def RX3 : String := "DrawLooms$Cords"
def TX3 : u_T := fun k => match k with
  | 0 => ("DrawLooms$Cords", "many", "I", false)
  | 1 => ("DrawLooms$Cords", "columns", "LDrawLooms$Lines;", true)
  | 2 => ("DrawLooms$Cords", "ofColumn", "[I", true)
  | _ => ("DrawLooms$Cords", "firstColumn", "[I", true)
def tyX3 : Nat → FieldType := fun k => match k with
  | 0 => .int
  | 1 => .object "DrawLooms$Lines"
  | 2 => .array .int
  | _ => .array .int
theorem nmX3 : ∀ a, a < 4 → ∀ b, b < 4 → a ≠ b → (TX3 a).2.1 ≠ (TX3 b).2.1 := by decide +kernel
theorem tyX3_ok : ∀ k, k < 4 → parseFieldDescriptor (TX3 k).2.2.1 = some (tyX3 k) := by decide +kernel
abbrev cX3_init : ByteArray := prog_5_method_1_code
def yX3_init : MethodName := ⟨RX3, "<init>", "()V"⟩
abbrev cX3_readFrom : ByteArray := prog_5_method_2_code
def yX3_readFrom : MethodName := ⟨RX3, "readFrom", "(LDrawLooms$Sheet;)V"⟩
abbrev cX3_thatShow : ByteArray := prog_5_method_3_code
def yX3_thatShow : MethodName := ⟨RX3, "thatShow", "(LDrawLooms$Sheet;II)I"⟩
abbrev cX3_cordLike : ByteArray := prog_5_method_4_code
def yX3_cordLike : MethodName := ⟨RX3, "cordLike", "(J)I"⟩
def RX4 : String := "DrawLooms$Explanation"
def TX4 : u_T := fun k => match k with
  | 0 => ("DrawLooms$Explanation", "kind", "I", false)
  | 1 => ("DrawLooms$Explanation", "first", "I", false)
  | 2 => ("DrawLooms$Explanation", "second", "I", false)
  | 3 => ("DrawLooms$Explanation", "trial", "LDrawLooms$Faults;", true)
  | _ => ("DrawLooms$Explanation", "shown", "LDrawLooms$Lines;", true)
def tyX4 : Nat → FieldType := fun k => match k with
  | 0 => .int
  | 1 => .int
  | 2 => .int
  | 3 => .object "DrawLooms$Faults"
  | _ => .object "DrawLooms$Lines"
theorem nmX4 : ∀ a, a < 5 → ∀ b, b < 5 → a ≠ b → (TX4 a).2.1 ≠ (TX4 b).2.1 := by decide +kernel
theorem tyX4_ok : ∀ k, k < 5 → parseFieldDescriptor (TX4 k).2.2.1 = some (tyX4 k) := by decide +kernel
abbrev cX4_init : ByteArray := prog_6_method_1_code
def yX4_init : MethodName := ⟨RX4, "<init>", "()V"⟩
abbrev cX4_find : ByteArray := prog_6_method_2_code
def yX4_find : MethodName := ⟨RX4, "find", "(LDrawLooms$Sheet;LDrawLooms$Cords;LDrawLooms$Sheet;)V"⟩
abbrev cX4_found : ByteArray := prog_6_method_3_code
def yX4_found : MethodName := ⟨RX4, "found", "(III)V"⟩
abbrev cX4_findBroken : ByteArray := prog_6_method_4_code
def yX4_findBroken : MethodName := ⟨RX4, "findBroken", "(LDrawLooms$Cords;)Z"⟩
abbrev cX4_findSkipped : ByteArray := prog_6_method_5_code
def yX4_findSkipped : MethodName := ⟨RX4, "findSkipped", "(LDrawLooms$Sheet;LDrawLooms$Sheet;)Z"⟩
abbrev cX4_findCrossed : ByteArray := prog_6_method_6_code
def yX4_findCrossed : MethodName := ⟨RX4, "findCrossed", "(LDrawLooms$Cords;)Z"⟩
abbrev cX4_fitsByColumns : ByteArray := prog_6_method_7_code
def yX4_fitsByColumns : MethodName := ⟨RX4, "fitsByColumns", "(LDrawLooms$Cords;)Z"⟩
abbrev cX4_fitsByRows : ByteArray := prog_6_method_8_code
def yX4_fitsByRows : MethodName := ⟨RX4, "fitsByRows", "(LDrawLooms$Sheet;LDrawLooms$Sheet;)Z"⟩
def RX5 : String := "DrawLooms$Faults"
def TX5 : u_T := fun k => match k with
  | 0 => ("DrawLooms$Faults", "isTold", "[Z", true)
  | 1 => ("DrawLooms$Faults", "firsts", "[I", true)
  | _ => ("DrawLooms$Faults", "seconds", "[I", true)
def tyX5 : Nat → FieldType := fun k => match k with
  | 0 => .array .boolean
  | 1 => .array .int
  | _ => .array .int
theorem nmX5 : ∀ a, a < 3 → ∀ b, b < 3 → a ≠ b → (TX5 a).2.1 ≠ (TX5 b).2.1 := by decide +kernel
theorem tyX5_ok : ∀ k, k < 3 → parseFieldDescriptor (TX5 k).2.2.1 = some (tyX5 k) := by decide +kernel
abbrev cX5_init : ByteArray := prog_7_method_1_code
def yX5_init : MethodName := ⟨RX5, "<init>", "()V"⟩
abbrev cX5_tell : ByteArray := prog_7_method_2_code
def yX5_tell : MethodName := ⟨RX5, "tell", "(III)V"⟩
abbrev cX5_forget : ByteArray := prog_7_method_3_code
def yX5_forget : MethodName := ⟨RX5, "forget", "()V"⟩
abbrev cX5_howMany : ByteArray := prog_7_method_4_code
def yX5_howMany : MethodName := ⟨RX5, "howMany", "()I"⟩
abbrev cX5_columnShown : ByteArray := prog_7_method_5_code
def yX5_columnShown : MethodName := ⟨RX5, "columnShown", "(ILDrawLooms$Cords;)I"⟩
abbrev cX5_pickShown : ByteArray := prog_7_method_6_code
def yX5_pickShown : MethodName := ⟨RX5, "pickShown", "(II)I"⟩
def RX6 : String := "DrawLooms$Floats"
def TX6 : u_T := fun k => match k with
  | 0 => ("DrawLooms$Floats", "wide", "I", false)
  | 1 => ("DrawLooms$Floats", "many", "I", false)
  | 2 => ("DrawLooms$Floats", "isClosed", "Z", false)
  | 3 => ("DrawLooms$Floats", "starts", "[I", true)
  | 4 => ("DrawLooms$Floats", "lengths", "[I", true)
  | _ => ("DrawLooms$Floats", "costs", "[I", true)
def tyX6 : Nat → FieldType := fun k => match k with
  | 0 => .int
  | 1 => .int
  | 2 => .boolean
  | 3 => .array .int
  | 4 => .array .int
  | _ => .array .int
theorem nmX6 : ∀ a, a < 6 → ∀ b, b < 6 → a ≠ b → (TX6 a).2.1 ≠ (TX6 b).2.1 := by decide +kernel
theorem tyX6_ok : ∀ k, k < 6 → parseFieldDescriptor (TX6 k).2.2.1 = some (tyX6 k) := by decide +kernel
abbrev cX6_init : ByteArray := prog_8_method_1_code
def yX6_init : MethodName := ⟨RX6, "<init>", "()V"⟩
abbrev cX6_readFrom : ByteArray := prog_8_method_2_code
def yX6_readFrom : MethodName := ⟨RX6, "readFrom", "(LDrawLooms$Sheet;I)V"⟩
abbrev cX6_longerThan : ByteArray := prog_8_method_3_code
def yX6_longerThan : MethodName := ⟨RX6, "longerThan", "(I)I"⟩
abbrev cX6_longest : ByteArray := prog_8_method_4_code
def yX6_longest : MethodName := ⟨RX6, "longest", "()I"⟩
abbrev cX6_leastMending : ByteArray := prog_8_method_5_code
def yX6_leastMending : MethodName := ⟨RX6, "leastMending", "(I)I"⟩
abbrev cX6_closedCost : ByteArray := prog_8_method_6_code
def yX6_closedCost : MethodName := ⟨RX6, "closedCost", "(I)I"⟩
abbrev cX6_openCost : ByteArray := prog_8_method_7_code
def yX6_openCost : MethodName := ⟨RX6, "openCost", "(III)I"⟩
abbrev cX6_cheapestAhead : ByteArray := prog_8_method_8_code
def yX6_cheapestAhead : MethodName := ⟨RX6, "cheapestAhead", "(II)I"⟩
abbrev cX6_costOf : ByteArray := prog_8_method_9_code
def yX6_costOf : MethodName := ⟨RX6, "costOf", "(I)I"⟩
abbrev cX6_addRun : ByteArray := prog_8_method_10_code
def yX6_addRun : MethodName := ⟨RX6, "addRun", "(I)V"⟩
abbrev cX6_firstStart : ByteArray := prog_8_method_11_code
def yX6_firstStart : MethodName := ⟨RX6, "firstStart", "(LDrawLooms$Sheet;I)I"⟩
abbrev cX6_isStart : ByteArray := prog_8_method_12_code
def yX6_isStart : MethodName := ⟨RX6, "isStart", "(LDrawLooms$Sheet;II)Z"⟩
def RX7 : String := "DrawLooms$Laws"
def TX7 : u_T := fun k => match k with
  | 0 => ("DrawLooms$Laws", "many", "I", false)
  | 1 => ("DrawLooms$Laws", "wastes", "[I", true)
  | 2 => ("DrawLooms$Laws", "prices", "[I", true)
  | _ => ("DrawLooms$Laws", "from", "[I", true)
def tyX7 : Nat → FieldType := fun k => match k with
  | 0 => .int
  | 1 => .array .int
  | 2 => .array .int
  | _ => .array .int
theorem nmX7 : ∀ a, a < 4 → ∀ b, b < 4 → a ≠ b → (TX7 a).2.1 ≠ (TX7 b).2.1 := by decide +kernel
theorem tyX7_ok : ∀ k, k < 4 → parseFieldDescriptor (TX7 k).2.2.1 = some (tyX7 k) := by decide +kernel
abbrev cX7_init : ByteArray := prog_9_method_1_code
def yX7_init : MethodName := ⟨RX7, "<init>", "()V"⟩
abbrev cX7_give : ByteArray := prog_9_method_2_code
def yX7_give : MethodName := ⟨RX7, "give", "(III)I"⟩
abbrev cX7_wasteOn : ByteArray := prog_9_method_3_code
def yX7_wasteOn : MethodName := ⟨RX7, "wasteOn", "(I)I"⟩
abbrev cX7_priceOn : ByteArray := prog_9_method_4_code
def yX7_priceOn : MethodName := ⟨RX7, "priceOn", "(I)I"⟩
abbrev cX7_inForceOn : ByteArray := prog_9_method_5_code
def yX7_inForceOn : MethodName := ⟨RX7, "inForceOn", "(I)I"⟩
def RX8 : String := "DrawLooms$Lines"
def TX8 : u_T := fun k => match k with
  | 0 => ("DrawLooms$Lines", "many", "I", false)
  | _ => ("DrawLooms$Lines", "codes", "[J", true)
def tyX8 : Nat → FieldType := fun k => match k with
  | 0 => .int
  | _ => .array .long
theorem nmX8 : ∀ a, a < 2 → ∀ b, b < 2 → a ≠ b → (TX8 a).2.1 ≠ (TX8 b).2.1 := by decide +kernel
theorem tyX8_ok : ∀ k, k < 2 → parseFieldDescriptor (TX8 k).2.2.1 = some (tyX8 k) := by decide +kernel
abbrev cX8_init : ByteArray := prog_10_method_1_code
def yX8_init : MethodName := ⟨RX8, "<init>", "()V"⟩
abbrev cX8_readColumns : ByteArray := prog_10_method_2_code
def yX8_readColumns : MethodName := ⟨RX8, "readColumns", "(LDrawLooms$Sheet;)V"⟩
abbrev cX8_readRows : ByteArray := prog_10_method_3_code
def yX8_readRows : MethodName := ⟨RX8, "readRows", "(LDrawLooms$Sheet;)V"⟩
abbrev cX8_leastSpan : ByteArray := prog_10_method_4_code
def yX8_leastSpan : MethodName := ⟨RX8, "leastSpan", "()I"⟩
abbrev cX8_leastMirror : ByteArray := prog_10_method_5_code
def yX8_leastMirror : MethodName := ⟨RX8, "leastMirror", "()I"⟩
abbrev cX8_repeatsBy : ByteArray := prog_10_method_6_code
def yX8_repeatsBy : MethodName := ⟨RX8, "repeatsBy", "(I)Z"⟩
abbrev cX8_mirrorsAt : ByteArray := prog_10_method_7_code
def yX8_mirrorsAt : MethodName := ⟨RX8, "mirrorsAt", "(I)Z"⟩
def RX9 : String := "DrawLooms$Loom"
def TX9 : u_T := fun k => match k with
  | 0 => ("DrawLooms$Loom", "speed", "I", false)
  | 1 => ("DrawLooms$Loom", "tie", "I", false)
  | 2 => ("DrawLooms$Loom", "day", "I", false)
  | 3 => ("DrawLooms$Loom", "lot", "I", false)
  | 4 => ("DrawLooms$Loom", "orders", "I", false)
  | 5 => ("DrawLooms$Loom", "ells", "[I", true)
  | 6 => ("DrawLooms$Loom", "lots", "[I", true)
  | 7 => ("DrawLooms$Loom", "dues", "[I", true)
  | _ => ("DrawLooms$Loom", "doneOn", "[I", true)
def tyX9 : Nat → FieldType := fun k => match k with
  | 0 => .int
  | 1 => .int
  | 2 => .int
  | 3 => .int
  | 4 => .int
  | 5 => .array .int
  | 6 => .array .int
  | 7 => .array .int
  | _ => .array .int
theorem nmX9 : ∀ a, a < 9 → ∀ b, b < 9 → a ≠ b → (TX9 a).2.1 ≠ (TX9 b).2.1 := by decide +kernel
theorem tyX9_ok : ∀ k, k < 9 → parseFieldDescriptor (TX9 k).2.2.1 = some (tyX9 k) := by decide +kernel
abbrev cX9_init : ByteArray := prog_11_method_1_code
def yX9_init : MethodName := ⟨RX9, "<init>", "()V"⟩
abbrev cX9_takeOrder : ByteArray := prog_11_method_2_code
def yX9_takeOrder : MethodName := ⟨RX9, "takeOrder", "(III)I"⟩
abbrev cX9_isOpen : ByteArray := prog_11_method_3_code
def yX9_isOpen : MethodName := ⟨RX9, "isOpen", "(I)Z"⟩
abbrev cX9_openOrders : ByteArray := prog_11_method_4_code
def yX9_openOrders : MethodName := ⟨RX9, "openOrders", "()I"⟩
abbrev cX9_daysFor : ByteArray := prog_11_method_5_code
def yX9_daysFor : MethodName := ⟨RX9, "daysFor", "(II)I"⟩
abbrev cX9_lateOf : ByteArray := prog_11_method_6_code
def yX9_lateOf : MethodName := ⟨RX9, "lateOf", "(II)I"⟩
abbrev cX9_weaveOrder : ByteArray := prog_11_method_7_code
def yX9_weaveOrder : MethodName := ⟨RX9, "weaveOrder", "(I)I"⟩
abbrev cX9_paidBy : ByteArray := prog_11_method_8_code
def yX9_paidBy : MethodName := ⟨RX9, "paidBy", "(LDrawLooms$Laws;)I"⟩
def RX10 : String := "DrawLooms$Sheet"
def TX10 : u_T := fun k => match k with
  | 0 => ("DrawLooms$Sheet", "wide", "I", false)
  | 1 => ("DrawLooms$Sheet", "high", "I", false)
  | _ => ("DrawLooms$Sheet", "rows", "[J", true)
def tyX10 : Nat → FieldType := fun k => match k with
  | 0 => .int
  | 1 => .int
  | _ => .array .long
theorem nmX10 : ∀ a, a < 3 → ∀ b, b < 3 → a ≠ b → (TX10 a).2.1 ≠ (TX10 b).2.1 := by decide +kernel
theorem tyX10_ok : ∀ k, k < 3 → parseFieldDescriptor (TX10 k).2.2.1 = some (tyX10 k) := by decide +kernel
abbrev cX10_init : ByteArray := prog_12_method_1_code
def yX10_init : MethodName := ⟨RX10, "<init>", "()V"⟩
abbrev cX10_has : ByteArray := prog_12_method_2_code
def yX10_has : MethodName := ⟨RX10, "has", "(II)Z"⟩
abbrev cX10_colourAt : ByteArray := prog_12_method_3_code
def yX10_colourAt : MethodName := ⟨RX10, "colourAt", "(II)I"⟩
abbrev cX10_paint : ByteArray := prog_12_method_4_code
def yX10_paint : MethodName := ⟨RX10, "paint", "(III)I"⟩
abbrev cX10_lay : ByteArray := prog_12_method_5_code
def yX10_lay : MethodName := ⟨RX10, "lay", "(II)V"⟩
abbrev cX10_become : ByteArray := prog_12_method_6_code
def yX10_become : MethodName := ⟨RX10, "become", "(LDrawLooms$Sheet;)V"⟩
abbrev cX10_isAsLargeAs : ByteArray := prog_12_method_7_code
def yX10_isAsLargeAs : MethodName := ⟨RX10, "isAsLargeAs", "(LDrawLooms$Sheet;)Z"⟩
abbrev cX10_differences : ByteArray := prog_12_method_8_code
def yX10_differences : MethodName := ⟨RX10, "differences", "(LDrawLooms$Sheet;)I"⟩
abbrev cX10_coloursOfPick : ByteArray := prog_12_method_9_code
def yX10_coloursOfPick : MethodName := ⟨RX10, "coloursOfPick", "(I)I"⟩
def RX11 : String := "DrawLooms"
def TX11 : u_T := fun k => match k with
  | 0 => ("DrawLooms", "design", "LDrawLooms$Sheet;", true)
  | 1 => ("DrawLooms", "lines", "LDrawLooms$Lines;", true)
  | 2 => ("DrawLooms", "cords", "LDrawLooms$Cords;", true)
  | 3 => ("DrawLooms", "runs", "LDrawLooms$Floats;", true)
  | 4 => ("DrawLooms", "limit", "I", false)
  | 5 => ("DrawLooms", "cloth", "LDrawLooms$Sheet;", true)
  | 6 => ("DrawLooms", "isWoven", "Z", false)
  | 7 => ("DrawLooms", "faults", "LDrawLooms$Faults;", true)
  | 8 => ("DrawLooms", "explanation", "LDrawLooms$Explanation;", true)
  | 9 => ("DrawLooms", "loom", "LDrawLooms$Loom;", true)
  | 10 => ("DrawLooms", "bestRow", "LDrawLooms$BestRow;", true)
  | 11 => ("DrawLooms", "laws", "LDrawLooms$Laws;", true)
  | 12 => ("DrawLooms", "accounts", "LDrawLooms$Accounts;", true)
  | 13 => ("DrawLooms", "beams", "[LDrawLooms$Beam;", true)
  | _ => ("DrawLooms", "refusals", "[I", true)
def tyX11 : Nat → FieldType := fun k => match k with
  | 0 => .object "DrawLooms$Sheet"
  | 1 => .object "DrawLooms$Lines"
  | 2 => .object "DrawLooms$Cords"
  | 3 => .object "DrawLooms$Floats"
  | 4 => .int
  | 5 => .object "DrawLooms$Sheet"
  | 6 => .boolean
  | 7 => .object "DrawLooms$Faults"
  | 8 => .object "DrawLooms$Explanation"
  | 9 => .object "DrawLooms$Loom"
  | 10 => .object "DrawLooms$BestRow"
  | 11 => .object "DrawLooms$Laws"
  | 12 => .object "DrawLooms$Accounts"
  | 13 => .array (.object "DrawLooms$Beam")
  | _ => .array .int
theorem nmX11 : ∀ a, a < 15 → ∀ b, b < 15 → a ≠ b → (TX11 a).2.1 ≠ (TX11 b).2.1 := by decide +kernel
theorem tyX11_ok : ∀ k, k < 15 → parseFieldDescriptor (TX11 k).2.2.1 = some (tyX11 k) := by decide +kernel
abbrev cX11_init : ByteArray := prog_1_method_1_code
def yX11_init : MethodName := ⟨RX11, "<init>", "()V"⟩
abbrev cX11_paper : ByteArray := prog_1_method_2_code
def yX11_paper : MethodName := ⟨RX11, "paper", "(II)I"⟩
abbrev cX11_square : ByteArray := prog_1_method_3_code
def yX11_square : MethodName := ⟨RX11, "square", "(III)I"⟩
abbrev cX11_fill : ByteArray := prog_1_method_4_code
def yX11_fill : MethodName := ⟨RX11, "fill", "(IIII)I"⟩
abbrev cX11_at : ByteArray := prog_1_method_5_code
def yX11_at : MethodName := ⟨RX11, "at", "(II)I"⟩
abbrev cX11_span : ByteArray := prog_1_method_6_code
def yX11_span : MethodName := ⟨RX11, "span", "(I)I"⟩
abbrev cX11_mirror : ByteArray := prog_1_method_7_code
def yX11_mirror : MethodName := ⟨RX11, "mirror", "(I)I"⟩
abbrev cX11_cords : ByteArray := prog_1_method_8_code
def yX11_cords : MethodName := ⟨RX11, "cords", "()I"⟩
abbrev cX11_cord : ByteArray := prog_1_method_9_code
def yX11_cord : MethodName := ⟨RX11, "cord", "(I)I"⟩
abbrev cX11_pull : ByteArray := prog_1_method_10_code
def yX11_pull : MethodName := ⟨RX11, "pull", "(II)I"⟩
abbrev cX11_pulls : ByteArray := prog_1_method_11_code
def yX11_pulls : MethodName := ⟨RX11, "pulls", "()I"⟩
abbrev cX11_pullOf : ByteArray := prog_1_method_12_code
def yX11_pullOf : MethodName := ⟨RX11, "pullOf", "(II)I"⟩
abbrev cX11_limit : ByteArray := prog_1_method_13_code
def yX11_limit : MethodName := ⟨RX11, "limit", "(I)I"⟩
abbrev cX11_floats : ByteArray := prog_1_method_14_code
def yX11_floats : MethodName := ⟨RX11, "floats", "(II)I"⟩
abbrev cX11_mend : ByteArray := prog_1_method_15_code
def yX11_mend : MethodName := ⟨RX11, "mend", "(I)I"⟩
abbrev cX11_fault : ByteArray := prog_1_method_16_code
def yX11_fault : MethodName := ⟨RX11, "fault", "(III)I"⟩
abbrev cX11_clear : ByteArray := prog_1_method_17_code
def yX11_clear : MethodName := ⟨RX11, "clear", "()I"⟩
abbrev cX11_weave : ByteArray := prog_1_method_18_code
def yX11_weave : MethodName := ⟨RX11, "weave", "()I"⟩
abbrev cX11_cloth : ByteArray := prog_1_method_19_code
def yX11_cloth : MethodName := ⟨RX11, "cloth", "(II)I"⟩
abbrev cX11_see : ByteArray := prog_1_method_20_code
def yX11_see : MethodName := ⟨RX11, "see", "(III)I"⟩
abbrev cX11_explained : ByteArray := prog_1_method_21_code
def yX11_explained : MethodName := ⟨RX11, "explained", "(I)I"⟩
abbrev cX11_set : ByteArray := prog_1_method_22_code
def yX11_set : MethodName := ⟨RX11, "set", "(II)I"⟩
abbrev cX11_order : ByteArray := prog_1_method_23_code
def yX11_order : MethodName := ⟨RX11, "order", "(III)I"⟩
abbrev cX11_best : ByteArray := prog_1_method_24_code
def yX11_best : MethodName := ⟨RX11, "best", "()I"⟩
abbrev cX11_bestAt : ByteArray := prog_1_method_25_code
def yX11_bestAt : MethodName := ⟨RX11, "bestAt", "(I)I"⟩
abbrev cX11_work : ByteArray := prog_1_method_26_code
def yX11_work : MethodName := ⟨RX11, "work", "(I)I"⟩
abbrev cX11_days : ByteArray := prog_1_method_27_code
def yX11_days : MethodName := ⟨RX11, "days", "(I)I"⟩
abbrev cX11_law : ByteArray := prog_1_method_28_code
def yX11_law : MethodName := ⟨RX11, "law", "(III)I"⟩
abbrev cX11_silk : ByteArray := prog_1_method_29_code
def yX11_silk : MethodName := ⟨RX11, "silk", "(IZII)I"⟩
abbrev cX11_account : ByteArray := prog_1_method_30_code
def yX11_account : MethodName := ⟨RX11, "account", "(II)I"⟩
abbrev cX11_warp : ByteArray := prog_1_method_31_code
def yX11_warp : MethodName := ⟨RX11, "warp", "(II)I"⟩
abbrev cX11_cards : ByteArray := prog_1_method_32_code
def yX11_cards : MethodName := ⟨RX11, "cards", "(I)I"⟩
abbrev cX11_hang : ByteArray := prog_1_method_33_code
def yX11_hang : MethodName := ⟨RX11, "hang", "(I)I"⟩
abbrev cX11_cut : ByteArray := prog_1_method_34_code
def yX11_cut : MethodName := ⟨RX11, "cut", "(II)I"⟩
abbrev cX11_join : ByteArray := prog_1_method_35_code
def yX11_join : MethodName := ⟨RX11, "join", "(II)I"⟩
abbrev cX11_beamOf : ByteArray := prog_1_method_36_code
def yX11_beamOf : MethodName := ⟨RX11, "beamOf", "(II)I"⟩
abbrev cX11_orderOf : ByteArray := prog_1_method_37_code
def yX11_orderOf : MethodName := ⟨RX11, "orderOf", "(II)I"⟩
abbrev cX11_count : ByteArray := prog_1_method_38_code
def yX11_count : MethodName := ⟨RX11, "count", "(I)I"⟩
abbrev cX11_refuse : ByteArray := prog_1_method_39_code
def yX11_refuse : MethodName := ⟨RX11, "refuse", "(I)I"⟩
abbrev cX11_refusalsOf : ByteArray := prog_1_method_40_code
def yX11_refusalsOf : MethodName := ⟨RX11, "refusalsOf", "(I)I"⟩
abbrev cX11_readLines : ByteArray := prog_1_method_41_code
def yX11_readLines : MethodName := ⟨RX11, "readLines", "(I)V"⟩
abbrev cX11_pickAndColour : ByteArray := prog_1_method_42_code
def yX11_pickAndColour : MethodName := ⟨RX11, "pickAndColour", "(I)I"⟩
abbrev cX11_canBeFault : ByteArray := prog_1_method_43_code
def yX11_canBeFault : MethodName := ⟨RX11, "canBeFault", "(III)Z"⟩
abbrev cX11_isPlace : ByteArray := prog_1_method_44_code
def yX11_isPlace : MethodName := ⟨RX11, "isPlace", "(II)Z"⟩
abbrev cX11_isColour : ByteArray := prog_1_method_45_code
def yX11_isColour : MethodName := ⟨RX11, "isColour", "(I)Z"⟩
abbrev cX11_around : ByteArray := prog_1_method_46_code
def yX11_around : MethodName := ⟨RX11, "around", "(II)I"⟩
def RX12 : String := "DrawLoomsModel"
def TX12 : u_T := fun k => match k with
  | 0 => ("DrawLoomsModel", "wide", "I", false)
  | 1 => ("DrawLoomsModel", "high", "I", false)
  | 2 => ("DrawLoomsModel", "design", "[I", true)
  | 3 => ("DrawLoomsModel", "limit", "I", false)
  | 4 => ("DrawLoomsModel", "hasCloth", "Z", false)
  | 5 => ("DrawLoomsModel", "clothWide", "I", false)
  | 6 => ("DrawLoomsModel", "clothHigh", "I", false)
  | 7 => ("DrawLoomsModel", "cloth", "[I", true)
  | 8 => ("DrawLoomsModel", "faultA", "[I", true)
  | 9 => ("DrawLoomsModel", "faultB", "[I", true)
  | 10 => ("DrawLoomsModel", "day", "I", false)
  | 11 => ("DrawLoomsModel", "speed", "I", false)
  | 12 => ("DrawLoomsModel", "tie", "I", false)
  | 13 => ("DrawLoomsModel", "onLoom", "I", false)
  | 14 => ("DrawLoomsModel", "paid", "I", false)
  | 15 => ("DrawLoomsModel", "orders", "I", false)
  | 16 => ("DrawLoomsModel", "ells", "[I", true)
  | 17 => ("DrawLoomsModel", "lot", "[I", true)
  | 18 => ("DrawLoomsModel", "due", "[I", true)
  | 19 => ("DrawLoomsModel", "done", "[I", true)
  | 20 => ("DrawLoomsModel", "laws", "I", false)
  | 21 => ("DrawLoomsModel", "lawWaste", "[I", true)
  | 22 => ("DrawLoomsModel", "lawPrice", "[I", true)
  | 23 => ("DrawLoomsModel", "lawDay", "[I", true)
  | 24 => ("DrawLoomsModel", "out", "[I", true)
  | 25 => ("DrawLoomsModel", "home", "[I", true)
  | 26 => ("DrawLoomsModel", "waste", "[I", true)
  | 27 => ("DrawLoomsModel", "beam", "[I", true)
  | 28 => ("DrawLoomsModel", "beamElls", "[I", true)
  | 29 => ("DrawLoomsModel", "beamWide", "[I", true)
  | 30 => ("DrawLoomsModel", "beamHigh", "[I", true)
  | 31 => ("DrawLoomsModel", "cards", "[I", true)
  | 32 => ("DrawLoomsModel", "refused", "[I", true)
  | 33 => ("DrawLoomsModel", "cordOf", "[I", true)
  | 34 => ("DrawLoomsModel", "firstOf", "[I", true)
  | 35 => ("DrawLoomsModel", "cordMany", "I", false)
  | 36 => ("DrawLoomsModel", "fewestBy", "[I", true)
  | 37 => ("DrawLoomsModel", "nextBy", "[I", true)
  | 38 => ("DrawLoomsModel", "shown", "[I", true)
  | 39 => ("DrawLoomsModel", "foundA", "I", false)
  | 40 => ("DrawLoomsModel", "foundB", "I", false)
  | 41 => ("DrawLoomsModel", "asked", "[I", true)
  | 42 => ("DrawLoomsModel", "askedMany", "I", false)
  | 43 => ("DrawLoomsModel", "row", "[I", true)
  | _ => ("DrawLoomsModel", "bestRow", "[I", true)
def tyX12 : Nat → FieldType := fun k => match k with
  | 0 => .int
  | 1 => .int
  | 2 => .array .int
  | 3 => .int
  | 4 => .boolean
  | 5 => .int
  | 6 => .int
  | 7 => .array .int
  | 8 => .array .int
  | 9 => .array .int
  | 10 => .int
  | 11 => .int
  | 12 => .int
  | 13 => .int
  | 14 => .int
  | 15 => .int
  | 16 => .array .int
  | 17 => .array .int
  | 18 => .array .int
  | 19 => .array .int
  | 20 => .int
  | 21 => .array .int
  | 22 => .array .int
  | 23 => .array .int
  | 24 => .array .int
  | 25 => .array .int
  | 26 => .array .int
  | 27 => .array .int
  | 28 => .array .int
  | 29 => .array .int
  | 30 => .array .int
  | 31 => .array .int
  | 32 => .array .int
  | 33 => .array .int
  | 34 => .array .int
  | 35 => .int
  | 36 => .array .int
  | 37 => .array .int
  | 38 => .array .int
  | 39 => .int
  | 40 => .int
  | 41 => .array .int
  | 42 => .int
  | 43 => .array .int
  | _ => .array .int
theorem nmX12 : ∀ a, a < 45 → ∀ b, b < 45 → a ≠ b → (TX12 a).2.1 ≠ (TX12 b).2.1 := by decide +kernel
theorem tyX12_ok : ∀ k, k < 45 → parseFieldDescriptor (TX12 k).2.2.1 = some (tyX12 k) := by decide +kernel
abbrev cX12_init : ByteArray := prog_14_method_1_code
def yX12_init : MethodName := ⟨RX12, "<init>", "()V"⟩
abbrev cX12_in : ByteArray := prog_14_method_3_code
def yX12_in : MethodName := ⟨RX12, "in", "(III)Z"⟩
abbrev cX12_refuse : ByteArray := prog_14_method_4_code
def yX12_refuse : MethodName := ⟨RX12, "refuse", "(I)I"⟩
abbrev cX12_colour : ByteArray := prog_14_method_5_code
def yX12_colour : MethodName := ⟨RX12, "colour", "(II)I"⟩
abbrev cX12_isSquare : ByteArray := prog_14_method_6_code
def yX12_isSquare : MethodName := ⟨RX12, "isSquare", "(II)Z"⟩
abbrev cX12_paper : ByteArray := prog_14_method_7_code
def yX12_paper : MethodName := ⟨RX12, "paper", "(II)I"⟩
abbrev cX12_square : ByteArray := prog_14_method_8_code
def yX12_square : MethodName := ⟨RX12, "square", "(III)I"⟩
abbrev cX12_fill : ByteArray := prog_14_method_9_code
def yX12_fill : MethodName := ⟨RX12, "fill", "(IIII)I"⟩
abbrev cX12_at : ByteArray := prog_14_method_10_code
def yX12_at : MethodName := ⟨RX12, "at", "(II)I"⟩
abbrev cX12_isSame : ByteArray := prog_14_method_11_code
def yX12_isSame : MethodName := ⟨RX12, "isSame", "(II)Z"⟩
abbrev cX12_span : ByteArray := prog_14_method_12_code
def yX12_span : MethodName := ⟨RX12, "span", "(I)I"⟩
abbrev cX12_isMirror : ByteArray := prog_14_method_13_code
def yX12_isMirror : MethodName := ⟨RX12, "isMirror", "(IZ)Z"⟩
abbrev cX12_mirror : ByteArray := prog_14_method_14_code
def yX12_mirror : MethodName := ⟨RX12, "mirror", "(I)I"⟩
abbrev cX12_areAlike : ByteArray := prog_14_method_15_code
def yX12_areAlike : MethodName := ⟨RX12, "areAlike", "(II)Z"⟩
abbrev cX12_findCords : ByteArray := prog_14_method_16_code
def yX12_findCords : MethodName := ⟨RX12, "findCords", "()V"⟩
abbrev cX12_cords : ByteArray := prog_14_method_17_code
def yX12_cords : MethodName := ⟨RX12, "cords", "()I"⟩
abbrev cX12_cord : ByteArray := prog_14_method_18_code
def yX12_cord : MethodName := ⟨RX12, "cord", "(I)I"⟩
abbrev cX12_pullOfPick : ByteArray := prog_14_method_19_code
def yX12_pullOfPick : MethodName := ⟨RX12, "pullOfPick", "(II)I"⟩
abbrev cX12_pull : ByteArray := prog_14_method_20_code
def yX12_pull : MethodName := ⟨RX12, "pull", "(II)I"⟩
abbrev cX12_pullAt : ByteArray := prog_14_method_21_code
def yX12_pullAt : MethodName := ⟨RX12, "pullAt", "(I)I"⟩
abbrev cX12_pulls : ByteArray := prog_14_method_22_code
def yX12_pulls : MethodName := ⟨RX12, "pulls", "()I"⟩
abbrev cX12_pullOf : ByteArray := prog_14_method_23_code
def yX12_pullOf : MethodName := ⟨RX12, "pullOf", "(II)I"⟩
abbrev cX12_limit : ByteArray := prog_14_method_24_code
def yX12_limit : MethodName := ⟨RX12, "limit", "(I)I"⟩
abbrev cX12_begins : ByteArray := prog_14_method_25_code
def yX12_begins : MethodName := ⟨RX12, "begins", "(II)Z"⟩
abbrev cX12_runFrom : ByteArray := prog_14_method_26_code
def yX12_runFrom : MethodName := ⟨RX12, "runFrom", "(II)I"⟩
abbrev cX12_isPlain : ByteArray := prog_14_method_27_code
def yX12_isPlain : MethodName := ⟨RX12, "isPlain", "(I)Z"⟩
abbrev cX12_floats : ByteArray := prog_14_method_28_code
def yX12_floats : MethodName := ⟨RX12, "floats", "(II)I"⟩
abbrev cX12_fewestFrom : ByteArray := prog_14_method_29_code
def yX12_fewestFrom : MethodName := ⟨RX12, "fewestFrom", "(IIIII)I"⟩
abbrev cX12_fewest : ByteArray := prog_14_method_30_code
def yX12_fewest : MethodName := ⟨RX12, "fewest", "(III)I"⟩
abbrev cX12_mend : ByteArray := prog_14_method_31_code
def yX12_mend : MethodName := ⟨RX12, "mend", "(I)I"⟩
abbrev cX12_fault : ByteArray := prog_14_method_32_code
def yX12_fault : MethodName := ⟨RX12, "fault", "(III)I"⟩
abbrev cX12_faultMany : ByteArray := prog_14_method_33_code
def yX12_faultMany : MethodName := ⟨RX12, "faultMany", "()I"⟩
abbrev cX12_clear : ByteArray := prog_14_method_34_code
def yX12_clear : MethodName := ⟨RX12, "clear", "()I"⟩
abbrev cX12_showPlain : ByteArray := prog_14_method_35_code
def yX12_showPlain : MethodName := ⟨RX12, "showPlain", "()V"⟩
abbrev cX12_cross : ByteArray := prog_14_method_36_code
def yX12_cross : MethodName := ⟨RX12, "cross", "(II)V"⟩
abbrev cX12_breakCord : ByteArray := prog_14_method_37_code
def yX12_breakCord : MethodName := ⟨RX12, "breakCord", "(I)V"⟩
abbrev cX12_skip : ByteArray := prog_14_method_38_code
def yX12_skip : MethodName := ⟨RX12, "skip", "(I)V"⟩
abbrev cX12_weave : ByteArray := prog_14_method_39_code
def yX12_weave : MethodName := ⟨RX12, "weave", "()I"⟩
abbrev cX12_isCloth : ByteArray := prog_14_method_40_code
def yX12_isCloth : MethodName := ⟨RX12, "isCloth", "(II)Z"⟩
abbrev cX12_cloth : ByteArray := prog_14_method_41_code
def yX12_cloth : MethodName := ⟨RX12, "cloth", "(II)I"⟩
abbrev cX12_see : ByteArray := prog_14_method_42_code
def yX12_see : MethodName := ⟨RX12, "see", "(III)I"⟩
abbrev cX12_isShown : ByteArray := prog_14_method_43_code
def yX12_isShown : MethodName := ⟨RX12, "isShown", "()Z"⟩
abbrev cX12_findKind : ByteArray := prog_14_method_44_code
def yX12_findKind : MethodName := ⟨RX12, "findKind", "()I"⟩
abbrev cX12_explained : ByteArray := prog_14_method_45_code
def yX12_explained : MethodName := ⟨RX12, "explained", "(I)I"⟩
abbrev cX12_set : ByteArray := prog_14_method_46_code
def yX12_set : MethodName := ⟨RX12, "set", "(II)I"⟩
abbrev cX12_order : ByteArray := prog_14_method_47_code
def yX12_order : MethodName := ⟨RX12, "order", "(III)I"⟩
abbrev cX12_daysOf : ByteArray := prog_14_method_48_code
def yX12_daysOf : MethodName := ⟨RX12, "daysOf", "(II)I"⟩
abbrev cX12_ask : ByteArray := prog_14_method_49_code
def yX12_ask : MethodName := ⟨RX12, "ask", "()Z"⟩
abbrev cX12_findRow : ByteArray := prog_14_method_50_code
def yX12_findRow : MethodName := ⟨RX12, "findRow", "(I)V"⟩
abbrev cX12_findBest : ByteArray := prog_14_method_51_code
def yX12_findBest : MethodName := ⟨RX12, "findBest", "()I"⟩
abbrev cX12_best : ByteArray := prog_14_method_52_code
def yX12_best : MethodName := ⟨RX12, "best", "()I"⟩
abbrev cX12_bestAt : ByteArray := prog_14_method_53_code
def yX12_bestAt : MethodName := ⟨RX12, "bestAt", "(I)I"⟩
abbrev cX12_lawAt : ByteArray := prog_14_method_54_code
def yX12_lawAt : MethodName := ⟨RX12, "lawAt", "(I)I"⟩
abbrev cX12_work : ByteArray := prog_14_method_55_code
def yX12_work : MethodName := ⟨RX12, "work", "(I)I"⟩
abbrev cX12_days : ByteArray := prog_14_method_56_code
def yX12_days : MethodName := ⟨RX12, "days", "(I)I"⟩
abbrev cX12_law : ByteArray := prog_14_method_57_code
def yX12_law : MethodName := ⟨RX12, "law", "(III)I"⟩
abbrev cX12_silk : ByteArray := prog_14_method_58_code
def yX12_silk : MethodName := ⟨RX12, "silk", "(IZII)I"⟩
abbrev cX12_account : ByteArray := prog_14_method_59_code
def yX12_account : MethodName := ⟨RX12, "account", "(II)I"⟩
abbrev cX12_isBeam : ByteArray := prog_14_method_60_code
def yX12_isBeam : MethodName := ⟨RX12, "isBeam", "(I)Z"⟩
abbrev cX12_warp : ByteArray := prog_14_method_61_code
def yX12_warp : MethodName := ⟨RX12, "warp", "(II)I"⟩
abbrev cX12_cards : ByteArray := prog_14_method_62_code
def yX12_cards : MethodName := ⟨RX12, "cards", "(I)I"⟩
abbrev cX12_lacks : ByteArray := prog_14_method_63_code
def yX12_lacks : MethodName := ⟨RX12, "lacks", "(II)I"⟩
abbrev cX12_hang : ByteArray := prog_14_method_64_code
def yX12_hang : MethodName := ⟨RX12, "hang", "(I)I"⟩
abbrev cX12_cut : ByteArray := prog_14_method_65_code
def yX12_cut : MethodName := ⟨RX12, "cut", "(II)I"⟩
abbrev cX12_join : ByteArray := prog_14_method_66_code
def yX12_join : MethodName := ⟨RX12, "join", "(II)I"⟩
abbrev cX12_beamOf : ByteArray := prog_14_method_67_code
def yX12_beamOf : MethodName := ⟨RX12, "beamOf", "(II)I"⟩
abbrev cX12_orderOf : ByteArray := prog_14_method_68_code
def yX12_orderOf : MethodName := ⟨RX12, "orderOf", "(II)I"⟩
abbrev cX12_count : ByteArray := prog_14_method_69_code
def yX12_count : MethodName := ⟨RX12, "count", "(I)I"⟩
def RJ6 : String := "java/lang/Integer"
abbrev cJ6_bitCount_0f7a4 : ByteArray := prog_15_method_49_code
def yJ6_bitCount_0f7a4 : MethodName := ⟨RJ6, "bitCount", "(I)I"⟩
def RJ7 : String := "java/util/Arrays"
abbrev cJ7_fill_d0a16 : ByteArray := prog_18_method_101_code
def yJ7_fill_d0a16 : MethodName := ⟨RJ7, "fill", "([JJ)V"⟩
def RL : String := "DrawLoomsLaw"
abbrev cL_law : ByteArray := code
def yL_law : MethodName := ⟨RL, "law", "([I)Z"⟩
abbrev vwCl : List vw_C := [(RX0, TX0, 3), (RX1, TX1, 3), (RX2, TX2, 7), (RX3, TX3, 4), (RX4, TX4, 5), (RX5, TX5, 3), (RX6, TX6, 6), (RX7, TX7, 4), (RX8, TX8, 2), (RX9, TX9, 9), (RX10, TX10, 3), (RX11, TX11, 15), (RX12, TX12, 45)]
set_option maxRecDepth 100000 in
theorem pm_in_X0 : ∀ w ∈ u_ws RX0 TX0 3, w ∈ pm_ws := by
  have g : (u_ws RX0 TX0 3).all goodWord = true := by decide +kernel
  have h : u_ws RX0 TX0 3 = [330, 332, 334].filterMap (fun i => lw_tbl[i]?) := by decide +kernel
  intro w hw
  have g1 := List.all_eq_true.mp g w hw
  rw [h] at hw
  obtain ⟨i, -, hi⟩ := List.mem_filterMap.mp hw
  exact pm_mem hi g1
set_option maxRecDepth 100000 in
theorem pm_in_X1 : ∀ w ∈ u_ws RX1 TX1 3, w ∈ pm_ws := by
  have g : (u_ws RX1 TX1 3).all goodWord = true := by decide +kernel
  have h : u_ws RX1 TX1 3 = [352, 354, 356].filterMap (fun i => lw_tbl[i]?) := by decide +kernel
  intro w hw
  have g1 := List.all_eq_true.mp g w hw
  rw [h] at hw
  obtain ⟨i, -, hi⟩ := List.mem_filterMap.mp hw
  exact pm_mem hi g1
set_option maxRecDepth 100000 in
theorem pm_in_X2 : ∀ w ∈ u_ws RX2 TX2 7, w ∈ pm_ws := by
  have g : (u_ws RX2 TX2 7).all goodWord = true := by decide +kernel
  have h : u_ws RX2 TX2 7 = [283, 285, 287, 289, 291, 293, 295].filterMap (fun i => lw_tbl[i]?) := by decide +kernel
  intro w hw
  have g1 := List.all_eq_true.mp g w hw
  rw [h] at hw
  obtain ⟨i, -, hi⟩ := List.mem_filterMap.mp hw
  exact pm_mem hi g1
set_option maxRecDepth 100000 in
theorem pm_in_X3 : ∀ w ∈ u_ws RX3 TX3 4, w ∈ pm_ws := by
  have g : (u_ws RX3 TX3 4).all goodWord = true := by decide +kernel
  have h : u_ws RX3 TX3 4 = [138, 140, 142, 144].filterMap (fun i => lw_tbl[i]?) := by decide +kernel
  intro w hw
  have g1 := List.all_eq_true.mp g w hw
  rw [h] at hw
  obtain ⟨i, -, hi⟩ := List.mem_filterMap.mp hw
  exact pm_mem hi g1
set_option maxRecDepth 100000 in
theorem pm_in_X4 : ∀ w ∈ u_ws RX4 TX4 5, w ∈ pm_ws := by
  have g : (u_ws RX4 TX4 5).all goodWord = true := by decide +kernel
  have h : u_ws RX4 TX4 5 = [208, 210, 212, 214, 216].filterMap (fun i => lw_tbl[i]?) := by decide +kernel
  intro w hw
  have g1 := List.all_eq_true.mp g w hw
  rw [h] at hw
  obtain ⟨i, -, hi⟩ := List.mem_filterMap.mp hw
  exact pm_mem hi g1
set_option maxRecDepth 100000 in
theorem pm_in_X5 : ∀ w ∈ u_ws RX5 TX5 3, w ∈ pm_ws := by
  have g : (u_ws RX5 TX5 3).all goodWord = true := by decide +kernel
  have h : u_ws RX5 TX5 3 = [182, 184, 186].filterMap (fun i => lw_tbl[i]?) := by decide +kernel
  intro w hw
  have g1 := List.all_eq_true.mp g w hw
  rw [h] at hw
  obtain ⟨i, -, hi⟩ := List.mem_filterMap.mp hw
  exact pm_mem hi g1
set_option maxRecDepth 100000 in
theorem pm_in_X6 : ∀ w ∈ u_ws RX6 TX6 6, w ∈ pm_ws := by
  have g : (u_ws RX6 TX6 6).all goodWord = true := by decide +kernel
  have h : u_ws RX6 TX6 6 = [160, 162, 164, 166, 168, 170].filterMap (fun i => lw_tbl[i]?) := by decide +kernel
  intro w hw
  have g1 := List.all_eq_true.mp g w hw
  rw [h] at hw
  obtain ⟨i, -, hi⟩ := List.mem_filterMap.mp hw
  exact pm_mem hi g1
set_option maxRecDepth 100000 in
theorem pm_in_X7 : ∀ w ∈ u_ws RX7 TX7 4, w ∈ pm_ws := by
  have g : (u_ws RX7 TX7 4).all goodWord = true := by decide +kernel
  have h : u_ws RX7 TX7 4 = [309, 311, 313, 315].filterMap (fun i => lw_tbl[i]?) := by decide +kernel
  intro w hw
  have g1 := List.all_eq_true.mp g w hw
  rw [h] at hw
  obtain ⟨i, -, hi⟩ := List.mem_filterMap.mp hw
  exact pm_mem hi g1
set_option maxRecDepth 100000 in
theorem pm_in_X8 : ∀ w ∈ u_ws RX8 TX8 2, w ∈ pm_ws := by
  have g : (u_ws RX8 TX8 2).all goodWord = true := by decide +kernel
  have h : u_ws RX8 TX8 2 = [114, 116].filterMap (fun i => lw_tbl[i]?) := by decide +kernel
  intro w hw
  have g1 := List.all_eq_true.mp g w hw
  rw [h] at hw
  obtain ⟨i, -, hi⟩ := List.mem_filterMap.mp hw
  exact pm_mem hi g1
set_option maxRecDepth 100000 in
theorem pm_in_X9 : ∀ w ∈ u_ws RX9 TX9 9, w ∈ pm_ws := by
  have g : (u_ws RX9 TX9 9).all goodWord = true := by decide +kernel
  have h : u_ws RX9 TX9 9 = [247, 249, 251, 253, 255, 257, 259, 261, 263].filterMap (fun i => lw_tbl[i]?) := by decide +kernel
  intro w hw
  have g1 := List.all_eq_true.mp g w hw
  rw [h] at hw
  obtain ⟨i, -, hi⟩ := List.mem_filterMap.mp hw
  exact pm_mem hi g1
set_option maxRecDepth 100000 in
theorem pm_in_X10 : ∀ w ∈ u_ws RX10 TX10 3, w ∈ pm_ws := by
  have g : (u_ws RX10 TX10 3).all goodWord = true := by decide +kernel
  have h : u_ws RX10 TX10 3 = [94, 96, 98].filterMap (fun i => lw_tbl[i]?) := by decide +kernel
  intro w hw
  have g1 := List.all_eq_true.mp g w hw
  rw [h] at hw
  obtain ⟨i, -, hi⟩ := List.mem_filterMap.mp hw
  exact pm_mem hi g1
set_option maxRecDepth 100000 in
theorem pm_in_X11 : ∀ w ∈ u_ws RX11 TX11 15, w ∈ pm_ws := by
  have g : (u_ws RX11 TX11 15).all goodWord = true := by decide +kernel
  have h : u_ws RX11 TX11 15 = [374, 376, 378, 380, 382, 384, 386, 388, 390, 392, 394, 396, 398, 400, 402].filterMap (fun i => lw_tbl[i]?) := by decide +kernel
  intro w hw
  have g1 := List.all_eq_true.mp g w hw
  rw [h] at hw
  obtain ⟨i, -, hi⟩ := List.mem_filterMap.mp hw
  exact pm_mem hi g1
set_option maxRecDepth 100000 in
theorem pm_in_X12 : ∀ w ∈ u_ws RX12 TX12 45, w ∈ pm_ws := by
  have g : (u_ws RX12 TX12 45).all goodWord = true := by decide +kernel
  have h : u_ws RX12 TX12 45 = [918, 920, 922, 924, 926, 928, 930, 932, 934, 936, 938, 940, 942, 944, 946, 948, 950, 952, 954, 956, 958, 960, 962, 964, 966, 968, 970, 972, 974, 976, 978, 980, 982, 984, 986, 988, 990, 992, 994, 996, 998, 1000, 1002, 1004, 1006].filterMap (fun i => lw_tbl[i]?) := by decide +kernel
  intro w hw
  have g1 := List.all_eq_true.mp g w hw
  rw [h] at hw
  obtain ⟨i, -, hi⟩ := List.mem_filterMap.mp hw
  exact pm_mem hi g1
def pm_ty (ci : Nat) : Nat → FieldType := match ci with
  | 0 => tyX0
  | 1 => tyX1
  | 2 => tyX2
  | 3 => tyX3
  | 4 => tyX4
  | 5 => tyX5
  | 6 => tyX6
  | 7 => tyX7
  | 8 => tyX8
  | 9 => tyX9
  | 10 => tyX10
  | 11 => tyX11
  | _ => tyX12
theorem pm_cls {ci : Nat} {C : String} {T : u_T} {N : Nat} (h : vwCl[ci]? = some (C, T, N)) : (∀ w ∈ u_ws C T N, w ∈ pm_ws) ∧ (∀ k, k < N → parseFieldDescriptor (T k).2.2.1 = some (pm_ty ci k)) ∧ (∀ a, a < N → ∀ b, b < N → a ≠ b → (T a).2.1 ≠ (T b).2.1) := by
  match ci, h with
  | 0, h => cases h; exact ⟨pm_in_X0, tyX0_ok, nmX0⟩
  | 1, h => cases h; exact ⟨pm_in_X1, tyX1_ok, nmX1⟩
  | 2, h => cases h; exact ⟨pm_in_X2, tyX2_ok, nmX2⟩
  | 3, h => cases h; exact ⟨pm_in_X3, tyX3_ok, nmX3⟩
  | 4, h => cases h; exact ⟨pm_in_X4, tyX4_ok, nmX4⟩
  | 5, h => cases h; exact ⟨pm_in_X5, tyX5_ok, nmX5⟩
  | 6, h => cases h; exact ⟨pm_in_X6, tyX6_ok, nmX6⟩
  | 7, h => cases h; exact ⟨pm_in_X7, tyX7_ok, nmX7⟩
  | 8, h => cases h; exact ⟨pm_in_X8, tyX8_ok, nmX8⟩
  | 9, h => cases h; exact ⟨pm_in_X9, tyX9_ok, nmX9⟩
  | 10, h => cases h; exact ⟨pm_in_X10, tyX10_ok, nmX10⟩
  | 11, h => cases h; exact ⟨pm_in_X11, tyX11_ok, nmX11⟩
  | 12, h => cases h; exact ⟨pm_in_X12, tyX12_ok, nmX12⟩
  | n + 13, h => exact absurd h (by simp [vwCl])

