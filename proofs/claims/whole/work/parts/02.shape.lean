def ze_N : Nat := 65
def ze_lens : List Nat := [4, 24, 96, 3, 12, 5, 4, 4, 4, 4, 24, 24, 24, 24, 3, 85, 85, 85, 85, 255, 340, 340, 85, 85, 3, 4, 3, 0, 0, 0, 0, 0, 0, 0, 0, 0, 0, 0, 0, 0, 0, 0, 0, 0, 0, 0, 4, 24, 96, 96, 96, 384, 96, 96, 96, 4632, 4, 12, 96, 96, 96, 4, 3, 3, 0]
def ze_len (k : Nat) : Nat := ze_lens.getD k 0
def ze_isI (k : Nat) : Bool := Nat.blt k 27 || (Nat.ble 46 k && Nat.blt k 64)
def ze_isQ (k : Nat) : Bool := Nat.ble 43 k && Nat.blt k 46
def ze_qbs : List Nat := [10, 39, 35]
def ze_qb (k : Nat) : Nat := ze_qbs.getD (k - 43) 0
def ze_qt (k : Nat) : Nat := 46 - k
def ze_at : Nat → FieldType := fun t => match t with
  | 0 => .int
  | 1 => .object "CaseTree$Finding"
  | 2 => .object "CaseTree$Fork"
  | _ => .array .int
def ze_cls : List Nat := [99, 99, 99, 99, 99, 99, 99, 99, 99, 99, 99, 99, 99, 99, 99, 99, 99, 99, 99, 99, 99, 99, 99, 99, 99, 99, 99, 0, 1, 9, 6, 8, 4, 7, 5, 2, 2, 2, 2, 3, 3, 3, 3, 99, 99, 99, 99, 99, 99, 99, 99, 99, 99, 99, 99, 99, 99, 99, 99, 99, 99, 99, 99, 99, 10]
def ze_cl (k : Nat) : Nat := ze_cls.getD k 99
def ze_nf (ci : Nat) : Nat := [9, 5, 4, 6, 5, 3, 4, 3, 5, 12, 30].getD ci 0
def ze_kds : List (List Nat) := [[2, 2, 2, 2, 2, 2, 2, 2, 2], [2, 2, 2, 0, 0], [0, 0, 1, 1], [2, 0, 0, 0, 0, 0], [2, 2, 2, 2, 0], [2, 2, 2], [2, 2, 2, 2], [2, 2, 0], [2, 2, 2, 2, 2], [2, 2, 2, 2, 2, 2, 2, 2, 2, 0, 0, 0], [0, 2, 0, 2, 2, 0, 0, 0, 2, 2, 2, 2, 2, 2, 2, 2, 2, 0, 0, 1, 1, 0, 0, 0, 2, 2, 2, 2, 2, 2]]
def ze_kd (ci j : Nat) : Nat := (ze_kds.getD ci []).getD j 0
def ze_tgs : List (List Nat) := [[28, 29, 30, 31, 32, 33, 34, 25, 26], [0, 1, 2, 0, 0], [0, 0, 0, 0], [0, 0, 0, 0, 0, 0], [28, 29, 30, 31, 0], [29, 30, 24], [28, 43, 44, 14], [29, 30, 0], [28, 45, 3, 4, 5], [15, 16, 17, 18, 19, 20, 21, 22, 23, 0, 0, 0], [0, 46, 0, 47, 48, 0, 0, 0, 49, 50, 51, 52, 53, 54, 55, 56, 57, 0, 0, 0, 0, 0, 0, 0, 58, 59, 60, 61, 62, 63]]
def ze_tg (ci j k : Nat) : Nat := bif Nat.beq ci 3 then k - 33 else (ze_tgs.getD ci []).getD j 0
theorem ze_cl_all : ∀ k, k < 65 → ze_cl k < 90 → (ze_isI k = false ∧ ze_isQ k = false) := by decide +kernel
theorem ze_cls_len : ze_cls.length = 65 := rfl
theorem ze_cl_lt {k : Nat} (h : ze_cl k < 90) : k < 65 := by
  by_cases q : k < 65
  · exact q
  · have e : ze_cl k = 99 := by
      unfold ze_cl
      rw [List.getD_eq_getElem?_getD, List.getElem?_eq_none (by rw [ze_cls_len]; omega)]
      rfl
    omega
theorem ze_cl_N {k ci : Nat} (h : ze_cl k = ci) (hc : ci < 90) : k < ze_N := ze_cl_lt (by omega)
theorem ze_cl_I {k : Nat} (hc : ze_cl k < 90) : ze_isI k = false := (ze_cl_all k (ze_cl_lt hc) hc).1
theorem ze_cl_Q {k : Nat} (hc : ze_cl k < 90) : ze_isQ k = false := (ze_cl_all k (ze_cl_lt hc) hc).2
theorem ze_isI_N {k : Nat} (h : ze_isI k = true) : k < ze_N := by
  unfold ze_isI at h
  rw [Bool.or_eq_true, Bool.and_eq_true] at h
  show k < 65
  rcases h with h | h
  · have := Nat.lt_of_lt_of_le (Nat.le_of_ble_eq_true h : k < 27) (by decide : 27 ≤ 65)
    exact this
  · have := (Nat.le_of_ble_eq_true h.2 : k < 64)
    omega
theorem ze_isQ_all : ∀ k, k < 65 → ze_isQ k = true → (ze_isI k = false ∧ ze_qt k < 4 ∧ (ze_at (ze_qt k)).isReference = true) := by decide +kernel
theorem ze_isQ_N {k : Nat} (h : ze_isQ k = true) : k < ze_N ∧ ze_isI k = false ∧ ze_qt k < 4 ∧ (ze_at (ze_qt k)).isReference = true := by
  have hk : k < 65 := by
    have h2 := h
    unfold ze_isQ at h2
    rw [Bool.and_eq_true] at h2
    have := (Nat.le_of_ble_eq_true h2.2 : k < 46)
    omega
  exact ⟨hk, ze_isQ_all k hk h⟩
def zn : List (String × Nat × MethodName) := [("CaseTree$Fork", 37, ⟨"CaseTree", "sum", "([III)I"⟩), ("CaseTree$Fork", 41, ⟨"CaseTree", "firstGreatest", "([III)I"⟩), ("CaseTree$Fork", 44, ⟨"CaseTree", "branchFor", "(II)I"⟩), ("CaseTree$Grower", 121, ⟨"CaseTree", "sum", "([III)I"⟩), ("CaseTree$Judge", 33, ⟨"CaseTree", "firstGreatest", "([III)I"⟩), ("CaseTree$Path", 59, ⟨"CaseTree", "branchFor", "(II)I"⟩), ("CaseTree$Pruner", 113, ⟨"CaseTree", "sum", "([III)I"⟩), ("CaseTree$Pruner", 117, ⟨"CaseTree", "firstGreatest", "([III)I"⟩), ("CaseTree$Tester", 67, ⟨"CaseTree", "logarithm", "(I)I"⟩), ("CaseTree$Tester", 87, ⟨"CaseTree", "branchFor", "(II)I"⟩), ("CaseTree$Tester", 90, ⟨"CaseTree", "information", "([III)J"⟩), ("CaseTree$Tree", 53, ⟨"CaseTree", "sum", "([III)I"⟩), ("CaseTree$Tree", 89, ⟨"CaseTree", "firstGreatest", "([III)I"⟩)]
