/-! the world that the constructors leave, as the small machine sees it -/
abbrev zwall (ac : Nat → ClassId) (qx qm : Nat) (u v : Nat → Nat) : va_W := wc_C ac qx u ++ wc_M ac qm v
def zadl (qx qm : Nat) (u v : Nat → Nat) : List Nat := [(u 9), (u 10), (u 11), (u 33), (u 34), (u 35), (u 28), (u 29), (u 30), (u 31), (u 21) + 1, (u 21) + 2, (u 21) + 3, (u 21) + 4, (u 23), (u 12), (u 13), (u 14), (u 15), (u 16), (u 17), (u 18), (u 19), (u 20), (u 40), (u 7), (u 8), qx, (u 0), (u 1), (u 2), (u 3), (u 4), (u 5), (u 6), (u 36), (u 37), (u 38), (u 39), (u 24), (u 25), (u 26), (u 27), (u 21), (u 22), (u 32), (v 0), (v 1), (v 2), (v 3), (v 4), (v 5), (v 6), (v 7), (v 8), (v 9), (v 10), (v 11), (v 12), (v 13), (v 14), (v 15), (v 16), (v 17), qm]
def zad (b qx qm : Nat) (u v : Nat → Nat) (k : Nat) : Nat := bif Nat.beq k 99 then b else (zadl qx qm u v).getD k 0
def zpi : List Nat := [2, 3, 4, 33, 34, 35, 24, 26, 28, 30, 17, 18, 19, 20, 22, 6, 7, 8, 9, 10, 11, 12, 13, 14, 43, 44, 45, 0, 1, 5, 15, 31, 40, 41, 42, 36, 37, 38, 39, 23, 25, 27, 29, 16, 21, 32, 47, 48, 49, 50, 51, 52, 53, 54, 55, 56, 57, 58, 59, 60, 61, 62, 63, 64, 46]
def zs0 : ze_S := (fun k => bif Nat.beq k 32 then (fun j => bif Nat.beq j 4 then 1 else 0) else bif (Nat.ble 35 k && Nat.ble k 38) then (fun j => bif Nat.beq j 1 then -1 else 0) else bif (Nat.ble 39 k && Nat.ble k 42) then (fun j => bif Nat.beq j 2 then -1 else 0) else fun _ => 0, fun _ _ => 0)
def zS0 : zSt := ((0, 0, fun _ => 0, fun _ => 0, fun _ _ => 0), none, fun _ => 0)
theorem zS0_ok : zdok zS0.1 := ⟨by decide, by decide, fun a h => absurd h (Nat.not_lt_zero _), fun a h => absurd h (Nat.not_lt_zero _), fun a h => absurd h (Nat.not_lt_zero _)⟩
theorem zS0_C : zCR zs0 zS0 := ⟨zS0_ok, ⟨rfl, rfl, fun a h => absurd h (Nat.not_lt_zero _), fun a h => absurd h (Nat.not_lt_zero _), fun a h => absurd h (Nat.not_lt_zero _)⟩, fun _ _ => rfl, rfl⟩
theorem zS0_M : zMR zs0 zS0 := ⟨zS0_ok, ⟨rfl, fun a h => absurd h (Nat.not_lt_zero _), fun a h => absurd h (Nat.not_lt_zero _), fun a h => absurd h (Nat.not_lt_zero _)⟩, rfl, fun _ _ => rfl, rfl⟩
theorem zpi_inj : ∀ i, i < 65 → ∀ j, j < 65 → zpi.getD i 0 = zpi.getD j 0 → i = j := by decide +kernel
theorem zq_cell {c : ClassId} {f g : Nat → Option Nat} (h : ∀ j, j < 4 → f j = g j) : vp_cell c (4, .inr (.inr (.inr (.inr f)))) = vp_cell c (4, .inr (.inr (.inr (.inr g)))) := by
  rw [vp_cell_q, vp_cell_q]
  unfold arrV
  congr 2
  funext j
  show va_rf (f j.val) = va_rf (g j.val)
  rw [h j.val j.isLt]
def zD0 : va_G := (fun _ => 0, fun _ _ => 0)
section ZWall
variable (D : va_G) (ac : Nat → ClassId) (b qx qm : Nat) (u v : Nat → Nat)
set_option maxRecDepth 20000 in
theorem zw_0 : (zwall ac qx qm u v)[2]? = some (zad b qx qm u v 0, ze_E (D, zad b qx qm u v, ac) zs0 0) := rfl
set_option maxRecDepth 20000 in
theorem zw_1 : (zwall ac qx qm u v)[3]? = some (zad b qx qm u v 1, ze_E (D, zad b qx qm u v, ac) zs0 1) := rfl
set_option maxRecDepth 20000 in
theorem zw_2 : (zwall ac qx qm u v)[4]? = some (zad b qx qm u v 2, ze_E (D, zad b qx qm u v, ac) zs0 2) := rfl
set_option maxRecDepth 20000 in
theorem zw_3 : (zwall ac qx qm u v)[33]? = some (zad b qx qm u v 3, ze_E (D, zad b qx qm u v, ac) zs0 3) := rfl
set_option maxRecDepth 20000 in
theorem zw_4 : (zwall ac qx qm u v)[34]? = some (zad b qx qm u v 4, ze_E (D, zad b qx qm u v, ac) zs0 4) := rfl
set_option maxRecDepth 20000 in
theorem zw_5 : (zwall ac qx qm u v)[35]? = some (zad b qx qm u v 5, ze_E (D, zad b qx qm u v, ac) zs0 5) := rfl
set_option maxRecDepth 20000 in
theorem zw_6 : (zwall ac qx qm u v)[24]? = some (zad b qx qm u v 6, ze_E (D, zad b qx qm u v, ac) zs0 6) := rfl
set_option maxRecDepth 20000 in
theorem zw_7 : (zwall ac qx qm u v)[26]? = some (zad b qx qm u v 7, ze_E (D, zad b qx qm u v, ac) zs0 7) := rfl
set_option maxRecDepth 20000 in
theorem zw_8 : (zwall ac qx qm u v)[28]? = some (zad b qx qm u v 8, ze_E (D, zad b qx qm u v, ac) zs0 8) := rfl
set_option maxRecDepth 20000 in
theorem zw_9 : (zwall ac qx qm u v)[30]? = some (zad b qx qm u v 9, ze_E (D, zad b qx qm u v, ac) zs0 9) := rfl
set_option maxRecDepth 20000 in
theorem zw_10 : (zwall ac qx qm u v)[17]? = some (zad b qx qm u v 10, ze_E (D, zad b qx qm u v, ac) zs0 10) := rfl
set_option maxRecDepth 20000 in
theorem zw_11 : (zwall ac qx qm u v)[18]? = some (zad b qx qm u v 11, ze_E (D, zad b qx qm u v, ac) zs0 11) := rfl
set_option maxRecDepth 20000 in
theorem zw_12 : (zwall ac qx qm u v)[19]? = some (zad b qx qm u v 12, ze_E (D, zad b qx qm u v, ac) zs0 12) := rfl
set_option maxRecDepth 20000 in
theorem zw_13 : (zwall ac qx qm u v)[20]? = some (zad b qx qm u v 13, ze_E (D, zad b qx qm u v, ac) zs0 13) := rfl
set_option maxRecDepth 20000 in
theorem zw_14 : (zwall ac qx qm u v)[22]? = some (zad b qx qm u v 14, ze_E (D, zad b qx qm u v, ac) zs0 14) := rfl
set_option maxRecDepth 20000 in
theorem zw_15 : (zwall ac qx qm u v)[6]? = some (zad b qx qm u v 15, ze_E (D, zad b qx qm u v, ac) zs0 15) := rfl
set_option maxRecDepth 20000 in
theorem zw_16 : (zwall ac qx qm u v)[7]? = some (zad b qx qm u v 16, ze_E (D, zad b qx qm u v, ac) zs0 16) := rfl
set_option maxRecDepth 20000 in
theorem zw_17 : (zwall ac qx qm u v)[8]? = some (zad b qx qm u v 17, ze_E (D, zad b qx qm u v, ac) zs0 17) := rfl
set_option maxRecDepth 20000 in
theorem zw_18 : (zwall ac qx qm u v)[9]? = some (zad b qx qm u v 18, ze_E (D, zad b qx qm u v, ac) zs0 18) := rfl
set_option maxRecDepth 20000 in
theorem zw_19 : (zwall ac qx qm u v)[10]? = some (zad b qx qm u v 19, ze_E (D, zad b qx qm u v, ac) zs0 19) := rfl
set_option maxRecDepth 20000 in
theorem zw_20 : (zwall ac qx qm u v)[11]? = some (zad b qx qm u v 20, ze_E (D, zad b qx qm u v, ac) zs0 20) := rfl
set_option maxRecDepth 20000 in
theorem zw_21 : (zwall ac qx qm u v)[12]? = some (zad b qx qm u v 21, ze_E (D, zad b qx qm u v, ac) zs0 21) := rfl
set_option maxRecDepth 20000 in
theorem zw_22 : (zwall ac qx qm u v)[13]? = some (zad b qx qm u v 22, ze_E (D, zad b qx qm u v, ac) zs0 22) := rfl
set_option maxRecDepth 20000 in
theorem zw_23 : (zwall ac qx qm u v)[14]? = some (zad b qx qm u v 23, ze_E (D, zad b qx qm u v, ac) zs0 23) := rfl
set_option maxRecDepth 20000 in
theorem zw_24 : (zwall ac qx qm u v)[43]? = some (zad b qx qm u v 24, ze_E (D, zad b qx qm u v, ac) zs0 24) := rfl
set_option maxRecDepth 20000 in
theorem zw_25 : (zwall ac qx qm u v)[44]? = some (zad b qx qm u v 25, ze_E (D, zad b qx qm u v, ac) zs0 25) := rfl
set_option maxRecDepth 20000 in
theorem zw_26 : (zwall ac qx qm u v)[45]? = some (zad b qx qm u v 26, ze_E (D, zad b qx qm u v, ac) zs0 26) := rfl
set_option maxRecDepth 20000 in
theorem zw_27 : (zwall ac qx qm u v)[0]? = some (zad b qx qm u v 27, ze_E (D, zad b qx qm u v, ac) zs0 27) := rfl
set_option maxRecDepth 20000 in
theorem zw_28 : (zwall ac qx qm u v)[1]? = some (zad b qx qm u v 28, ze_E (D, zad b qx qm u v, ac) zs0 28) := rfl
set_option maxRecDepth 20000 in
theorem zw_29 : (zwall ac qx qm u v)[5]? = some (zad b qx qm u v 29, ze_E (D, zad b qx qm u v, ac) zs0 29) := rfl
set_option maxRecDepth 20000 in
theorem zw_30 : (zwall ac qx qm u v)[15]? = some (zad b qx qm u v 30, ze_E (D, zad b qx qm u v, ac) zs0 30) := rfl
set_option maxRecDepth 20000 in
theorem zw_31 : (zwall ac qx qm u v)[31]? = some (zad b qx qm u v 31, ze_E (D, zad b qx qm u v, ac) zs0 31) := rfl
set_option maxRecDepth 20000 in
theorem zw_32 : (zwall ac qx qm u v)[40]? = some (zad b qx qm u v 32, ze_E (D, zad b qx qm u v, ac) zs0 32) := rfl
set_option maxRecDepth 20000 in
theorem zw_33 : (zwall ac qx qm u v)[41]? = some (zad b qx qm u v 33, ze_E (D, zad b qx qm u v, ac) zs0 33) := rfl
set_option maxRecDepth 20000 in
theorem zw_34 : (zwall ac qx qm u v)[42]? = some (zad b qx qm u v 34, ze_E (D, zad b qx qm u v, ac) zs0 34) := rfl
set_option maxRecDepth 20000 in
theorem zw_35 : (zwall ac qx qm u v)[36]? = some (zad b qx qm u v 35, ze_E (D, zad b qx qm u v, ac) zs0 35) := rfl
set_option maxRecDepth 20000 in
theorem zw_36 : (zwall ac qx qm u v)[37]? = some (zad b qx qm u v 36, ze_E (D, zad b qx qm u v, ac) zs0 36) := rfl
set_option maxRecDepth 20000 in
theorem zw_37 : (zwall ac qx qm u v)[38]? = some (zad b qx qm u v 37, ze_E (D, zad b qx qm u v, ac) zs0 37) := rfl
set_option maxRecDepth 20000 in
theorem zw_38 : (zwall ac qx qm u v)[39]? = some (zad b qx qm u v 38, ze_E (D, zad b qx qm u v, ac) zs0 38) := rfl
set_option maxRecDepth 20000 in
theorem zw_39 : (zwall ac qx qm u v)[23]? = some (zad b qx qm u v 39, ze_E (D, zad b qx qm u v, ac) zs0 39) := rfl
set_option maxRecDepth 20000 in
theorem zw_40 : (zwall ac qx qm u v)[25]? = some (zad b qx qm u v 40, ze_E (D, zad b qx qm u v, ac) zs0 40) := rfl
set_option maxRecDepth 20000 in
theorem zw_41 : (zwall ac qx qm u v)[27]? = some (zad b qx qm u v 41, ze_E (D, zad b qx qm u v, ac) zs0 41) := rfl
set_option maxRecDepth 20000 in
theorem zw_42 : (zwall ac qx qm u v)[29]? = some (zad b qx qm u v 42, ze_E (D, zad b qx qm u v, ac) zs0 42) := rfl
set_option maxRecDepth 20000 in
theorem zw_43 : (zwall ac qx qm u v)[16]? = some (zad b qx qm u v 43, zQa (ac 3) (fun j => if j < 4 then some ((u 21) + 1 + j) else none)) := rfl
set_option maxRecDepth 20000 in
theorem zwe_43 : ze_E (D, zad b qx qm u v, ac) zs0 43 = zQa (ac 3) (fun j => some (zad b qx qm u v (10 + j))) := rfl
set_option maxRecDepth 20000 in
theorem zwf_43 : ∀ j, j < 4 → (fun j => if j < 4 then some ((u 21) + 1 + j) else none) j = some (zad b qx qm u v (10 + j)) := fun j hj => by
  rcases (show j = 0 ∨ j = 1 ∨ j = 2 ∨ j = 3 by omega) with rfl | rfl | rfl | rfl <;> rfl
set_option maxRecDepth 20000 in
theorem zw_44 : (zwall ac qx qm u v)[21]? = some (zad b qx qm u v 44, zQa (ac 2) (va_up (va_up (va_up (va_up (fun _ => none) (0 : Int32).toNatClampNeg (some (u 24))) (1 : Int32).toNatClampNeg (some (u 25))) (2 : Int32).toNatClampNeg (some (u 26))) (3 : Int32).toNatClampNeg (some (u 27)))) := rfl
set_option maxRecDepth 20000 in
theorem zwe_44 : ze_E (D, zad b qx qm u v, ac) zs0 44 = zQa (ac 2) (fun j => some (zad b qx qm u v (39 + j))) := rfl
set_option maxRecDepth 20000 in
theorem zwf_44 : ∀ j, j < 4 → (va_up (va_up (va_up (va_up (fun _ => none) (0 : Int32).toNatClampNeg (some (u 24))) (1 : Int32).toNatClampNeg (some (u 25))) (2 : Int32).toNatClampNeg (some (u 26))) (3 : Int32).toNatClampNeg (some (u 27))) j = some (zad b qx qm u v (39 + j)) := fun j hj => by
  rcases (show j = 0 ∨ j = 1 ∨ j = 2 ∨ j = 3 by omega) with rfl | rfl | rfl | rfl <;> rfl
set_option maxRecDepth 20000 in
theorem zw_45 : (zwall ac qx qm u v)[32]? = some (zad b qx qm u v 45, zQa (ac 1) (va_up (va_up (va_up (va_up (fun _ => none) (0 : Int32).toNatClampNeg (some (u 36))) (1 : Int32).toNatClampNeg (some (u 37))) (2 : Int32).toNatClampNeg (some (u 38))) (3 : Int32).toNatClampNeg (some (u 39)))) := rfl
set_option maxRecDepth 20000 in
theorem zwe_45 : ze_E (D, zad b qx qm u v, ac) zs0 45 = zQa (ac 1) (fun j => some (zad b qx qm u v (35 + j))) := rfl
set_option maxRecDepth 20000 in
theorem zwf_45 : ∀ j, j < 4 → (va_up (va_up (va_up (va_up (fun _ => none) (0 : Int32).toNatClampNeg (some (u 36))) (1 : Int32).toNatClampNeg (some (u 37))) (2 : Int32).toNatClampNeg (some (u 38))) (3 : Int32).toNatClampNeg (some (u 39))) j = some (zad b qx qm u v (35 + j)) := fun j hj => by
  rcases (show j = 0 ∨ j = 1 ∨ j = 2 ∨ j = 3 by omega) with rfl | rfl | rfl | rfl <;> rfl
set_option maxRecDepth 20000 in
theorem zw_46 : (zwall ac qx qm u v)[47]? = some (zad b qx qm u v 46, ze_E (D, zad b qx qm u v, ac) zs0 46) := rfl
set_option maxRecDepth 20000 in
theorem zw_47 : (zwall ac qx qm u v)[48]? = some (zad b qx qm u v 47, ze_E (D, zad b qx qm u v, ac) zs0 47) := rfl
set_option maxRecDepth 20000 in
theorem zw_48 : (zwall ac qx qm u v)[49]? = some (zad b qx qm u v 48, ze_E (D, zad b qx qm u v, ac) zs0 48) := rfl
set_option maxRecDepth 20000 in
theorem zw_49 : (zwall ac qx qm u v)[50]? = some (zad b qx qm u v 49, ze_E (D, zad b qx qm u v, ac) zs0 49) := rfl
set_option maxRecDepth 20000 in
theorem zw_50 : (zwall ac qx qm u v)[51]? = some (zad b qx qm u v 50, ze_E (D, zad b qx qm u v, ac) zs0 50) := rfl
set_option maxRecDepth 20000 in
theorem zw_51 : (zwall ac qx qm u v)[52]? = some (zad b qx qm u v 51, ze_E (D, zad b qx qm u v, ac) zs0 51) := rfl
set_option maxRecDepth 20000 in
theorem zw_52 : (zwall ac qx qm u v)[53]? = some (zad b qx qm u v 52, ze_E (D, zad b qx qm u v, ac) zs0 52) := rfl
set_option maxRecDepth 20000 in
theorem zw_53 : (zwall ac qx qm u v)[54]? = some (zad b qx qm u v 53, ze_E (D, zad b qx qm u v, ac) zs0 53) := rfl
set_option maxRecDepth 20000 in
theorem zw_54 : (zwall ac qx qm u v)[55]? = some (zad b qx qm u v 54, ze_E (D, zad b qx qm u v, ac) zs0 54) := rfl
set_option maxRecDepth 20000 in
theorem zw_55 : (zwall ac qx qm u v)[56]? = some (zad b qx qm u v 55, ze_E (D, zad b qx qm u v, ac) zs0 55) := rfl
set_option maxRecDepth 20000 in
theorem zw_56 : (zwall ac qx qm u v)[57]? = some (zad b qx qm u v 56, ze_E (D, zad b qx qm u v, ac) zs0 56) := rfl
set_option maxRecDepth 20000 in
theorem zw_57 : (zwall ac qx qm u v)[58]? = some (zad b qx qm u v 57, ze_E (D, zad b qx qm u v, ac) zs0 57) := rfl
set_option maxRecDepth 20000 in
theorem zw_58 : (zwall ac qx qm u v)[59]? = some (zad b qx qm u v 58, ze_E (D, zad b qx qm u v, ac) zs0 58) := rfl
set_option maxRecDepth 20000 in
theorem zw_59 : (zwall ac qx qm u v)[60]? = some (zad b qx qm u v 59, ze_E (D, zad b qx qm u v, ac) zs0 59) := rfl
set_option maxRecDepth 20000 in
theorem zw_60 : (zwall ac qx qm u v)[61]? = some (zad b qx qm u v 60, ze_E (D, zad b qx qm u v, ac) zs0 60) := rfl
set_option maxRecDepth 20000 in
theorem zw_61 : (zwall ac qx qm u v)[62]? = some (zad b qx qm u v 61, ze_E (D, zad b qx qm u v, ac) zs0 61) := rfl
set_option maxRecDepth 20000 in
theorem zw_62 : (zwall ac qx qm u v)[63]? = some (zad b qx qm u v 62, ze_E (D, zad b qx qm u v, ac) zs0 62) := rfl
set_option maxRecDepth 20000 in
theorem zw_63 : (zwall ac qx qm u v)[64]? = some (zad b qx qm u v 63, ze_E (D, zad b qx qm u v, ac) zs0 63) := rfl
set_option maxRecDepth 20000 in
theorem zw_64 : (zwall ac qx qm u v)[46]? = some (zad b qx qm u v 64, ze_E (D, zad b qx qm u v, ac) zs0 64) := rfl
variable {D} {ac} {b} {qx} {qm} {u} {v}
theorem zw_P {H : Heap} (hP : va_P D vwCl (zwall ac qx qm u v) H) : va_P D vwCl (ze_w (D, zad b qx qm u v, ac) zs0) H := by
  intro k q hk
  obtain ⟨hk65, rfl⟩ := ze_w_in hk
  have hk65 : k < 65 := hk65
  clear hk
  rcases (show k = 0 ∨ k = 1 ∨ k = 2 ∨ k = 3 ∨ k = 4 ∨ k = 5 ∨ k = 6 ∨ k = 7 ∨ k = 8 ∨ k = 9 ∨ k = 10 ∨ k = 11 ∨ k = 12 ∨ k = 13 ∨ k = 14 ∨ k = 15 ∨ k = 16 ∨ k = 17 ∨ k = 18 ∨ k = 19 ∨ k = 20 ∨ k = 21 ∨ k = 22 ∨ k = 23 ∨ k = 24 ∨ k = 25 ∨ k = 26 ∨ k = 27 ∨ k = 28 ∨ k = 29 ∨ k = 30 ∨ k = 31 ∨ k = 32 ∨ k = 33 ∨ k = 34 ∨ k = 35 ∨ k = 36 ∨ k = 37 ∨ k = 38 ∨ k = 39 ∨ k = 40 ∨ k = 41 ∨ k = 42 ∨ k = 43 ∨ k = 44 ∨ k = 45 ∨ k = 46 ∨ k = 47 ∨ k = 48 ∨ k = 49 ∨ k = 50 ∨ k = 51 ∨ k = 52 ∨ k = 53 ∨ k = 54 ∨ k = 55 ∨ k = 56 ∨ k = 57 ∨ k = 58 ∨ k = 59 ∨ k = 60 ∨ k = 61 ∨ k = 62 ∨ k = 63 ∨ k = 64 by omega) with rfl | rfl | rfl | rfl | rfl | rfl | rfl | rfl | rfl | rfl | rfl | rfl | rfl | rfl | rfl | rfl | rfl | rfl | rfl | rfl | rfl | rfl | rfl | rfl | rfl | rfl | rfl | rfl | rfl | rfl | rfl | rfl | rfl | rfl | rfl | rfl | rfl | rfl | rfl | rfl | rfl | rfl | rfl | rfl | rfl | rfl | rfl | rfl | rfl | rfl | rfl | rfl | rfl | rfl | rfl | rfl | rfl | rfl | rfl | rfl | rfl | rfl | rfl | rfl | rfl
  · exact hP _ _ (zw_0 D ac b qx qm u v)
  · exact hP _ _ (zw_1 D ac b qx qm u v)
  · exact hP _ _ (zw_2 D ac b qx qm u v)
  · exact hP _ _ (zw_3 D ac b qx qm u v)
  · exact hP _ _ (zw_4 D ac b qx qm u v)
  · exact hP _ _ (zw_5 D ac b qx qm u v)
  · exact hP _ _ (zw_6 D ac b qx qm u v)
  · exact hP _ _ (zw_7 D ac b qx qm u v)
  · exact hP _ _ (zw_8 D ac b qx qm u v)
  · exact hP _ _ (zw_9 D ac b qx qm u v)
  · exact hP _ _ (zw_10 D ac b qx qm u v)
  · exact hP _ _ (zw_11 D ac b qx qm u v)
  · exact hP _ _ (zw_12 D ac b qx qm u v)
  · exact hP _ _ (zw_13 D ac b qx qm u v)
  · exact hP _ _ (zw_14 D ac b qx qm u v)
  · exact hP _ _ (zw_15 D ac b qx qm u v)
  · exact hP _ _ (zw_16 D ac b qx qm u v)
  · exact hP _ _ (zw_17 D ac b qx qm u v)
  · exact hP _ _ (zw_18 D ac b qx qm u v)
  · exact hP _ _ (zw_19 D ac b qx qm u v)
  · exact hP _ _ (zw_20 D ac b qx qm u v)
  · exact hP _ _ (zw_21 D ac b qx qm u v)
  · exact hP _ _ (zw_22 D ac b qx qm u v)
  · exact hP _ _ (zw_23 D ac b qx qm u v)
  · exact hP _ _ (zw_24 D ac b qx qm u v)
  · exact hP _ _ (zw_25 D ac b qx qm u v)
  · exact hP _ _ (zw_26 D ac b qx qm u v)
  · exact hP _ _ (zw_27 D ac b qx qm u v)
  · exact hP _ _ (zw_28 D ac b qx qm u v)
  · exact hP _ _ (zw_29 D ac b qx qm u v)
  · exact hP _ _ (zw_30 D ac b qx qm u v)
  · exact hP _ _ (zw_31 D ac b qx qm u v)
  · exact hP _ _ (zw_32 D ac b qx qm u v)
  · exact hP _ _ (zw_33 D ac b qx qm u v)
  · exact hP _ _ (zw_34 D ac b qx qm u v)
  · exact hP _ _ (zw_35 D ac b qx qm u v)
  · exact hP _ _ (zw_36 D ac b qx qm u v)
  · exact hP _ _ (zw_37 D ac b qx qm u v)
  · exact hP _ _ (zw_38 D ac b qx qm u v)
  · exact hP _ _ (zw_39 D ac b qx qm u v)
  · exact hP _ _ (zw_40 D ac b qx qm u v)
  · exact hP _ _ (zw_41 D ac b qx qm u v)
  · exact hP _ _ (zw_42 D ac b qx qm u v)
  · have h : H[zad b qx qm u v 43]? = _ := hP _ _ (zw_43 ac b qx qm u v)
    show va_at D vwCl (zad b qx qm u v 43, ze_E (D, zad b qx qm u v, ac) zs0 43) H
    rw [zwe_43]
    exact h.trans (congrArg some (zq_cell (zwf_43 b qx qm u v)))
  · have h : H[zad b qx qm u v 44]? = _ := hP _ _ (zw_44 ac b qx qm u v)
    show va_at D vwCl (zad b qx qm u v 44, ze_E (D, zad b qx qm u v, ac) zs0 44) H
    rw [zwe_44]
    exact h.trans (congrArg some (zq_cell (zwf_44 b qx qm u v)))
  · have h : H[zad b qx qm u v 45]? = _ := hP _ _ (zw_45 ac b qx qm u v)
    show va_at D vwCl (zad b qx qm u v 45, ze_E (D, zad b qx qm u v, ac) zs0 45) H
    rw [zwe_45]
    exact h.trans (congrArg some (zq_cell (zwf_45 b qx qm u v)))
  · exact hP _ _ (zw_46 D ac b qx qm u v)
  · exact hP _ _ (zw_47 D ac b qx qm u v)
  · exact hP _ _ (zw_48 D ac b qx qm u v)
  · exact hP _ _ (zw_49 D ac b qx qm u v)
  · exact hP _ _ (zw_50 D ac b qx qm u v)
  · exact hP _ _ (zw_51 D ac b qx qm u v)
  · exact hP _ _ (zw_52 D ac b qx qm u v)
  · exact hP _ _ (zw_53 D ac b qx qm u v)
  · exact hP _ _ (zw_54 D ac b qx qm u v)
  · exact hP _ _ (zw_55 D ac b qx qm u v)
  · exact hP _ _ (zw_56 D ac b qx qm u v)
  · exact hP _ _ (zw_57 D ac b qx qm u v)
  · exact hP _ _ (zw_58 D ac b qx qm u v)
  · exact hP _ _ (zw_59 D ac b qx qm u v)
  · exact hP _ _ (zw_60 D ac b qx qm u v)
  · exact hP _ _ (zw_61 D ac b qx qm u v)
  · exact hP _ _ (zw_62 D ac b qx qm u v)
  · exact hP _ _ (zw_63 D ac b qx qm u v)
  · exact hP _ _ (zw_64 D ac b qx qm u v)
theorem zw_ad {k : Nat} (hk : k < 65) : ∃ e, (zwall ac qx qm u v)[zpi.getD k 0]? = some (zad b qx qm u v k, e) := by
  rcases (show k = 0 ∨ k = 1 ∨ k = 2 ∨ k = 3 ∨ k = 4 ∨ k = 5 ∨ k = 6 ∨ k = 7 ∨ k = 8 ∨ k = 9 ∨ k = 10 ∨ k = 11 ∨ k = 12 ∨ k = 13 ∨ k = 14 ∨ k = 15 ∨ k = 16 ∨ k = 17 ∨ k = 18 ∨ k = 19 ∨ k = 20 ∨ k = 21 ∨ k = 22 ∨ k = 23 ∨ k = 24 ∨ k = 25 ∨ k = 26 ∨ k = 27 ∨ k = 28 ∨ k = 29 ∨ k = 30 ∨ k = 31 ∨ k = 32 ∨ k = 33 ∨ k = 34 ∨ k = 35 ∨ k = 36 ∨ k = 37 ∨ k = 38 ∨ k = 39 ∨ k = 40 ∨ k = 41 ∨ k = 42 ∨ k = 43 ∨ k = 44 ∨ k = 45 ∨ k = 46 ∨ k = 47 ∨ k = 48 ∨ k = 49 ∨ k = 50 ∨ k = 51 ∨ k = 52 ∨ k = 53 ∨ k = 54 ∨ k = 55 ∨ k = 56 ∨ k = 57 ∨ k = 58 ∨ k = 59 ∨ k = 60 ∨ k = 61 ∨ k = 62 ∨ k = 63 ∨ k = 64 by omega) with rfl | rfl | rfl | rfl | rfl | rfl | rfl | rfl | rfl | rfl | rfl | rfl | rfl | rfl | rfl | rfl | rfl | rfl | rfl | rfl | rfl | rfl | rfl | rfl | rfl | rfl | rfl | rfl | rfl | rfl | rfl | rfl | rfl | rfl | rfl | rfl | rfl | rfl | rfl | rfl | rfl | rfl | rfl | rfl | rfl | rfl | rfl | rfl | rfl | rfl | rfl | rfl | rfl | rfl | rfl | rfl | rfl | rfl | rfl | rfl | rfl | rfl | rfl | rfl | rfl
  · exact ⟨_, zw_0 zD0 ac b qx qm u v⟩
  · exact ⟨_, zw_1 zD0 ac b qx qm u v⟩
  · exact ⟨_, zw_2 zD0 ac b qx qm u v⟩
  · exact ⟨_, zw_3 zD0 ac b qx qm u v⟩
  · exact ⟨_, zw_4 zD0 ac b qx qm u v⟩
  · exact ⟨_, zw_5 zD0 ac b qx qm u v⟩
  · exact ⟨_, zw_6 zD0 ac b qx qm u v⟩
  · exact ⟨_, zw_7 zD0 ac b qx qm u v⟩
  · exact ⟨_, zw_8 zD0 ac b qx qm u v⟩
  · exact ⟨_, zw_9 zD0 ac b qx qm u v⟩
  · exact ⟨_, zw_10 zD0 ac b qx qm u v⟩
  · exact ⟨_, zw_11 zD0 ac b qx qm u v⟩
  · exact ⟨_, zw_12 zD0 ac b qx qm u v⟩
  · exact ⟨_, zw_13 zD0 ac b qx qm u v⟩
  · exact ⟨_, zw_14 zD0 ac b qx qm u v⟩
  · exact ⟨_, zw_15 zD0 ac b qx qm u v⟩
  · exact ⟨_, zw_16 zD0 ac b qx qm u v⟩
  · exact ⟨_, zw_17 zD0 ac b qx qm u v⟩
  · exact ⟨_, zw_18 zD0 ac b qx qm u v⟩
  · exact ⟨_, zw_19 zD0 ac b qx qm u v⟩
  · exact ⟨_, zw_20 zD0 ac b qx qm u v⟩
  · exact ⟨_, zw_21 zD0 ac b qx qm u v⟩
  · exact ⟨_, zw_22 zD0 ac b qx qm u v⟩
  · exact ⟨_, zw_23 zD0 ac b qx qm u v⟩
  · exact ⟨_, zw_24 zD0 ac b qx qm u v⟩
  · exact ⟨_, zw_25 zD0 ac b qx qm u v⟩
  · exact ⟨_, zw_26 zD0 ac b qx qm u v⟩
  · exact ⟨_, zw_27 zD0 ac b qx qm u v⟩
  · exact ⟨_, zw_28 zD0 ac b qx qm u v⟩
  · exact ⟨_, zw_29 zD0 ac b qx qm u v⟩
  · exact ⟨_, zw_30 zD0 ac b qx qm u v⟩
  · exact ⟨_, zw_31 zD0 ac b qx qm u v⟩
  · exact ⟨_, zw_32 zD0 ac b qx qm u v⟩
  · exact ⟨_, zw_33 zD0 ac b qx qm u v⟩
  · exact ⟨_, zw_34 zD0 ac b qx qm u v⟩
  · exact ⟨_, zw_35 zD0 ac b qx qm u v⟩
  · exact ⟨_, zw_36 zD0 ac b qx qm u v⟩
  · exact ⟨_, zw_37 zD0 ac b qx qm u v⟩
  · exact ⟨_, zw_38 zD0 ac b qx qm u v⟩
  · exact ⟨_, zw_39 zD0 ac b qx qm u v⟩
  · exact ⟨_, zw_40 zD0 ac b qx qm u v⟩
  · exact ⟨_, zw_41 zD0 ac b qx qm u v⟩
  · exact ⟨_, zw_42 zD0 ac b qx qm u v⟩
  · exact ⟨_, zw_43 ac b qx qm u v⟩
  · exact ⟨_, zw_44 ac b qx qm u v⟩
  · exact ⟨_, zw_45 ac b qx qm u v⟩
  · exact ⟨_, zw_46 zD0 ac b qx qm u v⟩
  · exact ⟨_, zw_47 zD0 ac b qx qm u v⟩
  · exact ⟨_, zw_48 zD0 ac b qx qm u v⟩
  · exact ⟨_, zw_49 zD0 ac b qx qm u v⟩
  · exact ⟨_, zw_50 zD0 ac b qx qm u v⟩
  · exact ⟨_, zw_51 zD0 ac b qx qm u v⟩
  · exact ⟨_, zw_52 zD0 ac b qx qm u v⟩
  · exact ⟨_, zw_53 zD0 ac b qx qm u v⟩
  · exact ⟨_, zw_54 zD0 ac b qx qm u v⟩
  · exact ⟨_, zw_55 zD0 ac b qx qm u v⟩
  · exact ⟨_, zw_56 zD0 ac b qx qm u v⟩
  · exact ⟨_, zw_57 zD0 ac b qx qm u v⟩
  · exact ⟨_, zw_58 zD0 ac b qx qm u v⟩
  · exact ⟨_, zw_59 zD0 ac b qx qm u v⟩
  · exact ⟨_, zw_60 zD0 ac b qx qm u v⟩
  · exact ⟨_, zw_61 zD0 ac b qx qm u v⟩
  · exact ⟨_, zw_62 zD0 ac b qx qm u v⟩
  · exact ⟨_, zw_63 zD0 ac b qx qm u v⟩
  · exact ⟨_, zw_64 zD0 ac b qx qm u v⟩
theorem zw_inj {A : Nat → Prop} (hD : va_D A (zwall ac qx qm u v)) : ze_inj (D, zad b qx qm u v, ac) := by
  intro i j hi hj e
  obtain ⟨e1, h1⟩ := zw_ad (b := b) (ac := ac) (qx := qx) (qm := qm) (u := u) (v := v) hi
  obtain ⟨e2, h2⟩ := zw_ad (b := b) (ac := ac) (qx := qx) (qm := qm) (u := u) (v := v) hj
  exact zpi_inj i hi j hj (hD.1 _ _ _ _ h1 h2 e)
theorem zw_A {A : Nat → Prop} (hD : va_D A (zwall ac qx qm u v)) {k : Nat} (hk : k < 65) : A (zad b qx qm u v k) := by
  obtain ⟨e1, h1⟩ := zw_ad (b := b) (ac := ac) (qx := qx) (qm := qm) (u := u) (v := v) hk
  exact hD.2 _ _ h1
end ZWall
