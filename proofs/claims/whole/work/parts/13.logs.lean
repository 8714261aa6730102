theorem zm_sh : ∀ b, b < 32 → ((nI b &&& 31).toBitVec.smod 32).toNat = b := by decide +kernel
theorem zm_shr {n b : Nat} (hn : n < 2 ^ 31) (hb : b < 32) : nI n >>> (nI b &&& 31) = nI (n / 2 ^ b) := pk_shrN hn _ b (zm_sh b hb)
theorem zm_shl {n b : Nat} (hb : b < 32) (hn : n * 2 ^ b < 2 ^ 32) : nI n <<< (nI b &&& 31) = nI (n * 2 ^ b) := pk_shlN _ b (zm_sh b hb) hn
def zm_kb (n : Nat) : Nat → Nat
  | 0 => 0
  | b + 1 => if 2 ^ (b + 1) ≤ n then b + 1 else zm_kb n b
theorem zm_kb_eq {n : Nat} (h1 : 1 ≤ n) : ∀ j, n < 2 ^ (j + 1) → zm_kb n j = zm_k n
  | 0, h => by
    have e : n = 1 := by omega
    subst e
    rfl
  | j + 1, h => by
    unfold zm_kb
    by_cases q : 2 ^ (j + 1) ≤ n
    · rw [if_pos q]
      have a1 : j + 1 ≤ n.log2 := (Nat.le_log2 (by omega)).mpr q
      have a2 : n.log2 < j + 1 + 1 := (Nat.log2_lt (by omega)).mpr h
      show j + 1 = n.log2
      omega
    · rw [if_neg q]
      exact zm_kb_eq h1 j (by omega)
theorem zm_k_le {n : Nat} (h1 : 1 ≤ n) : 2 ^ zm_k n ≤ n := (Nat.le_log2 (by omega)).mp (Nat.le_refl _)
theorem zm_k_lt {n : Nat} (h1 : 1 ≤ n) : n < 2 ^ (zm_k n + 1) := (Nat.log2_lt (by omega)).mp (Nat.lt_succ_self _)
theorem zm_k_14 {n : Nat} (h1 : 1 ≤ n) (h : n < 32768) : zm_k n ≤ 14 := by
  have : n.log2 < 15 := (Nat.log2_lt (by omega)).mpr (by omega)
  show n.log2 ≤ 14
  omega
theorem zm_m0 {n : Nat} (h1 : 1 ≤ n) (h : n < 32768) : n * 2 ^ (14 - zm_k n) < 32768 := by
  have a := zm_k_lt h1
  have b := zm_k_14 h1 h
  have c : n * 2 ^ (14 - zm_k n) < 2 ^ (zm_k n + 1) * 2 ^ (14 - zm_k n) := Nat.mul_lt_mul_of_pos_right a (Nat.two_pow_pos _)
  rw [← Nat.pow_add] at c
  have e : zm_k n + 1 + (14 - zm_k n) = 15 := by omega
  rw [e] at c
  exact c
theorem zm_sq {m : Nat} (h : m < 32768) : nI m * nI m = nI (m * m) ∧ m * m < 2 ^ 30 ∧ nI (m * m) >>> (14 &&& 31) = nI (m * m / 16384) := by
  have h1 : m * m < 32768 * 32768 := Nat.mul_lt_mul'' h h
  exact ⟨pk_mul m m, by omega, zm_shr (b := 14) (by omega) (by decide)⟩
theorem zm_2l (l : Nat) : (2 : Int32) * nI l = nI (2 * l) := pk_mul 2 l
/-- how a round's test is written, twice -/
theorem zm_big {m : Nat} (h : m < 65536) : ((2 : Int32) ≤ nI m >>> (14 &&& 31)) ↔ 32768 ≤ m := by
  have e : nI m >>> ((14 : Int32) &&& 31) = nI (m / 2 ^ 14) := zm_shr (b := 14) (by omega) (by decide)
  rw [e]
  rw [show (2 : Int32) = nI 2 from rfl, nI_leI (by decide) (by omega)]
  omega
theorem zm_big2 {m : Nat} (h : m < 65536) : ((32768 : Int32) ≤ nI m) ↔ 32768 ≤ m := by
  rw [show (32768 : Int32) = nI 32768 from rfl, nI_leI (by decide) (by omega)]
theorem zm_half {m : Nat} (h : m < 65536) : nI m >>> (1 &&& 31) = nI (m / 2) := zm_shr (b := 1) (by omega) (by decide)
