/-! The numbers of the document: sums, LOG, information, parts, gains. -/
def zm_s (f : Nat → Nat) : Nat → Nat
  | 0 => 0
  | n + 1 => zm_s f n + f n
theorem zm_s_eq {f g : Nat → Nat} : ∀ {n : Nat}, (∀ i, i < n → f i = g i) → zm_s f n = zm_s g n
  | 0, _ => rfl
  | n + 1, h => by
    show zm_s f n + f n = zm_s g n + g n
    rw [zm_s_eq (n := n) (fun i hi => h i (by omega)), h n (by omega)]
theorem zm_s_add (f g : Nat → Nat) : ∀ n : Nat, zm_s (fun i => f i + g i) n = zm_s f n + zm_s g n
  | 0 => rfl
  | n + 1 => by
    show zm_s (fun i => f i + g i) n + (f n + g n) = zm_s f n + f n + (zm_s g n + g n)
    rw [zm_s_add f g n]
    omega
theorem zm_s_le {f g : Nat → Nat} : ∀ {n : Nat}, (∀ i, i < n → f i ≤ g i) → zm_s f n ≤ zm_s g n
  | 0, _ => Nat.le_refl _
  | n + 1, h => Nat.add_le_add (zm_s_le (n := n) fun i hi => h i (by omega)) (h n (by omega))
theorem zm_s_c (c : Nat) : ∀ n : Nat, zm_s (fun _ => c) n = c * n
  | 0 => rfl
  | n + 1 => by
    show zm_s (fun _ => c) n + c = c * (n + 1)
    rw [zm_s_c c n, Nat.mul_succ]
theorem zm_s_bd {f : Nat → Nat} {n c : Nat} (h : ∀ i, i < n → f i ≤ c) : zm_s f n ≤ c * n := by
  rw [← zm_s_c c n]
  exact zm_s_le h
theorem zm_s_pos {f : Nat → Nat} : ∀ {n i : Nat}, i < n → f i ≤ zm_s f n
  | 0, _, h => absurd h (Nat.not_lt_zero _)
  | n + 1, i, h => by
    show f i ≤ zm_s f n + f n
    by_cases q : i = n
    · subst q; omega
    · have := zm_s_pos (f := f) (n := n) (i := i) (by omega)
      omega
/-! LOG -/
def zm_rd (q : Nat × Nat) : Nat × Nat :=
  if 32768 ≤ q.1 * q.1 / 16384 then (q.1 * q.1 / 16384 / 2, 2 * q.2 + 1) else (q.1 * q.1 / 16384, 2 * q.2)
def zm_it : Nat → Nat × Nat → Nat × Nat
  | 0, q => q
  | n + 1, q => zm_it n (zm_rd q)
def zm_k (n : Nat) : Nat := Nat.log2 n
def zm_log (n : Nat) : Nat := (zm_it 8 (n * 2 ^ (14 - zm_k n), zm_k n)).2
theorem zm_rd_lt {q : Nat × Nat} (h : q.1 < 32768) : (zm_rd q).1 < 32768 := by
  unfold zm_rd
  have h1 : q.1 * q.1 < 32768 * 32768 := Nat.mul_lt_mul'' h h
  split
  · show q.1 * q.1 / 16384 / 2 < 32768
    omega
  · show q.1 * q.1 / 16384 < 32768
    omega
/-! information -/
def zm_t (f T : Nat) : Int64 := if f = 0 then 0 else (nI f).toInt64 * (nI (zm_log T) - nI (zm_log f)).toInt64
def zm_sl (f : Nat → Int64) : Nat → Int64
  | 0 => 0
  | n + 1 => zm_sl f n + f n
def zm_info (f : Nat → Nat) (n : Nat) : Int64 := zm_sl (fun i => zm_t (f i) (zm_s f n)) n
/-! the first of the greatest -/
def zm_fg (f : Nat → Nat) : Nat → Nat
  | 0 => 0
  | n + 1 => if f (zm_fg f n) < f n then n else zm_fg f n
theorem zm_fg_lt (f : Nat → Nat) : ∀ n, zm_fg f (n + 1) < n + 1
  | 0 => by
    unfold zm_fg
    split <;> simp [zm_fg]
  | n + 1 => by
    have := zm_fg_lt f n
    unfold zm_fg
    split <;> omega
