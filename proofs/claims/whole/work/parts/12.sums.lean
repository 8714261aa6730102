theorem zm_s_0 {f : Nat → Nat} {n : Nat} (h : ∀ i, i < n → f i = 0) : zm_s f n = 0 := by
  rw [zm_s_eq (g := fun _ => 0) h, zm_s_c]
  omega
theorem zm_cw_sum {T w : Nat → Nat} {n : Nat} (hT : ∀ i, i < n → T i < 3) : zm_cw T w n 0 + zm_cw T w n 1 + zm_cw T w n 2 = zm_s w n := by
  unfold zm_cw
  rw [← zm_s_add, ← zm_s_add]
  refine zm_s_eq fun i hi => ?_
  have := hT i hi
  rcases (show T i = 0 ∨ T i = 1 ∨ T i = 2 by omega) with h | h | h <;> simp [h]
theorem zm_mx_sum {k : Nat} {t : Int32} {v : Nat → Int32} {T w : Nat → Nat} {n : Nat} (c : Nat) (hb : ∀ i, i < n → 0 ≤ v i → zm_br k t (v i) < 4) : zm_mx k t v T w n 0 c + zm_mx k t v T w n 1 c + zm_mx k t v T w n 2 c + zm_mx k t v T w n 3 c = zm_kc v T w n c := by
  unfold zm_mx zm_kc
  rw [← zm_s_add, ← zm_s_add, ← zm_s_add]
  refine zm_s_eq fun i hi => ?_
  by_cases h : 0 ≤ v i
  · have := hb i hi h
    rcases (show zm_br k t (v i) = 0 ∨ zm_br k t (v i) = 1 ∨ zm_br k t (v i) = 2 ∨ zm_br k t (v i) = 3 by omega) with q | q | q | q <;> simp [q, h]
  · simp [h]
theorem zm_pt_sum {k : Nat} {t : Int32} {v : Nat → Int32} {w : Nat → Nat} {n : Nat} (hb : ∀ i, i < n → 0 ≤ v i → zm_br k t (v i) < 4) : zm_pt k t v w n 0 + zm_pt k t v w n 1 + zm_pt k t v w n 2 + zm_pt k t v w n 3 = zm_kn v w n := by
  unfold zm_pt zm_kn
  rw [← zm_s_add, ← zm_s_add, ← zm_s_add]
  refine zm_s_eq fun i hi => ?_
  by_cases h : 0 ≤ v i
  · have := hb i hi h
    rcases (show zm_br k t (v i) = 0 ∨ zm_br k t (v i) = 1 ∨ zm_br k t (v i) = 2 ∨ zm_br k t (v i) = 3 by omega) with q | q | q | q <;> simp [q, h]
  · simp [h]
theorem zm_ku {v : Nat → Int32} {w : Nat → Nat} {n : Nat} : zm_kn v w n + zm_un v w n = zm_s w n := by
  unfold zm_kn zm_un
  rw [← zm_s_add]
  refine zm_s_eq fun i _ => ?_
  by_cases h : 0 ≤ v i <;> simp [h]
theorem zm_pt_hi {k : Nat} {t : Int32} {v : Nat → Int32} {w : Nat → Nat} {n b : Nat} (hb : ∀ i, i < n → 0 ≤ v i → zm_br k t (v i) < b) : zm_pt k t v w n b = 0 := by
  refine zm_s_0 fun i hi => ?_
  refine if_neg fun q => ?_
  have := hb i hi q.1
  omega
theorem zm_dv (a b c : Nat) : a / c + b / c ≤ (a + b) / c := by
  rcases Nat.eq_zero_or_pos c with h | h
  · subst h; simp
  · rw [Nat.le_div_iff_mul_le h, Nat.add_mul]
    exact Nat.add_le_add (Nat.div_mul_le_self a c) (Nat.div_mul_le_self b c)
theorem zm_qs_le (p : Nat → Nat) (K h x : Nat) : ∀ b, zm_qs p K h x b ≤ x * zm_s p b / K
  | 0 => Nat.zero_le _
  | b + 1 => by
    have ih := zm_qs_le p K h x b
    have e : x * zm_s p (b + 1) = x * zm_s p b + x * p b := Nat.mul_add _ _ _
    rw [e]
    have h2 := zm_dv (x * zm_s p b) (x * p b) K
    have h3 : x * zm_s p b / K ≤ (x * zm_s p b + x * p b) / K := Nat.div_le_div_right (Nat.le_add_right _ _)
    unfold zm_qs
    split
    · exact Nat.le_trans ih h3
    · exact Nat.le_trans (Nat.add_le_add_right ih _) h2
theorem zm_qs_x {p : Nat → Nat} {K h x b : Nat} (hK : zm_s p b ≤ K) : zm_qs p K h x b ≤ x :=
  Nat.le_trans (zm_qs_le p K h x b) (Nat.div_le_of_le_mul (by rw [Nat.mul_comm]; exact Nat.mul_le_mul hK (Nat.le_refl x)))
theorem zm_ps_le {k : Nat} {t : Int32} {p : Nat → Nat} {K h x : Nat} {y : Int32} {b : Nat} (hp : p b ≤ K) : zm_ps k t p K h x y b ≤ x := by
  unfold zm_ps
  by_cases h1 : 0 ≤ y
  · rw [if_pos h1]
    split <;> omega
  · rw [if_neg h1]
    by_cases h2 : K = 0
    · rw [if_pos h2]
      split <;> omega
    · rw [if_neg h2]
      split
      · omega
      · exact Nat.div_le_of_le_mul (by rw [Nat.mul_comm]; exact Nat.mul_le_mul hp (Nat.le_refl x))
