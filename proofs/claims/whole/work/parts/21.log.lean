set_option maxRecDepth 20000 in
theorem e_log {d : Nat} {σ : ze_S} {n : Nat} (h1 : 1 ≤ n) (hn : n < 32768) :
    zM (d + 1) m_C_logarithm [.int (nI n)] σ (fun v τ => v = some (.int (nI (zm_log n))) ∧ τ = σ) := by
  refine zM_in t_C_logarithm [some (.int (nI n)), none, none, none, none] rfl rfl ?_
  have loop2 : ∀ m j q, j + m = 8 → q.1 < 32768 → (zm_it m q).2 = zm_log n → zE d t_C_logarithm (fun v τ => v = some (.int (nI (zm_log n))) ∧ τ = σ) (36, [some (.int (nI n)), some (.int (nI (zm_k n))), some (.int (nI q.1)), some (.int (nI q.2)), some (.int (nI j))], [], σ) := by
    intro m
    induction m with
    | zero =>
      intro j q hj hq he
      iterate 2 (refine ze_go1 rfl ?_)
      refine ze_brT rfl (nI_le (a := 8) (by omega) (by omega)) ?_
      refine ze_go1 rfl ?_
      refine ze_rt1 rfl trivial ⟨?_, rfl⟩
      rw [← he]
      rfl
    | succ m ih =>
      intro j q hj hq he
      obtain ⟨a1, a2, a3⟩ := zm_sq hq
      have hq2 : q.1 * q.1 / 16384 < 65536 := by omega
      have hr := zm_rd_lt hq
      iterate 2 (refine ze_go1 rfl ?_)
      refine ze_brF rfl (nI_ge (b := 8) (by omega) (by omega)) ?_
      iterate 14 (refine ze_go1 rfl ?_)
      have h := ih (j + 1) (zm_rd q) (by omega) hr he
      rw [← show nI j + 1 = nI (j + 1) from nI_1 _] at h
      have e1 : (nI q.1 * nI q.1) >>> (14 &&& 31) = nI (q.1 * q.1 / 16384) := by rw [a1]; exact a3
      have hb := zm_big hq2
      by_cases c : 32768 ≤ q.1 * q.1 / 16384
      · refine ze_brF rfl ?_ ?_
        · rw [e1]; exact Int32.not_lt.mpr (hb.mpr c)
        iterate 10 (refine ze_go1 rfl ?_)
        unfold zm_rd at h
        rw [if_pos c] at h
        rw [e1, zm_half hq2, zm_2l, show nI (2 * q.2) + 1 = nI (2 * q.2 + 1) from nI_1 _]
        exact h
      · refine ze_brT rfl ?_ ?_
        · rw [e1]; exact Int32.not_le.mp (fun z => c (hb.mp z))
        iterate 2 (refine ze_go1 rfl ?_)
        unfold zm_rd at h
        rw [if_neg c] at h
        rw [e1, zm_2l]
        exact h
  have loop1 : ∀ m j (x2 : Int32), j + m = 14 → zE d t_C_logarithm (fun v τ => v = some (.int (nI (zm_log n))) ∧ τ = σ) (4, [some (.int (nI n)), some (.int (nI (zm_kb n j))), some (.int (nI (j + 1))), none, none], [], σ) := by
    intro m
    induction m with
    | zero =>
      intro j _ hj
      have ej : j = 14 := by omega
      subst ej
      have ek : zm_kb n 14 = zm_k n := zm_kb_eq h1 14 (by omega)
      have hk := zm_k_14 h1 hn
      have hm := zm_m0 h1 hn
      rw [ek]
      iterate 2 (refine ze_go1 rfl ?_)
      refine ze_brT rfl (nI_lt (a := 14) (by omega) (by omega)) ?_
      iterate 10 (refine ze_go1 rfl ?_)
      have e0 : (14 : Int32) - nI (zm_k n) = nI (14 - zm_k n) := pk_sub (a := 14) hk
      have e1 : nI n <<< (nI (14 - zm_k n) &&& 31) = nI (n * 2 ^ (14 - zm_k n)) := zm_shl (by omega) (by omega)
      have h := loop2 8 0 (n * 2 ^ (14 - zm_k n), zm_k n) rfl hm rfl
      rw [e0, e1]
      exact h
    | succ m ih =>
      intro j _ hj
      have h := ih (j + 1) 0 (by omega)
      rw [← show nI (j + 1) + 1 = nI (j + 1 + 1) from nI_1 _] at h
      iterate 2 (refine ze_go1 rfl ?_)
      refine ze_brF rfl (nI_nlt (b := j + 1) (a := 14) (by omega) (by omega)) ?_
      iterate 3 (refine ze_go1 rfl ?_)
      have e1 : nI n >>> (nI (j + 1) &&& 31) = nI (n / 2 ^ (j + 1)) := zm_shr (by omega) (by omega)
      have hd : n / 2 ^ (j + 1) < 2 ^ 31 := Nat.lt_of_le_of_lt (Nat.div_le_self _ _) (by omega)
      have hp : 0 < 2 ^ (j + 1) := Nat.two_pow_pos _
      rw [show zm_kb n (j + 1) = if 2 ^ (j + 1) ≤ n then j + 1 else zm_kb n j from rfl] at h
      by_cases c : 2 ^ (j + 1) ≤ n
      · refine ze_brF rfl ?_ ?_
        · rw [e1]; exact nI_nle (Nat.div_pos c hp) hd
        iterate 4 (refine ze_go1 rfl ?_)
        rw [if_pos c] at h
        exact h
      · refine ze_brT rfl ?_ ?_
        · rw [e1, Nat.div_eq_of_lt (by omega)]; exact Int32.le_refl _
        iterate 2 (refine ze_go1 rfl ?_)
        rw [if_neg c] at h
        exact h
  iterate 4 (refine ze_go1 rfl ?_)
  exact loop1 14 0 0 rfl
