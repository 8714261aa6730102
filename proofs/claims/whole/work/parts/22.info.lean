theorem zm_sl_0 {f : Nat → Int64} : ∀ {n : Nat}, (∀ i, i < n → f i = 0) → zm_sl f n = 0
  | 0, _ => rfl
  | n + 1, h => by
    show zm_sl f n + f n = 0
    rw [zm_sl_0 (n := n) (fun i hi => h i (by omega)), h n (by omega)]
    rfl
theorem zm_info_0 {f : Nat → Nat} {n : Nat} (h : zm_s f n = 0) : zm_info f n = 0 := zm_sl_0 fun i hi => by
  have := zm_s_pos (f := f) hi
  exact if_pos (by omega)
set_option maxRecDepth 20000 in
theorem e_info {d : Nat} {σ : ze_S} {k a n : Nat} {f : Nat → Nat} (hk : ze_isI k = true) (hl : a + n ≤ ze_len k) (hf : ∀ i, i < n → σ.1 k (a + i) = nI (f i)) (hs : zm_s f n < 32768) :
    zM (d + 2) m_C_information [.ref k, .int (nI a), .int (nI n)] σ (fun v τ => v = some (.long (zm_info f n)) ∧ τ = σ) := by
  have hb := ze_len_le k
  refine zM_in t_C_information [some (.ref k), some (.int (nI a)), some (.int (nI n)), none, none, none, none, none] rfl rfl ?_
  iterate 3 (refine ze_go1 rfl ?_)
  refine ze_ca1 rfl rfl (e_sum hk hl hf) (fun v τ h => ?_)
  obtain ⟨rfl, rfl⟩ := h
  iterate 2 (refine ze_go1 rfl ?_)
  by_cases c : zm_s f n = 0
  · refine ze_brF rfl ?_ ?_
    · rw [c]; exact fun q => q rfl
    refine ze_go1 rfl ?_
    refine ze_rt1 rfl trivial ⟨?_, rfl⟩
    rw [zm_info_0 c]
  · refine ze_brT rfl (nI_ne0 (by omega) (by omega)) ?_
    refine ze_go1 rfl ?_
    refine ze_ca1 rfl rfl (e_log (n := zm_s f n) (by omega) hs) (fun v τ h => ?_)
    obtain ⟨rfl, rfl⟩ := h
    have loop : ∀ m j, j + m = n → zE (d + 1) t_C_information (fun v υ => v = some (.long (zm_info f n)) ∧ υ = τ) (25, [some (.ref k), some (.int (nI a)), some (.int (nI n)), some (.int (nI (zm_s f n))), some (.int (nI (zm_log (zm_s f n)))), some (.long (zm_sl (fun i => zm_t (f i) (zm_s f n)) j)), none, some (.int (nI (a + j)))], [], τ) := by
      intro m
      induction m with
      | zero =>
        intro j hj
        iterate 4 (refine ze_go1 rfl ?_)
        refine ze_brT rfl (by rw [nI_add]; exact nI_le (by omega) (by omega)) ?_
        refine ze_go1 rfl ?_
        refine ze_rt1 rfl trivial ⟨?_, rfl⟩
        rw [show j = n by omega]
        rfl
      | succ m ih =>
        intro j hj
        have e1 : τ.1 k (nI (a + j)).toNatClampNeg = nI (f j) := by rw [nI_clamp (by omega), hf j (by omega)]
        have hfj : f j < 32768 := Nat.lt_of_le_of_lt (zm_s_pos (f := f) (n := n) (by omega)) hs
        have h := ih (j + 1) (by omega)
        rw [← show nI (a + j) + 1 = nI (a + (j + 1)) from nI_1 _, show zm_sl (fun i => zm_t (f i) (zm_s f n)) (j + 1) = zm_sl (fun i => zm_t (f i) (zm_s f n)) j + zm_t (f j) (zm_s f n) from rfl] at h
        iterate 4 (refine ze_go1 rfl ?_)
        refine ze_brF rfl (by rw [nI_add]; exact nI_ge (by omega) (by omega)) ?_
        iterate 2 (refine ze_go1 rfl ?_)
        refine ze_go2 rfl ⟨hk, zin (by omega)⟩ ?_
        by_cases c : f j = 0
        · refine ze_brT rfl (by rw [e1, c]; exact Int32.le_refl _) ?_
          iterate 2 (refine ze_go1 rfl ?_)
          rw [show zm_t (f j) (zm_s f n) = 0 from if_pos c, Int64.add_zero] at h
          exact h
        · refine ze_brF rfl (by rw [e1]; exact nI_nle (by omega) (by omega)) ?_
          iterate 3 (refine ze_go1 rfl ?_)
          refine ze_go2 rfl ⟨hk, zin (by omega)⟩ ?_
          iterate 4 (refine ze_go1 rfl ?_)
          refine ze_go2 rfl ⟨hk, zin (by omega)⟩ ?_
          refine ze_ca1 (P := fun v υ => v = some (.int (nI (zm_log (f j)))) ∧ υ = τ) rfl rfl (by show zM (d + 1) m_C_logarithm [.int (τ.1 k (nI (a + j)).toNatClampNeg)] τ _; rw [e1]; exact e_log (by omega) hfj) (fun v υ h2 => ?_)
          obtain ⟨rfl, rfl⟩ := h2
          iterate 7 (refine ze_go1 rfl ?_)
          rw [show zm_t (f j) (zm_s f n) = (nI (f j)).toInt64 * (nI (zm_log (zm_s f n)) - nI (zm_log (f j))).toInt64 from if_neg c] at h
          rw [e1]
          exact h
    iterate 5 (refine ze_go1 rfl ?_)
    exact loop n 0 (by omega)
