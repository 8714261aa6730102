theorem zm_fg_1 (f : Nat → Nat) : zm_fg f 1 = 0 := by simp [zm_fg]
set_option maxRecDepth 20000 in
theorem e_sum {d : Nat} {σ : ze_S} {k a n : Nat} {f : Nat → Nat} (hk : ze_isI k = true) (hl : a + n ≤ ze_len k) (hf : ∀ i, i < n → σ.1 k (a + i) = nI (f i)) :
    zM (d + 1) m_C_sum [.ref k, .int (nI a), .int (nI n)] σ (fun v τ => v = some (.int (nI (zm_s f n))) ∧ τ = σ) := by
  have hb := ze_len_le k
  refine zM_in t_C_sum [some (.ref k), some (.int (nI a)), some (.int (nI n)), none, none] rfl rfl ?_
  have loop : ∀ m j, j + m = n → zE d t_C_sum (fun v τ => v = some (.int (nI (zm_s f n))) ∧ τ = σ) (5, [some (.ref k), some (.int (nI a)), some (.int (nI n)), some (.int (nI (zm_s f j))), some (.int (nI (a + j)))], [], σ) := by
    intro m
    induction m with
    | zero =>
      intro j hj
      iterate 4 (refine ze_go1 rfl ?_)
      refine ze_brT rfl ?_ ?_
      · rw [nI_add]; exact nI_le (by omega) (by omega)
      refine ze_go1 rfl ?_
      refine ze_rt1 rfl trivial ?_
      have e : j = n := by omega
      rw [e]
      exact ⟨rfl, rfl⟩
    | succ m ih =>
      intro j hj
      iterate 4 (refine ze_go1 rfl ?_)
      refine ze_brF rfl ?_ ?_
      · rw [nI_add]; exact nI_ge (by omega) (by omega)
      iterate 3 (refine ze_go1 rfl ?_)
      refine ze_go2 rfl ⟨hk, zin (by omega)⟩ ?_
      iterate 4 (refine ze_go1 rfl ?_)
      have e1 : nI (zm_s f j) + σ.1 k (nI (a + j)).toNatClampNeg = nI (zm_s f (j + 1)) := by
        rw [nI_clamp (by omega), hf j (by omega), nI_add]
        rfl
      have h := ih (j + 1) (by omega)
      rw [← e1, ← show nI (a + j) + 1 = nI (a + (j + 1)) from nI_1 _] at h
      exact h
  iterate 4 (refine ze_go1 rfl ?_)
  exact loop n 0 (by omega)
set_option maxRecDepth 20000 in
theorem e_fg {d : Nat} {σ : ze_S} {k a n : Nat} {f : Nat → Nat} (hn : 1 ≤ n) (hk : ze_isI k = true) (hl : a + n ≤ ze_len k) (hf : ∀ i, i < n → σ.1 k (a + i) = nI (f i)) (hfb : ∀ i, i < n → f i < 2 ^ 31) :
    zM (d + 1) m_C_firstGreatest [.ref k, .int (nI a), .int (nI n)] σ (fun v τ => v = some (.int (nI (zm_fg f n))) ∧ τ = σ) := by
  have hb := ze_len_le k
  refine zM_in t_C_firstGreatest [some (.ref k), some (.int (nI a)), some (.int (nI n)), none, none] rfl rfl ?_
  have loop : ∀ m j, 1 ≤ j → j + m = n → zE d t_C_firstGreatest (fun v τ => v = some (.int (nI (zm_fg f n))) ∧ τ = σ) (5, [some (.ref k), some (.int (nI a)), some (.int (nI n)), some (.int (nI (zm_fg f j))), some (.int (nI j))], [], σ) := by
    intro m
    induction m with
    | zero =>
      intro j h1 hj
      iterate 2 (refine ze_go1 rfl ?_)
      refine ze_brT rfl ?_ ?_
      · exact nI_le (by omega) (by omega)
      refine ze_go1 rfl ?_
      refine ze_rt1 rfl trivial ?_
      have e : j = n := by omega
      rw [e]
      exact ⟨rfl, rfl⟩
    | succ m ih =>
      intro j h1 hj
      have hlt : zm_fg f j < j := by
        have := zm_fg_lt f (j - 1)
        rwa [show j - 1 + 1 = j by omega] at this
      iterate 2 (refine ze_go1 rfl ?_)
      refine ze_brF rfl ?_ ?_
      · exact nI_ge (by omega) (by omega)
      iterate 4 (refine ze_go1 rfl ?_)
      refine ze_go2 rfl ⟨hk, by rw [nI_add]; exact zin (by omega)⟩ ?_
      iterate 4 (refine ze_go1 rfl ?_)
      refine ze_go2 rfl ⟨hk, by rw [nI_add]; exact zin (by omega)⟩ ?_
      have e1 : σ.1 k (nI a + nI j).toNatClampNeg = nI (f j) := by rw [nI_add, nI_clamp (by omega), hf j (by omega)]
      have e2 : σ.1 k (nI a + nI (zm_fg f j)).toNatClampNeg = nI (f (zm_fg f j)) := by rw [nI_add, nI_clamp (by omega), hf _ (by omega)]
      have h := ih (j + 1) (by omega) (by omega)
      rw [show zm_fg f (j + 1) = if f (zm_fg f j) < f j then j else zm_fg f j from rfl, ← show nI j + 1 = nI (j + 1) from nI_1 _] at h
      by_cases q : f (zm_fg f j) < f j
      · refine ze_brF rfl ?_ ?_
        · rw [e1, e2]; exact nI_ge q (hfb j (by omega))
        iterate 4 (refine ze_go1 rfl ?_)
        rw [if_pos q] at h
        exact h
      · refine ze_brT rfl ?_ ?_
        · rw [e1, e2]; exact nI_le (by omega) (hfb _ (by omega))
        iterate 2 (refine ze_go1 rfl ?_)
        rw [if_neg q] at h
        exact h
  iterate 4 (refine ze_go1 rfl ?_)
  have h := loop (n - 1) 1 (by omega) (by omega)
  rw [zm_fg_1] at h
  exact h
theorem e_branchFor {d : Nat} {σ : ze_S} {v t : Int32} :
    zM (d + 1) m_C_branchFor [.int v, .int t] σ (fun r τ => r = some (.int (if t = -1 then v else if v ≤ t then 0 else 1)) ∧ τ = σ) := by
  refine zM_in t_C_branchFor [some (.int v), some (.int t)] rfl rfl ?_
  iterate 2 (refine ze_go1 rfl ?_)
  refine ze_br1 rfl (fun h => ?_) (fun h => ?_)
  · iterate 2 (refine ze_go1 rfl ?_)
    rw [if_neg h]
    refine ze_br1 rfl (fun h2 => ?_) (fun h2 => ?_)
    · refine ze_go1 rfl ?_
      refine ze_rt1 rfl trivial ⟨?_, rfl⟩
      rw [if_neg (Int32.not_le.mpr h2)]
    · iterate 2 (refine ze_go1 rfl ?_)
      refine ze_rt1 rfl trivial ⟨?_, rfl⟩
      rw [if_pos (Int32.not_lt.mp h2)]
  · refine ze_go1 rfl ?_
    refine ze_rt1 rfl trivial ⟨?_, rfl⟩
    rw [if_pos (Classical.not_not.mp h)]
theorem e_isClass {d : Nat} {σ : ze_S} {x : Int32} :
    zM (d + 1) m_C_isClass [.int x] σ (fun r τ => r = some (.int (if ¬ x < 0 ∧ ¬ 3 ≤ x then 1 else 0)) ∧ τ = σ) := by
  refine zM_in t_C_isClass [some (.int x)] rfl rfl ?_
  refine ze_go1 rfl ?_
  refine ze_br1 rfl (fun h => ?_) (fun h => ?_)
  · refine ze_go1 rfl ?_
    refine ze_rt1 rfl (Or.inl rfl) ⟨?_, rfl⟩
    rw [if_neg (fun q => q.1 h)]
  · iterate 2 (refine ze_go1 rfl ?_)
    refine ze_br1 rfl (fun h2 => ?_) (fun h2 => ?_)
    · refine ze_go1 rfl ?_
      refine ze_rt1 rfl (Or.inl rfl) ⟨?_, rfl⟩
      rw [if_neg (fun q => q.2 h2)]
    · iterate 2 (refine ze_go1 rfl ?_)
      refine ze_rt1 rfl (Or.inr rfl) ⟨?_, rfl⟩
      rw [if_pos ⟨h, h2⟩]
theorem e_isMinimum {d : Nat} {σ : ze_S} {x : Int32} :
    zM (d + 1) m_C_isMinimum [.int x] σ (fun r τ => r = some (.int (if ¬ x < 1 ∧ ¬ 5 < x then 1 else 0)) ∧ τ = σ) := by
  refine zM_in t_C_isMinimum [some (.int x)] rfl rfl ?_
  iterate 2 (refine ze_go1 rfl ?_)
  refine ze_br1 rfl (fun h => ?_) (fun h => ?_)
  · refine ze_go1 rfl ?_
    refine ze_rt1 rfl (Or.inl rfl) ⟨?_, rfl⟩
    rw [if_neg (fun q => q.1 h)]
  · iterate 2 (refine ze_go1 rfl ?_)
    refine ze_br1 rfl (fun h2 => ?_) (fun h2 => ?_)
    · refine ze_go1 rfl ?_
      refine ze_rt1 rfl (Or.inl rfl) ⟨?_, rfl⟩
      rw [if_neg (fun q => q.2 h2)]
    · iterate 2 (refine ze_go1 rfl ?_)
      refine ze_rt1 rfl (Or.inr rfl) ⟨?_, rfl⟩
      rw [if_pos ⟨h, h2⟩]
theorem e_fill {d : Nat} {σ : ze_S} {k : Nat} {x : Int32} (hk : ze_isI k = true) :
    zM (d + 1) m_A_fill [.ref k, .int x] σ (fun r τ => r = none ∧ zx [k] σ τ ∧ ∀ j, j < ze_len k → τ.1 k j = x) := by
  have hb := ze_len_le k
  refine zM_in t_A_fill [some (.ref k), some (.int x), none, none] rfl rfl ?_
  have loop : ∀ m j τ, j + m = ze_len k → zx [k] σ τ → (∀ i, i < j → τ.1 k i = x) → zE d t_A_fill (fun r τ => r = none ∧ zx [k] σ τ ∧ ∀ j, j < ze_len k → τ.1 k j = x) (5, [some (.ref k), some (.int x), some (.int (nI j)), some (.int (nI (ze_len k)))], [], τ) := by
    intro m
    induction m with
    | zero =>
      intro j τ hj hx hs
      iterate 2 (refine ze_go1 rfl ?_)
      refine ze_brT rfl (nI_le (by omega) (by omega)) ?_
      exact ze_rt1 rfl trivial ⟨rfl, hx, fun i hi => hs i (by omega)⟩
    | succ m ih =>
      intro j τ hj hx hs
      iterate 2 (refine ze_go1 rfl ?_)
      refine ze_brF rfl (nI_ge (by omega) (by omega)) ?_
      iterate 3 (refine ze_go1 rfl ?_)
      refine ze_go2 rfl ⟨hk, zin (by omega)⟩ ?_
      iterate 2 (refine ze_go1 rfl ?_)
      have h := ih (j + 1) (ze_ui τ k (nI j).toNatClampNeg x) (by omega) (zx_tr hx (zx_ui (List.mem_singleton.mpr rfl) _ _ _)) (fun i hi => by
        rw [nI_clamp (by omega)]
        by_cases q : i = j
        · subst q; exact zui _ _ _ _
        · rw [zui_n _ _ _ _ q]; exact hs i (by omega))
      rw [← show nI j + 1 = nI (j + 1) from nI_1 _] at h
      exact h
  iterate 3 (refine ze_go1 rfl ?_)
  refine ze_go2 rfl hk ?_
  refine ze_go1 rfl ?_
  exact loop (ze_len k) 0 σ (by omega) (zx_rf _ _) (fun i hi => absurd hi (Nat.not_lt_zero _))
