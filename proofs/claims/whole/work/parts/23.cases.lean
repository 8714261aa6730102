/-- the cases: how many attributes, how many cases, the kinds, the types, the values -/
abbrev zD : Type := Nat × Nat × (Nat → Nat) × (Nat → Nat) × (Nat → Nat → Int32)
def zlim (k : Nat) : Nat := if k = 0 then 1000 else k
def zdok (D : zD) : Prop := D.1 ≤ 4 ∧ D.2.1 ≤ 24 ∧ (∀ a, a < D.1 → D.2.2.1 a = 0 ∨ (2 ≤ D.2.2.1 a ∧ D.2.2.1 a ≤ 4)) ∧ (∀ i, i < D.2.1 → D.2.2.2.1 i < 3) ∧ ∀ i, i < D.2.1 → ∀ a, a < D.1 → D.2.2.2.2 i a = -1 ∨ ∃ v, D.2.2.2.2 i a = nI v ∧ v < zlim (D.2.2.1 a)
def zB (σ : ze_S) (D : zD) : Prop := σ.1 28 3 = nI D.1 ∧ σ.1 28 4 = nI D.2.1 ∧ (∀ a, a < D.1 → σ.1 0 a = nI (D.2.2.1 a)) ∧ (∀ i, i < D.2.1 → σ.1 1 i = nI (D.2.2.2.1 i)) ∧ ∀ i, i < D.2.1 → ∀ a, a < 4 → σ.1 2 (4 * i + a) = D.2.2.2.2 i a
theorem zB_eq {σ τ : ze_S} {D : zD} (h : zB σ D) (h0 : τ.1 0 = σ.1 0) (h1 : τ.1 1 = σ.1 1) (h2 : τ.1 2 = σ.1 2) (h3 : τ.1 28 = σ.1 28) : zB τ D := by
  unfold zB
  rw [h0, h1, h2, h3]
  exact h
theorem zB_x {σ τ : ze_S} {D : zD} {l : List Nat} (h : zB σ D) (hx : zx l σ τ) (hl : ∀ k, k ∈ l → k ≠ 0 ∧ k ≠ 1 ∧ k ≠ 2 ∧ k ≠ 28) : zB τ D :=
  zB_eq h (hx 0 (fun q => (hl 0 q).1 rfl)).1 (hx 1 (fun q => (hl 1 q).2.1 rfl)).1 (hx 2 (fun q => (hl 2 q).2.2.1 rfl)).1 (hx 28 (fun q => (hl 28 q).2.2.2 rfl)).1
theorem zi4 (i a : Nat) : nI i * 4 + nI a = nI (4 * i + a) := by
  rw [show (4 : Int32) = nI 4 from rfl, pk_mul, nI_add, Nat.mul_comm]
theorem e_valueOf {d : Nat} {σ : ze_S} {D : zD} {i a : Nat} (hd : zdok D) (hB : zB σ D) (hi : i < D.2.1) (ha : a < 4) :
    zM (d + 1) m_Cs_valueOf [.ref 28, .int (nI i), .int (nI a)] σ (fun v τ => v = some (.int (D.2.2.2.2 i a)) ∧ τ = σ) := by
  have h24 := hd.2.1
  refine zM_in t_Cs_valueOf [some (.ref 28), some (.int (nI i)), some (.int (nI a))] rfl rfl ?_
  refine ze_go1 rfl ?_
  refine ze_go2 rfl rfl ?_
  iterate 5 (refine ze_go1 rfl ?_)
  refine ze_go2 rfl ⟨rfl, by rw [zi4]; exact vp_in_nI (N := 96) (by omega) (by omega)⟩ ?_
  refine ze_rt1 rfl trivial ⟨?_, rfl⟩
  rw [zi4, nI_clamp (by omega), hB.2.2.2.2 i hi a ha]
theorem e_isCont {d : Nat} {σ : ze_S} {D : zD} {a : Nat} (hd : zdok D) (hB : zB σ D) (ha : a < D.1) :
    zM (d + 1) m_Cs_isContinuous [.ref 28, .int (nI a)] σ (fun v τ => v = some (.int (if D.2.2.1 a = 0 then 1 else 0)) ∧ τ = σ) := by
  have h4 := hd.1
  have hk := hd.2.2.1 a ha
  have e1 : σ.1 0 (nI a).toNatClampNeg = nI (D.2.2.1 a) := by rw [nI_clamp (by omega), hB.2.2.1 a ha]
  refine zM_in t_Cs_isContinuous [some (.ref 28), some (.int (nI a))] rfl rfl ?_
  refine ze_go1 rfl ?_
  refine ze_go2 rfl rfl ?_
  refine ze_go1 rfl ?_
  refine ze_go2 rfl ⟨rfl, vp_in_nI (N := 4) (by omega) (by omega)⟩ ?_
  by_cases c : D.2.2.1 a = 0
  · refine ze_brF rfl (by rw [e1, c]; exact fun q => q rfl) ?_
    iterate 2 (refine ze_go1 rfl ?_)
    refine ze_rt1 rfl (Or.inr rfl) ⟨?_, rfl⟩
    rw [if_pos c]
  · refine ze_brT rfl (by rw [e1]; exact nI_ne0 (by omega) (by omega)) ?_
    refine ze_go1 rfl ?_
    refine ze_rt1 rfl (Or.inl rfl) ⟨?_, rfl⟩
    rw [if_neg c]
theorem e_branchesOf {d : Nat} {σ : ze_S} {D : zD} {a : Nat} (hd : zdok D) (hB : zB σ D) (ha : a < D.1) :
    zM (d + 2) m_Cs_branchesOf [.ref 28, .int (nI a)] σ (fun v τ => v = some (.int (nI (zm_nb (D.2.2.1 a)))) ∧ τ = σ) := by
  have h4 := hd.1
  refine zM_in t_Cs_branchesOf [some (.ref 28), some (.int (nI a))] rfl rfl ?_
  iterate 2 (refine ze_go1 rfl ?_)
  refine ze_ca1 rfl ⟨rfl, rfl⟩ (e_isCont hd hB ha) (fun v τ h => ?_)
  obtain ⟨rfl, rfl⟩ := h
  by_cases c : D.2.2.1 a = 0
  · refine ze_brF rfl (by rw [if_pos c]; decide) ?_
    iterate 2 (refine ze_go1 rfl ?_)
    refine ze_rt1 rfl trivial ⟨?_, rfl⟩
    unfold zm_nb
    rw [if_pos c]
    rfl
  · refine ze_brT rfl (by rw [if_neg c]) ?_
    refine ze_go1 rfl ?_
    refine ze_go2 rfl rfl ?_
    refine ze_go1 rfl ?_
    refine ze_go2 rfl ⟨rfl, vp_in_nI (N := 4) (by omega) (by omega)⟩ ?_
    refine ze_rt1 rfl trivial ⟨?_, rfl⟩
    unfold zm_nb
    rw [if_neg c, nI_clamp (by omega), hB.2.2.1 a ha]
set_option maxRecDepth 20000 in
theorem e_nextValue {d : Nat} {σ : ze_S} {D : zD} {a k : Nat} {w : Nat → Nat} {x : Int32} (hd : zdok D) (hB : zB σ D) (ha : a < D.1) (hk : ze_isI k = true) (hk24 : ze_len k = 24) (hw : ∀ i, i < D.2.1 → σ.1 k i = nI (w i)) (hwb : ∀ i, i < D.2.1 → w i ≤ 720) :
    zM (d + 2) m_Cs_nextValue [.ref 28, .int (nI a), .ref k, .int x] σ (fun v τ => v = some (.int (zm_nv (fun i => D.2.2.2.2 i a) w x D.2.1)) ∧ τ = σ) := by
  have h4 := hd.1
  have h24 := hd.2.1
  refine zM_in t_Cs_nextValue [some (.ref 28), some (.int (nI a)), some (.ref k), some (.int x), none, none, none] rfl rfl ?_
  have loop : ∀ m j (o : Option Value), j + m = D.2.1 → zE (d + 1) t_Cs_nextValue (fun v τ => v = some (.int (zm_nv (fun i => D.2.2.2.2 i a) w x D.2.1)) ∧ τ = σ) (6, [some (.ref 28), some (.int (nI a)), some (.ref k), some (.int x), some (.int (zm_nv (fun i => D.2.2.2.2 i a) w x j)), some (.int (nI j)), o], [], σ) := by
    intro m
    induction m with
    | zero =>
      intro j o hj
      iterate 2 (refine ze_go1 rfl ?_)
      refine ze_go2 rfl rfl ?_
      refine ze_brT rfl (by rw [hB.2.1]; exact nI_le (by omega) (by omega)) ?_
      refine ze_go1 rfl ?_
      refine ze_rt1 rfl trivial ⟨?_, rfl⟩
      rw [show j = D.2.1 by omega]
    | succ m ih =>
      intro j o hj
      have e1 : σ.1 k (nI j).toNatClampNeg = nI (w j) := by rw [nI_clamp (by omega), hw j (by omega)]
      have hwj := hwb j (by omega)
      iterate 2 (refine ze_go1 rfl ?_)
      refine ze_go2 rfl rfl ?_
      refine ze_brF rfl (by rw [hB.2.1]; exact nI_ge (by omega) (by omega)) ?_
      iterate 3 (refine ze_go1 rfl ?_)
      refine ze_ca1 rfl ⟨rfl, rfl⟩ (e_valueOf hd hB (show j < D.2.1 by omega) (show a < 4 by omega)) (fun v τ h => ?_)
      obtain ⟨rfl, rfl⟩ := h
      have h := ih (j + 1) (some (.int (D.2.2.2.2 j a))) (by omega)
      rw [← show nI j + 1 = nI (j + 1) from nI_1 _, show zm_nv (fun i => D.2.2.2.2 i a) w x (j + 1) = if 0 < w j ∧ x < D.2.2.2.2 j a ∧ (zm_nv (fun i => D.2.2.2.2 i a) w x j = -1 ∨ D.2.2.2.2 j a < zm_nv (fun i => D.2.2.2.2 i a) w x j) then D.2.2.2.2 j a else zm_nv (fun i => D.2.2.2.2 i a) w x j from rfl] at h
      iterate 3 (refine ze_go1 rfl ?_)
      refine ze_go2 rfl ⟨hk, by rw [hk24]; exact vp_in_nI (by omega) (by omega)⟩ ?_
      by_cases c1 : 0 < w j
      · refine ze_brF rfl (by rw [e1]; exact nI_nle c1 (by omega)) ?_
        iterate 2 (refine ze_go1 rfl ?_)
        refine ze_br1 rfl (fun c2 => ?_) (fun c2 => ?_)
        · iterate 2 (refine ze_go1 rfl ?_)
          rw [if_neg (fun q => Int32.not_le.mpr q.2.1 c2)] at h
          exact h
        · iterate 2 (refine ze_go1 rfl ?_)
          refine ze_br1 rfl (fun c3 => ?_) (fun c3 => ?_)
          · iterate 4 (refine ze_go1 rfl ?_)
            rw [if_pos ⟨c1, Int32.not_le.mp c2, Or.inl c3⟩] at h
            exact h
          · iterate 2 (refine ze_go1 rfl ?_)
            refine ze_br1 rfl (fun c4 => ?_) (fun c4 => ?_)
            · iterate 2 (refine ze_go1 rfl ?_)
              rw [if_neg (fun q => q.2.2.elim c3 (fun z => Int32.not_le.mpr z c4))] at h
              exact h
            · iterate 4 (refine ze_go1 rfl ?_)
              rw [if_pos ⟨c1, Int32.not_le.mp c2, Or.inr (Int32.not_le.mp c4)⟩] at h
              exact h
      · refine ze_brT rfl (by rw [e1, show w j = 0 by omega]; exact Int32.le_refl _) ?_
        iterate 2 (refine ze_go1 rfl ?_)
        rw [if_neg (fun q => c1 q.1)] at h
        exact h
  iterate 4 (refine ze_go1 rfl ?_)
  exact loop D.2.1 0 none (by omega)
set_option maxRecDepth 20000 in
theorem e_valueUpTo {d : Nat} {σ : ze_S} {D : zD} {a : Nat} {x : Int32} (hd : zdok D) (hB : zB σ D) (ha : a < D.1) :
    zM (d + 2) m_Cs_valueUpTo [.ref 28, .int (nI a), .int x] σ (fun v τ => v = some (.int (zm_vu (fun i => D.2.2.2.2 i a) x D.2.1)) ∧ τ = σ) := by
  have h4 := hd.1
  have h24 := hd.2.1
  refine zM_in t_Cs_valueUpTo [some (.ref 28), some (.int (nI a)), some (.int x), none, none, none] rfl rfl ?_
  have loop : ∀ m j (o : Option Value), j + m = D.2.1 → zE (d + 1) t_Cs_valueUpTo (fun v τ => v = some (.int (zm_vu (fun i => D.2.2.2.2 i a) x D.2.1)) ∧ τ = σ) (5, [some (.ref 28), some (.int (nI a)), some (.int x), some (.int (zm_vu (fun i => D.2.2.2.2 i a) x j)), some (.int (nI j)), o], [], σ) := by
    intro m
    induction m with
    | zero =>
      intro j o hj
      iterate 2 (refine ze_go1 rfl ?_)
      refine ze_go2 rfl rfl ?_
      refine ze_brT rfl (by rw [hB.2.1]; exact nI_le (by omega) (by omega)) ?_
      refine ze_go1 rfl ?_
      refine ze_rt1 rfl trivial ⟨?_, rfl⟩
      rw [show j = D.2.1 by omega]
    | succ m ih =>
      intro j o hj
      iterate 2 (refine ze_go1 rfl ?_)
      refine ze_go2 rfl rfl ?_
      refine ze_brF rfl (by rw [hB.2.1]; exact nI_ge (by omega) (by omega)) ?_
      iterate 3 (refine ze_go1 rfl ?_)
      refine ze_ca1 rfl ⟨rfl, rfl⟩ (e_valueOf hd hB (show j < D.2.1 by omega) (show a < 4 by omega)) (fun v τ h => ?_)
      obtain ⟨rfl, rfl⟩ := h
      have h := ih (j + 1) (some (.int (D.2.2.2.2 j a))) (by omega)
      rw [← show nI j + 1 = nI (j + 1) from nI_1 _, show zm_vu (fun i => D.2.2.2.2 i a) x (j + 1) = if D.2.2.2.2 j a ≤ x ∧ zm_vu (fun i => D.2.2.2.2 i a) x j < D.2.2.2.2 j a then D.2.2.2.2 j a else zm_vu (fun i => D.2.2.2.2 i a) x j from rfl] at h
      iterate 3 (refine ze_go1 rfl ?_)
      refine ze_br1 rfl (fun c2 => ?_) (fun c2 => ?_)
      · iterate 2 (refine ze_go1 rfl ?_)
        rw [if_neg (fun q => Int32.not_le.mpr c2 q.1)] at h
        exact h
      · iterate 2 (refine ze_go1 rfl ?_)
        refine ze_br1 rfl (fun c3 => ?_) (fun c3 => ?_)
        · iterate 2 (refine ze_go1 rfl ?_)
          rw [if_neg (fun q => Int32.not_le.mpr q.2 c3)] at h
          exact h
        · iterate 4 (refine ze_go1 rfl ?_)
          rw [if_pos ⟨Int32.not_lt.mp c2, Int32.not_le.mp c3⟩] at h
          exact h
  iterate 4 (refine ze_go1 rfl ?_)
  exact loop D.2.1 0 none (by omega)
