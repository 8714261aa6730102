abbrev zO : Type := Option (Int32 × Int64 × Int64)
def zm_ub (o : zO) : Bool := match o with
  | some q => decide (0 < q.2.1)
  | none => false
def zm_g (o : zO) : Int64 := match o with
  | some q => q.2.1
  | none => 0
def zm_x (o : zO) : Int64 := match o with
  | some q => q.2.2
  | none => 0
def zm_tc (fo : Nat → zO) : Nat → Int64 × Nat
  | 0 => (0, 0)
  | a + 1 => bif zm_ub (fo a) then ((zm_tc fo a).1 + zm_g (fo a), (zm_tc fo a).2 + 1) else zm_tc fo a
def zm_gr (fo : Nat → zO) (a : Nat) (b : Option Nat) : Bool := match b with
  | none => true
  | some c => decide (zm_g (fo c) * zm_x (fo a) < zm_g (fo a) * zm_x (fo c))
def zm_bs (fo : Nat → zO) (S : Int64) (c : Nat) : Nat → Option Nat
  | 0 => none
  | a + 1 => bif zm_ub (fo a) && (decide (S ≤ zm_g (fo a) * (nI c).toInt64) && zm_gr fo a (zm_bs fo S c a)) then some a else zm_bs fo S c a
def zm_ch (fo : Nat → zO) (n : Nat) : Option Nat := zm_bs fo (zm_tc fo n).1 (zm_tc fo n).2 n
def zbI (b : Option Nat) : Int32 := match b with
  | none => -1
  | some a => nI a
theorem zlc_le {x y : Int64} : (lg_cmp x y ≤ 0) ↔ ¬ y < x := by
  unfold lg_cmp
  by_cases h : x > y
  · rw [if_pos h]
    exact ⟨fun q => absurd q (by decide), fun q => absurd h q⟩
  · rw [if_neg h]
    refine ⟨fun _ => h, fun _ => ?_⟩
    split <;> decide
theorem zlc_lt {x y : Int64} : (lg_cmp x y < 0) ↔ ¬ y ≤ x := by
  have := lg_cmp_ge x y
  rw [← this]
  exact Int32.not_le.symm
theorem e_hasGain {d : Nat} {σ : ze_S} {k : Nat} {o : zO} (hk : 35 ≤ k ∧ k < 39) (hF : zFd σ k o) :
    zM (d + 1) m_Fi_hasGain [.ref k] σ (fun v τ => v = some (.int (bif zm_ub o then 1 else 0)) ∧ τ = σ) := by
  have hkf := zk_fi hk
  refine zM_in t_Fi_hasGain [some (.ref k)] rfl rfl ?_
  refine ze_go1 rfl ?_
  refine ze_go2 rfl (by first | rfl | exact hkf) ?_
  cases o with
  | none =>
    refine ze_brT rfl hF ?_
    refine ze_go1 rfl ?_
    exact ze_rt1 rfl (Or.inl rfl) ⟨rfl, rfl⟩
  | some q =>
    obtain ⟨f1, f2, f3, f4⟩ := hF
    refine ze_brF rfl (by rw [f1]; decide) ?_
    refine ze_go1 rfl ?_
    refine ze_go2 rfl (by first | rfl | exact hkf) ?_
    iterate 2 (refine ze_go1 rfl ?_)
    rw [f3]
    by_cases c : 0 < q.2.1
    · refine ze_brF rfl (fun z => zlc_le.mp z c) ?_
      iterate 2 (refine ze_go1 rfl ?_)
      refine ze_rt1 rfl (Or.inr rfl) ⟨?_, rfl⟩
      rw [show zm_ub (some q) = true from decide_eq_true c]
      rfl
    · refine ze_brT rfl (zlc_le.mpr c) ?_
      refine ze_go1 rfl ?_
      refine ze_rt1 rfl (Or.inl rfl) ⟨?_, rfl⟩
      rw [show zm_ub (some q) = false from decide_eq_false c]
      rfl
theorem e_hasGreaterRatio {d : Nat} {σ : ze_S} {k k2 : Nat} {p q : Int32 × Int64 × Int64} (hk : 35 ≤ k ∧ k < 39) (hk2 : 35 ≤ k2 ∧ k2 < 39) (hF : zFd σ k (some p)) (hF2 : zFd σ k2 (some q)) :
    zM (d + 1) m_Fi_hasGreaterRatio [.ref k, .ref k2] σ (fun v τ => v = some (.int (bif decide (q.2.1 * p.2.2 < p.2.1 * q.2.2) then 1 else 0)) ∧ τ = σ) := by
  have hkf := zk_fi hk
  have hkf2 := zk_fi hk2
  obtain ⟨f1, f2, f3, f4⟩ := hF
  obtain ⟨g1, g2, g3, g4⟩ := hF2
  refine zM_in t_Fi_hasGreaterRatio [some (.ref k), some (.ref k2)] rfl rfl ?_
  refine ze_go1 rfl ?_
  refine ze_go2 rfl hkf ?_
  refine ze_go1 rfl ?_
  refine ze_go2 rfl hkf2 ?_
  refine ze_go1 rfl ?_
  refine ze_go1 rfl ?_
  refine ze_go2 rfl hkf2 ?_
  refine ze_go1 rfl ?_
  refine ze_go2 rfl hkf ?_
  iterate 2 (refine ze_go1 rfl ?_)
  rw [f3, f4, g3, g4]
  by_cases c : q.2.1 * p.2.2 < p.2.1 * q.2.2
  · refine ze_brF rfl (fun z => zlc_le.mp z c) ?_
    iterate 2 (refine ze_go1 rfl ?_)
    refine ze_rt1 rfl (Or.inr rfl) ⟨?_, rfl⟩
    rw [decide_eq_true c]
    rfl
  · refine ze_brT rfl (zlc_le.mpr c) ?_
    refine ze_go1 rfl ?_
    refine ze_rt1 rfl (Or.inl rfl) ⟨?_, rfl⟩
    rw [decide_eq_false c]
    rfl
theorem zm_bs_lt (fo : Nat → zO) (S : Int64) (c : Nat) : ∀ n b, zm_bs fo S c n = some b → b < n ∧ zm_ub (fo b) = true
  | 0, _, h => by cases h
  | n + 1, b, h => by
    unfold zm_bs at h
    cases hc : (zm_ub (fo n) && (decide (S ≤ zm_g (fo n) * (nI c).toInt64) && zm_gr fo n (zm_bs fo S c n))) with
    | true =>
      rw [hc] at h
      cases h
      rw [Bool.and_eq_true] at hc
      exact ⟨Nat.lt_succ_self _, hc.1⟩
    | false =>
      rw [hc] at h
      have := zm_bs_lt fo S c n b h
      exact ⟨Nat.lt_succ_of_lt this.1, this.2⟩
theorem zm_ub_some {o : zO} (h : zm_ub o = true) : ∃ q, o = some q := by
  cases o with
  | none => cases h
  | some q => exact ⟨q, rfl⟩
theorem zm_tc_le (fo : Nat → zO) : ∀ n, (zm_tc fo n).2 ≤ n
  | 0 => Nat.le_refl _
  | n + 1 => by
    have := zm_tc_le fo n
    unfold zm_tc
    cases zm_ub (fo n) with
    | true => exact Nat.succ_le_succ this
    | false => exact Nat.le_succ_of_le this
set_option maxRecDepth 20000 in
set_option maxHeartbeats 1000000 in
theorem e_chosen {d : Nat} {σ : ze_S} {D : zD} {fo : Nat → zO} (hd : zdok D) (hB : zB σ D) (hF : ∀ a, a < D.1 → zFd σ (35 + a) (fo a)) :
    zM (d + 2) m_Te_chosen [.ref 31] σ (fun v τ => v = some (.int (zbI (zm_ch fo D.1))) ∧ τ = σ) := by
  have h4 := hd.1
  refine zM_in t_Te_chosen [some (.ref 31), none, none, none, none, none, none, none] rfl rfl ?_
  have loop2 : ∀ m j (o6 o7 : Option Value), j + m = D.1 → zE (d + 1) t_Te_chosen (fun v τ => v = some (.int (zbI (zm_ch fo D.1))) ∧ τ = σ) (60, [some (.ref 31), some (.long (zm_tc fo D.1).1), none, some (.int (nI (zm_tc fo D.1).2)), some (.int (zbI (zm_bs fo (zm_tc fo D.1).1 (zm_tc fo D.1).2 j))), some (.int (nI j)), o6, o7], [], σ) := by
    intro m
    induction m with
    | zero =>
      intro j o6 o7 hj
      iterate 2 (refine ze_go1 rfl ?_)
      iterate 2 (refine ze_go2 rfl rfl ?_)
      refine ze_brT rfl (by rw [hB.1]; exact nI_le (by omega) (by omega)) ?_
      refine ze_go1 rfl ?_
      refine ze_rt1 rfl trivial ⟨?_, rfl⟩
      rw [show j = D.1 by omega]
      rfl
    | succ m ih =>
      intro j o6 o7 hj
      have hj1 : j < D.1 := by omega
      have hk : 35 ≤ 35 + j ∧ 35 + j < 39 := by omega
      have hkf := zk_fi hk
      iterate 2 (refine ze_go1 rfl ?_)
      iterate 2 (refine ze_go2 rfl rfl ?_)
      refine ze_brF rfl (by rw [hB.1]; exact nI_ge (by omega) (by omega)) ?_
      refine ze_go1 rfl ?_
      refine ze_go2 rfl rfl ?_
      refine ze_go1 rfl ?_
      refine ze_go2 rfl ⟨rfl, vp_in_nI (by omega) (by decide)⟩ ?_
      rw [nI_clamp (n := j) (by omega)]
      iterate 2 (refine ze_go1 rfl ?_)
      refine ze_ca1 rfl ⟨rfl, hkf⟩ (e_hasGain hk (hF j hj1)) (fun v υ h => ?_)
      obtain ⟨rfl, rfl⟩ := h
      have e : zm_bs fo (zm_tc fo D.1).1 (zm_tc fo D.1).2 (j + 1) = bif zm_ub (fo j) && (decide ((zm_tc fo D.1).1 ≤ zm_g (fo j) * (nI (zm_tc fo D.1).2).toInt64) && zm_gr fo j (zm_bs fo (zm_tc fo D.1).1 (zm_tc fo D.1).2 j)) then some j else zm_bs fo (zm_tc fo D.1).1 (zm_tc fo D.1).2 j := rfl
      have no : ∀ (o7 : Option Value), (zm_ub (fo j) && (decide ((zm_tc fo D.1).1 ≤ zm_g (fo j) * (nI (zm_tc fo D.1).2).toInt64) && zm_gr fo j (zm_bs fo (zm_tc fo D.1).1 (zm_tc fo D.1).2 j))) = false → zE (d + 1) t_Te_chosen (fun v τ => v = some (.int (zbI (zm_ch fo D.1))) ∧ τ = υ) (139, [some (.ref 31), some (.long (zm_tc fo D.1).1), none, some (.int (nI (zm_tc fo D.1).2)), some (.int (zbI (zm_bs fo (zm_tc fo D.1).1 (zm_tc fo D.1).2 j))), some (.int (nI j)), some (.ref (35 + j)), o7], [], υ) := by
        intro o7 hno
        have h := ih (j + 1) (some (.ref (35 + j))) o7 (by omega)
        rw [e, hno, ← show nI j + 1 = nI (j + 1) from nI_1 _] at h
        iterate 2 (refine ze_go1 rfl ?_)
        exact h
      have yes : ∀ (o7 : Option Value), (zm_ub (fo j) && (decide ((zm_tc fo D.1).1 ≤ zm_g (fo j) * (nI (zm_tc fo D.1).2).toInt64) && zm_gr fo j (zm_bs fo (zm_tc fo D.1).1 (zm_tc fo D.1).2 j))) = true → zE (d + 1) t_Te_chosen (fun v τ => v = some (.int (zbI (zm_ch fo D.1))) ∧ τ = υ) (135, [some (.ref 31), some (.long (zm_tc fo D.1).1), none, some (.int (nI (zm_tc fo D.1).2)), some (.int (zbI (zm_bs fo (zm_tc fo D.1).1 (zm_tc fo D.1).2 j))), some (.int (nI j)), some (.ref (35 + j)), o7], [], υ) := by
        intro o7 hyes
        have h := ih (j + 1) (some (.ref (35 + j))) o7 (by omega)
        rw [e, hyes, ← show nI j + 1 = nI (j + 1) from nI_1 _] at h
        iterate 4 (refine ze_go1 rfl ?_)
        exact h
      cases hu : zm_ub (fo j) with
      | false =>
        refine ze_brT rfl rfl ?_
        iterate 3 (refine ze_go1 rfl ?_)
        refine ze_brT rfl rfl ?_
        exact no _ (by rw [hu]; rfl)
      | true =>
        obtain ⟨q, hq⟩ := zm_ub_some hu
        have hFj := hF j hj1
        rw [hq] at hFj
        refine ze_brF rfl (by decide) ?_
        refine ze_go1 rfl ?_
        refine ze_go2 rfl (by first | rfl | exact hkf) ?_
        iterate 5 (refine ze_go1 rfl ?_)
        rw [hFj.2.2.1]
        have eg : zm_g (fo j) = q.2.1 := by rw [hq]; rfl
        have ex : zm_x (fo j) = q.2.2 := by rw [hq]; rfl
        by_cases c : (zm_tc fo D.1).1 ≤ q.2.1 * (nI (zm_tc fo D.1).2).toInt64
        · refine ze_brF rfl (fun z => zlc_lt.mp z c) ?_
          iterate 4 (refine ze_go1 rfl ?_)
          refine ze_brF rfl (by decide) ?_
          iterate 2 (refine ze_go1 rfl ?_)
          cases hb : zm_bs fo (zm_tc fo D.1).1 (zm_tc fo D.1).2 j with
          | none =>
            refine ze_brT rfl rfl ?_
            have h := yes (some (.int 1)) (by rw [hu, eg, decide_eq_true c, hb]; rfl)
            rw [hb] at h
            exact h
          | some b =>
            obtain ⟨hb1, hb2⟩ := zm_bs_lt fo _ _ j b hb
            obtain ⟨q2, hq2⟩ := zm_ub_some hb2
            have hFb := hF b (by omega)
            rw [hq2] at hFb
            have hkb : 35 ≤ 35 + b ∧ 35 + b < 39 := by omega
            have nb : ¬ nI b = -1 := by
              intro z
              have := nI_toInt (n := b) (by omega)
              rw [z] at this
              have h2 : (-1 : Int32).toInt = -1 := by decide
              omega
            refine ze_brF rfl nb ?_
            iterate 2 (refine ze_go1 rfl ?_)
            refine ze_go2 rfl rfl ?_
            refine ze_go1 rfl ?_
            refine ze_go2 rfl ⟨rfl, vp_in_nI (by omega) (by decide)⟩ ?_
            rw [show (zbI (some b)).toNatClampNeg = b from nI_clamp (by omega)]
            refine ze_ca1 rfl ⟨rfl, hkf⟩ (e_hasGreaterRatio hk hkb hFj hFb) (fun v ρ h => ?_)
            obtain ⟨rfl, rfl⟩ := h
            have egr : zm_gr fo j (some b) = decide (q2.2.1 * q.2.2 < q.2.1 * q2.2.2) := by
              show decide (zm_g (fo b) * zm_x (fo j) < zm_g (fo j) * zm_x (fo b)) = _
              rw [hq, hq2]
              rfl
            cases hz : decide (q2.2.1 * q.2.2 < q.2.1 * q2.2.2) with
            | true =>
              refine ze_brF rfl (by decide) ?_
              have h := yes (some (.int 1)) (by rw [hu, eg, decide_eq_true c, hb, egr, hz]; rfl)
              rw [hb] at h
              exact h
            | false =>
              refine ze_brT rfl rfl ?_
              have h := no (some (.int 1)) (by rw [hu, eg, decide_eq_true c, hb, egr, hz]; rfl)
              rw [hb] at h
              exact h
        · refine ze_brT rfl (zlc_lt.mpr c) ?_
          iterate 3 (refine ze_go1 rfl ?_)
          refine ze_brT rfl rfl ?_
          exact no _ (by rw [hu, eg, decide_eq_false c]; rfl)
  have loop1 : ∀ m j, j + m = D.1 → zE (d + 1) t_Te_chosen (fun v τ => v = some (.int (zbI (zm_ch fo D.1))) ∧ τ = σ) (7, [some (.ref 31), some (.long (zm_tc fo j).1), none, some (.int (nI (zm_tc fo j).2)), some (.int (nI j)), none, none, none], [], σ) := by
    intro m
    induction m with
    | zero =>
      intro j hj
      iterate 2 (refine ze_go1 rfl ?_)
      iterate 2 (refine ze_go2 rfl rfl ?_)
      refine ze_brT rfl (by rw [hB.1]; exact nI_le (by omega) (by omega)) ?_
      iterate 4 (refine ze_go1 rfl ?_)
      have h := loop2 D.1 0 none none (by omega)
      rw [show j = D.1 by omega]
      exact h
    | succ m ih =>
      intro j hj
      have hj1 : j < D.1 := by omega
      have hk : 35 ≤ 35 + j ∧ 35 + j < 39 := by omega
      have hkf := zk_fi hk
      iterate 2 (refine ze_go1 rfl ?_)
      iterate 2 (refine ze_go2 rfl rfl ?_)
      refine ze_brF rfl (by rw [hB.1]; exact nI_ge (by omega) (by omega)) ?_
      refine ze_go1 rfl ?_
      refine ze_go2 rfl rfl ?_
      refine ze_go1 rfl ?_
      refine ze_go2 rfl ⟨rfl, vp_in_nI (by omega) (by decide)⟩ ?_
      rw [nI_clamp (n := j) (by omega)]
      refine ze_ca1 rfl ⟨rfl, hkf⟩ (e_hasGain hk (hF j hj1)) (fun v υ h => ?_)
      obtain ⟨rfl, rfl⟩ := h
      have h := ih (j + 1) (by omega)
      rw [show zm_tc fo (j + 1) = bif zm_ub (fo j) then ((zm_tc fo j).1 + zm_g (fo j), (zm_tc fo j).2 + 1) else zm_tc fo j from rfl, ← show nI j + 1 = nI (j + 1) from nI_1 _] at h
      cases hu : zm_ub (fo j) with
      | false =>
        refine ze_brT rfl rfl ?_
        rw [hu] at h
        iterate 2 (refine ze_go1 rfl ?_)
        exact h
      | true =>
        obtain ⟨q, hq⟩ := zm_ub_some hu
        have hFj := hF j hj1
        rw [hq] at hFj
        refine ze_brF rfl (by decide) ?_
        iterate 2 (refine ze_go1 rfl ?_)
        refine ze_go2 rfl rfl ?_
        refine ze_go1 rfl ?_
        refine ze_go2 rfl ⟨rfl, vp_in_nI (by omega) (by decide)⟩ ?_
        rw [nI_clamp (n := j) (by omega)]
        refine ze_go2 rfl (by first | rfl | exact hkf) ?_
        iterate 5 (refine ze_go1 rfl ?_)
        rw [hu, show zm_g (fo j) = υ.2 (35 + j) 2 by rw [hq, hFj.2.2.1]; rfl] at h
        have e9 : (bif true then ((zm_tc fo j).1 + υ.2 (35 + j) 2, (zm_tc fo j).2 + 1) else zm_tc fo j).2 = (zm_tc fo j).2 + 1 := rfl
        rw [e9, ← show nI (zm_tc fo j).2 + 1 = nI ((zm_tc fo j).2 + 1) from nI_1 _] at h
        exact h
  iterate 6 (refine ze_go1 rfl ?_)
  exact loop1 D.1 0 (by omega)
