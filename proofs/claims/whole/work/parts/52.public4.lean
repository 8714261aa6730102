theorem zlc_ge {x y : Int64} : (0 ≤ lg_cmp x y) ↔ ¬ x < y := by
  rw [lg_cmp_ge x y]
  exact Int64.not_lt.symm
def zXt (k : Nat) : Prop := (3 ≤ k ∧ k ≤ 5) ∨ k = 10 ∨ (35 ≤ k ∧ k ≤ 38)
theorem zXt_F : zF zXt := fun k hk => by unfold zXt at hk; omega
theorem zXt_46 {σ τ : ze_S} (h : zxp zXt σ τ) : zxp (fun k => k < 46) σ τ := zxp_wk h (fun k hk => by unfold zXt at hk; omega)
theorem e_C_hasRootTest {d : Nat} {σ : ze_S} {S : zSt} {x m : Int32} (h : zCR σ S) : zM (d + 5) m_C_hasRootTest [.ref 27, .int x, .int m] σ (fun v τ => zxp zXt σ τ ∧ ((v = some (.int 0) ∧ zn_root S x m = none) ∨ ∃ j q, v = some (.int 1) ∧ x = nI j ∧ j < 4 ∧ zn_root S x m = some q ∧ zFd τ (35 + j) (some q))) := by
  obtain ⟨hd, hB, -, -⟩ := h
  have h24 := hd.2.1
  have h4 := hd.1
  refine zM_in t_C_hasRootTest [some (.ref 27), some (.int x), some (.int m)] rfl rfl ?_
  have bad : (x < 0 ∨ nI S.1.1 ≤ x ∨ (m < 1 ∨ 5 < m)) → zE (d + 4) t_C_hasRootTest (fun v τ => zxp zXt σ τ ∧ ((v = some (.int 0) ∧ zn_root S x m = none) ∨ ∃ j q, v = some (.int 1) ∧ x = nI j ∧ j < 4 ∧ zn_root S x m = some q ∧ zFd τ (35 + j) (some q))) (22, [some (.ref 27), some (.int x), some (.int m)], [], σ) := by
    intro hb
    refine ze_go1 rfl ?_
    refine ze_rt1 rfl (Or.inl rfl) ⟨zxp_rf _ _, Or.inl ⟨rfl, ?_⟩⟩
    unfold zn_root
    rw [if_pos hb]
  refine ze_go1 rfl ?_
  refine ze_br1 rfl (fun c => bad (Or.inl c)) (fun c => ?_)
  iterate 2 (refine ze_go1 rfl ?_)
  iterate 2 (refine ze_go2 rfl rfl ?_)
  rw [hB.1]
  refine ze_br1 rfl (fun c2 => bad (Or.inr (Or.inl c2))) (fun c2 => ?_)
  refine ze_go1 rfl ?_
  refine ze_ca1 rfl rfl (ze_M_le (e_isMinimum (d := 0)) (by omega)) (fun v τ' q => ?_)
  obtain ⟨rfl, rfl⟩ := q
  by_cases hm : m < 1 ∨ 5 < m
  · refine ze_brF rfl (by rw [if_neg (fun q => hm.elim q.1 q.2)]; decide) ?_
    exact bad (Or.inr (Or.inr hm))
  · have h1 : ¬ m < 1 := fun q => hm (Or.inl q)
    have h5 : ¬ 5 < m := fun q => hm (Or.inr q)
    refine ze_brT rfl (by rw [if_pos ⟨h1, h5⟩]; decide) ?_
    obtain ⟨k, ek, hk⟩ := zn_le (n := 5) (by decide) (zn_n0 h1) h5
    obtain ⟨j, ej, hj⟩ := zn_lt (n := S.1.1) (by omega) c c2
    have hn : ¬ (x < 0 ∨ nI S.1.1 ≤ x ∨ (m < 1 ∨ 5 < m)) := fun q => q.elim c (fun q => q.elim c2 hm)
    have er : zn_root S x m = zm_ts (S.1.2.2.1 j) (fun i => S.1.2.2.2.2 i j) S.1.2.2.2.1 (zw0 S.1.2.1) S.1.2.1 k := by
      unfold zn_root
      rw [if_neg hn, ej, ek, zcl (by omega), zcl (by omega)]
    rw [er]
    subst ej ek
    refine ze_go1 rfl ?_
    refine ze_go2 rfl rfl ?_
    refine ze_go1 rfl ?_
    iterate 2 (refine ze_go2 rfl rfl ?_)
    rw [hB.2.1]
    refine ze_ca1 rfl ⟨rfl, rfl⟩ (ze_M_le (e_start (d := 0) h24) (by omega)) (fun v τ1 q => ?_)
    obtain ⟨rfl, x1, f1⟩ := q
    have hB1 : zB τ1 S.1 := zB_x hB x1 (by decide)
    refine ze_go1 rfl ?_
    refine ze_go2 rfl rfl ?_
    iterate 2 (refine ze_go1 rfl ?_)
    iterate 2 (refine ze_go2 rfl rfl ?_)
    refine ze_go1 rfl ?_
    refine ze_go2 rfl ⟨rfl, vp_in_nI (N := 4) (n := 0) (by decide) (by decide)⟩ ?_
    rw [sb_cl0]
    refine ze_go1 rfl ?_
    refine ze_ca1 rfl ⟨rfl, rfl⟩ (ze_M_le (e_examine (d := 0) (w := zw0 S.1.2.1) (kr := 10 + 0) hd hB1 hj (by decide) (fun i hi => f1 i (by omega)) (fun i _ => zw0_le _ i) hk) (by omega)) (fun v τ2 q => ?_)
    obtain ⟨rfl, x2, F⟩ := q
    have hx : zxp zXt τ' τ2 := zxp_tr (zxp_of x1 (fun k hk => by simp at hk; unfold zXt; omega)) (zxp_of x2 (fun k hk => by simp at hk; unfold zXt; omega))
    have hkf : ze_cl (35 + j) = 2 := zk_fi (by omega)
    refine ze_go1 rfl ?_
    iterate 2 (refine ze_go2 rfl rfl ?_)
    refine ze_go1 rfl ?_
    refine ze_go2 rfl ⟨rfl, vp_in_nI (by omega) (by decide)⟩ ?_
    rw [nI_clamp (n := j) (by omega)]
    refine ze_go2 rfl (by first | rfl | exact hkf) ?_
    generalize zm_ts (S.1.2.2.1 j) (fun i => S.1.2.2.2.2 i j) S.1.2.2.2.1 (zw0 S.1.2.1) S.1.2.1 k = o at F
    cases o with
    | none =>
      have F0 : τ2.1 (35 + j) 0 = 0 := F
      rw [F0]
      exact ze_rt1 rfl (Or.inl rfl) ⟨hx, Or.inl ⟨rfl, rfl⟩⟩
    | some q =>
      have F0 : τ2.1 (35 + j) 0 = 1 := F.1
      rw [F0]
      exact ze_rt1 rfl (Or.inr rfl) ⟨hx, Or.inr ⟨j, q, rfl, rfl, by omega, rfl, F⟩⟩
theorem e_C_gain {d : Nat} {σ : ze_S} {S : zSt} {x m : Int32} (h : zCR σ S) : zM (d + 6) m_C_gain [.ref 27, .int x, .int m] σ (zOuL σ (zn_gain S x m) S) := by
  refine zM_in t_C_gain [some (.ref 27), some (.int x), some (.int m), none, none] rfl rfl ?_
  iterate 3 (refine ze_go1 rfl ?_)
  refine ze_ca1 rfl ⟨rfl, rfl⟩ (ze_M_le (e_C_hasRootTest (d := 0) h) (by omega)) (fun v τ q => ?_)
  obtain ⟨hx, q⟩ := q
  have hC := zCR_x h hx zXt_F
  unfold zn_gain
  rcases q with ⟨rfl, e⟩ | ⟨j, q, rfl, rfl, hj, e, F⟩
  · refine ze_brF rfl (by decide) ?_
    refine ze_go1 rfl ?_
    rw [e]
    exact ze_rt1 rfl trivial ⟨rfl, hC, zXt_46 hx⟩
  · refine ze_brT rfl (by decide) ?_
    have hkf : ze_cl (35 + j) = 2 := zk_fi (by omega)
    rw [e]
    refine ze_go1 rfl ?_
    iterate 2 (refine ze_go2 rfl rfl ?_)
    refine ze_go1 rfl ?_
    refine ze_go2 rfl ⟨rfl, vp_in_nI (by omega) (by decide)⟩ ?_
    rw [nI_clamp (n := j) (by omega)]
    refine ze_go2 rfl (by first | rfl | exact hkf) ?_
    iterate 4 (refine ze_go1 rfl ?_)
    have F0 : τ.2 (35 + j) 2 = q.2.1 := F.2.2.1
    rw [F0]
    by_cases hg : q.2.1 < 0
    · refine ze_brF rfl (fun z => (zlc_ge.1 z) hg) ?_
      iterate 2 (refine ze_go1 rfl ?_)
      refine ze_rt1 rfl trivial ⟨?_, hC, zXt_46 hx⟩
      show some (Value.long (-2)) = some (Value.long (if q.2.1 < 0 then -2 else q.2.1))
      rw [if_pos hg]
    · refine ze_brT rfl (zlc_ge.2 hg) ?_
      refine ze_go1 rfl ?_
      refine ze_rt1 rfl trivial ⟨?_, hC, zXt_46 hx⟩
      show some (Value.long q.2.1) = some (Value.long (if q.2.1 < 0 then -2 else q.2.1))
      rw [if_neg hg]
theorem e_C_split {d : Nat} {σ : ze_S} {S : zSt} {x m : Int32} (h : zCR σ S) : zM (d + 6) m_C_split [.ref 27, .int x, .int m] σ (zOuL σ (zn_split S x m) S) := by
  refine zM_in t_C_split [some (.ref 27), some (.int x), some (.int m)] rfl rfl ?_
  iterate 3 (refine ze_go1 rfl ?_)
  refine ze_ca1 rfl ⟨rfl, rfl⟩ (ze_M_le (e_C_hasRootTest (d := 0) h) (by omega)) (fun v τ q => ?_)
  obtain ⟨hx, q⟩ := q
  have hC := zCR_x h hx zXt_F
  unfold zn_split
  rcases q with ⟨rfl, e⟩ | ⟨j, q, rfl, rfl, hj, e, F⟩
  · refine ze_brT rfl (by decide) ?_
    refine ze_go1 rfl ?_
    rw [e]
    exact ze_rt1 rfl trivial ⟨rfl, hC, zXt_46 hx⟩
  · refine ze_brF rfl (by decide) ?_
    have hkf : ze_cl (35 + j) = 2 := zk_fi (by omega)
    rw [e]
    refine ze_go1 rfl ?_
    iterate 2 (refine ze_go2 rfl rfl ?_)
    refine ze_go1 rfl ?_
    refine ze_go2 rfl ⟨rfl, vp_in_nI (by omega) (by decide)⟩ ?_
    rw [nI_clamp (n := j) (by omega)]
    refine ze_go2 rfl (by first | rfl | exact hkf) ?_
    refine ze_go1 rfl ?_
    have F0 : τ.2 (35 + j) 3 = q.2.2 := F.2.2.2
    rw [F0]
    exact ze_rt1 rfl trivial ⟨rfl, hC, zXt_46 hx⟩
theorem e_C_cut {d : Nat} {σ : ze_S} {S : zSt} {x m : Int32} (h : zCR σ S) : zM (d + 6) m_C_cut [.ref 27, .int x, .int m] σ (zOut σ (zn_cut S x m) S) := by
  refine zM_in t_C_cut [some (.ref 27), some (.int x), some (.int m)] rfl rfl ?_
  iterate 3 (refine ze_go1 rfl ?_)
  refine ze_ca1 rfl ⟨rfl, rfl⟩ (ze_M_le (e_C_hasRootTest (d := 0) h) (by omega)) (fun v τ q => ?_)
  obtain ⟨hx, q⟩ := q
  have hC := zCR_x h hx zXt_F
  unfold zn_cut
  rcases q with ⟨rfl, e⟩ | ⟨j, q, rfl, rfl, hj, e, F⟩
  · refine ze_brT rfl (by decide) ?_
    refine ze_go1 rfl ?_
    rw [e]
    exact ze_rt1 rfl trivial ⟨rfl, hC, zXt_46 hx⟩
  · refine ze_brF rfl (by decide) ?_
    have hkf : ze_cl (35 + j) = 2 := zk_fi (by omega)
    rw [e]
    refine ze_go1 rfl ?_
    iterate 2 (refine ze_go2 rfl rfl ?_)
    refine ze_go1 rfl ?_
    refine ze_go2 rfl ⟨rfl, vp_in_nI (by omega) (by decide)⟩ ?_
    rw [nI_clamp (n := j) (by omega)]
    refine ze_go2 rfl (by first | rfl | exact hkf) ?_
    refine ze_go1 rfl ?_
    have F0 : τ.1 (35 + j) 1 = q.1 := F.2.1
    rw [F0]
    exact ze_rt1 rfl trivial ⟨rfl, hC, zXt_46 hx⟩
/-! the nodes -/
theorem zRC_t {D : zD} {σ : ze_S} {P : Nat → List Nat} {f : Nat} {w : Nat → Nat} {y : Nat} {p q : List Nat} {T : zTr} (h : zRC D σ P f w y q (zsp T p)) : (T.1 p = none ∧ σ.1 15 y = -1 ∧ σ.1 16 y = -1 ∧ σ.1 17 y = 0) ∨
    ∃ a t, T.1 p = some (a, t) ∧ a < D.1 ∧ zth D a t ∧ σ.1 15 y = nI a ∧ σ.1 16 y = t ∧ σ.1 17 y = nI (zm_nb (D.2.2.1 a)) ∧ (∀ b, b < 4 → σ.1 20 (4 * y + b) = nI (zpt D a t w b)) ∧ ∀ b, b < zm_nb (D.2.2.1 a) → σ.1 21 (4 * y + b) = nI (zch σ y b) := by
  cases f with
  | zero =>
    have := h.2
    rw [zsp_1] at this
    exact Or.inl this
  | succ f =>
    rcases h.2 with c | ⟨a, t, c1, c2, c3, c4, c5, c6, c7, c8⟩
    · rw [zsp_1] at c
      exact Or.inl c
    · rw [zsp_1] at c1
      exact Or.inr ⟨a, t, c1, c2, c3, c4, c5, c6, c7, fun b hb => (c8 b hb).1⟩
theorem e_C_tested {d : Nat} {σ : ze_S} {S : zSt} {x : Int32} (h : zCR σ S) : zM (d + 2) m_C_tested [.ref 27, .int x] σ (zOut σ (zn_tested S x) S) := by
  refine zM_in t_C_tested [some (.ref 27), some (.int x)] rfl rfl ?_
  obtain ⟨s, es, hs, c⟩ := zCR_nd h x
  refine ze_go1 rfl ?_
  refine ze_go2 rfl rfl ?_
  refine ze_go1 rfl ?_
  refine ze_ca1 rfl ⟨rfl, rfl⟩ (ze_M_le (e_has (d := 0) es) (by omega)) (fun v τ q => ?_)
  obtain ⟨rfl, rfl⟩ := q
  unfold zn_tested
  rcases c with ⟨c1, c2⟩ | ⟨c1, j, n, T, y, p, P, f, rfl, hj, eS, e22, hR, hk, -⟩
  · refine ze_brT rfl (if_neg c1) ?_
    refine ze_go1 rfl ?_
    rw [c2]
    exact ze_rt1 rfl trivial ⟨rfl, h, zxp_rf _ _⟩
  · refine ze_brF rfl (by rw [if_pos c1]; decide) ?_
    have hy := (zRC_hd hR).1
    rw [hk]
    refine ze_go1 rfl ?_
    iterate 2 (refine ze_go2 rfl rfl ?_)
    refine ze_go1 rfl ?_
    iterate 2 (refine ze_go2 rfl rfl ?_)
    refine ze_go1 rfl ?_
    refine ze_go2 rfl ⟨rfl, vp_in_nI (N := 85) hj (by decide)⟩ ?_
    rw [nI_clamp (n := j) (by omega), e22]
    refine ze_go2 rfl ⟨rfl, vp_in_nI (N := 85) hy (by decide)⟩ ?_
    rw [nI_clamp (n := y) (by omega)]
    refine ze_go1 rfl ?_
    refine ze_rt1 rfl trivial ⟨?_, h, zxp_rf _ _⟩
    rcases zRC_t hR with ⟨e1, e2, -⟩ | ⟨a, t, e1, -, -, e2, -⟩
    · rw [e1, e2]
    · rw [e1, e2]
theorem e_C_threshold {d : Nat} {σ : ze_S} {S : zSt} {x : Int32} (h : zCR σ S) : zM (d + 2) m_C_threshold [.ref 27, .int x] σ (zOut σ (zn_threshold S x) S) := by
  refine zM_in t_C_threshold [some (.ref 27), some (.int x)] rfl rfl ?_
  obtain ⟨s, es, hs, c⟩ := zCR_nd h x
  refine ze_go1 rfl ?_
  refine ze_go2 rfl rfl ?_
  refine ze_go1 rfl ?_
  refine ze_ca1 rfl ⟨rfl, rfl⟩ (ze_M_le (e_has (d := 0) es) (by omega)) (fun v τ q => ?_)
  obtain ⟨rfl, rfl⟩ := q
  unfold zn_threshold
  rcases c with ⟨c1, c2⟩ | ⟨c1, j, n, T, y, p, P, f, rfl, hj, eS, e22, hR, hk, -⟩
  · refine ze_brT rfl (if_neg c1) ?_
    refine ze_go1 rfl ?_
    rw [c2]
    exact ze_rt1 rfl trivial ⟨rfl, h, zxp_rf _ _⟩
  · refine ze_brF rfl (by rw [if_pos c1]; decide) ?_
    have hy := (zRC_hd hR).1
    rw [hk]
    refine ze_go1 rfl ?_
    iterate 2 (refine ze_go2 rfl rfl ?_)
    refine ze_go1 rfl ?_
    iterate 2 (refine ze_go2 rfl rfl ?_)
    refine ze_go1 rfl ?_
    refine ze_go2 rfl ⟨rfl, vp_in_nI (N := 85) hj (by decide)⟩ ?_
    rw [nI_clamp (n := j) (by omega), e22]
    refine ze_go2 rfl ⟨rfl, vp_in_nI (N := 85) hy (by decide)⟩ ?_
    rw [nI_clamp (n := y) (by omega)]
    refine ze_go1 rfl ?_
    refine ze_rt1 rfl trivial ⟨?_, h, zxp_rf _ _⟩
    rcases zRC_t hR with ⟨e1, -, e2, -⟩ | ⟨a, t, e1, -, -, -, e2, -⟩
    · rw [e1, e2]
    · rw [e1, e2]
theorem e_C_classOf {d : Nat} {σ : ze_S} {S : zSt} {x : Int32} (h : zCR σ S) : zM (d + 2) m_C_classOf [.ref 27, .int x] σ (zOut σ (zn_classOf S x) S) := by
  refine zM_in t_C_classOf [some (.ref 27), some (.int x)] rfl rfl ?_
  obtain ⟨s, es, hs, c⟩ := zCR_nd h x
  refine ze_go1 rfl ?_
  refine ze_go2 rfl rfl ?_
  refine ze_go1 rfl ?_
  refine ze_ca1 rfl ⟨rfl, rfl⟩ (ze_M_le (e_has (d := 0) es) (by omega)) (fun v τ q => ?_)
  obtain ⟨rfl, rfl⟩ := q
  unfold zn_classOf
  rcases c with ⟨c1, c2⟩ | ⟨c1, j, n, T, y, p, P, f, rfl, hj, eS, e22, hR, hk, -⟩
  · refine ze_brT rfl (if_neg c1) ?_
    refine ze_go1 rfl ?_
    rw [c2]
    exact ze_rt1 rfl trivial ⟨rfl, h, zxp_rf _ _⟩
  · refine ze_brF rfl (by rw [if_pos c1]; decide) ?_
    have hy := (zRC_hd hR).1
    have h18 := (zRC_hd hR).2.2.1
    rw [zsp_2] at h18
    rw [hk]
    refine ze_go1 rfl ?_
    iterate 2 (refine ze_go2 rfl rfl ?_)
    refine ze_go1 rfl ?_
    iterate 2 (refine ze_go2 rfl rfl ?_)
    refine ze_go1 rfl ?_
    refine ze_go2 rfl ⟨rfl, vp_in_nI (N := 85) hj (by decide)⟩ ?_
    rw [nI_clamp (n := j) (by omega), e22]
    refine ze_go2 rfl ⟨rfl, vp_in_nI (N := 85) hy (by decide)⟩ ?_
    rw [nI_clamp (n := y) (by omega), h18]
    refine ze_go1 rfl ?_
    exact ze_rt1 rfl trivial ⟨rfl, h, zxp_rf _ _⟩
theorem e_C_weight {d : Nat} {σ : ze_S} {S : zSt} {x c : Int32} (h : zCR σ S) : zM (d + 2) m_C_weight [.ref 27, .int x, .int c] σ (zOut σ (zn_weight S x c) S) := by
  refine zM_in t_C_weight [some (.ref 27), some (.int x), some (.int c)] rfl rfl ?_
  obtain ⟨s, es, hs, q⟩ := zCR_nd h x
  refine ze_go1 rfl ?_
  refine ze_go2 rfl rfl ?_
  refine ze_go1 rfl ?_
  refine ze_ca1 rfl ⟨rfl, rfl⟩ (ze_M_le (e_has (d := 0) es) (by omega)) (fun v τ q => ?_)
  obtain ⟨rfl, rfl⟩ := q
  unfold zn_weight
  rcases q with ⟨c1, c2⟩ | ⟨c1, j, n, T, y, p, P, f, rfl, hj, eS, e22, hR, hk, -⟩
  · refine ze_brT rfl (if_neg c1) ?_
    refine ze_go1 rfl ?_
    rw [c2]
    exact ze_rt1 rfl trivial ⟨rfl, h, zxp_rf _ _⟩
  · refine ze_brF rfl (by rw [if_pos c1]; decide) ?_
    have hy := (zRC_hd hR).1
    rw [hk]
    refine ze_go1 rfl ?_
    refine ze_ca1 rfl rfl (ze_M_le (e_isClass (d := 0)) (by omega)) (fun v τ' q => ?_)
    obtain ⟨rfl, rfl⟩ := q
    by_cases hx : c < 0 ∨ 3 ≤ c
    · refine ze_brF rfl (by rw [if_neg (fun q => hx.elim q.1 q.2)]; decide) ?_
      refine ze_go1 rfl ?_
      rw [if_pos hx]
      exact ze_rt1 rfl trivial ⟨rfl, h, zxp_rf _ _⟩
    · have hx0 : ¬ c < 0 := fun q => hx (Or.inl q)
      have hx3 : ¬ 3 ≤ c := fun q => hx (Or.inr q)
      refine ze_brT rfl (by rw [if_pos ⟨hx0, hx3⟩]; decide) ?_
      obtain ⟨t, et, ht⟩ := zn_lt (n := 3) (by decide) hx0 hx3
      rw [if_neg hx, et, zcl (by omega)]
      refine ze_go1 rfl ?_
      iterate 2 (refine ze_go2 rfl rfl ?_)
      refine ze_go1 rfl ?_
      iterate 2 (refine ze_go2 rfl rfl ?_)
      refine ze_go1 rfl ?_
      refine ze_go2 rfl ⟨rfl, vp_in_nI (N := 85) hj (by decide)⟩ ?_
      rw [nI_clamp (n := j) (by omega), e22]
      iterate 4 (refine ze_go1 rfl ?_)
      rw [zi3]
      refine ze_go2 rfl ⟨rfl, vp_in_nI (N := 255) (by omega) (by decide)⟩ ?_
      rw [nI_clamp (n := 3 * y + t) (by omega), (zRC_hd hR).2.2.2.2.1 t ht]
      exact ze_rt1 rfl trivial ⟨rfl, h, zxp_rf _ _⟩
theorem e_C_hasBranch {d : Nat} {σ : ze_S} {S : zSt} {x b : Int32} (h : zCR σ S) : zM (d + 2) m_Tr_hasBranch [.ref 29, .int x, .int b] σ (fun v τ => τ = σ ∧ ((v = some (.int 0) ∧ ∀ k : Nat → zTr → List Nat → Nat × Int32 → Int32, zat S x (zbk S b k) = -1) ∨
    (v = some (.int 1) ∧ ∃ j n T y p a t i, x = nI j ∧ j < 85 ∧ σ.1 22 j = nI y ∧ y < 85 ∧ b = nI i ∧ i < zm_nb (S.1.2.2.1 a) ∧ i < 4 ∧ T.1 p = some (a, t) ∧ σ.1 20 (4 * y + i) = nI (zpt S.1 a t (zwp S.1 p T (zw0 n)) i) ∧ σ.1 21 (4 * y + i) = nI (zch σ y i) ∧ zch σ y i < 85 ∧ σ.1 23 (zch σ y i) = nI (zix (zpp S.1 3 [] T) (p ++ [i])) ∧
      ∀ k : Nat → zTr → List Nat → Nat × Int32 → Int32, zat S x (zbk S b k) = k n T p (a, t)))) := by
  have hd := h.1
  refine zM_in t_Tr_hasBranch [some (.ref 29), some (.int x), some (.int b)] rfl rfl ?_
  obtain ⟨s, es, hs, q⟩ := zCR_nd h x
  iterate 2 (refine ze_go1 rfl ?_)
  refine ze_ca1 rfl ⟨rfl, rfl⟩ (ze_M_le (e_has (d := 0) es) (by omega)) (fun v τ q => ?_)
  obtain ⟨rfl, rfl⟩ := q
  rcases q with ⟨c1, c2⟩ | ⟨c1, j, n, T, y, p, P, f, rfl, hj, eS, e22, hR, hk, hch⟩
  · refine ze_brT rfl (if_neg c1) ?_
    refine ze_go1 rfl ?_
    exact ze_rt1 rfl (Or.inl rfl) ⟨rfl, Or.inl ⟨rfl, fun k => c2 _⟩⟩
  · refine ze_brF rfl (by rw [if_pos c1]; decide) ?_
    have hy := (zRC_hd hR).1
    refine ze_go1 rfl ?_
    refine ze_br1 rfl (fun hb => ?_) (fun hb => ?_)
    · refine ze_go1 rfl ?_
      refine ze_rt1 rfl (Or.inl rfl) ⟨rfl, Or.inl ⟨rfl, fun k => ?_⟩⟩
      rw [hk]
      unfold zbk
      cases T.1 p with
      | none => rfl
      | some r => exact if_pos (Or.inl hb)
    · iterate 2 (refine ze_go1 rfl ?_)
      refine ze_go2 rfl rfl ?_
      refine ze_go1 rfl ?_
      refine ze_go2 rfl rfl ?_
      refine ze_go1 rfl ?_
      refine ze_go2 rfl ⟨rfl, vp_in_nI (N := 85) hj (by decide)⟩ ?_
      rw [nI_clamp (n := j) (by omega), e22]
      refine ze_go2 rfl ⟨rfl, vp_in_nI (N := 85) hy (by decide)⟩ ?_
      rw [nI_clamp (n := y) (by omega)]
      rcases zRC_t hR with ⟨e1, -, -, e2⟩ | ⟨a, t, e1, ha, -, -, -, e2, e3, e4⟩
      · rw [e2]
        refine ze_brT rfl (Int32.not_lt.1 hb) ?_
        refine ze_go1 rfl ?_
        refine ze_rt1 rfl (Or.inl rfl) ⟨rfl, Or.inl ⟨rfl, fun k => ?_⟩⟩
        rw [hk, zbk, e1]
      · rw [e2]
        refine ze_br1 rfl (fun hb2 => ?_) (fun hb2 => ?_)
        · refine ze_go1 rfl ?_
          refine ze_rt1 rfl (Or.inl rfl) ⟨rfl, Or.inl ⟨rfl, fun k => ?_⟩⟩
          rw [hk, zbk, e1]
          exact if_pos (Or.inr hb2)
        · iterate 2 (refine ze_go1 rfl ?_)
          have hn := znb4 hd ha
          obtain ⟨i, ei, hi⟩ := zn_lt (n := zm_nb (S.1.2.2.1 a)) (by omega) hb hb2
          refine ze_rt1 rfl (Or.inr rfl) ⟨rfl, Or.inr ⟨rfl, j, n, T, y, p, a, t, i, rfl, hj, e22, hy, ei, hi, by omega, e1, e3 i (by omega), e4 i hi, (hch a t e1 i hi).1, (hch a t e1 i hi).2, fun k => ?_⟩⟩
          rw [hk, zbk, e1]
          exact if_neg (fun q => q.elim hb hb2)
theorem e_C_child {d : Nat} {σ : ze_S} {S : zSt} {x b : Int32} (h : zCR σ S) : zM (d + 3) m_C_child [.ref 27, .int x, .int b] σ (zOut σ (zn_child S x b) S) := by
  refine zM_in t_C_child [some (.ref 27), some (.int x), some (.int b)] rfl rfl ?_
  refine ze_go1 rfl ?_
  refine ze_go2 rfl rfl ?_
  iterate 2 (refine ze_go1 rfl ?_)
  refine ze_ca1 rfl ⟨rfl, rfl⟩ (ze_M_le (e_C_hasBranch (d := 0) h) (by omega)) (fun v τ q => ?_)
  obtain ⟨rfl, q⟩ := q
  unfold zn_child
  rcases q with ⟨rfl, c⟩ | ⟨rfl, j, n, T, y, p, a, t, i, rfl, hj, e22, hy, rfl, hi, hi4, e1, e20, e21, hz, e23, c⟩
  · refine ze_brF rfl (by decide) ?_
    refine ze_go1 rfl ?_
    refine ze_rt1 rfl trivial ⟨?_, h, zxp_rf _ _⟩
    rw [c (fun _ T p _ => nI (zix (zpp S.1 3 [] T) (p ++ [b.toNatClampNeg])))]
  · refine ze_brT rfl (by decide) ?_
    rw [c (fun _ T p _ => nI (zix (zpp S.1 3 [] T) (p ++ [(nI i).toNatClampNeg]))), zcl (show i < 2 ^ 31 by omega)]
    refine ze_go1 rfl ?_
    iterate 2 (refine ze_go2 rfl rfl ?_)
    refine ze_go1 rfl ?_
    refine ze_go2 rfl rfl ?_
    refine ze_go1 rfl ?_
    iterate 2 (refine ze_go2 rfl rfl ?_)
    refine ze_go1 rfl ?_
    refine ze_go2 rfl ⟨rfl, vp_in_nI (N := 85) hj (by decide)⟩ ?_
    rw [nI_clamp (n := j) (by omega), e22]
    refine ze_go1 rfl ?_
    refine ze_ca1 rfl ⟨rfl, rfl⟩ (ze_M_le (e_below (d := 0) hy hi4) (by omega)) (fun v τ q => ?_)
    obtain ⟨rfl, rfl⟩ := q
    rw [e21]
    refine ze_go2 rfl ⟨rfl, vp_in_nI (N := 85) hz (by decide)⟩ ?_
    rw [nI_clamp (by omega), e23]
    exact ze_rt1 rfl trivial ⟨rfl, h, zxp_rf _ _⟩
theorem e_C_part {d : Nat} {σ : ze_S} {S : zSt} {x b : Int32} (h : zCR σ S) : zM (d + 3) m_C_part [.ref 27, .int x, .int b] σ (zOut σ (zn_part S x b) S) := by
  refine zM_in t_C_part [some (.ref 27), some (.int x), some (.int b)] rfl rfl ?_
  refine ze_go1 rfl ?_
  refine ze_go2 rfl rfl ?_
  iterate 2 (refine ze_go1 rfl ?_)
  refine ze_ca1 rfl ⟨rfl, rfl⟩ (ze_M_le (e_C_hasBranch (d := 0) h) (by omega)) (fun v τ q => ?_)
  obtain ⟨rfl, q⟩ := q
  unfold zn_part
  rcases q with ⟨rfl, c⟩ | ⟨rfl, j, n, T, y, p, a, t, i, rfl, hj, e22, hy, rfl, hi, hi4, e1, e20, e21, hz, e23, c⟩
  · refine ze_brF rfl (by decide) ?_
    refine ze_go1 rfl ?_
    refine ze_rt1 rfl trivial ⟨?_, h, zxp_rf _ _⟩
    rw [c (fun n T p r => nI (zpt S.1 r.1 r.2 (zwp S.1 p T (zw0 n)) b.toNatClampNeg))]
  · refine ze_brT rfl (by decide) ?_
    rw [c (fun n T p r => nI (zpt S.1 r.1 r.2 (zwp S.1 p T (zw0 n)) (nI i).toNatClampNeg)), zcl (show i < 2 ^ 31 by omega)]
    refine ze_go1 rfl ?_
    iterate 2 (refine ze_go2 rfl rfl ?_)
    refine ze_go1 rfl ?_
    iterate 2 (refine ze_go2 rfl rfl ?_)
    refine ze_go1 rfl ?_
    refine ze_go2 rfl ⟨rfl, vp_in_nI (N := 85) hj (by decide)⟩ ?_
    rw [nI_clamp (n := j) (by omega), e22]
    iterate 4 (refine ze_go1 rfl ?_)
    rw [zi4]
    refine ze_go2 rfl ⟨rfl, vp_in_nI (N := 340) (by omega) (by decide)⟩ ?_
    rw [nI_clamp (n := 4 * y + i) (by omega), e20]
    exact ze_rt1 rfl trivial ⟨rfl, h, zxp_rf _ _⟩
