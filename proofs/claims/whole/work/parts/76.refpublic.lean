/-! the reference answers so -/
theorem r_fits {e : Nat} {σ : ze_S} {D : zD} {a : Nat} {v : Int32} (hd : zdok D) (hB : zBn σ D) (ha : a < 4) :
    zM (e + 1) m_M_fits [.ref 64, .int (nI a), .int v] σ (fun r τ => τ = σ ∧ ((r = some (.int 1) ∧ (a < D.1 → -1 ≤ v ∧ v < nI (zlim (D.2.2.1 a)))) ∨ (r = some (.int 0) ∧ a < D.1 ∧ ¬ (-1 ≤ v ∧ v < nI (zlim (D.2.2.1 a)))))) := by
  have h4 := hd.1
  refine zM_in t_M_fits [some (.ref 64), some (.int (nI a)), some (.int v)] rfl rfl ?_
  have good : (a < D.1 → -1 ≤ v ∧ v < nI (zlim (D.2.2.1 a))) → zE e t_M_fits (fun r τ => τ = σ ∧ ((r = some (.int 1) ∧ (a < D.1 → -1 ≤ v ∧ v < nI (zlim (D.2.2.1 a)))) ∨ (r = some (.int 0) ∧ a < D.1 ∧ ¬ (-1 ≤ v ∧ v < nI (zlim (D.2.2.1 a)))))) (38, [some (.ref 64), some (.int (nI a)), some (.int v)], [], σ) := by
    intro h
    iterate 2 (refine ze_go1 rfl ?_)
    exact ze_rt1 rfl (Or.inr rfl) ⟨rfl, Or.inl ⟨rfl, h⟩⟩
  have bad : a < D.1 → ¬ (-1 ≤ v ∧ v < nI (zlim (D.2.2.1 a))) → zE e t_M_fits (fun r τ => τ = σ ∧ ((r = some (.int 1) ∧ (a < D.1 → -1 ≤ v ∧ v < nI (zlim (D.2.2.1 a)))) ∨ (r = some (.int 0) ∧ a < D.1 ∧ ¬ (-1 ≤ v ∧ v < nI (zlim (D.2.2.1 a)))))) (42, [some (.ref 64), some (.int (nI a)), some (.int v)], [], σ) := by
    intro h1 h
    refine ze_go1 rfl ?_
    exact ze_rt1 rfl (Or.inl rfl) ⟨rfl, Or.inr ⟨rfl, h1, h⟩⟩
  iterate 2 (refine ze_go1 rfl ?_)
  refine ze_go2 rfl rfl ?_
  rw [hB.1]
  by_cases c : D.1 ≤ a
  · refine ze_brT rfl (nI_le c (by omega)) ?_
    exact good (fun q => by omega)
  · have hl : a < D.1 := by omega
    have hkk := hd.2.2.1 a hl
    refine ze_brF rfl (nI_ge hl (by omega)) ?_
    iterate 2 (refine ze_go1 rfl ?_)
    refine ze_br1 rfl (fun c1 => bad hl (fun q => Int32.not_le.2 c1 q.1)) (fun c1 => ?_)
    have c1' : -1 ≤ v := Int32.not_lt.1 c1
    iterate 2 (refine ze_go1 rfl ?_)
    refine ze_go2 rfl rfl ?_
    refine ze_go1 rfl ?_
    refine ze_go2 rfl ⟨rfl, vp_in_nI (N := 4) (n := a) (by omega) (by omega)⟩ ?_
    rw [nI_clamp (n := a) (by omega), hB.2.1 a hl]
    by_cases hk0 : D.2.2.1 a = 0
    · refine ze_brF rfl (by rw [hk0]; decide) ?_
      have el : zlim (D.2.2.1 a) = 1000 := if_pos hk0
      rw [el] at good bad ⊢
      iterate 2 (refine ze_go1 rfl ?_)
      refine ze_br1 rfl (fun c2 => bad hl (fun q => Int32.not_le.2 q.2 c2)) (fun c2 => good (fun _ => ⟨c1', Int32.not_le.1 c2⟩))
    · refine ze_brT rfl (nI_ne0 (by omega) (by omega)) ?_
      have el : zlim (D.2.2.1 a) = D.2.2.1 a := if_neg hk0
      rw [el] at good bad ⊢
      refine ze_go1 rfl ?_
      refine ze_go2 rfl rfl ?_
      refine ze_go1 rfl ?_
      refine ze_go2 rfl ⟨rfl, vp_in_nI (N := 4) (n := a) (by omega) (by omega)⟩ ?_
      rw [nI_clamp (n := a) (by omega), hB.2.1 a hl]
      refine ze_br1 rfl (fun c2 => bad hl (fun q => Int32.not_le.2 q.2 c2)) (fun c2 => good (fun _ => ⟨c1', Int32.not_le.1 c2⟩))
theorem r_allFit {e : Nat} {σ : ze_S} {D : zD} {a b c d : Int32} (hd : zdok D) (hB : zBn σ D) :
    zM (e + 2) m_M_allFit [.ref 64, .int a, .int b, .int c, .int d] σ (fun r τ => τ = σ ∧ ((r = some (.int 1) ∧ zfit D (zr4 a b c d)) ∨ (r = some (.int 0) ∧ ¬ zfit D (zr4 a b c d)))) := by
  have h4 := hd.1
  refine zM_in t_M_allFit [some (.ref 64), some (.int a), some (.int b), some (.int c), some (.int d)] rfl rfl ?_
  have bad : ¬ zfit D (zr4 a b c d) → zE (e + 1) t_M_allFit (fun r τ => τ = σ ∧ ((r = some (.int 1) ∧ zfit D (zr4 a b c d)) ∨ (r = some (.int 0) ∧ ¬ zfit D (zr4 a b c d)))) (41, [some (.ref 64), some (.int a), some (.int b), some (.int c), some (.int d)], [], σ) := by
    intro h
    refine ze_go1 rfl ?_
    exact ze_rt1 rfl (Or.inl rfl) ⟨rfl, Or.inr ⟨rfl, h⟩⟩
  iterate 3 (refine ze_go1 rfl ?_)
  refine ze_ca1 rfl ⟨rfl, rfl⟩ (ze_M_le (r_fits (e := 0) (a := 0) (v := a) hd hB (by omega)) (by omega)) (fun v τ q => ?_)
  obtain ⟨e0, q⟩ := q
  rw [e0]
  rcases q with ⟨rfl, q0⟩ | ⟨rfl, q1, q2⟩
  rotate_left
  · refine ze_brT rfl rfl ?_
    exact bad (fun z => q2 (z 0 q1))
  refine ze_brF rfl (by decide) ?_
  iterate 3 (refine ze_go1 rfl ?_)
  refine ze_ca1 rfl ⟨rfl, rfl⟩ (ze_M_le (r_fits (e := 0) (a := 1) (v := b) hd hB (by omega)) (by omega)) (fun v τ q => ?_)
  obtain ⟨e0, q⟩ := q
  rw [e0]
  rcases q with ⟨rfl, q1⟩ | ⟨rfl, q1, q2⟩
  rotate_left
  · refine ze_brT rfl rfl ?_
    exact bad (fun z => q2 (z 1 q1))
  refine ze_brF rfl (by decide) ?_
  iterate 3 (refine ze_go1 rfl ?_)
  refine ze_ca1 rfl ⟨rfl, rfl⟩ (ze_M_le (r_fits (e := 0) (a := 2) (v := c) hd hB (by omega)) (by omega)) (fun v τ q => ?_)
  obtain ⟨e0, q⟩ := q
  rw [e0]
  rcases q with ⟨rfl, q2⟩ | ⟨rfl, q1, q2⟩
  rotate_left
  · refine ze_brT rfl rfl ?_
    exact bad (fun z => q2 (z 2 q1))
  refine ze_brF rfl (by decide) ?_
  iterate 3 (refine ze_go1 rfl ?_)
  refine ze_ca1 rfl ⟨rfl, rfl⟩ (ze_M_le (r_fits (e := 0) (a := 3) (v := d) hd hB (by omega)) (by omega)) (fun v τ q => ?_)
  obtain ⟨e0, q⟩ := q
  rw [e0]
  rcases q with ⟨rfl, q3⟩ | ⟨rfl, q1, q2⟩
  rotate_left
  · refine ze_brT rfl rfl ?_
    exact bad (fun z => q2 (z 3 q1))
  refine ze_brF rfl (by decide) ?_
  iterate 2 (refine ze_go1 rfl ?_)
  refine ze_rt1 rfl (Or.inr rfl) ⟨rfl, Or.inl ⟨rfl, fun i hi => ?_⟩⟩
  have hc : i = 0 ∨ i = 1 ∨ i = 2 ∨ i = 3 := by omega
  rcases hc with rfl | rfl | rfl | rfl
  · exact q0 hi
  · exact q1 hi
  · exact q2 hi
  · exact q3 hi
theorem zMR_63 {σ τ : ze_S} {S : zSt} {g : Nat → Nat} (h : zMR σ S) (hy : zy [63] [] σ τ) (hg : ∀ c, c < 3 → τ.1 63 c = nI (g c)) : zMR τ (S.1, S.2.1, g) := by
  obtain ⟨g1, g2, g3, g4, g5⟩ := h
  refine ⟨g1, zBn_y g2 hy (by simp) (by simp), by rw [hy.2 2 (by simp)]; exact g3, hg, ?_⟩
  show (match S.2.1 with | none => τ.1 64 5 = 0 | some q => τ.1 64 5 = 1 ∧ 1 ≤ q.1 ∧ q.1 ≤ S.1.2.1 ∧ zTM S.1 τ q.1 q.2)
  cases e : S.2.1 with
  | none =>
    rw [e] at g5
    show τ.1 64 5 = 0
    rw [hy.2 5 (by simp)]; exact g5
  | some r =>
    rw [e] at g5
    exact ⟨by rw [hy.2 5 (by simp)]; exact g5.1, g5.2.1, g5.2.2.1, zTM_z g1 g5.2.2.1 g5.2.2.2 (hy.2 6 (by simp)) (hy.2 7 (by simp)) (fun q _ => zsmr_y hy (by simp) q)⟩
theorem r_C_asked {d : Nat} {σ : ze_S} {S : zSt} {r : Nat × zTr} {vs : Nat → Int32} (h : zMR σ S) (es : S.2.1 = some r) (hv : ∀ a, a < 4 → σ.1 61 a = vs a) : zM (d + 6) m_M_classifyAsked [.ref 64] σ (fun v τ => v = some (.int (nI (zm_fg (zgv S.1 vs 3 (zw0 r.1) r.2 720) 3))) ∧ zy [56, 57, 58, 59, 60, 62] [17, 18, 21, 23] σ τ ∧ ∀ c, c < 3 → τ.1 62 c = nI (zgv S.1 vs 3 (zw0 r.1) r.2 720 c)) := by
  obtain ⟨hd, hB, g3, g4, g5⟩ := h
  rw [es] at g5
  obtain ⟨g5, g6, g7, g8, mk, P, g9, g10, g11, hR⟩ := g5
  have h := r_classifyAsked (d := d) (vs := vs) (ztr_ok hd g7) (ztr_Bn hB g7) g11 hR (fun i _ => zw0_le _ i) g8 hv
  rw [zag_gv (zag_tr g7) vs 3 _ _ _ (zz_w0 _)] at h
  exact h
set_option maxRecDepth 20000 in
set_option maxHeartbeats 1000000 in
theorem r_classify {e : Nat} {σ : ze_S} {S : zSt} {a b c d : Int32} (h : zMR σ S) : zM (e + 7) m_M_classify [.ref 64, .int a, .int b, .int c, .int d] σ (zOm σ (zn_classify S a b c d).1 (zn_classify S a b c d).2) := by
  have hM := h
  obtain ⟨hd, hB, g3, g4, g5⟩ := h
  refine zM_in t_M_classify [some (.ref 64), some (.int a), some (.int b), some (.int c), some (.int d), none, none] rfl rfl ?_
  iterate 5 (refine ze_go1 rfl ?_)
  refine ze_ca1 rfl ⟨rfl, rfl⟩ (ze_M_le (r_allFit (e := 0) hd hB) (by omega)) (fun v τ q => ?_)
  obtain ⟨e0, q⟩ := q
  rw [e0]
  unfold zn_classify
  rcases q with ⟨rfl, hf⟩ | ⟨rfl, hf⟩
  rotate_left
  · refine ze_brF rfl (by decide) ?_
    refine ze_go1 rfl ?_
    rw [if_pos (zfb_n.2 hf)]
    exact ze_rt1 rfl trivial ⟨rfl, hM, zxp_rf _ _⟩
  · refine ze_brT rfl (by decide) ?_
    rw [if_neg (fun z => zfb_n.1 z hf)]
    refine ze_go1 rfl ?_
    refine ze_go2 rfl rfl ?_
    cases es : S.2.1 with
    | none =>
      rw [es] at g5
      rw [show σ.1 64 5 = 0 from g5]
      refine ze_brF rfl (by decide) ?_
      refine ze_go1 rfl ?_
      exact ze_rt1 rfl trivial ⟨rfl, hM, zxp_rf _ _⟩
    | some r =>
      rw [es] at g5
      rw [g5.1]
      refine ze_brT rfl (by decide) ?_
      have loop : ∀ (g : Nat → Nat) (bst : Nat) (τ2 : ze_S), zMR τ2 S → zxp (fun k => 46 ≤ k) σ τ2 → (∀ c, c < 3 → τ2.1 62 c = nI (g c)) → ∀ m j τ3, j + m = 3 → zy [63] [] τ2 τ3 → (∀ c, c < j → τ3.1 63 c = nI (g c)) → zE (e + 6) t_M_classify (zOm σ (nI bst) (S.1, some r, g)) (62, [some (.ref 64), some (.int a), some (.int b), some (.int c), some (.int d), some (.int (nI bst)), some (.int (nI j))], [], τ3) := by
        intro g bst τ2 hM2 hx2 hg m
        induction m with
        | zero =>
          intro j τ3 hj hy hs
          have ej : j = 3 := by omega
          subst ej
          iterate 2 (refine ze_go1 rfl ?_)
          refine ze_brT rfl (by decide) ?_
          refine ze_go1 rfl ?_
          have := zMR_63 hM2 hy hs
          rw [es] at this
          exact ze_rt1 rfl trivial ⟨rfl, this, zxp_tr hx2 (zy46 hy (by simp))⟩
        | succ m ih =>
          intro j τ3 hj hy hs
          iterate 2 (refine ze_go1 rfl ?_)
          refine ze_brF rfl (nI_ge (b := 3) (by omega) (by omega)) ?_
          refine ze_go1 rfl ?_
          refine ze_go2 rfl rfl ?_
          iterate 2 (refine ze_go1 rfl ?_)
          refine ze_go2 rfl rfl ?_
          refine ze_go1 rfl ?_
          refine ze_go2 rfl ⟨rfl, vp_in_nI (N := 3) (n := j) (by omega) (by omega)⟩ ?_
          rw [nI_clamp (n := j) (by omega), (hy.1 62 (by simp) (by decide)).1, hg j (by omega)]
          refine ze_go2 rfl ⟨rfl, vp_in_nI (N := 3) (n := j) (by omega) (by omega)⟩ ?_
          rw [nI_clamp (n := j) (by omega)]
          iterate 2 (refine ze_go1 rfl ?_)
          have h := ih (j + 1) (ze_ui τ3 63 j (nI (g j))) (by omega) (zy_tr hy (zy_ui (by simp) (by decide) _ _ _)) (fun c hc => by
            by_cases e : c = j
            · subst e; rw [zui]
            · rw [zui_n _ _ _ _ e]; exact hs c (by omega))
          rw [← show nI j + 1 = nI (j + 1) from nI_1 _] at h
          exact h
      have st : zE (e + 6) t_M_classify (zOm σ (nI (zm_fg (zgv S.1 (zr4 a b c d) 3 (zw0 r.1) r.2 720) 3)) (S.1, some r, zgv S.1 (zr4 a b c d) 3 (zw0 r.1) r.2 720)) (53, [some (.ref 64), some (.int a), some (.int b), some (.int c), some (.int d), none, none], [], ze_ui (ze_ui (ze_ui (ze_ui σ 61 0 a) 61 1 b) 61 2 c) 61 3 d) := by
        have y1 : zy [61] [] σ (ze_ui (ze_ui (ze_ui (ze_ui σ 61 0 a) 61 1 b) 61 2 c) 61 3 d) := zy_tr (zy_ui (by simp) (by decide) _ _ _) (zy_tr (zy_ui (by simp) (by decide) _ _ _) (zy_tr (zy_ui (by simp) (by decide) _ _ _) (zy_ui (by simp) (by decide) _ _ _)))
        have hv : ∀ i, i < 4 → (ze_ui (ze_ui (ze_ui (ze_ui σ 61 0 a) 61 1 b) 61 2 c) 61 3 d).1 61 i = zr4 a b c d i := by
          intro i hi
          have hc : i = 0 ∨ i = 1 ∨ i = 2 ∨ i = 3 := by omega
          rcases hc with rfl | rfl | rfl | rfl
          · rw [zui_n _ _ _ _ (by decide), zui_n _ _ _ _ (by decide), zui_n _ _ _ _ (by decide), zui]; rfl
          · rw [zui_n _ _ _ _ (by decide), zui_n _ _ _ _ (by decide), zui]; rfl
          · rw [zui_n _ _ _ _ (by decide), zui]; rfl
          · rw [zui]; rfl
        have hM1 := zMR_y hM y1 (by simp) (by simp)
        generalize ze_ui (ze_ui (ze_ui (ze_ui σ 61 0 a) 61 1 b) 61 2 c) 61 3 d = τ1 at y1 hv hM1
        refine ze_go1 rfl ?_
        refine ze_ca1 rfl ⟨rfl, rfl⟩ (ze_M_le (r_C_asked (d := 0) hM1 es hv) (by omega)) (fun v τ2 q => ?_)
        obtain ⟨rfl, y2, g2⟩ := q
        iterate 3 (refine ze_go1 rfl ?_)
        exact loop _ _ τ2 (zMR_y hM1 y2 (by simp) (by simp)) (zxp_tr (zy46 y1 (by simp)) (zy46 y2 (by simp))) g2 3 0 τ2 rfl (zy_rf _ _ _) (fun c hc => by omega)
      refine ze_go1 rfl ?_
      refine ze_go2 rfl rfl ?_
      iterate 2 (refine ze_go1 rfl ?_)
      refine ze_go2 rfl ⟨rfl, vp_in_nI (n := 0) (N := 4) (by decide) (by decide)⟩ ?_
      refine ze_go1 rfl ?_
      refine ze_go2 rfl rfl ?_
      iterate 2 (refine ze_go1 rfl ?_)
      refine ze_go2 rfl ⟨rfl, vp_in_nI (n := 1) (N := 4) (by decide) (by decide)⟩ ?_
      refine ze_go1 rfl ?_
      refine ze_go2 rfl rfl ?_
      iterate 2 (refine ze_go1 rfl ?_)
      refine ze_go2 rfl ⟨rfl, vp_in_nI (n := 2) (N := 4) (by decide) (by decide)⟩ ?_
      refine ze_go1 rfl ?_
      refine ze_go2 rfl rfl ?_
      iterate 2 (refine ze_go1 rfl ?_)
      refine ze_go2 rfl ⟨rfl, vp_in_nI (n := 3) (N := 4) (by decide) (by decide)⟩ ?_
      exact st
theorem r_share {d : Nat} {σ : ze_S} {S : zSt} {x : Int32} (h : zMR σ S) : zM (d + 1) m_M_share [.ref 64, .int x] σ (zOm σ (zn_share S x) S) := by
  refine zM_in t_M_share [some (.ref 64), some (.int x)] rfl rfl ?_
  have bad : (x < 0 ∨ 3 ≤ x) → zE d t_M_share (zOm σ (zn_share S x) S) (9, [some (.ref 64), some (.int x)], [], σ) := by
    intro hb
    iterate 2 (refine ze_go1 rfl ?_)
    unfold zn_share
    rw [if_pos hb]
    exact ze_rt1 rfl trivial ⟨rfl, h, zxp_rf _ _⟩
  refine ze_go1 rfl ?_
  refine ze_br1 rfl (fun c => bad (Or.inl c)) (fun c => ?_)
  iterate 2 (refine ze_go1 rfl ?_)
  by_cases c3 : 3 ≤ x
  · refine ze_brF rfl (fun q => absurd (Int32.le_trans c3 q) (by decide)) ?_
    exact bad (Or.inr c3)
  · obtain ⟨k, rfl, hk⟩ := zn_lt (n := 3) (by decide) c c3
    refine ze_brT rfl (nI_le (b := 2) (by omega) (by decide)) ?_
    refine ze_go1 rfl ?_
    refine ze_go2 rfl rfl ?_
    refine ze_go1 rfl ?_
    refine ze_go2 rfl ⟨rfl, vp_in_nI (N := 3) (n := k) (by omega) (by omega)⟩ ?_
    rw [nI_clamp (n := k) (by omega), h.2.2.2.1 k hk]
    unfold zn_share
    rw [if_neg (fun q => q.elim c c3), zcl (by omega)]
    exact ze_rt1 rfl trivial ⟨rfl, h, zxp_rf _ _⟩
set_option maxRecDepth 20000 in
set_option maxHeartbeats 1000000 in
theorem r_wrong {d : Nat} {σ : ze_S} {S : zSt} (h : zMR σ S) : zM (d + 7) m_M_wrong [.ref 64] σ (zOm σ (zn_wrong S) S) := by
  have hd := h.1
  have h24 := hd.2.1
  refine zM_in t_M_wrong [some (.ref 64), none, none, none] rfl rfl ?_
  refine ze_go1 rfl ?_
  refine ze_go2 rfl rfl ?_
  unfold zn_wrong
  cases es : S.2.1 with
  | none =>
    have h5 := h.2.2.2.2
    rw [es] at h5
    rw [show σ.1 64 5 = 0 from h5]
    refine ze_brF rfl (by decide) ?_
    refine ze_go1 rfl ?_
    exact ze_rt1 rfl trivial ⟨rfl, h, zxp_rf _ _⟩
  | some r =>
    have h5 := h.2.2.2.2
    rw [es] at h5
    rw [h5.1]
    refine ze_brT rfl (by decide) ?_
    have L : ∀ n j (τ : ze_S) o3, j + n = S.1.2.1 → zMR τ S → zxp (fun k => 46 ≤ k) σ τ → zE (d + 6) t_M_wrong (zOm σ (nI (zwr S.1 r S.1.2.1)) S) (14, [some (.ref 64), some (.int (nI (zwr S.1 r j))), some (.int (nI j)), o3], [], τ) := by
      intro n
      induction n with
      | zero =>
        intro j τ o3 hj hM hx
        have ej : j = S.1.2.1 := by omega
        subst ej
        iterate 2 (refine ze_go1 rfl ?_)
        refine ze_go2 rfl rfl ?_
        rw [hM.2.2.1]
        refine ze_brT rfl (Int32.le_refl _) ?_
        refine ze_go1 rfl ?_
        exact ze_rt1 rfl trivial ⟨rfl, hM, hx⟩
      | succ n ih =>
        intro j τ o3 hj hM hx
        have hj1 : j < S.1.2.1 := by omega
        -- behind the copy
        have st : ∀ τ1, zy [61] [] τ τ1 → (∀ a, a < 4 → τ1.1 61 a = S.1.2.2.2.2 j a) → zE (d + 6) t_M_wrong (zOm σ (nI (zwr S.1 r S.1.2.1)) S) (51, [some (.ref 64), some (.int (nI (zwr S.1 r j))), some (.int (nI j)), some (.int 4)], [], τ1) := by
          intro τ1 y1 hv
          have hM1 := zMR_y hM y1 (by simp) (by simp)
          refine ze_go1 rfl ?_
          refine ze_ca1 rfl ⟨rfl, rfl⟩ (ze_M_le (r_C_asked (d := 0) hM1 es hv) (by omega)) (fun v τ2 q => ?_)
          obtain ⟨rfl, y2, g2⟩ := q
          have hM2 := zMR_y hM1 y2 (by simp) (by simp)
          have hx2 : zxp (fun k => 46 ≤ k) σ τ2 := zxp_tr hx (zxp_tr (zy46 y1 (by simp)) (zy46 y2 (by simp)))
          iterate 3 (refine ze_go1 rfl ?_)
          refine ze_go2 rfl rfl ?_
          refine ze_go1 rfl ?_
          refine ze_go2 rfl ⟨rfl, vp_in_nI (N := 24) (n := j) (by omega) (by decide)⟩ ?_
          rw [nI_clamp (n := j) (by omega), hM2.2.1.2.2.1 j hj1]
          have hfg : zm_fg (zgv S.1 (S.1.2.2.2.2 j) 3 (zw0 r.1) r.2 720) 3 < 3 := zm_fg_lt (zgv S.1 (S.1.2.2.2.2 j) 3 (zw0 r.1) r.2 720) 2
          have hty := hd.2.2.2.1 j hj1
          have hst : zwr S.1 r (j + 1) = if zm_fg (zgv S.1 (S.1.2.2.2.2 j) 3 (zw0 r.1) r.2 720) 3 = S.1.2.2.2.1 j then zwr S.1 r j else zwr S.1 r j + 1 := rfl
          by_cases he : zm_fg (zgv S.1 (S.1.2.2.2.2 j) 3 (zw0 r.1) r.2 720) 3 = S.1.2.2.2.1 j
          · refine ze_brT rfl (by rw [he]) ?_
            rw [if_pos he] at hst
            iterate 4 (refine ze_go1 rfl ?_)
            have := ih (j + 1) τ2 (some (.int (nI (zm_fg (zgv S.1 (S.1.2.2.2.2 j) 3 (zw0 r.1) r.2 720) 3)))) (by omega) hM2 hx2
            rw [← show nI j + 1 = nI (j + 1) from nI_1 _, hst] at this
            exact this
          · refine ze_brF rfl (fun q => he ((nI_eq (by omega) (by omega)).1 q)) ?_
            rw [if_neg he] at hst
            iterate 7 (refine ze_go1 rfl ?_)
            have := ih (j + 1) τ2 (some (.int (nI (zm_fg (zgv S.1 (S.1.2.2.2.2 j) 3 (zw0 r.1) r.2 720) 3)))) (by omega) hM2 hx2
            rw [← show nI j + 1 = nI (j + 1) from nI_1 _, hst, ← show nI (zwr S.1 r j) + 1 = nI (zwr S.1 r j + 1) from nI_1 _] at this
            exact this
        have copy : ∀ m i τ1, i + m = 4 → zy [61] [] τ τ1 → (∀ a, a < i → τ1.1 61 a = S.1.2.2.2.2 j a) → zE (d + 6) t_M_wrong (zOm σ (nI (zwr S.1 r S.1.2.1)) S) (24, [some (.ref 64), some (.int (nI (zwr S.1 r j))), some (.int (nI j)), some (.int (nI i))], [], τ1) := by
          intro m
          induction m with
          | zero =>
            intro i τ1 hi y1 hv
            have ei : i = 4 := by omega
            subst ei
            iterate 2 (refine ze_go1 rfl ?_)
            refine ze_brT rfl (by decide) ?_
            exact st τ1 y1 hv
          | succ m ihm =>
            intro i τ1 hi y1 hv
            iterate 2 (refine ze_go1 rfl ?_)
            refine ze_brF rfl (nI_ge (b := 4) (by omega) (by omega)) ?_
            refine ze_go1 rfl ?_
            refine ze_go2 rfl rfl ?_
            iterate 2 (refine ze_go1 rfl ?_)
            refine ze_go2 rfl rfl ?_
            iterate 5 (refine ze_go1 rfl ?_)
            rw [zi4']
            refine ze_go2 rfl ⟨rfl, vp_in_nI (N := 96) (n := 4 * j + i) (by omega) (by omega)⟩ ?_
            rw [nI_clamp (n := 4 * j + i) (by omega), (y1.1 48 (by simp) (by decide)).1, hM.2.1.2.2.2 j hj1 i (by omega)]
            refine ze_go2 rfl ⟨rfl, vp_in_nI (N := 4) (n := i) (by omega) (by omega)⟩ ?_
            rw [nI_clamp (n := i) (by omega)]
            iterate 2 (refine ze_go1 rfl ?_)
            have h := ihm (i + 1) (ze_ui τ1 61 i (S.1.2.2.2.2 j i)) (by omega) (zy_tr y1 (zy_ui (by simp) (by decide) _ _ _)) (fun a ha => by
              by_cases e : a = i
              · subst e; rw [zui]
              · rw [zui_n _ _ _ _ e]; exact hv a (by omega))
            rw [← show nI i + 1 = nI (i + 1) from nI_1 _] at h
            exact h
        iterate 2 (refine ze_go1 rfl ?_)
        refine ze_go2 rfl rfl ?_
        rw [hM.2.2.1]
        refine ze_brF rfl (nI_ge (by omega) (by omega)) ?_
        iterate 2 (refine ze_go1 rfl ?_)
        exact copy 4 0 τ rfl (zy_rf _ _ _) (fun a ha => by omega)
    iterate 4 (refine ze_go1 rfl ?_)
    exact L S.1.2.1 0 σ none (by omega) h (zxp_rf _ _)
theorem r_cases {d : Nat} {σ : ze_S} {S : zSt} (h : zMR σ S) : zM (d + 1) m_M_cases [.ref 64] σ (zOm σ (nI S.1.2.1) S) := by
  refine zM_in t_M_cases [some (.ref 64)] rfl rfl ?_
  refine ze_go1 rfl ?_
  refine ze_go2 rfl rfl ?_
  rw [h.2.2.1]
  exact ze_rt1 rfl trivial ⟨rfl, h, zxp_rf _ _⟩
theorem r_nodesM {d : Nat} {σ : ze_S} {S : zSt} (h : zMR σ S) : zM (d + 3) m_M_nodes [.ref 64] σ (zOm σ (zn_nodes S) S) :=
  ze_M_post (r_nodes h) (fun v τ q => ⟨q.1, zMR_y h q.2.1 (by simp) (by simp), zy46 q.2.1 (by simp)⟩)
theorem r_logM {d : Nat} {σ : ze_S} {S : zSt} {x : Int32} (h : zMR σ S) : zM (d + 2) m_M_log [.ref 64, .int x] σ (zOm σ (zn_log x) S) := by
  refine zM_in t_M_log [some (.ref 64), some (.int x)] rfl rfl ?_
  have bad : (x < 1 ∨ 32767 < x) → zE (d + 1) t_M_log (zOm σ (zn_log x) S) (12, [some (.ref 64), some (.int x)], [], σ) := by
    intro hb
    iterate 2 (refine ze_go1 rfl ?_)
    unfold zn_log
    rw [if_pos hb]
    exact ze_rt1 rfl trivial ⟨rfl, h, zxp_rf _ _⟩
  iterate 2 (refine ze_go1 rfl ?_)
  refine ze_br1 rfl (fun c => bad (Or.inl c)) (fun c => ?_)
  iterate 2 (refine ze_go1 rfl ?_)
  by_cases c2 : 32767 < x
  · refine ze_brF rfl (fun q => Int32.not_lt.2 q c2) ?_
    exact bad (Or.inr c2)
  · refine ze_brT rfl (Int32.not_lt.1 c2) ?_
    have hx : ¬ (x < 1 ∨ 32767 < x) := fun q => q.elim c c2
    obtain ⟨m, em, hm⟩ := zn_le (n := 32767) (by decide) (zn_n0 c) c2
    have hm1 : 1 ≤ m := by
      subst em
      exact Nat.le_of_not_lt (fun q => c (nI_lt q (by decide)))
    unfold zn_log
    rw [if_neg hx, em, zcl (by omega)]
    refine ze_go1 rfl ?_
    refine ze_ca1 rfl rfl (ze_M_le (r_log (d := 0) hm1 (by omega)) (by omega)) (fun v τ q => ?_)
    obtain ⟨rfl, e0⟩ := q
    rw [e0]
    exact ze_rt1 rfl trivial ⟨rfl, h, zxp_rf _ _⟩
