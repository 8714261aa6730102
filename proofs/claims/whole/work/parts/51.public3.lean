theorem zfit_row {D : zD} (hd : zdok D) {i : Nat} (hi : i < D.2.1) : zfit D (D.2.2.2.2 i) := by
  intro a ha
  have hl := zlim_lt hd ha
  rcases hd.2.2.2.2 i hi a ha with e | ⟨v, e, hv⟩
  · rw [e]
    refine ⟨by decide, ?_⟩
    exact Int32.lt_of_lt_of_le (by decide : (-1 : Int32) < nI 0) (nI_le (Nat.zero_le _) (by omega))
  · rw [e]
    exact ⟨Int32.le_trans (by decide : (-1 : Int32) ≤ nI 0) (nI_le (Nat.zero_le _) (by omega)), nI_lt hv (by omega)⟩
theorem zJS_F : zF (zJS 0) := fun k hk => by unfold zJS at hk; omega
theorem e_C_classify {e : Nat} {σ : ze_S} {S : zSt} {a b c d : Int32} (h : zCR σ S) : zM (e + 10) m_C_classify [.ref 27, .int a, .int b, .int c, .int d] σ (zOut σ (zn_classify S a b c d).1 (zn_classify S a b c d).2) := by
  refine zM_in t_C_classify [some (.ref 27), some (.int a), some (.int b), some (.int c), some (.int d), none] rfl rfl ?_
  iterate 5 (refine ze_go1 rfl ?_)
  refine ze_ca1 rfl ⟨rfl, rfl⟩ (ze_M_le (e_C_ask (e := 0)) (by omega)) (fun v τ q => ?_)
  obtain ⟨rfl, x1, r1⟩ := q
  have x1' := zl46 x1 (by simp)
  have hC := zCR_x h (zxp_of (S := fun k => k = 25) x1 (by simp)) (fun k hk => Or.inr (Or.inr (Or.inl hk)))
  obtain ⟨hd, hB, h3, h4⟩ := hC
  have h24 := hd.2.1
  refine ze_go1 rfl ?_
  refine ze_go2 rfl rfl ?_
  refine ze_go1 rfl ?_
  refine ze_go2 rfl rfl ?_
  refine ze_ca1 rfl ⟨rfl, rfl⟩ (ze_M_le (e_fits (d := 0) hd hB r1) (by omega)) (fun v τ' q => ?_)
  obtain ⟨q, rfl⟩ := q
  rcases q with ⟨rfl, hf⟩ | ⟨rfl, hf⟩
  · refine ze_brT rfl (by decide) ?_
    have hnb : ¬ zfb S.1 (zr4 a b c d) = false := fun z => zfb_n.1 z hf
    refine ze_go1 rfl ?_
    iterate 2 (refine ze_go2 rfl rfl ?_)
    cases es : S.2.1 with
    | none =>
      rw [es] at h4
      refine ze_brF rfl (by rw [h4]; decide) ?_
      refine ze_go1 rfl ?_
      refine ze_rt1 rfl trivial ?_
      unfold zn_classify
      rw [if_neg hnb, es]
      exact ⟨rfl, ⟨hd, hB, h3, by rw [es]; exact h4⟩, x1'⟩
    | some r =>
      rw [es] at h4
      refine ze_brT rfl (zTC_pos hd h4.2.2) ?_
      unfold zn_classify
      rw [if_neg hnb, es]
      obtain ⟨P, hR⟩ := h4.2.2.2.1
      refine ze_go1 rfl ?_
      refine ze_go2 rfl rfl ?_
      refine ze_go1 rfl ?_
      refine ze_go2 rfl rfl ?_
      refine ze_ca1 rfl ⟨rfl, rfl⟩ (ze_M_le (e_classFor (d := 0) hd hf (fun i _ => zw0_le _ i) hR r1) (by omega)) (fun v τ2 q => ?_)
      obtain ⟨rfl, q1, q2⟩ := q
      iterate 2 (refine ze_go1 rfl ?_)
      iterate 2 (refine ze_go2 rfl rfl ?_)
      iterate 2 (refine ze_go1 rfl ?_)
      refine ze_go2 rfl rfl ?_
      iterate 2 (refine ze_go1 rfl ?_)
      refine ze_go2 rfl ⟨Nat.le_of_ble_eq_true rfl, rfl, rfl, by decide, by decide, by decide, by decide, by decide⟩ ?_
      refine ze_go1 rfl ?_
      have x2 : zx [26] τ2 (ze_uf τ2 26 (va_cpy (τ2.1 24) (τ2.1 26) (0 : Int32).toNatClampNeg (0 : Int32).toNatClampNeg (3 : Int32).toNatClampNeg)) := zx_uf (by simp) _ _
      have hC2 : zCR τ2 S := zCR_x (S := S) ⟨hd, hB, h3, by rw [es]; exact h4⟩ q1 zJS_F
      obtain ⟨-, hB2, -, h42⟩ := hC2
      rw [es] at h42
      refine ze_rt1 rfl trivial ⟨rfl, ⟨hd, zB_x hB2 x2 (by simp), fun c hc => ?_, h4.1, h4.2.1, ?_⟩, zxp_tr x1' (zxp_tr (zxp_wk q1 (fun k hk => by unfold zJS at hk; omega)) (zl46 x2 (by simp)))⟩
      · rw [zuf, sb_cl0, zc3, pk_cpy_in (Nat.zero_le _) (by omega)]
        show τ2.1 24 (0 + (c - 0)) = _
        rw [Nat.zero_add, Nat.sub_zero]
        exact q2 c hc
      · obtain ⟨u1, ⟨P, u2⟩, u3, u4⟩ := h42.2.2
        refine ⟨by rw [(x2 29 (by simp)).1]; exact u1, ⟨P, zRC_x hd u2 x2 (by simp)⟩, ?_, ?_⟩
        · rw [zpre_eq (x2 21 (by simp)).1, (x2 29 (by simp)).1]; exact u3
        · rw [zpre_eq (x2 21 (by simp)).1]
          unfold zNb at u4 ⊢
          rw [(x2 22 (by simp)).1, (x2 23 (by simp)).1]
          exact u4
  · refine ze_brF rfl (by decide) ?_
    refine ze_go1 rfl ?_
    refine ze_rt1 rfl trivial ?_
    unfold zn_classify
    rw [if_pos (zfb_n.2 hf)]
    exact ⟨rfl, ⟨hd, hB, h3, h4⟩, x1'⟩
theorem e_C_share {d : Nat} {σ : ze_S} {S : zSt} {x : Int32} (h : zCR σ S) : zM (d + 2) m_C_share [.ref 27, .int x] σ (zOut σ (zn_share S x) S) := by
  refine zM_in t_C_share [some (.ref 27), some (.int x)] rfl rfl ?_
  refine ze_go1 rfl ?_
  refine ze_ca1 rfl rfl (ze_M_le (e_isClass (d := 0)) (by omega)) (fun v τ' q => ?_)
  obtain ⟨rfl, rfl⟩ := q
  unfold zn_share
  by_cases hx : x < 0 ∨ 3 ≤ x
  · refine ze_brT rfl (if_neg (fun q => hx.elim q.1 q.2)) ?_
    refine ze_go1 rfl ?_
    refine ze_rt1 rfl trivial ?_
    rw [if_pos hx]
    exact ⟨rfl, h, zxp_rf _ _⟩
  · have hx0 : ¬ x < 0 := fun q => hx (Or.inl q)
    have hx3 : ¬ 3 ≤ x := fun q => hx (Or.inr q)
    refine ze_brF rfl (by rw [if_pos ⟨hx0, hx3⟩]; decide) ?_
    obtain ⟨t, et, ht⟩ := zn_lt (n := 3) (by decide) hx0 hx3
    rw [if_neg hx, et, zcl (by omega)]
    refine ze_go1 rfl ?_
    refine ze_go2 rfl rfl ?_
    refine ze_go1 rfl ?_
    refine ze_go2 rfl ⟨rfl, vp_in_nI (N := 3) ht (by decide)⟩ ?_
    rw [nI_clamp (n := t) (by omega), h.2.2.1 t ht]
    refine ze_go1 rfl ?_
    exact ze_rt1 rfl trivial ⟨rfl, h, zxp_rf _ _⟩
set_option maxRecDepth 20000 in
theorem e_C_wrong {d : Nat} {σ : ze_S} {S : zSt} (h : zCR σ S) : zM (d + 10) m_C_wrong [.ref 27] σ (zOut σ (zn_wrong S) S) := by
  have hd := h.1
  have h24 := hd.2.1
  refine zM_in t_C_wrong [some (.ref 27), none, none] rfl rfl ?_
  refine ze_go1 rfl ?_
  iterate 2 (refine ze_go2 rfl rfl ?_)
  unfold zn_wrong
  cases es : S.2.1 with
  | none =>
    have h4 := h.2.2.2
    rw [es] at h4
    refine ze_brF rfl (by rw [h4]; decide) ?_
    refine ze_go1 rfl ?_
    exact ze_rt1 rfl trivial ⟨rfl, h, zxp_rf _ _⟩
  | some r =>
    have h4 := h.2.2.2
    rw [es] at h4
    refine ze_brT rfl (zTC_pos hd h4.2.2) ?_
    iterate 4 (refine ze_go1 rfl ?_)
    have L : ∀ n j (τ : ze_S), j + n = S.1.2.1 → zCR τ S → zxp (fun k => k < 46) σ τ → zE (d + 9) t_C_wrong (zOut σ (nI (zwr S.1 r S.1.2.1)) S) (17, [some (.ref 27), some (.int (nI (zwr S.1 r j))), some (.int (nI j))], [], τ) := by
      intro n
      induction n with
      | zero =>
        intro j τ hj hC hx
        have ej : j = S.1.2.1 := by omega
        subst ej
        iterate 2 (refine ze_go1 rfl ?_)
        iterate 2 (refine ze_go2 rfl rfl ?_)
        rw [hC.2.1.2.1]
        refine ze_brT rfl (Int32.le_refl _) ?_
        refine ze_go1 rfl ?_
        exact ze_rt1 rfl trivial ⟨rfl, hC, hx⟩
      | succ n ih =>
        intro j τ hj hC hx
        iterate 2 (refine ze_go1 rfl ?_)
        iterate 2 (refine ze_go2 rfl rfl ?_)
        rw [hC.2.1.2.1]
        refine ze_brF rfl (nI_ge (by omega) (by omega)) ?_
        refine ze_go1 rfl ?_
        refine ze_go2 rfl rfl ?_
        iterate 2 (refine ze_go1 rfl ?_)
        refine ze_go2 rfl rfl ?_
        refine ze_ca1 rfl ⟨rfl, rfl⟩ (ze_M_le (e_copyValues (d := 0) (i := j) hd hC.2.1 (by omega)) (by omega)) (fun v τ1 q => ?_)
        obtain ⟨rfl, x1, r1⟩ := q
        have hC1 := zCR_x hC (zxp_of (S := fun k => k = 25) x1 (by simp)) (fun k hk => Or.inr (Or.inr (Or.inl hk)))
        have h41 := hC1.2.2.2
        rw [es] at h41
        obtain ⟨P, hR⟩ := h41.2.2.2.1
        refine ze_go1 rfl ?_
        refine ze_go2 rfl rfl ?_
        refine ze_go1 rfl ?_
        refine ze_go2 rfl rfl ?_
        refine ze_ca1 rfl ⟨rfl, rfl⟩ (ze_M_le (e_classFor (d := 0) hd (zfit_row hd (i := j) (by omega)) (fun i _ => zw0_le _ i) hR r1) (by omega)) (fun v τ2 q => ?_)
        obtain ⟨rfl, q1, q2⟩ := q
        have hC2 := zCR_x hC1 q1 zJS_F
        have hx2 : zxp (fun k => k < 46) σ τ2 := zxp_tr hx (zxp_tr (zl46 x1 (by simp)) (zxp_wk q1 (fun k hk => by unfold zJS at hk; omega)))
        refine ze_go1 rfl ?_
        iterate 2 (refine ze_go2 rfl rfl ?_)
        refine ze_go1 rfl ?_
        refine ze_go2 rfl ⟨rfl, vp_in_nI (N := 24) (n := j) (by omega) (by decide)⟩ ?_
        rw [nI_clamp (n := j) (by omega), hC2.2.1.2.2.2.1 j (by omega)]
        have hfg : zm_fg (zgv S.1 (S.1.2.2.2.2 j) 3 (zw0 r.1) r.2 720) 3 < 3 := zm_fg_lt (zgv S.1 (S.1.2.2.2.2 j) 3 (zw0 r.1) r.2 720) 2
        have hty := hd.2.2.2.1 j (by omega)
        have hst : zwr S.1 r (j + 1) = if zm_fg (zgv S.1 (S.1.2.2.2.2 j) 3 (zw0 r.1) r.2 720) 3 = S.1.2.2.2.1 j then zwr S.1 r j else zwr S.1 r j + 1 := rfl
        by_cases he : zm_fg (zgv S.1 (S.1.2.2.2.2 j) 3 (zw0 r.1) r.2 720) 3 = S.1.2.2.2.1 j
        · refine ze_brT rfl (by rw [he]) ?_
          rw [if_pos he] at hst
          iterate 2 (refine ze_go1 rfl ?_)
          have := ih (j + 1) τ2 (by omega) hC2 hx2
          rw [← show nI j + 1 = nI (j + 1) from nI_1 _, hst] at this
          exact this
        · refine ze_brF rfl (fun q => he ((nI_eq (by omega) (by omega)).1 q)) ?_
          rw [if_neg he] at hst
          iterate 3 (refine ze_go1 rfl ?_)
          have := ih (j + 1) τ2 (by omega) hC2 hx2
          rw [← show nI j + 1 = nI (j + 1) from nI_1 _, hst, ← show nI (zwr S.1 r j) + 1 = nI (zwr S.1 r j + 1) from nI_1 _] at this
          exact this
    exact L S.1.2.1 0 σ (by omega) h (zxp_rf _ _)
theorem e_C_cases {d : Nat} {σ : ze_S} {S : zSt} (h : zCR σ S) : zM (d + 1) m_C_cases [.ref 27] σ (zOut σ (nI S.1.2.1) S) := by
  refine zM_in t_C_cases [some (.ref 27)] rfl rfl ?_
  refine ze_go1 rfl ?_
  iterate 2 (refine ze_go2 rfl rfl ?_)
  rw [h.2.1.2.1]
  exact ze_rt1 rfl trivial ⟨rfl, h, zxp_rf _ _⟩
theorem e_C_nodes {d : Nat} {σ : ze_S} {S : zSt} (h : zCR σ S) : zM (d + 1) m_C_nodes [.ref 27] σ (zOut σ (zn_nodes S) S) := by
  refine zM_in t_C_nodes [some (.ref 27)] rfl rfl ?_
  refine ze_go1 rfl ?_
  iterate 2 (refine ze_go2 rfl rfl ?_)
  have h4 := h.2.2.2
  unfold zn_nodes
  cases es : S.2.1 with
  | none =>
    rw [es] at h4
    rw [h4]
    exact ze_rt1 rfl trivial ⟨rfl, h, zxp_rf _ _⟩
  | some r =>
    rw [es] at h4
    rw [zTC_len h4.2.2]
    exact ze_rt1 rfl trivial ⟨rfl, h, zxp_rf _ _⟩
theorem e_C_log {d : Nat} {σ : ze_S} {S : zSt} {x : Int32} (h : zCR σ S) : zM (d + 2) m_C_log [.ref 27, .int x] σ (zOut σ (zn_log x) S) := by
  refine zM_in t_C_log [some (.ref 27), some (.int x)] rfl rfl ?_
  have bad : (x < 1 ∨ 32767 < x) → zE (d + 1) t_C_log (zOut σ (zn_log x) S) (12, [some (.ref 27), some (.int x)], [], σ) := by
    intro hb
    iterate 2 (refine ze_go1 rfl ?_)
    refine ze_rt1 rfl trivial ?_
    unfold zn_log
    rw [if_pos hb]
    exact ⟨rfl, h, zxp_rf _ _⟩
  iterate 2 (refine ze_go1 rfl ?_)
  refine ze_br1 rfl (fun c => bad (Or.inl c)) (fun c => ?_)
  iterate 2 (refine ze_go1 rfl ?_)
  by_cases c2 : 32767 < x
  · refine ze_brF rfl (fun q => Int32.not_lt.2 q c2) ?_
    exact bad (Or.inr c2)
  · refine ze_brT rfl (Int32.not_lt.1 c2) ?_
    have hx : ¬ (x < 1 ∨ 32767 < x) := fun q => q.elim c c2
    obtain ⟨m, em, hm⟩ := zn_le (n := 32767) (by decide) (zn_n0 c) c2
    have hm1 : 1 ≤ m := by
      subst em
      exact Nat.le_of_not_lt (fun q => c (nI_lt q (by decide)))
    unfold zn_log
    rw [if_neg hx, em, zcl (by omega)]
    refine ze_go1 rfl ?_
    refine ze_ca1 rfl rfl (ze_M_le (e_log (d := 0) hm1 (by omega)) (by omega)) (fun v τ q => ?_)
    obtain ⟨rfl, rfl⟩ := q
    exact ze_rt1 rfl trivial ⟨rfl, h, zxp_rf _ _⟩
