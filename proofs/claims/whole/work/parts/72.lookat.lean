theorem zer_ltM {D : zD} (hd : zdok D) {ch : Nat} (hc : ch ≤ 2000) {σ : ze_S} {mk : Nat} {P : Nat → List Nat} : ∀ {f : Nat} {w w' : Nat → Nat} {pl : Nat} {p : List Nat} {T : zTr}, (∀ i, i < D.2.1 → w i ≤ 720) → zRM D σ mk P f w' pl p T → zer D ch f w T ≤ 20000 * 4 ^ f
  | 0, w, w', pl, p, T, hw, _ => by
    have := zle_lt hd hw hc
    show zle D w ch ≤ 20000 * 1
    omega
  | f + 1, w, w', pl, p, T, hw, h => by
    have h4 : 20000 * 4 ^ (f + 1) = 4 * (20000 * 4 ^ f) := by rw [Nat.pow_succ]; omega
    have hp : 1 ≤ 4 ^ f := Nat.one_le_pow _ _ (by decide)
    unfold zer
    rcases h.2 with ⟨e, -⟩ | ⟨a, t, e, ha, -, -, -, c6⟩
    · rw [e]
      have := zle_lt hd hw hc
      show zle D w ch ≤ _
      omega
    · rw [e]
      obtain ⟨-, hn⟩ := znb4 hd ha
      have h1 := zm_s_bd (f := fun b => zer D ch f (zsd D a t w b) (zsub T b)) (n := zm_nb (D.2.2.1 a)) (c := 20000 * 4 ^ f) (fun b hb => zer_ltM hd hc (fun i hi => Nat.le_trans zsd_le (hw i hi)) (c6 b hb).2.2)
      have h2 : 20000 * 4 ^ f * zm_nb (D.2.2.1 a) ≤ 20000 * 4 ^ f * 4 := Nat.mul_le_mul_left _ hn
      show zm_s (fun b => zer D ch f (zsd D a t w b) (zsub T b)) (zm_nb (D.2.2.1 a)) ≤ _
      omega
/-- what lookAt leaves -/
def zLk (D : zD) (mk : Nat) (P : Nat → List Nat) (f : Nat) (w : Nat → Nat) (n : Nat) (p : List Nat) (T : zTr) (σ τ : ze_S) : Prop :=
  zy [49, 50, 51, 54, 55, 56, 57, 58, 59] [17, 18, 21, 23] σ τ ∧ ∃ R : Nat → List Nat, (∀ q, q < mk → ¬ p <+: P q → zsmr σ τ q ∧ R q = P q) ∧ zRM D τ mk R (f + 1) w n p T
set_option maxRecDepth 20000 in
set_option maxHeartbeats 2000000 in
theorem r_lookAt {d : Nat} {D : zD} {σ : ze_S} {mk : Nat} {P : Nat → List Nat} {f : Nat} {w : Nat → Nat} {n : Nat} {p : List Nat} {T : zTr} {a ch : Nat} {t : Int32} (hd : zdok D) (hB : zBn σ D) (hmk : mk ≤ 85) (hf : f ≤ 2) (hc : ch ≤ 2000) (hR : zRM D σ mk P (f + 1) w n p T) (hT : T.1 [] = some (a, t)) (hwb : ∀ i, i < D.2.1 → w i ≤ 720) (h6 : σ.1 64 6 = nI D.2.1) :
    zM (d + 7) m_M_lookAt [.ref 64, .int (nI n), .int (nI ch)] σ (fun v τ => v = none ∧ zLk D mk P f w n p (zpl D ch f w (T.2 []) a t (zsub T)) σ τ) := by
  have hR0 := hR
  obtain ⟨⟨b1, b2, b3, b4, b5⟩, hR2⟩ := hR
  have h24 := hd.2.1
  have h4 := hd.1
  rcases hR2 with ⟨e1, e2⟩ | ⟨a', t', c1, c2, c3, c4, c5, c6⟩
  · rw [e1] at hT; cases hT
  rw [c1] at hT
  cases hT
  have hn := znb4 hd c2
  have hwd : ∀ b i, i < D.2.1 → zsd D a t w b i ≤ 720 := fun b i hi => Nat.le_trans zsd_le (hwb i hi)
  have hkm : ∀ b, b < zm_nb (D.2.2.1 a) → zkd σ n b < mk := fun b hb => (zRM_hd (c6 b hb).2.2).1
  have hkr : ∀ b, b < zm_nb (D.2.2.1 a) → zrw σ (zkd σ n b) D.2.1 (zsd D a t w b) := fun b hb => (zRM_hd (c6 b hb).2.2).2.2.2.2
  refine zM_in t_M_lookAt [some (.ref 64), some (.int (nI n)), some (.int (nI ch)), none, none, none, none, none] rfl rfl ?_
  -- behind the loop
  have after : ∀ o4 o5, zE (d + 6) t_M_lookAt (fun v τ => v = none ∧ zLk D mk P f w n p (zpl D ch f w (T.2 []) a t (zsub T)) σ τ) (77, [some (.ref 64), some (.int (nI n)), some (.int (nI ch)), some (.int (nI (zhv D w a t))), o4, o5, none, none], [], σ) := by
    intro o4 o5
    have hhv : zhv D w a t < zm_nb (D.2.2.1 a) := by
      unfold zhv
      have := zm_fg_lt (fun b => zm_s (zcw D (zsd D a t w b)) 3) (zm_nb (D.2.2.1 a) - 1)
      rwa [show zm_nb (D.2.2.1 a) - 1 + 1 = zm_nb (D.2.2.1 a) by omega] at this
    obtain ⟨d1, d2, d3⟩ := c6 _ hhv
    have hkv := hkm _ hhv
    refine ze_go1 rfl ?_
    refine ze_go2 rfl rfl ?_
    iterate 5 (refine ze_go1 rfl ?_)
    rw [zi4']
    refine ze_go2 rfl ⟨rfl, vp_in_nI (N := 384) (n := 4 * n + zhv D w a t) (by omega) (by omega)⟩ ?_
    rw [nI_clamp (n := 4 * n + zhv D w a t) (by omega), d1]
    iterate 5 (refine ze_go1 rfl ?_)
    refine ze_ca1 rfl ⟨rfl, rfl⟩ (ze_M_le (r_errors (d := 0) (s := 0) (ch := ch) hd hB hmk (by omega) (by omega) hR0 (zRM_WR hR0) hwb h6) (by omega)) (fun v τ1 q => ?_)
    obtain ⟨rfl, y1⟩ := q
    have R1 : zRM D τ1 mk P (f + 1) w n p T := zRM_eq hd hR0 (fun q _ _ => ⟨zsmr_y y1 (by simp) q, rfl⟩)
    have B1 : zBn τ1 D := zBn_y hB y1 (by simp) (by simp)
    have h61 : τ1.1 64 6 = nI D.2.1 := by rw [y1.2 6 (by simp)]; exact h6
    have eE : zer D ch (f + 1) w T = zm_s (fun b => zer D ch f (zsd D a t w b) (zsub T b)) (zm_nb (D.2.2.1 a)) := by
      show (match T.1 [] with | none => _ | some q => _) = _
      rw [c1]
    have bA := zle_lt (ch := ch) hd hwb hc
    have bE := zer_ltM (ch := ch) hd hc hwb hR0
    have bC := zer_ltM (ch := ch) hd hc hwb d3
    have b4' : 4 ^ (f + 1) ≤ 64 := by
      have : 4 ^ (f + 1) ≤ 4 ^ 3 := Nat.pow_le_pow_right (by decide) (by omega)
      exact this
    have b5' : 4 ^ f ≤ 64 := by
      have : 4 ^ f ≤ 4 ^ 3 := Nat.pow_le_pow_right (by decide) (by omega)
      exact this
    rw [eE] at bE ⊢
    iterate 4 (refine ze_go1 rfl ?_)
    refine ze_ca1 rfl ⟨rfl, rfl⟩ (ze_M_le (r_leafErrors (d := 0) (ch := ch) hd B1 (by omega) (zRM_hd R1).2.2.2.2 hwb h61) (by omega)) (fun v τ' q => ?_)
    obtain ⟨rfl, e0⟩ := q
    rw [e0]
    iterate 5 (refine ze_go1 rfl ?_)
    have d31 : zRM D τ1 mk P f (zsd D a t w (zhv D w a t)) (zkd σ n (zhv D w a t)) (p ++ [zhv D w a t]) (zsub T (zhv D w a t)) := zRM_eq hd d3 (fun q _ _ => ⟨zsmr_y y1 (by simp) q, rfl⟩)
    refine ze_ca1 rfl ⟨rfl, rfl⟩ (ze_M_le (r_wouldBe (d := 0) (ch := ch) (n := n) hd B1 hmk (by omega) (by omega) (zRM_hd R1).2.2.2.2 d31 hwb h61) (by omega)) (fun v τ2 q => ?_)
    obtain ⟨rfl, y2, W2⟩ := q
    have s2 : ∀ q, q < 96 → zsmr σ τ2 q := fun q hq => zsmr_tr (zsmr_y y1 (by simp) q) (zWo_smr y2 hq)
    have R2 : zRM D τ2 mk P (f + 1) w n p T := zRM_eq hd hR0 (fun q hq _ => ⟨s2 q (by omega), rfl⟩)
    have d32 : zRM D τ2 mk P f (zsd D a t w (zhv D w a t)) (zkd σ n (zhv D w a t)) (p ++ [zhv D w a t]) (zsub T (zhv D w a t)) := zRM_eq hd d3 (fun q hq _ => ⟨s2 q (by omega), rfl⟩)
    have B2 : zBn τ2 D := zBn_y B1 y2.1 (by simp) (by simp)
    have h62 : τ2.1 64 6 = nI D.2.1 := by rw [y2.1.2 6 (by simp)]; exact h61
    have Y2 : zy [49, 50, 51, 54, 55, 56, 57, 58, 59] [17, 18, 21, 23] σ τ2 := zy_tr (zy_wk y1 (by simp) (by simp)) (zy_wk y2.1 (by simp) (by simp))
    have raise : ¬ (zle D w ch ≤ zer D ch f w (zsub T (zhv D w a t)) ∧ zle D w ch ≤ zm_s (fun b => zer D ch f (zsd D a t w b) (zsub T b)) (zm_nb (D.2.2.1 a))) → zE (d + 6) t_M_lookAt (fun v τ => v = none ∧ zLk D mk P f w n p (zpl D ch f w (T.2 []) a t (zsub T)) σ τ) (140, [some (.ref 64), some (.int (nI n)), some (.int (nI ch)), some (.int (nI (zhv D w a t))), some (.int (nI (zkd σ n (zhv D w a t)))), some (.int (nI (zm_s (fun b => zer D ch f (zsd D a t w b) (zsub T b)) (zm_nb (D.2.2.1 a))))), some (.int (nI (zle D w ch))), some (.int (nI (zer D ch f w (zsub T (zhv D w a t)))))], [], τ2) := by
      intro q1
      unfold zpl
      rw [if_neg q1]
      iterate 2 (refine ze_go1 rfl ?_)
      by_cases q2 : zer D ch f w (zsub T (zhv D w a t)) ≤ zm_s (fun b => zer D ch f (zsd D a t w b) (zsub T b)) (zm_nb (D.2.2.1 a))
      · rw [if_pos q2]
        refine ze_brF rfl (nI_nlt q2 (by omega)) ?_
        iterate 3 (refine ze_go1 rfl ?_)
        refine ze_ca1 rfl ⟨rfl, rfl⟩ (ze_M_le (r_replace (d := 0) (n := n) hd B2 hmk (by omega) b1 b2 d2 (zRM_hd R2).2.2.2.2 d32 W2 hwb h62) (by omega)) (fun v τ3 q => ?_)
        obtain ⟨rfl, y3, s3, R3⟩ := q
        refine ze_rt1 rfl trivial ⟨rfl, zy_tr Y2 (zy_wk y3 (by simp) (by simp)), _, fun q hq hp => ⟨zsmr_tr (s2 q (by omega)) (s3 q hq hp), zrl_out (fun z => hp ((List.prefix_append p _).trans z))⟩, zRM_up R3⟩
      · rw [if_neg q2]
        refine ze_brT rfl (nI_lt (by omega) (by omega)) ?_
        refine ze_rt1 rfl trivial ⟨rfl, Y2, P, fun q hq _ => ⟨s2 q (by omega), rfl⟩, ?_⟩
        rw [← c1, zmk_eta]
        exact R2
    iterate 3 (refine ze_go1 rfl ?_)
    by_cases q1 : zle D w ch ≤ zer D ch f w (zsub T (zhv D w a t))
    · refine ze_brF rfl (nI_nlt q1 (by omega)) ?_
      iterate 2 (refine ze_go1 rfl ?_)
      by_cases q2 : zle D w ch ≤ zm_s (fun b => zer D ch f (zsd D a t w b) (zsub T b)) (zm_nb (D.2.2.1 a))
      · refine ze_brF rfl (nI_nlt q2 (by omega)) ?_
        refine ze_go1 rfl ?_
        refine ze_go2 rfl rfl ?_
        iterate 2 (refine ze_go1 rfl ?_)
        refine ze_go2 rfl ⟨rfl, vp_in_nI (N := 96) (n := n) (by omega) (by omega)⟩ ?_
        rw [nI_clamp (n := n) (by omega)]
        refine ze_go1 rfl ?_
        unfold zpl
        rw [if_pos ⟨q1, q2⟩]
        refine ze_rt1 rfl trivial ⟨rfl, zy_tr Y2 (zy_ui (by simp) (by decide) _ _ _), P, fun q hq hp => ⟨zsmr_tr (s2 q (by omega)) ?_, rfl⟩, ?_⟩
        · have hq2 : q ≠ n := fun e => hp (by rw [e, b2]; exact List.prefix_refl _)
          refine ⟨?_, ?_, ?_, ?_, ?_, fun b hb => ?_, fun i hi => ?_⟩
          · rw [zui_n _ _ _ _ hq2]
          · rw [zui_o _ _ _ _ (by decide)]
          · rw [zui_o _ _ _ _ (by decide)]
          · rw [zui_o _ _ _ _ (by decide)]
          · rw [zui_o _ _ _ _ (by decide)]
          · rw [zui_o _ _ _ _ (by decide)]
          · rw [zui_o _ _ _ _ (by decide)]
        · obtain ⟨g1, g2, g3, g4, g5⟩ := zRM_hd R2
          exact ⟨⟨g1, g2, by rw [zui_o _ _ _ _ (by decide)]; exact g3, g4, fun i hi => by rw [zui_o _ _ _ _ (by decide)]; exact g5 i hi⟩, Or.inl ⟨rfl, zui _ _ _ _⟩⟩
      · refine ze_brT rfl (nI_lt (by omega) (by omega)) ?_
        exact raise (fun z => q2 z.2)
    · refine ze_brT rfl (nI_lt (by omega) (by omega)) ?_
      exact raise (fun z => q1 z.1)
  have loop : ∀ m j o5, j + 1 + m = zm_nb (D.2.2.1 a) → zE (d + 6) t_M_lookAt (fun v τ => v = none ∧ zLk D mk P f w n p (zpl D ch f w (T.2 []) a t (zsub T)) σ τ) (5, [some (.ref 64), some (.int (nI n)), some (.int (nI ch)), some (.int (nI (zm_fg (fun b => zm_s (zcw D (zsd D a t w b)) 3) (j + 1)))), some (.int (nI (j + 1))), o5, none, none], [], σ) := by
    intro m
    induction m with
    | zero =>
      intro j o5 hj
      have h := after (some (.int (nI (j + 1)))) o5
      unfold zhv at h
      rw [← show j + 1 = zm_nb (D.2.2.1 a) by omega] at h
      iterate 3 (refine ze_go1 rfl ?_)
      refine ze_go2 rfl rfl ?_
      refine ze_go1 rfl ?_
      refine ze_go2 rfl ⟨rfl, vp_in_nI (N := 96) (n := n) (by omega) (by omega)⟩ ?_
      rw [nI_clamp (n := n) (by omega), c4]
      refine ze_ca1 rfl ⟨rfl, rfl⟩ (ze_M_le (r_branches (d := 0) hd hB c2) (by omega)) (fun v τ' q => ?_)
      obtain ⟨rfl, e0⟩ := q
      rw [e0]
      refine ze_brT rfl (nI_le (by omega) (by omega)) ?_
      exact h
    | succ m ih =>
      intro j o5 hj
      have hfg := zm_fg_lt (fun b => zm_s (zcw D (zsd D a t w b)) 3) j
      have wl1 := zcw_le hd (hwd (j + 1))
      have wl2 := zcw_le hd (hwd (zm_fg (fun b => zm_s (zcw D (zsd D a t w b)) 3) (j + 1)))
      have k1 := hkm (j + 1) (by omega)
      have k2 := hkm (zm_fg (fun b => zm_s (zcw D (zsd D a t w b)) 3) (j + 1)) (by omega)
      have h := ih (j + 1) (some (.int (nI (zm_s (zcw D (zsd D a t w (j + 1))) 3)))) (by omega)
      rw [← show nI (j + 1) + 1 = nI (j + 1 + 1) from nI_1 _, show zm_fg (fun b => zm_s (zcw D (zsd D a t w b)) 3) (j + 1 + 1) = if zm_s (zcw D (zsd D a t w (zm_fg (fun b => zm_s (zcw D (zsd D a t w b)) 3) (j + 1)))) 3 < zm_s (zcw D (zsd D a t w (j + 1))) 3 then j + 1 else zm_fg (fun b => zm_s (zcw D (zsd D a t w b)) 3) (j + 1) from rfl] at h
      iterate 3 (refine ze_go1 rfl ?_)
      refine ze_go2 rfl rfl ?_
      refine ze_go1 rfl ?_
      refine ze_go2 rfl ⟨rfl, vp_in_nI (N := 96) (n := n) (by omega) (by omega)⟩ ?_
      rw [nI_clamp (n := n) (by omega), c4]
      refine ze_ca1 rfl ⟨rfl, rfl⟩ (ze_M_le (r_branches (d := 0) hd hB c2) (by omega)) (fun v τ' q => ?_)
      obtain ⟨rfl, e0⟩ := q
      rw [e0]
      refine ze_brF rfl (nI_ge (by omega) (by omega)) ?_
      iterate 2 (refine ze_go1 rfl ?_)
      refine ze_go2 rfl rfl ?_
      iterate 5 (refine ze_go1 rfl ?_)
      rw [zi4']
      refine ze_go2 rfl ⟨rfl, vp_in_nI (N := 384) (n := 4 * n + (j + 1)) (by omega) (by omega)⟩ ?_
      rw [nI_clamp (n := 4 * n + (j + 1)) (by omega), (c6 (j + 1) (by omega)).1]
      refine ze_go1 rfl ?_
      refine ze_go2 rfl rfl ?_
      rw [h6]
      refine ze_ca1 rfl ⟨rfl, rfl⟩ (ze_M_le (r_weightOf (d := 0) hd hB (by omega) (hkr (j + 1) (by omega))) (by omega)) (fun v τ' q => ?_)
      obtain ⟨rfl, e0⟩ := q
      rw [e0]
      iterate 4 (refine ze_go1 rfl ?_)
      refine ze_go2 rfl rfl ?_
      iterate 5 (refine ze_go1 rfl ?_)
      rw [zi4']
      refine ze_go2 rfl ⟨rfl, vp_in_nI (N := 384) (n := 4 * n + zm_fg (fun b => zm_s (zcw D (zsd D a t w b)) 3) (j + 1)) (by omega) (by omega)⟩ ?_
      rw [nI_clamp (n := 4 * n + zm_fg (fun b => zm_s (zcw D (zsd D a t w b)) 3) (j + 1)) (by omega), (c6 (zm_fg (fun b => zm_s (zcw D (zsd D a t w b)) 3) (j + 1)) (by omega)).1]
      refine ze_go1 rfl ?_
      refine ze_go2 rfl rfl ?_
      rw [h6]
      refine ze_ca1 rfl ⟨rfl, rfl⟩ (ze_M_le (r_weightOf (d := 0) hd hB (by omega) (hkr (zm_fg (fun b => zm_s (zcw D (zsd D a t w b)) 3) (j + 1)) (by omega))) (by omega)) (fun v τ' q => ?_)
      obtain ⟨rfl, e0⟩ := q
      rw [e0]
      by_cases e : zm_s (zcw D (zsd D a t w (zm_fg (fun b => zm_s (zcw D (zsd D a t w b)) 3) (j + 1)))) 3 < zm_s (zcw D (zsd D a t w (j + 1))) 3
      · refine ze_brF rfl (nI_ge e (by omega)) ?_
        rw [if_pos e] at h
        iterate 5 (refine ze_go1 rfl ?_)
        exact h
      · refine ze_brT rfl (nI_le (by omega) (by omega)) ?_
        rw [if_neg e] at h
        iterate 4 (refine ze_go1 rfl ?_)
        exact h
  iterate 4 (refine ze_go1 rfl ?_)
  have h := loop (zm_nb (D.2.2.1 a) - 1) 0 none (by omega)
  rw [zm_fg_1] at h
  exact h
