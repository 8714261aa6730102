theorem zbr_lt {D : zD} (hd : zdok D) {i a : Nat} {t : Int32} (hi : i < D.2.1) (ha : a < D.1) (h0 : 0 ≤ D.2.2.2.2 i a) : zm_br (D.2.2.1 a) t (D.2.2.2.2 i a) < zm_nb (D.2.2.1 a) := by
  have hk := hd.2.2.1 a ha
  rcases zval hd hi ha with h | ⟨-, -, v, hv, hl⟩
  · exact absurd h0 h.2
  · by_cases c : D.2.2.1 a = 0
    · have e1 : zm_nb (D.2.2.1 a) = 2 := if_pos c
      have e2 : zm_br (D.2.2.1 a) t (D.2.2.2.2 i a) = if D.2.2.2.2 i a ≤ t then 0 else 1 := if_pos c
      rw [e1, e2]
      split <;> decide
    · have e1 : zm_nb (D.2.2.1 a) = D.2.2.1 a := if_neg c
      have e2 : zm_br (D.2.2.1 a) t (D.2.2.2.2 i a) = (D.2.2.2.2 i a).toNatClampNeg := if_neg c
      have e3 : zlim (D.2.2.1 a) = D.2.2.1 a := if_neg c
      rw [e3] at hl
      rw [e1, e2, hv, nI_clamp (by omega)]
      exact hl
theorem zbr_4 {D : zD} (hd : zdok D) {a : Nat} {t : Int32} (ha : a < D.1) : ∀ i, i < D.2.1 → 0 ≤ D.2.2.2.2 i a → zm_br (D.2.2.1 a) t (D.2.2.2.2 i a) < 4 := fun i hi h0 => by
  have := zbr_lt (t := t) hd hi ha h0
  have := znb4 hd ha
  omega
def zTm (D : zD) (a : Nat) (t : Int32) (w : Nat → Nat) (j : Nat) (τ : ze_S) : Prop :=
  (∀ b, b < 4 → τ.1 56 b = nI (zm_pt (D.2.2.1 a) t (fun i => D.2.2.2.2 i a) w j b)) ∧ τ.1 64 17 = nI (zm_kn (fun i => D.2.2.2.2 i a) w j) ∧
  ∀ b, b < 4 → ∀ c, c < 3 → τ.1 57 (3 * b + c) = nI (zm_mx (D.2.2.1 a) t (fun i => D.2.2.2.2 i a) D.2.2.2.1 w j b c)
theorem zTm_u {D : zD} {a : Nat} {t : Int32} {w : Nat → Nat} {j : Nat} {τ : ze_S} (h : zTm D a t w j τ) (hu : ¬ 0 ≤ D.2.2.2.2 j a) : zTm D a t w (j + 1) τ := by
  obtain ⟨h1, h2, h4⟩ := h
  refine ⟨fun b hb => ?_, ?_, fun b hb c hc => ?_⟩
  · rw [h1 b hb]
    congr 1
    show _ = zm_pt _ t _ w j b + if 0 ≤ D.2.2.2.2 j a ∧ _ then w j else 0
    rw [if_neg (fun q => hu q.1)]
    rfl
  · rw [h2]
    congr 1
    show _ = zm_kn _ w j + if 0 ≤ D.2.2.2.2 j a then w j else 0
    rw [if_neg hu]
    rfl
  · rw [h4 b hb c hc]
    congr 1
    show _ = zm_mx _ t _ _ w j b c + if 0 ≤ D.2.2.2.2 j a ∧ _ then w j else 0
    rw [if_neg (fun q => hu q.1)]
    rfl
theorem zTm_k {D : zD} {a : Nat} {t : Int32} {w : Nat → Nat} {j : Nat} {τ : ze_S} (h : zTm D a t w j τ) (hu : 0 ≤ D.2.2.2.2 j a) {br ty : Nat} (hbr : zm_br (D.2.2.1 a) t (D.2.2.2.2 j a) = br) (hty : D.2.2.2.1 j = ty) (hb4 : br < 4) (ht3 : ty < 3) :
    zTm D a t w (j + 1) (ze_ui (ze_ui (ze_ui τ 56 br (nI (zm_pt (D.2.2.1 a) t (fun i => D.2.2.2.2 i a) w j br) + nI (w j))) 57 (3 * br + ty) (nI (zm_mx (D.2.2.1 a) t (fun i => D.2.2.2.2 i a) D.2.2.2.1 w j br ty) + nI (w j))) 64 17 (nI (zm_kn (fun i => D.2.2.2.2 i a) w j) + nI (w j))) := by
  obtain ⟨h1, h2, h4⟩ := h
  refine ⟨fun b hb => ?_, ?_, fun b hb c hc => ?_⟩
  · rw [zui_o _ _ _ _ (by decide), zui_o _ _ _ _ (by decide)]
    have e : zm_pt (D.2.2.1 a) t (fun i => D.2.2.2.2 i a) w (j + 1) b = zm_pt (D.2.2.1 a) t (fun i => D.2.2.2.2 i a) w j b + if 0 ≤ D.2.2.2.2 j a ∧ zm_br (D.2.2.1 a) t (D.2.2.2.2 j a) = b then w j else 0 := rfl
    rw [e, hbr]
    by_cases q : b = br
    · subst q
      rw [zui, if_pos ⟨hu, rfl⟩, nI_add]
    · rw [zui_n _ _ _ _ q, if_neg (fun z => q z.2.symm), h1 b hb]
      rfl
  · rw [zui, nI_add]
    congr 1
    show _ = zm_kn _ w j + if 0 ≤ D.2.2.2.2 j a then w j else 0
    rw [if_pos hu]
  · rw [zui_o _ _ _ _ (by decide)]
    have e : zm_mx (D.2.2.1 a) t (fun i => D.2.2.2.2 i a) D.2.2.2.1 w (j + 1) b c = zm_mx (D.2.2.1 a) t (fun i => D.2.2.2.2 i a) D.2.2.2.1 w j b c + if 0 ≤ D.2.2.2.2 j a ∧ zm_br (D.2.2.1 a) t (D.2.2.2.2 j a) = b ∧ D.2.2.2.1 j = c then w j else 0 := rfl
    rw [e, hty, hbr]
    by_cases q : 3 * b + c = 3 * br + ty
    · have q1 : b = br := by omega
      have q2 : c = ty := by omega
      subst q1
      subst q2
      rw [zui, if_pos ⟨hu, rfl, rfl⟩, nI_add]
    · rw [zui_n _ _ _ _ q, zui_o _ _ _ _ (by decide), if_neg (fun z => q (by rw [z.2.1, z.2.2])), h4 b hb c hc]
      rfl
def zgn (D : zD) (a : Nat) (t : Int32) (w : Nat → Nat) : Int64 := zm_gn (D.2.2.1 a) t (fun i => D.2.2.2.2 i a) D.2.2.2.1 w D.2.1
def zspl (D : zD) (a : Nat) (t : Int32) (w : Nat → Nat) : Int64 := zm_sp (D.2.2.1 a) t (fun i => D.2.2.2.2 i a) w D.2.1
def zkn (D : zD) (a : Nat) (w : Nat → Nat) : Nat := zm_kn (fun i => D.2.2.2.2 i a) w D.2.1
/-- what measuring leaves behind -/
def zMs (D : zD) (a : Nat) (t : Int32) (w : Nat → Nat) (m : Nat) (τ : ze_S) : Prop :=
  (∀ b, b < 4 → τ.1 56 b = nI (zpt D a t w b)) ∧ τ.1 64 17 = nI (zkn D a w) ∧ τ.2 64 19 = zgn D a t w ∧ τ.2 64 20 = zspl D a t w ∧ τ.1 64 21 = if 2 ≤ zm_ct (zpt D a t w) m 4 then 1 else 0
set_option maxRecDepth 20000 in
theorem r_me1 {e : Nat} {σ : ze_S} {Q : ze_P} {x1 x2 x3 x4 x5 : Int32} (k : ∀ τ, zy [56, 57] [] σ τ → (∀ j, j < 12 → τ.1 57 j = 0) → (∀ j, j < 4 → τ.1 56 j = 0) → ∀ o, zE e t_M_measure Q (47, [some (.ref 64), some (.int x1), some (.int x2), some (.int x3), some (.int x4), some (.int x5), o, none, none, none], [], τ)) :
    zE e t_M_measure Q (0, [some (.ref 64), some (.int x1), some (.int x2), some (.int x3), some (.int x4), some (.int x5), none, none, none, none], [], σ) := by
  have L2 : ∀ m j τ, j + m = 4 → zy [56, 57] [] σ τ → (∀ i, i < 12 → τ.1 57 i = 0) → (∀ i, i < j → τ.1 56 i = 0) → zE e t_M_measure Q (27, [some (.ref 64), some (.int x1), some (.int x2), some (.int x3), some (.int x4), some (.int x5), some (.int (nI j)), none, none, none], [], τ) := by
    intro m
    induction m with
    | zero =>
      intro j τ hj hy h1 h2
      have ej : j = 4 := by omega
      subst ej
      iterate 2 (refine ze_go1 rfl ?_)
      refine ze_brT rfl (by decide) ?_
      exact k τ hy h1 h2 _
    | succ m ih =>
      intro j τ hj hy h1 h2
      iterate 2 (refine ze_go1 rfl ?_)
      refine ze_brF rfl (nI_ge (b := 4) (by omega) (by omega)) ?_
      refine ze_go1 rfl ?_
      refine ze_go2 rfl rfl ?_
      iterate 2 (refine ze_go1 rfl ?_)
      refine ze_go2 rfl ⟨rfl, vp_in_nI (N := 4) (n := j) (by omega) (by omega)⟩ ?_
      rw [nI_clamp (n := j) (by omega)]
      have h := ih (j + 1) (ze_ui τ 56 j 0) (by omega) (zy_tr hy (zy_ui (by simp) (by decide) _ _ _)) (fun i hi => by rw [zui_o _ _ _ _ (by decide)]; exact h1 i hi) (fun i hi => by
        by_cases q : i = j
        · subst q; rw [zui]
        · rw [zui_n _ _ _ _ q]; exact h2 i (by omega))
      rw [← show nI j + 1 = nI (j + 1) from nI_1 _] at h
      iterate 2 (refine ze_go1 rfl ?_)
      exact h
  have L1 : ∀ m j τ, j + m = 12 → zy [56, 57] [] σ τ → (∀ i, i < j → τ.1 57 i = 0) → zE e t_M_measure Q (3, [some (.ref 64), some (.int x1), some (.int x2), some (.int x3), some (.int x4), some (.int x5), some (.int (nI j)), none, none, none], [], τ) := by
    intro m
    induction m with
    | zero =>
      intro j τ hj hy h1
      have ej : j = 12 := by omega
      subst ej
      iterate 2 (refine ze_go1 rfl ?_)
      refine ze_brT rfl (by decide) ?_
      iterate 2 (refine ze_go1 rfl ?_)
      exact L2 4 0 τ rfl hy h1 (fun i hi => by omega)
    | succ m ih =>
      intro j τ hj hy h1
      iterate 2 (refine ze_go1 rfl ?_)
      refine ze_brF rfl (nI_ge (b := 12) (by omega) (by omega)) ?_
      refine ze_go1 rfl ?_
      refine ze_go2 rfl rfl ?_
      iterate 2 (refine ze_go1 rfl ?_)
      refine ze_go2 rfl ⟨rfl, vp_in_nI (N := 12) (n := j) (by omega) (by omega)⟩ ?_
      rw [nI_clamp (n := j) (by omega)]
      have h := ih (j + 1) (ze_ui τ 57 j 0) (by omega) (zy_tr hy (zy_ui (by simp) (by decide) _ _ _)) (fun i hi => by
        by_cases q : i = j
        · subst q; rw [zui]
        · rw [zui_n _ _ _ _ q]; exact h1 i (by omega))
      rw [← show nI j + 1 = nI (j + 1) from nI_1 _] at h
      iterate 2 (refine ze_go1 rfl ?_)
      exact h
  iterate 2 (refine ze_go1 rfl ?_)
  exact L1 12 0 σ rfl (zy_rf _ _ _) (fun i hi => by omega)
set_option maxRecDepth 20000 in
set_option maxHeartbeats 1000000 in
theorem r_me2 {e : Nat} {σ : ze_S} {D : zD} {Q : ze_P} {pl a : Nat} {t : Int32} {w : Nat → Nat} {x5 : Int32} (he : 1 ≤ e) (hd : zdok D) (hB : zBn σ D) (ha : a < D.1) (hp : pl < 193) (hw : zrw σ pl D.2.1 w)
    (k : ∀ τ, zy [56, 57] [17] σ τ → zTm D a t w D.2.1 τ → ∀ o6 o7 o8 o9, zE e t_M_measure Q (166, [some (.ref 64), some (.int (nI pl)), some (.int (nI a)), some (.int t), some (.int (nI D.2.1)), some (.int x5), o6, o7, o8, o9], [], τ)) :
    ∀ m j τ o7 o8 o9, j + m = D.2.1 → zy [56, 57] [17] σ τ → zTm D a t w j τ → zE e t_M_measure Q (66, [some (.ref 64), some (.int (nI pl)), some (.int (nI a)), some (.int t), some (.int (nI D.2.1)), some (.int x5), some (.int (nI j)), o7, o8, o9], [], τ) := by
  have h4 := hd.1
  have h24 := hd.2.1
  have hnb := znb4 hd ha
  intro m
  induction m with
  | zero =>
    intro j τ o7 o8 o9 hj hy hT
    have ej : j = D.2.1 := by omega
    subst ej
    iterate 2 (refine ze_go1 rfl ?_)
    refine ze_brT rfl (Int32.le_refl _) ?_
    exact k τ hy hT _ _ _ _
  | succ m ih =>
    intro j τ o7 o8 o9 hj hy hT
    have hj1 : j < D.2.1 := by omega
    have hB2 : zBn τ D := zBn_y hB hy (by simp) (by simp)
    have e55 : τ.1 55 = σ.1 55 := (hy.1 55 (by simp) (by decide)).1
    have hty := hd.2.2.2.1 j hj1
    iterate 2 (refine ze_go1 rfl ?_)
    refine ze_brF rfl (nI_ge (by omega) (by omega)) ?_
    refine ze_go1 rfl ?_
    refine ze_go2 rfl rfl ?_
    iterate 5 (refine ze_go1 rfl ?_)
    rw [zi4']
    refine ze_go2 rfl ⟨rfl, vp_in_nI (N := 96) (n := 4 * j + a) (by omega) (by omega)⟩ ?_
    rw [nI_clamp (n := 4 * j + a) (by omega), hB2.2.2.2 j hj1 a (by omega)]
    iterate 2 (refine ze_go1 rfl ?_)
    refine ze_go2 rfl rfl ?_
    iterate 5 (refine ze_go1 rfl ?_)
    rw [zi24]
    refine ze_go2 rfl ⟨rfl, vp_in_nI (N := 4632) (n := 24 * pl + j) (by omega) (by omega)⟩ ?_
    rw [nI_clamp (n := 24 * pl + j) (by omega), e55, hw j hj1]
    iterate 2 (refine ze_go1 rfl ?_)
    by_cases hv : 0 ≤ D.2.2.2.2 j a
    · refine ze_brF rfl (Int32.not_lt.2 hv) ?_
      have hb := zbr_lt (t := t) hd hj1 ha hv
      iterate 4 (refine ze_go1 rfl ?_)
      refine ze_ca1 rfl ⟨rfl, rfl⟩ (ze_M_le (r_branch (d := 0) hd hB2 ha (Int32.not_lt.2 hv)) (by omega)) (fun v ρ h => ?_)
      obtain ⟨rfl, rfl⟩ := h
      have hb4 : zm_br (D.2.2.1 a) t (D.2.2.2.2 j a) < 4 := by omega
      have h := ih (j + 1) _ (some (.int (D.2.2.2.2 j a))) (some (.int (nI (w j)))) (some (.int (nI (zm_br (D.2.2.1 a) t (D.2.2.2.2 j a))))) (by omega) (zy_tr hy (zy_tr (zy_tr (zy_ui (by simp) (by decide) _ _ _) (zy_ui (by simp) (by decide) _ _ _)) (zy_uo (by simp) _ _))) (zTm_k hT hv rfl rfl hb4 hty)
      rw [← show nI j + 1 = nI (j + 1) from nI_1 _] at h
      iterate 2 (refine ze_go1 rfl ?_)
      refine ze_go2 rfl rfl ?_
      refine ze_go1 rfl ?_
      refine ze_go2 rfl ⟨rfl, rfl⟩ ?_
      refine ze_go2 rfl ⟨rfl, vp_in_nI (N := 4) (by omega) (by omega)⟩ ?_
      iterate 2 (refine ze_go1 rfl ?_)
      refine ze_go2 rfl ⟨rfl, vp_in_nI (N := 4) (by omega) (by omega)⟩ ?_
      rw [nI_clamp (n := zm_br (D.2.2.1 a) t (D.2.2.2.2 j a)) (by omega), hT.1 _ hb4]
      refine ze_go1 rfl ?_
      refine ze_go2 rfl rfl ?_
      iterate 4 (refine ze_go1 rfl ?_)
      refine ze_go2 rfl rfl ?_
      refine ze_go1 rfl ?_
      refine ze_go2 rfl ⟨rfl, vp_in_nI (N := 24) (by omega) (by omega)⟩ ?_
      rw [nI_clamp (n := j) (by omega), zui_o _ _ _ _ (by decide), hB2.2.2.1 j hj1]
      refine ze_go1 rfl ?_
      refine ze_go2 rfl ⟨rfl, rfl⟩ ?_
      rw [zi3']
      refine ze_go2 rfl ⟨rfl, vp_in_nI (N := 12) (by omega) (by omega)⟩ ?_
      iterate 2 (refine ze_go1 rfl ?_)
      refine ze_go2 rfl ⟨rfl, vp_in_nI (N := 12) (by omega) (by omega)⟩ ?_
      rw [nI_clamp (n := 3 * zm_br (D.2.2.1 a) t (D.2.2.2.2 j a) + D.2.2.2.1 j) (by omega), zui_o _ _ _ _ (by decide), hT.2.2 _ hb4 _ hty]
      refine ze_go1 rfl ?_
      iterate 2 (refine ze_go2 rfl rfl ?_)
      iterate 2 (refine ze_go1 rfl ?_)
      refine ze_go2 rfl rfl ?_
      iterate 2 (refine ze_go1 rfl ?_)
      rw [zui_o _ _ _ _ (by decide), zui_o _ _ _ _ (by decide), hT.2.1]
      exact h
    · refine ze_brT rfl (Int32.not_le.1 hv) ?_
      have h := ih (j + 1) τ (some (.int (D.2.2.2.2 j a))) (some (.int (nI (w j)))) o9 (by omega) hy (zTm_u hT hv)
      rw [← show nI j + 1 = nI (j + 1) from nI_1 _] at h
      iterate 2 (refine ze_go1 rfl ?_)
      exact h
def zgj (D : zD) (a : Nat) (t : Int32) (w : Nat → Nat) : Nat → Int64
  | 0 => zm_info (zm_kc (fun i => D.2.2.2.2 i a) D.2.2.2.1 w D.2.1) 3
  | j + 1 => zgj D a t w j - zm_info (zm_mx (D.2.2.1 a) t (fun i => D.2.2.2.2 i a) D.2.2.2.1 w D.2.1 j) 3
theorem z720 (m : Nat) : 720 * nI m = nI (720 * m) := by
  rw [show (720 : Int32) = nI 720 from rfl, pk_mul]
set_option maxRecDepth 20000 in
set_option maxHeartbeats 1000000 in
theorem r_me3 {e : Nat} {σ : ze_S} {D : zD} {pl a m : Nat} {t : Int32} {w : Nat → Nat} (he : 3 ≤ e) (hd : zdok D) (ha : a < D.1) (hwb : ∀ i, i < D.2.1 → w i ≤ 720) (hm : m ≤ 5) :
    ∀ n j τ o8 o9, j + n = 4 → zy [56, 57] [17, 18, 21] σ τ → zTm D a t w D.2.1 τ → τ.2 64 20 = zspl D a t w → τ.2 64 19 = zgj D a t w j → zE e t_M_measure (fun v τ => v = none ∧ zy [56, 57] [17, 18, 21] σ τ ∧ zMs D a t w m τ) (308, [some (.ref 64), some (.int (nI pl)), some (.int (nI a)), some (.int t), some (.int (nI D.2.1)), some (.int (nI m)), some (.int (nI (zm_ct (zpt D a t w) m j))), some (.int (nI j)), o8, o9], [], τ) := by
  have hbr := zbr_4 (t := t) hd ha
  have hwl := zm_w_le hd.2.1 hwb
  have hkn := zm_kn_le (v := fun i => D.2.2.2.2 i a) (w := w) (n := D.2.1)
  intro n
  induction n with
  | zero =>
    intro j τ o8 o9 hj hy hT h20 h19
    have ej : j = 4 := by omega
    subst ej
    iterate 2 (refine ze_go1 rfl ?_)
    refine ze_brT rfl (by decide) ?_
    iterate 3 (refine ze_go1 rfl ?_)
    have fin : ∀ x : Int32, x = (if 2 ≤ zm_ct (zpt D a t w) m 4 then 1 else 0) → zy [56, 57] [17, 18, 21] σ (ze_ui τ 64 21 x) ∧ zMs D a t w m (ze_ui τ 64 21 x) := fun x hx =>
      ⟨zy_tr hy (zy_uo (by simp) _ _), fun b hb => by rw [zui_o _ _ _ _ (by decide)]; exact hT.1 b hb, by rw [zui_n _ _ _ _ (by decide)]; exact hT.2.1, h19, h20, by rw [zui]; exact hx⟩
    have hc4 : ∀ j, zm_ct (zpt D a t w) m j ≤ j := by
      intro j
      induction j with
      | zero => exact Nat.le_refl _
      | succ j ih =>
        rw [show zm_ct (zpt D a t w) m (j + 1) = if 720 * m ≤ zpt D a t w j then zm_ct (zpt D a t w) m j + 1 else zm_ct (zpt D a t w) m j from rfl]
        split <;> omega
    have := hc4 4
    by_cases c : 2 ≤ zm_ct (zpt D a t w) m 4
    · refine ze_brF rfl (nI_nlt (b := 2) c (by omega)) ?_
      iterate 2 (refine ze_go1 rfl ?_)
      refine ze_go2 rfl ⟨rfl, by first | exact Or.inl rfl | exact Or.inr rfl⟩ ?_
      exact ze_rt1 rfl trivial ⟨rfl, fin 1 (by rw [if_pos c])⟩
    · refine ze_brT rfl (nI_lt (b := 2) (by omega) (by omega)) ?_
      refine ze_go1 rfl ?_
      refine ze_go2 rfl ⟨rfl, by first | exact Or.inl rfl | exact Or.inr rfl⟩ ?_
      exact ze_rt1 rfl trivial ⟨rfl, fin 0 (by rw [if_neg c])⟩
  | succ n ih =>
    intro j τ o8 o9 hj hy hT h20 h19
    have hj4 : j < 4 := by omega
    have hms : zm_s (zm_mx (D.2.2.1 a) t (fun i => D.2.2.2.2 i a) D.2.2.2.1 w D.2.1 j) 3 ≤ 17280 := by
      rw [zm_mc_sum j hd.2.2.2.1]
      have := zm_pt_le (k := D.2.2.1 a) (t := t) (v := fun i => D.2.2.2.2 i a) (w := w) (n := D.2.1) (b := j)
      omega
    have hp : zpt D a t w j ≤ 17280 := by
      have : zpt D a t w j ≤ _ := zm_pt_le (k := D.2.2.1 a) (t := t) (v := fun i => D.2.2.2.2 i a) (w := w) (n := D.2.1) (b := j)
      omega
    have hij := zi_5_3 (zm_mx (D.2.2.1 a) t (fun i => D.2.2.2.2 i a) D.2.2.2.1 w D.2.1 j)
    rw [zm_s3] at hms
    iterate 2 (refine ze_go1 rfl ?_)
    refine ze_brF rfl (nI_ge (b := 4) (by omega) (by omega)) ?_
    refine ze_go1 rfl ?_
    iterate 2 (refine ze_go2 rfl rfl ?_)
    refine ze_go1 rfl ?_
    refine ze_go2 rfl rfl ?_
    iterate 3 (refine ze_go1 rfl ?_)
    rw [show (3 : Int32) * nI j = nI (3 * j) by rw [show (3 : Int32) = nI 3 from rfl, pk_mul]]
    refine ze_go2 rfl ⟨rfl, vp_in_nI (N := 12) (by omega) (by omega)⟩ ?_
    refine ze_go1 rfl ?_
    refine ze_go2 rfl rfl ?_
    iterate 5 (refine ze_go1 rfl ?_)
    rw [show (3 : Int32) * nI j = nI (3 * j) by rw [show (3 : Int32) = nI 3 from rfl, pk_mul], show nI (3 * j) + 1 = nI (3 * j + 1) from nI_1 _]
    refine ze_go2 rfl ⟨rfl, vp_in_nI (N := 12) (by omega) (by omega)⟩ ?_
    refine ze_go1 rfl ?_
    refine ze_go2 rfl rfl ?_
    iterate 5 (refine ze_go1 rfl ?_)
    rw [show (3 : Int32) * nI j = nI (3 * j) by rw [show (3 : Int32) = nI 3 from rfl, pk_mul], show nI (3 * j) + 2 = nI (3 * j + 2) from nI_add _ 2]
    refine ze_go2 rfl ⟨rfl, vp_in_nI (N := 12) (by omega) (by omega)⟩ ?_
    rw [nI_clamp (n := 3 * j) (by omega), nI_clamp (n := 3 * j + 1) (by omega), nI_clamp (n := 3 * j + 2) (by omega), hT.2.2 j hj4 1 (by decide), hT.2.2 j hj4 2 (by decide), show τ.1 57 (3 * j) = _ from hT.2.2 j hj4 0 (by decide)]
    iterate 2 (refine ze_go1 rfl ?_)
    refine ze_ca1 rfl rfl (ze_M_le (r_information (d' := 0) (d := 0) (e := 0) (by omega)) (by omega)) (fun v ρ h => ?_)
    obtain ⟨rfl, rfl⟩ := h
    rw [hij]
    refine ze_go1 rfl ?_
    refine ze_go2 rfl rfl ?_
    refine ze_go1 rfl ?_
    refine ze_go2 rfl rfl ?_
    refine ze_go1 rfl ?_
    rw [h19]
    refine ze_go2 rfl ⟨rfl, vp_in_nI (N := 4) (by omega) (by omega)⟩ ?_
    rw [nI_clamp (n := j) (by omega), show (ze_ul ρ 64 19 (zgj D a t w j - zm_info (zm_mx (D.2.2.1 a) t (fun i => D.2.2.2.2 i a) D.2.2.2.1 w D.2.1 j) 3)).1 = ρ.1 from rfl, show ρ.1 56 j = nI (zpt D a t w j) from hT.1 j hj4]
    iterate 3 (refine ze_go1 rfl ?_)
    rw [z720]
    have h := ih (j + 1) (ze_ul ρ 64 19 (zgj D a t w (j + 1))) o8 o9 (by omega) (zy_tr hy (zy_ul _ _ _)) hT (by rw [zul_n _ _ _ _ (by decide)]; exact h20) (zul _ _ _ _)
    rw [← show nI j + 1 = nI (j + 1) from nI_1 _, show zm_ct (zpt D a t w) m (j + 1) = if 720 * m ≤ zpt D a t w j then zm_ct (zpt D a t w) m j + 1 else zm_ct (zpt D a t w) m j from rfl] at h
    by_cases c : 720 * m ≤ zpt D a t w j
    · refine ze_brF rfl (nI_nlt c (by omega)) ?_
      rw [if_pos c, ← show nI (zm_ct (zpt D a t w) m j) + 1 = nI (zm_ct (zpt D a t w) m j + 1) from nI_1 _] at h
      iterate 7 (refine ze_go1 rfl ?_)
      exact h
    · refine ze_brT rfl (nI_lt (by omega) (by omega)) ?_
      rw [if_neg c] at h
      iterate 4 (refine ze_go1 rfl ?_)
      exact h
set_option maxRecDepth 20000 in
set_option maxHeartbeats 2000000 in
theorem r_measure {d : Nat} {σ : ze_S} {D : zD} {pl a m : Nat} {t : Int32} {w : Nat → Nat} (hd : zdok D) (hB : zBn σ D) (ha : a < D.1) (hp : pl < 193) (hw : zrw σ pl D.2.1 w) (hwb : ∀ i, i < D.2.1 → w i ≤ 720) (hm : m ≤ 5) :
    zM (d + 4) m_M_measure [.ref 64, .int (nI pl), .int (nI a), .int t, .int (nI D.2.1), .int (nI m)] σ (fun v τ => v = none ∧ zy [56, 57] [17, 18, 21] σ τ ∧ zMs D a t w m τ) := by
  have hbr := zbr_4 (t := t) hd ha
  have hwl := zm_w_le hd.2.1 hwb
  have hku := zm_ku (v := fun i => D.2.2.2.2 i a) (w := w) (n := D.2.1)
  refine zM_in t_M_measure [some (.ref 64), some (.int (nI pl)), some (.int (nI a)), some (.int t), some (.int (nI D.2.1)), some (.int (nI m)), none, none, none, none] rfl rfl ?_
  refine r_me1 (fun τ0 y0 z1 z2 o => ?_)
  iterate 2 (refine ze_go1 rfl ?_)
  refine ze_go2 rfl rfl ?_
  iterate 4 (refine ze_go1 rfl ?_)
  have y1 : zy [56, 57] [17] σ (ze_ui τ0 64 17 0) := zy_tr (zy_wk y0 (by simp) (by simp)) (zy_uo (by simp) _ _)
  have k17 : (ze_ui τ0 64 17 0).1 64 17 = 0 := zui _ _ _ _
  have z1 : ∀ j, j < 12 → (ze_ui τ0 64 17 0).1 57 j = 0 := fun j hj => by rw [zui_o _ _ _ _ (by decide)]; exact z1 j hj
  have z2 : ∀ j, j < 4 → (ze_ui τ0 64 17 0).1 56 j = 0 := fun j hj => by rw [zui_o _ _ _ _ (by decide)]; exact z2 j hj
  generalize ze_ui τ0 64 17 0 = τ1 at y1 k17 z1 z2
  have hB1 : zBn τ1 D := zBn_y hB y1 (by simp) (by simp)
  have hw1 : zrw τ1 pl D.2.1 w := fun i hi => by rw [(y1.1 55 (by simp) (by decide)).1]; exact hw i hi
  refine ze_ca1 rfl ⟨rfl, rfl⟩ (ze_M_le (r_weightOf (d := 0) hd hB1 hp hw1) (by omega)) (fun v ρ h => ?_)
  obtain ⟨rfl, rfl⟩ := h
  refine ze_go2 rfl rfl ?_
  iterate 2 (refine ze_go1 rfl ?_)
  have hB2 : zBn (ze_ui ρ 64 18 (nI (zm_s (zcw D w) 3))) D := zBn_y hB1 (zy_uo (l := []) (m := [18]) (by simp) _ _) (by simp) (by simp)
  have hw2 : zrw (ze_ui ρ 64 18 (nI (zm_s (zcw D w) 3))) pl D.2.1 w := fun i hi => by rw [zui_o _ _ _ _ (by decide)]; exact hw1 i hi
  have hT0 : zTm D a t w 0 (ze_ui ρ 64 18 (nI (zm_s (zcw D w) 3))) := by
    refine ⟨fun b hb => ?_, ?_, fun b hb c hc => ?_⟩
    · rw [zui_o _ _ _ _ (by decide)]; exact z2 b hb
    · rw [zui_n _ _ _ _ (by decide)]; exact k17
    · rw [zui_o _ _ _ _ (by decide)]; exact z1 _ (by omega)
  have k18 : (ze_ui ρ 64 18 (nI (zm_s (zcw D w) 3))).1 64 18 = nI (zm_s (zcw D w) 3) := zui _ _ _ _
  have y2 : zy [56, 57] [17, 18, 21] σ (ze_ui ρ 64 18 (nI (zm_s (zcw D w) 3))) := zy_tr (zy_wk y1 (by simp) (by simp)) (zy_uo (by simp) _ _)
  generalize ze_ui ρ 64 18 (nI (zm_s (zcw D w) 3)) = τ2 at hB2 hw2 hT0 k18 y2
  refine r_me2 (by omega) hd hB2 ha hp hw2 (fun τ3 y3 hT o6 o7 o8 o9 => ?_) D.2.1 0 τ2 none none none (by omega) (zy_rf _ _ _) hT0
  have k18 : τ3.1 64 18 = nI (zm_s (zcw D w) 3) := by rw [y3.2 18 (by simp)]; exact k18
  have y4 : zy [56, 57] [17, 18, 21] σ τ3 := zy_tr y2 (zy_wk y3 (by simp) (by simp))
  have ps := zm_pt_sum (w := w) hbr
  have esp := zi_5_5 (zm_pu (D.2.2.1 a) t (fun i => D.2.2.2.2 i a) w D.2.1)
  have eun : nI (zm_s (zcw D w) 3) - nI (zm_kn (fun i => D.2.2.2.2 i a) w D.2.1) = nI (zm_un (fun i => D.2.2.2.2 i a) w D.2.1) := by
    rw [pk_sub (by rw [zcw_sum hd]; omega), zcw_sum hd]
    congr 1
    omega
  iterate 4 (refine ze_go1 rfl ?_)
  refine ze_go2 rfl rfl ?_
  refine ze_go1 rfl ?_
  refine ze_go2 rfl ⟨rfl, vp_in_nI (n := 0) (N := 4) (by decide) (by decide)⟩ ?_
  refine ze_go1 rfl ?_
  refine ze_go2 rfl rfl ?_
  refine ze_go1 rfl ?_
  refine ze_go2 rfl ⟨rfl, vp_in_nI (n := 1) (N := 4) (by decide) (by decide)⟩ ?_
  refine ze_go1 rfl ?_
  refine ze_go2 rfl rfl ?_
  refine ze_go1 rfl ?_
  refine ze_go2 rfl ⟨rfl, vp_in_nI (n := 2) (N := 4) (by decide) (by decide)⟩ ?_
  refine ze_go1 rfl ?_
  refine ze_go2 rfl rfl ?_
  refine ze_go1 rfl ?_
  refine ze_go2 rfl ⟨rfl, vp_in_nI (n := 3) (N := 4) (by decide) (by decide)⟩ ?_
  refine ze_go1 rfl ?_
  refine ze_go2 rfl rfl ?_
  refine ze_go1 rfl ?_
  refine ze_go2 rfl rfl ?_
  refine ze_go1 rfl ?_
  rw [show (0 : Int32).toNatClampNeg = 0 from rfl, show (1 : Int32).toNatClampNeg = 1 from rfl, show (2 : Int32).toNatClampNeg = 2 from rfl, show (3 : Int32).toNatClampNeg = 3 from rfl, hT.1 0 (by decide), hT.1 1 (by decide), hT.1 2 (by decide), hT.1 3 (by decide), k18, hT.2.1, eun]
  refine ze_ca1 rfl rfl (ze_M_le (r_information (d' := 0) (by omega)) (by omega)) (fun v ρ' h => ?_)
  obtain ⟨rfl, rfl⟩ := h
  rw [show zi_5 (zm_pt (D.2.2.1 a) t (fun i => D.2.2.2.2 i a) w D.2.1 0) (zm_pt (D.2.2.1 a) t (fun i => D.2.2.2.2 i a) w D.2.1 1) (zm_pt (D.2.2.1 a) t (fun i => D.2.2.2.2 i a) w D.2.1 2) (zm_pt (D.2.2.1 a) t (fun i => D.2.2.2.2 i a) w D.2.1 3) (zm_un (fun i => D.2.2.2.2 i a) w D.2.1) = zspl D a t w from esp]
  refine ze_go2 rfl rfl ?_
  have k20 : (ze_ul ρ' 64 20 (zspl D a t w)).2 64 20 = zspl D a t w := zul _ _ _ _
  have y5 : zy [56, 57] [17, 18, 21] σ (ze_ul ρ' 64 20 (zspl D a t w)) := zy_tr y4 (zy_ul _ _ _)
  have hT5 : zTm D a t w D.2.1 (ze_ul ρ' 64 20 (zspl D a t w)) := hT
  generalize ze_ul ρ' 64 20 (zspl D a t w) = τ5 at k20 y5 hT5
  iterate 2 (refine ze_go1 rfl ?_)
  refine ze_go2 rfl rfl ?_
  refine ze_go1 rfl ?_
  refine ze_go2 rfl ⟨rfl, vp_in_nI (n := 0) (N := 12) (by decide) (by decide)⟩ ?_
  refine ze_go1 rfl ?_
  refine ze_go2 rfl rfl ?_
  refine ze_go1 rfl ?_
  refine ze_go2 rfl ⟨rfl, vp_in_nI (n := 3) (N := 12) (by decide) (by decide)⟩ ?_
  iterate 2 (refine ze_go1 rfl ?_)
  refine ze_go2 rfl rfl ?_
  refine ze_go1 rfl ?_
  refine ze_go2 rfl ⟨rfl, vp_in_nI (n := 6) (N := 12) (by decide) (by decide)⟩ ?_
  iterate 2 (refine ze_go1 rfl ?_)
  refine ze_go2 rfl rfl ?_
  refine ze_go1 rfl ?_
  refine ze_go2 rfl ⟨rfl, vp_in_nI (n := 9) (N := 12) (by decide) (by decide)⟩ ?_
  iterate 2 (refine ze_go1 rfl ?_)
  refine ze_go2 rfl rfl ?_
  refine ze_go1 rfl ?_
  refine ze_go2 rfl ⟨rfl, vp_in_nI (n := 1) (N := 12) (by decide) (by decide)⟩ ?_
  refine ze_go1 rfl ?_
  refine ze_go2 rfl rfl ?_
  refine ze_go1 rfl ?_
  refine ze_go2 rfl ⟨rfl, vp_in_nI (n := 4) (N := 12) (by decide) (by decide)⟩ ?_
  iterate 2 (refine ze_go1 rfl ?_)
  refine ze_go2 rfl rfl ?_
  refine ze_go1 rfl ?_
  refine ze_go2 rfl ⟨rfl, vp_in_nI (n := 7) (N := 12) (by decide) (by decide)⟩ ?_
  iterate 2 (refine ze_go1 rfl ?_)
  refine ze_go2 rfl rfl ?_
  refine ze_go1 rfl ?_
  refine ze_go2 rfl ⟨rfl, vp_in_nI (n := 10) (N := 12) (by decide) (by decide)⟩ ?_
  iterate 2 (refine ze_go1 rfl ?_)
  refine ze_go2 rfl rfl ?_
  refine ze_go1 rfl ?_
  refine ze_go2 rfl ⟨rfl, vp_in_nI (n := 2) (N := 12) (by decide) (by decide)⟩ ?_
  refine ze_go1 rfl ?_
  refine ze_go2 rfl rfl ?_
  refine ze_go1 rfl ?_
  refine ze_go2 rfl ⟨rfl, vp_in_nI (n := 5) (N := 12) (by decide) (by decide)⟩ ?_
  iterate 2 (refine ze_go1 rfl ?_)
  refine ze_go2 rfl rfl ?_
  refine ze_go1 rfl ?_
  refine ze_go2 rfl ⟨rfl, vp_in_nI (n := 8) (N := 12) (by decide) (by decide)⟩ ?_
  iterate 2 (refine ze_go1 rfl ?_)
  refine ze_go2 rfl rfl ?_
  refine ze_go1 rfl ?_
  refine ze_go2 rfl ⟨rfl, vp_in_nI (n := 11) (N := 12) (by decide) (by decide)⟩ ?_
  iterate 3 (refine ze_go1 rfl ?_)
  have mx := fun c => zm_mx_sum (T := D.2.2.2.1) (w := w) c hbr
  have kcs := zm_kc_sum (v := fun i => D.2.2.2.2 i a) (w := w) hd.2.2.2.1
  rw [zm_s3] at kcs
  have h57 := hT5.2.2
  rw [show (0 : Int32).toNatClampNeg = 0 from rfl, show (1 : Int32).toNatClampNeg = 1 from rfl, show (2 : Int32).toNatClampNeg = 2 from rfl, show (3 : Int32).toNatClampNeg = 3 from rfl, show (4 : Int32).toNatClampNeg = 4 from rfl, show (5 : Int32).toNatClampNeg = 5 from rfl, show (6 : Int32).toNatClampNeg = 6 from rfl, show (7 : Int32).toNatClampNeg = 7 from rfl, show (8 : Int32).toNatClampNeg = 8 from rfl, show (9 : Int32).toNatClampNeg = 9 from rfl, show (10 : Int32).toNatClampNeg = 10 from rfl, show (11 : Int32).toNatClampNeg = 11 from rfl,
    show τ5.1 57 0 = _ from h57 0 (by decide) 0 (by decide), show τ5.1 57 1 = _ from h57 0 (by decide) 1 (by decide), show τ5.1 57 2 = _ from h57 0 (by decide) 2 (by decide), show τ5.1 57 3 = _ from h57 1 (by decide) 0 (by decide), show τ5.1 57 4 = _ from h57 1 (by decide) 1 (by decide), show τ5.1 57 5 = _ from h57 1 (by decide) 2 (by decide), show τ5.1 57 6 = _ from h57 2 (by decide) 0 (by decide), show τ5.1 57 7 = _ from h57 2 (by decide) 1 (by decide), show τ5.1 57 8 = _ from h57 2 (by decide) 2 (by decide), show τ5.1 57 9 = _ from h57 3 (by decide) 0 (by decide), show τ5.1 57 10 = _ from h57 3 (by decide) 1 (by decide), show τ5.1 57 11 = _ from h57 3 (by decide) 2 (by decide)]
  simp only [nI_add]
  rw [mx 0, mx 1, mx 2]
  refine ze_ca1 rfl rfl (ze_M_le (r_information (d' := 0) (d := 0) (e := 0) (by omega)) (by omega)) (fun v ρ2 h => ?_)
  obtain ⟨rfl, rfl⟩ := h
  rw [zi_5_3]
  refine ze_go2 rfl rfl ?_
  iterate 2 (refine ze_go1 rfl ?_)
  exact r_me3 (by omega) hd ha hwb hm 4 0 _ _ _ rfl (zy_tr y5 (zy_ul _ _ _)) hT5 (by rw [zul_n _ _ _ _ (by decide)]; exact k20) (zul _ _ _ _)
