theorem zval {D : zD} (hd : zdok D) {i a : Nat} (hi : i < D.2.1) (ha : a < D.1) : D.2.2.2.2 i a = -1 ∧ ¬ 0 ≤ D.2.2.2.2 i a ∨ ¬ D.2.2.2.2 i a = -1 ∧ 0 ≤ D.2.2.2.2 i a ∧ (∃ v, D.2.2.2.2 i a = nI v ∧ v < zlim (D.2.2.1 a)) := by
  have hz := zlim_lt hd ha
  rcases hd.2.2.2.2 i hi a ha with h | ⟨v, h, hv⟩
  · refine Or.inl ⟨h, ?_⟩
    rw [h]
    decide
  · refine Or.inr ⟨?_, ?_, v, h, hv⟩
    · rw [h]
      intro q
      have h1 := nI_toInt (n := v) (by omega)
      rw [q] at h1
      have h2 : (-1 : Int32).toInt = -1 := by decide
      omega
    · rw [h]
      exact nI_pos' (by omega)
/-- what the threshold of a test looks like -/
def zth (D : zD) (a : Nat) (t : Int32) : Prop := (D.2.2.1 a = 0 → ¬ t = -1) ∧ (¬ D.2.2.1 a = 0 → t = -1)
theorem zbf {D : zD} (hd : zdok D) {i a : Nat} {t : Int32} (hi : i < D.2.1) (ha : a < D.1) (ht : zth D a t) (h0 : 0 ≤ D.2.2.2.2 i a) :
    (if t = -1 then D.2.2.2.2 i a else if D.2.2.2.2 i a ≤ t then 0 else 1) = nI (zm_br (D.2.2.1 a) t (D.2.2.2.2 i a)) ∧ zm_br (D.2.2.1 a) t (D.2.2.2.2 i a) < zm_nb (D.2.2.1 a) ∧ zm_nb (D.2.2.1 a) ≤ 4 := by
  have hk := hd.2.2.1 a ha
  rcases zval hd hi ha with h | ⟨-, -, v, hv, hl⟩
  · exact absurd h0 h.2
  · by_cases c : D.2.2.1 a = 0
    · have e1 : zm_nb (D.2.2.1 a) = 2 := if_pos c
      have e2 : zm_br (D.2.2.1 a) t (D.2.2.2.2 i a) = if D.2.2.2.2 i a ≤ t then 0 else 1 := if_pos c
      rw [e1, e2, if_neg (ht.1 c)]
      refine ⟨?_, ?_, by decide⟩
      · split <;> rfl
      · split <;> decide
    · have e1 : zm_nb (D.2.2.1 a) = D.2.2.1 a := if_neg c
      have e2 : zm_br (D.2.2.1 a) t (D.2.2.2.2 i a) = (D.2.2.2.2 i a).toNatClampNeg := if_neg c
      have e3 : zlim (D.2.2.1 a) = D.2.2.1 a := if_neg c
      rw [e3] at hl
      rw [e1, e2, if_pos (ht.2 c), hv, nI_clamp (by omega)]
      exact ⟨rfl, hl, by omega⟩
def zTal (D : zD) (a : Nat) (t : Int32) (w : Nat → Nat) (j : Nat) (τ : ze_S) : Prop :=
  (∀ b, b < 4 → τ.1 5 b = nI (zm_pt (D.2.2.1 a) t (fun i => D.2.2.2.2 i a) w j b)) ∧ τ.1 5 4 = nI (zm_un (fun i => D.2.2.2.2 i a) w j) ∧
  (∀ c, c < 3 → τ.1 3 c = nI (zm_kc (fun i => D.2.2.2.2 i a) D.2.2.2.1 w j c)) ∧ ∀ b, b < 4 → ∀ c, c < 3 → τ.1 4 (3 * b + c) = nI (zm_mx (D.2.2.1 a) t (fun i => D.2.2.2.2 i a) D.2.2.2.1 w j b c)
theorem zTal_u {D : zD} {a : Nat} {t : Int32} {w : Nat → Nat} {j : Nat} {τ : ze_S} (h : zTal D a t w j τ) (hu : ¬ 0 ≤ D.2.2.2.2 j a) : zTal D a t w (j + 1) (ze_ui τ 5 4 (nI (zm_un (fun i => D.2.2.2.2 i a) w j) + nI (w j))) := by
  obtain ⟨h1, h2, h3, h4⟩ := h
  refine ⟨fun b hb => ?_, ?_, fun c hc => ?_, fun b hb c hc => ?_⟩
  · rw [zui_n _ _ _ _ (by omega), h1 b hb]
    congr 1
    show _ = zm_pt _ t _ w j b + if 0 ≤ D.2.2.2.2 j a ∧ _ then w j else 0
    rw [if_neg (fun q => hu q.1)]
    rfl
  · rw [zui, nI_add]
    congr 1
    show _ = zm_un _ w j + if 0 ≤ D.2.2.2.2 j a then 0 else w j
    rw [if_neg hu]
  · rw [zui_o _ _ _ _ (by decide), h3 c hc]
    congr 1
    show _ = zm_kc _ _ w j c + if 0 ≤ D.2.2.2.2 j a ∧ _ then w j else 0
    rw [if_neg (fun q => hu q.1)]
    rfl
  · rw [zui_o _ _ _ _ (by decide), h4 b hb c hc]
    congr 1
    show _ = zm_mx _ t _ _ w j b c + if 0 ≤ D.2.2.2.2 j a ∧ _ then w j else 0
    rw [if_neg (fun q => hu q.1)]
    rfl
theorem zTal_k {D : zD} {a : Nat} {t : Int32} {w : Nat → Nat} {j : Nat} {τ : ze_S} (h : zTal D a t w j τ) (hu : 0 ≤ D.2.2.2.2 j a) {br ty : Nat} (hbr : zm_br (D.2.2.1 a) t (D.2.2.2.2 j a) = br) (hty : D.2.2.2.1 j = ty) (hb4 : br < 4) (ht3 : ty < 3) :
    zTal D a t w (j + 1) (ze_ui (ze_ui (ze_ui τ 5 br (nI (zm_pt (D.2.2.1 a) t (fun i => D.2.2.2.2 i a) w j br) + nI (w j))) 3 ty (nI (zm_kc (fun i => D.2.2.2.2 i a) D.2.2.2.1 w j ty) + nI (w j))) 4 (3 * br + ty) (nI (zm_mx (D.2.2.1 a) t (fun i => D.2.2.2.2 i a) D.2.2.2.1 w j br ty) + nI (w j))) := by
  obtain ⟨h1, h2, h3, h4⟩ := h
  refine ⟨fun b hb => ?_, ?_, fun c hc => ?_, fun b hb c hc => ?_⟩
  · rw [zui_o _ _ _ _ (by decide), zui_o _ _ _ _ (by decide)]
    have e : zm_pt (D.2.2.1 a) t (fun i => D.2.2.2.2 i a) w (j + 1) b = zm_pt (D.2.2.1 a) t (fun i => D.2.2.2.2 i a) w j b + if 0 ≤ D.2.2.2.2 j a ∧ zm_br (D.2.2.1 a) t (D.2.2.2.2 j a) = b then w j else 0 := rfl
    rw [e, hbr]
    by_cases q : b = br
    · subst q
      rw [zui, if_pos ⟨hu, rfl⟩, nI_add]
    · rw [zui_n _ _ _ _ q, if_neg (fun z => q z.2.symm), h1 b hb]
      rfl
  · rw [zui_o _ _ _ _ (by decide), zui_o _ _ _ _ (by decide), zui_n _ _ _ _ (by omega), h2]
    congr 1
    show _ = zm_un _ w j + if 0 ≤ D.2.2.2.2 j a then 0 else w j
    rw [if_pos hu]
    rfl
  · rw [zui_o _ _ _ _ (by decide)]
    have e : zm_kc (fun i => D.2.2.2.2 i a) D.2.2.2.1 w (j + 1) c = zm_kc (fun i => D.2.2.2.2 i a) D.2.2.2.1 w j c + if 0 ≤ D.2.2.2.2 j a ∧ D.2.2.2.1 j = c then w j else 0 := rfl
    rw [e, hty]
    by_cases q : c = ty
    · subst q
      rw [zui, if_pos ⟨hu, rfl⟩, nI_add]
    · rw [zui_n _ _ _ _ q, zui_o _ _ _ _ (by decide), if_neg (fun z => q z.2.symm), h3 c hc]
      rfl
  · have e : zm_mx (D.2.2.1 a) t (fun i => D.2.2.2.2 i a) D.2.2.2.1 w (j + 1) b c = zm_mx (D.2.2.1 a) t (fun i => D.2.2.2.2 i a) D.2.2.2.1 w j b c + if 0 ≤ D.2.2.2.2 j a ∧ zm_br (D.2.2.1 a) t (D.2.2.2.2 j a) = b ∧ D.2.2.2.1 j = c then w j else 0 := rfl
    rw [e, hty, hbr]
    by_cases q : 3 * b + c = 3 * br + ty
    · have q1 : b = br := by omega
      have q2 : c = ty := by omega
      subst q1
      subst q2
      rw [zui, if_pos ⟨hu, rfl, rfl⟩, nI_add]
    · rw [zui_n _ _ _ _ q, zui_o _ _ _ _ (by decide), zui_o _ _ _ _ (by decide), if_neg (fun z => q (by rw [z.2.1, z.2.2])), h4 b hb c hc]
      rfl
theorem zi3 (b c : Nat) : nI b * 3 + nI c = nI (3 * b + c) := by
  rw [show (3 : Int32) = nI 3 from rfl, pk_mul, nI_add, Nat.mul_comm]
set_option maxRecDepth 20000 in
set_option maxHeartbeats 1000000 in
theorem e_tally {d : Nat} {σ : ze_S} {D : zD} {a kr : Nat} {t : Int32} {w : Nat → Nat} (hd : zdok D) (hB : zB σ D) (ha : a < D.1) (ht : zth D a t) (hkr : 10 ≤ kr ∧ kr < 14) (hw : ∀ i, i < D.2.1 → σ.1 kr i = nI (w i)) :
    zM (d + 2) m_Te_tally [.ref 31, .int (nI a), .int t, .ref kr] σ (fun v τ => v = none ∧ zx [3, 4, 5] σ τ ∧ zTal D a t w D.2.1 τ) := by
  have h4 := hd.1
  have h24 := hd.2.1
  have hkI : ze_isI kr = true := by rcases (show kr = 10 ∨ kr = 11 ∨ kr = 12 ∨ kr = 13 by omega) with h | h | h | h <;> subst h <;> rfl
  have hk24 : ze_len kr = 24 := by rcases (show kr = 10 ∨ kr = 11 ∨ kr = 12 ∨ kr = 13 by omega) with h | h | h | h <;> subst h <;> rfl
  refine zM_in t_Te_tally [some (.ref 31), some (.int (nI a)), some (.int t), some (.ref kr), none, none, none, none] rfl rfl ?_
  have loop : ∀ m j (o5 o6 o7 : Option Value) τ, j + m = D.2.1 → zx [3, 4, 5] σ τ → zTal D a t w j τ → zE (d + 1) t_Te_tally (fun v τ => v = none ∧ zx [3, 4, 5] σ τ ∧ zTal D a t w D.2.1 τ) (27, [some (.ref 31), some (.int (nI a)), some (.int t), some (.ref kr), some (.int (nI j)), o5, o6, o7], [], τ) := by
    intro m
    induction m with
    | zero =>
      intro j o5 o6 o7 τ hj hx hT
      have hB2 : zB τ D := zB_x hB hx (by decide)
      iterate 2 (refine ze_go1 rfl ?_)
      iterate 2 (refine ze_go2 rfl rfl ?_)
      refine ze_brT rfl (by rw [hB2.2.1]; exact nI_le (by omega) (by omega)) ?_
      refine ze_rt1 rfl trivial ⟨rfl, hx, ?_⟩
      rw [← show j = D.2.1 by omega]
      exact hT
    | succ m ih =>
      intro j o5 o6 o7 τ hj hx hT
      have hj1 : j < D.2.1 := by omega
      have hB2 : zB τ D := zB_x hB hx (by decide)
      have hrow : ∀ υ, zx [3, 4, 5] σ υ → υ.1 kr (nI j).toNatClampNeg = nI (w j) := fun υ hυ => by
        rw [(hυ kr (by simp; omega)).1, nI_clamp (by omega), hw j hj1]
      have hin : vp_in (nI j) (ze_len kr) := by rw [hk24]; exact vp_in_nI (by omega) (by omega)
      have e1 : τ.1 1 (nI j).toNatClampNeg = nI (D.2.2.2.1 j) := by rw [nI_clamp (by omega), hB2.2.2.2.1 j hj1]
      have hty := hd.2.2.2.1 j hj1
      iterate 2 (refine ze_go1 rfl ?_)
      iterate 2 (refine ze_go2 rfl rfl ?_)
      refine ze_brF rfl (by rw [hB2.2.1]; exact nI_ge (by omega) (by omega)) ?_
      refine ze_go1 rfl ?_
      refine ze_go2 rfl rfl ?_
      iterate 2 (refine ze_go1 rfl ?_)
      refine ze_ca1 rfl ⟨rfl, rfl⟩ (e_valueOf hd hB2 hj1 (show a < 4 by omega)) (fun v υ h => ?_)
      obtain ⟨rfl, rfl⟩ := h
      iterate 2 (refine ze_go1 rfl ?_)
      iterate 2 (refine ze_go2 rfl rfl ?_)
      refine ze_go1 rfl ?_
      refine ze_go2 rfl ⟨rfl, vp_in_nI (N := 24) (by omega) (by omega)⟩ ?_
      rw [e1]
      iterate 3 (refine ze_go1 rfl ?_)
      rcases zval hd hj1 ha with ⟨c, cu⟩ | ⟨c, cu, -⟩
      · refine ze_brF rfl (fun q => q c) ?_
        refine ze_go1 rfl ?_
        refine ze_go2 rfl rfl ?_
        refine ze_go1 rfl ?_
        refine ze_go2 rfl ⟨rfl, rfl⟩ ?_
        refine ze_go2 rfl ⟨rfl, vp_in_nI (n := 4) (N := 5) (by decide) (by decide)⟩ ?_
        iterate 2 (refine ze_go1 rfl ?_)
        refine ze_go2 rfl ⟨hkI, hin⟩ ?_
        rw [hrow υ hx]
        refine ze_go1 rfl ?_
        refine ze_go2 rfl ⟨rfl, vp_in_nI (n := 4) (N := 5) (by decide) (by decide)⟩ ?_
        have h := ih (j + 1) (some (.int (D.2.2.2.2 j a))) (some (.int (nI (D.2.2.2.1 j)))) o7 _ (by omega) (zx_tr hx (zx_ui (by decide) _ _ _)) (zTal_u hT cu)
        rw [← show nI j + 1 = nI (j + 1) from nI_1 _] at h
        iterate 3 (refine ze_go1 rfl ?_)
        rw [show (4 : Int32).toNatClampNeg = 4 from rfl, hT.2.1]
        exact h
      · obtain ⟨b1, b2, b3⟩ := zbf hd hj1 ha ht cu
        have hb4 : zm_br (D.2.2.1 a) t (D.2.2.2.2 j a) < 4 := by omega
        refine ze_brT rfl c ?_
        iterate 2 (refine ze_go1 rfl ?_)
        refine ze_ca1 rfl rfl e_branchFor (fun v ρ h => ?_)
        obtain ⟨rfl, rfl⟩ := h
        rw [b1]
        have eb : (nI (zm_br (D.2.2.1 a) t (D.2.2.2.2 j a))).toNatClampNeg = zm_br (D.2.2.1 a) t (D.2.2.2.2 j a) := nI_clamp (by omega)
        have et : (nI (D.2.2.2.1 j)).toNatClampNeg = D.2.2.2.1 j := nI_clamp (by omega)
        have h := ih (j + 1) (some (.int (D.2.2.2.2 j a))) (some (.int (nI (D.2.2.2.1 j)))) (some (.int (nI (zm_br (D.2.2.1 a) t (D.2.2.2.2 j a))))) _ (by omega) (zx_tr hx (zx_tr (zx_tr (zx_ui (by decide) _ _ _) (zx_ui (by decide) _ _ _)) (zx_ui (by decide) _ _ _))) (zTal_k hT cu rfl rfl hb4 hty)
        rw [← show nI j + 1 = nI (j + 1) from nI_1 _] at h
        iterate 2 (refine ze_go1 rfl ?_)
        refine ze_go2 rfl rfl ?_
        refine ze_go1 rfl ?_
        refine ze_go2 rfl ⟨rfl, rfl⟩ ?_
        refine ze_go2 rfl ⟨rfl, vp_in_nI (N := 5) (by omega) (by omega)⟩ ?_
        iterate 2 (refine ze_go1 rfl ?_)
        refine ze_go2 rfl ⟨hkI, hin⟩ ?_
        rw [hrow ρ hx]
        refine ze_go1 rfl ?_
        refine ze_go2 rfl ⟨rfl, vp_in_nI (N := 5) (by omega) (by omega)⟩ ?_
        rw [eb, hT.1 _ hb4]
        have x1 : zx [3, 4, 5] σ (ze_ui ρ 5 (zm_br (D.2.2.1 a) t (D.2.2.2.2 j a)) (nI (zm_pt (D.2.2.1 a) t (fun i => D.2.2.2.2 i a) w j (zm_br (D.2.2.1 a) t (D.2.2.2.2 j a))) + nI (w j))) := zx_tr hx (zx_ui (by decide) _ _ _)
        refine ze_go1 rfl ?_
        refine ze_go2 rfl rfl ?_
        refine ze_go1 rfl ?_
        refine ze_go2 rfl ⟨rfl, rfl⟩ ?_
        refine ze_go2 rfl ⟨rfl, vp_in_nI (N := 3) (by omega) (by omega)⟩ ?_
        iterate 2 (refine ze_go1 rfl ?_)
        refine ze_go2 rfl ⟨hkI, hin⟩ ?_
        rw [hrow _ x1]
        refine ze_go1 rfl ?_
        refine ze_go2 rfl ⟨rfl, vp_in_nI (N := 3) (by omega) (by omega)⟩ ?_
        rw [et, zui_o _ _ _ _ (show (3 : Nat) ≠ 5 by decide), hT.2.2.1 _ hty]
        have x2 : zx [3, 4, 5] σ (ze_ui (ze_ui ρ 5 (zm_br (D.2.2.1 a) t (D.2.2.2.2 j a)) (nI (zm_pt (D.2.2.1 a) t (fun i => D.2.2.2.2 i a) w j (zm_br (D.2.2.1 a) t (D.2.2.2.2 j a))) + nI (w j))) 3 (D.2.2.2.1 j) (nI (zm_kc (fun i => D.2.2.2.2 i a) D.2.2.2.1 w j (D.2.2.2.1 j)) + nI (w j))) := zx_tr x1 (zx_ui (by decide) _ _ _)
        refine ze_go1 rfl ?_
        refine ze_go2 rfl rfl ?_
        iterate 5 (refine ze_go1 rfl ?_)
        refine ze_go2 rfl ⟨rfl, rfl⟩ ?_
        rw [zi3]
        refine ze_go2 rfl ⟨rfl, vp_in_nI (N := 12) (by omega) (by omega)⟩ ?_
        iterate 2 (refine ze_go1 rfl ?_)
        refine ze_go2 rfl ⟨hkI, hin⟩ ?_
        rw [hrow _ x2]
        refine ze_go1 rfl ?_
        refine ze_go2 rfl ⟨rfl, vp_in_nI (N := 12) (by omega) (by omega)⟩ ?_
        rw [nI_clamp (n := 3 * zm_br (D.2.2.1 a) t (D.2.2.2.2 j a) + D.2.2.2.1 j) (by omega), zui_o _ _ _ _ (show (4 : Nat) ≠ 3 by decide), zui_o _ _ _ _ (show (4 : Nat) ≠ 5 by decide), hT.2.2.2 _ hb4 _ hty]
        iterate 2 (refine ze_go1 rfl ?_)
        exact h
  refine ze_go1 rfl ?_
  refine ze_go2 rfl rfl ?_
  refine ze_go1 rfl ?_
  refine ze_ca1 rfl rfl (e_fill (k := 3) rfl) (fun v τ1 h1 => ?_)
  obtain ⟨rfl, x1, f1⟩ := h1
  refine ze_go1 rfl ?_
  refine ze_go2 rfl rfl ?_
  refine ze_go1 rfl ?_
  refine ze_ca1 rfl rfl (e_fill (k := 4) rfl) (fun v τ2 h2 => ?_)
  obtain ⟨rfl, x2, f2⟩ := h2
  refine ze_go1 rfl ?_
  refine ze_go2 rfl rfl ?_
  refine ze_go1 rfl ?_
  refine ze_ca1 rfl rfl (e_fill (k := 5) rfl) (fun v τ3 h3 => ?_)
  obtain ⟨rfl, x3, f3⟩ := h3
  iterate 2 (refine ze_go1 rfl ?_)
  refine loop D.2.1 0 none none none τ3 (by omega) (zx_tr (zx_tr (zx_wk x1 (by decide)) (zx_wk x2 (by decide))) (zx_wk x3 (by decide))) ⟨fun b hb => f3 b (by show b < 5; omega), f3 4 (by decide), fun c hc => ?_, fun b hb c hc => ?_⟩
  · rw [(x3 3 (by decide)).1, (x2 3 (by decide)).1]
    exact f1 c hc
  · rw [(x3 4 (by decide)).1]
    exact f2 (3 * b + c) (by show 3 * b + c < 12; omega)
