def zpo (D : zD) (w : Nat → Nat) (x c : Nat) : Nat := if zm_s (zcw D w) 3 = 0 then 0 else x * zcw D w c / zm_s (zcw D w) 3
def zgl (D : zD) (w : Nat → Nat) (ty x c : Nat) : Nat := zpo D w x c + if c = ty then x - zm_s (zpo D w x) 3 else 0
def zgv (D : zD) (vs : Nat → Int32) : Nat → (Nat → Nat) → zTr → Nat → Nat → Nat
  | 0, w, T, x, c => zgl D w (T.2 []) x c
  | f + 1, w, T, x, c => match T.1 [] with
    | none => zgl D w (T.2 []) x c
    | some q => zm_s (fun b => zgv D vs f (zsd D q.1 q.2 w b) (zsub T b) (zm_ps (D.2.2.1 q.1) q.2 (zpt D q.1 q.2 w) (zm_s (zpt D q.1 q.2 w) 4) (zm_fg (zpt D q.1 q.2 w) 4) x (vs q.1) b) c) (zm_nb (D.2.2.1 q.1))
theorem zpo_sum {D : zD} {w : Nat → Nat} {x : Nat} : ∀ {j : Nat}, j ≤ 3 → zm_s (zpo D w x) j ≤ x := by
  intro j hj
  by_cases c : zm_s (zcw D w) 3 = 0
  · have : zm_s (zpo D w x) j = 0 := zm_s_0 fun i _ => if_pos c
    omega
  · have h : ∀ j, zm_s (zpo D w x) j ≤ x * zm_s (zcw D w) j / zm_s (zcw D w) 3 := by
      intro j
      induction j with
      | zero => exact Nat.zero_le _
      | succ j ih =>
        have e : zpo D w x j = x * zcw D w j / zm_s (zcw D w) 3 := if_neg c
        have e2 : x * zm_s (zcw D w) (j + 1) = x * zm_s (zcw D w) j + x * zcw D w j := Nat.mul_add _ _ _
        have h2 := zm_dv (x * zm_s (zcw D w) j) (x * zcw D w j) (zm_s (zcw D w) 3)
        show zm_s (zpo D w x) j + zpo D w x j ≤ _
        rw [e, e2]
        exact Nat.le_trans (Nat.add_le_add_right ih _) h2
    exact Nat.le_trans (h j) (Nat.div_le_of_le_mul (by rw [Nat.mul_comm]; exact Nat.mul_le_mul (zm_s_mono _ hj) (Nat.le_refl x)))
set_option maxRecDepth 20000 in
set_option maxHeartbeats 1000000 in
theorem e_shareOut {d : Nat} {σ : ze_S} {D : zD} {pl x ty : Nat} {w g : Nat → Nat} (hd : zdok D) (hw : ∀ i, i < D.2.1 → w i ≤ 720) (hp : pl < 85) (hx : x ≤ 720) (h18 : σ.1 18 pl = nI ty) (hty : ty < 3) (h19 : ∀ c, c < 3 → σ.1 19 (3 * pl + c) = nI (zcw D w c)) (hg : ∀ c, c < 3 → σ.1 24 c = nI (g c)) :
    zM (d + 3) m_Ju_shareOut [.ref 34, .int (nI pl), .int (nI x)] σ (fun v τ => v = none ∧ zx [24] σ τ ∧ ∀ c, c < 3 → τ.1 24 c = nI (g c + zgl D w ty x c)) := by
  have hW : zm_s (zcw D w) 3 ≤ 17280 := by rw [zcw_sum hd]; exact zm_w_le hd.2.1 hw
  refine zM_in t_Ju_shareOut [some (.ref 34), some (.int (nI pl)), some (.int (nI x)), none, none, none, none] rfl rfl ?_
  refine ze_go1 rfl ?_
  refine ze_go2 rfl rfl ?_
  refine ze_go1 rfl ?_
  refine ze_ca1 rfl ⟨rfl, rfl⟩ (e_total hp h19) (fun v τ0 h => ?_)
  obtain ⟨rfl, rfl⟩ := h
  have fin : ∀ τ (o5 o6 : Option Value) (L : Nat), zx [24] τ0 τ → L = x - zm_s (zpo D w x) 3 → (∀ c, c < 3 → τ.1 24 c = nI (g c + zpo D w x c)) → zE (d + 2) t_Ju_shareOut (fun v τ => v = none ∧ zx [24] τ0 τ ∧ ∀ c, c < 3 → τ.1 24 c = nI (g c + zgl D w ty x c)) (70, [some (.ref 34), some (.int (nI pl)), some (.int (nI x)), some (.int (nI (zm_s (zcw D w) 3))), some (.int (nI L)), o5, o6], [], τ) := by
    intro τ o5 o6 L hz hL hs
    refine ze_go1 rfl ?_
    refine ze_go2 rfl rfl ?_
    refine ze_go1 rfl ?_
    iterate 2 (refine ze_go2 rfl rfl ?_)
    refine ze_go1 rfl ?_
    refine ze_go2 rfl ⟨rfl, vp_in_nI (N := 85) hp (by decide)⟩ ?_
    rw [nI_clamp (n := pl) (by omega), (hz 18 (by simp)).1, h18]
    refine ze_go2 rfl ⟨rfl, rfl⟩ ?_
    refine ze_go2 rfl ⟨rfl, vp_in_nI (N := 3) hty (by decide)⟩ ?_
    rw [nI_clamp (n := ty) (by omega), hs ty hty]
    iterate 2 (refine ze_go1 rfl ?_)
    refine ze_go2 rfl ⟨rfl, vp_in_nI (N := 3) hty (by decide)⟩ ?_
    rw [nI_clamp (n := ty) (by omega), nI_add]
    refine ze_rt1 rfl trivial ⟨rfl, zx_tr hz (zx_ui (by simp) _ _ _), fun c hc => ?_⟩
    unfold zgl
    by_cases q : c = ty
    · rw [q, zui, if_pos rfl, hL, Nat.add_assoc]
    · rw [zui_n _ _ _ _ q, if_neg q, hs c hc]
      rfl
  by_cases c0 : zm_s (zcw D w) 3 = 0
  · iterate 7 (refine ze_go1 rfl ?_)
    refine ze_brF rfl (by decide) ?_
    refine ze_go1 rfl ?_
    refine ze_brT rfl (by rw [c0]; exact Int32.le_refl _) ?_
    have z : ∀ j, zm_s (zpo D w x) j = 0 := fun j => zm_s_0 fun i _ => if_pos c0
    refine fin τ0 _ _ x (zx_rf _ _) (by rw [z]; omega) (fun c hc => ?_)
    rw [hg c hc, show zpo D w x c = 0 from if_pos c0]
    rfl
  · have loop : ∀ m j (o : Option Value) τ, j + m = 3 → zx [24] τ0 τ → (∀ c, c < 3 → τ.1 24 c = nI (g c + if c < j then zpo D w x c else 0)) → zE (d + 2) t_Ju_shareOut (fun v τ => v = none ∧ zx [24] τ0 τ ∧ ∀ c, c < 3 → τ.1 24 c = nI (g c + zgl D w ty x c)) (15, [some (.ref 34), some (.int (nI pl)), some (.int (nI x)), some (.int (nI (zm_s (zcw D w) 3))), some (.int (nI (x - zm_s (zpo D w x) j))), some (.int (nI j)), o], [], τ) := by
      intro m
      induction m with
      | zero =>
        intro j o τ hj hz hs
        have ej : j = 3 := by omega
        subst ej
        iterate 2 (refine ze_go1 rfl ?_)
        refine ze_brT rfl (by decide) ?_
        refine fin τ _ _ _ hz rfl (fun c hc => ?_)
        rw [hs c hc, if_pos hc]
      | succ m ih =>
        intro j o τ hj hz hs
        have hj3 : j < 3 := by omega
        have hcw : zcw D w j ≤ 17280 := Nat.le_trans (zm_s_pos hj3) hW
        have hxc : x * zcw D w j ≤ 12441600 := Nat.le_trans (Nat.mul_le_mul hx hcw) (by decide)
        have e : zpo D w x j = x * zcw D w j / zm_s (zcw D w) 3 := if_neg c0
        have hs1 := zpo_sum (D := D) (w := w) (x := x) (j := j + 1) (by omega)
        have hs0 : zm_s (zpo D w x) (j + 1) = zm_s (zpo D w x) j + zpo D w x j := rfl
        iterate 2 (refine ze_go1 rfl ?_)
        refine ze_brF rfl (nI_ge (b := 3) hj3 (by decide)) ?_
        refine ze_go1 rfl ?_
        refine ze_brF rfl (nI_nle (by omega) (by omega)) ?_
        iterate 2 (refine ze_go1 rfl ?_)
        iterate 2 (refine ze_go2 rfl rfl ?_)
        iterate 5 (refine ze_go1 rfl ?_)
        rw [zi3]
        refine ze_go2 rfl ⟨rfl, vp_in_nI (N := 255) (by omega) (by decide)⟩ ?_
        rw [nI_clamp (n := 3 * pl + j) (by omega), (hz 19 (by simp)).1, h19 j hj3]
        iterate 2 (refine ze_go1 rfl ?_)
        rw [pk_mul]
        refine ze_go2 rfl (nI_ne0 (by omega) (by omega)) ?_
        rw [pk_div (by omega) (by omega) (by omega), ← e]
        iterate 2 (refine ze_go1 rfl ?_)
        refine ze_go2 rfl rfl ?_
        refine ze_go1 rfl ?_
        refine ze_go2 rfl ⟨rfl, rfl⟩ ?_
        refine ze_go2 rfl ⟨rfl, vp_in_nI (N := 3) hj3 (by decide)⟩ ?_
        rw [nI_clamp (n := j) (by omega), hs j hj3, if_neg (Nat.lt_irrefl j), Nat.add_zero]
        iterate 2 (refine ze_go1 rfl ?_)
        refine ze_go2 rfl ⟨rfl, vp_in_nI (N := 3) hj3 (by decide)⟩ ?_
        rw [nI_clamp (n := j) (by omega), nI_add]
        have h := ih (j + 1) (some (.int (nI (zpo D w x j)))) (ze_ui τ 24 j (nI (g j + zpo D w x j))) (by omega) (zx_tr hz (zx_ui (by simp) _ _ _)) (fun c hc => by
          by_cases q : c = j
          · rw [q, zui, if_pos (Nat.lt_succ_self _)]
          · rw [zui_n _ _ _ _ q, hs c hc]
            by_cases q2 : c < j
            · rw [if_pos q2, if_pos (by omega)]
            · rw [if_neg q2, if_neg (by omega)])
        rw [← show nI j + 1 = nI (j + 1) from nI_1 _] at h
        iterate 6 (refine ze_go1 rfl ?_)
        rw [pk_sub (by omega), show x - zm_s (zpo D w x) j - zpo D w x j = x - zm_s (zpo D w x) (j + 1) by omega]
        exact h
    iterate 5 (refine ze_go1 rfl ?_)
    have h := loop 3 0 none τ0 rfl (zx_rf _ _) (fun c hc => by rw [hg c hc, if_neg (Nat.not_lt_zero _)]; rfl)
    rw [show x - zm_s (zpo D w x) 0 = x from Nat.sub_zero x] at h
    exact h
theorem zvb_fit {D : zD} (hd : zdok D) {vs : Nat → Int32} {a : Nat} {t : Int32} (hf : zfit D vs) (ha : a < D.1) (ht : zth D a t) : zvb (D.2.2.1 a) t (vs a) := by
  obtain ⟨h1, h2⟩ := hf a ha
  have hz := zlim_lt hd ha
  have hk := hd.2.2.1 a ha
  by_cases c : 0 ≤ vs a
  · obtain ⟨v, hv, ev⟩ := nI_of (x := vs a) (Int32.not_lt.mpr c)
    have hvl : v < zlim (D.2.2.1 a) := by
      rw [ev] at h2
      exact (nI_ltI hv (by omega)).mp h2
    refine Or.inr ⟨?_, c, ?_⟩
    · rw [ev]
      intro q
      have h3 := nI_toInt (n := v) hv
      rw [q] at h3
      have h4 : (-1 : Int32).toInt = -1 := by decide
      omega
    · by_cases c0 : D.2.2.1 a = 0
      · have e2 : zm_br (D.2.2.1 a) t (vs a) = if vs a ≤ t then 0 else 1 := if_pos c0
        rw [e2, if_neg (ht.1 c0)]
        refine ⟨?_, ?_⟩
        · split <;> rfl
        · split <;> decide
      · have e2 : zm_br (D.2.2.1 a) t (vs a) = (vs a).toNatClampNeg := if_neg c0
        rw [show zlim (D.2.2.1 a) = D.2.2.1 a from if_neg c0] at hvl
        rw [e2, if_pos (ht.2 c0), ev, nI_clamp (by omega)]
        exact ⟨rfl, by omega⟩
  · refine Or.inl ⟨?_, c⟩
    have a1 := Int32.le_iff_toInt_le.mp h1
    have a2 : ¬ (0 : Int32).toInt ≤ (vs a).toInt := fun z => c (Int32.le_iff_toInt_le.mpr z)
    have a3 : (-1 : Int32).toInt = -1 := by decide
    have a4 : (0 : Int32).toInt = 0 := by decide
    exact Int32.toInt_inj.mp (by omega)
def zJS (dp k : Nat) : Prop := k = 24 ∨ (39 + dp ≤ k ∧ k < 43) ∨ (6 + dp ≤ k ∧ k < 10)
theorem zm_ps0 {k : Nat} {t : Int32} {p : Nat → Nat} {K h : Nat} {y : Int32} {b : Nat} : zm_ps k t p K h 0 y b = 0 := by
  unfold zm_ps
  split
  · split <;> rfl
  · split
    · split <;> rfl
    · split
      · omega
      · simp
theorem zgv_0 {D : zD} {vs : Nat → Int32} : ∀ {f : Nat} {w : Nat → Nat} {T : zTr} {c : Nat}, zgv D vs f w T 0 c = 0
  | 0, w, T, c => by
    show zgl D w (T.2 []) 0 c = 0
    unfold zgl zpo
    split <;> simp
  | f + 1, w, T, c => by
    unfold zgv
    cases T.1 [] with
    | none =>
      show zgl D w (T.2 []) 0 c = 0
      unfold zgl zpo
      split <;> simp
    | some q =>
      refine zm_s_0 fun b _ => ?_
      show zgv D vs f _ _ (zm_ps _ _ _ _ _ 0 _ b) c = 0
      rw [zm_ps0]
      exact zgv_0
