theorem zk_fo {k : Nat} (hk : 39 ≤ k ∧ k < 43) : ze_cl k = 3 := by
  rcases (show k = 39 ∨ k = 40 ∨ k = 41 ∨ k = 42 by omega) with h | h | h | h <;> subst h <;> rfl
theorem zk_fp {k : Nat} (hk : 6 ≤ k ∧ k < 10) : ze_isI k = true ∧ ze_len k = 4 := by
  rcases (show k = 6 ∨ k = 7 ∨ k = 8 ∨ k = 9 by omega) with h | h | h | h <;> subst h <;> exact ⟨rfl, rfl⟩
theorem zm_s_mono (f : Nat → Nat) : ∀ {n m : Nat}, n ≤ m → zm_s f n ≤ zm_s f m := by
  intro n m h
  induction h with
  | refl => exact Nat.le_refl _
  | step _ ih => exact Nat.le_trans ih (Nat.le_add_right _ _)
def zFk (σ : ze_S) (dp a : Nat) (t : Int32) (nb : Nat) (p : Nat → Nat) : Prop := σ.1 (39 + dp) 1 = nI a ∧ σ.1 (39 + dp) 2 = t ∧ σ.1 (39 + dp) 3 = nI nb ∧ σ.1 (39 + dp) 4 = nI (zm_s p 4) ∧ σ.1 (39 + dp) 5 = nI (zm_fg p 4) ∧ ∀ b, b < 4 → σ.1 (6 + dp) b = nI (p b)
theorem zFk_eq {σ τ : ze_S} {dp a nb : Nat} {t : Int32} {p : Nat → Nat} (h : zFk σ dp a t nb p) (h1 : τ.1 (39 + dp) = σ.1 (39 + dp)) (h2 : τ.1 (6 + dp) = σ.1 (6 + dp)) : zFk τ dp a t nb p := by
  unfold zFk
  rw [h1, h2]
  exact h
theorem e_setTest {d : Nat} {σ : ze_S} {dp : Nat} {a t b : Int32} (hdp : dp < 4) :
    zM (d + 2) m_Fo_setTest [.ref (39 + dp), .int a, .int t, .int b] σ (fun v τ => v = none ∧ zx [39 + dp, 6 + dp] σ τ ∧ τ.1 (39 + dp) 1 = a ∧ τ.1 (39 + dp) 2 = t ∧ τ.1 (39 + dp) 3 = b ∧ ∀ j, j < 4 → τ.1 (6 + dp) j = 0) := by
  have hkf : ze_cl (39 + dp) = 3 := zk_fo (by omega)
  obtain ⟨hI, hlen⟩ := zk_fp (k := 6 + dp) (by omega)
  refine zM_in t_Fo_setTest [some (.ref (39 + dp)), some (.int a), some (.int t), some (.int b)] rfl rfl ?_
  iterate 2 (refine ze_go1 rfl ?_)
  refine ze_go2 rfl (by first | rfl | exact hkf) ?_
  iterate 2 (refine ze_go1 rfl ?_)
  refine ze_go2 rfl (by first | rfl | exact hkf) ?_
  iterate 2 (refine ze_go1 rfl ?_)
  refine ze_go2 rfl (by first | rfl | exact hkf) ?_
  refine ze_go1 rfl ?_
  refine ze_go2 rfl (by first | rfl | exact hkf) ?_
  refine ze_go1 rfl ?_
  rw [show 39 + dp - 33 = 6 + dp by omega]
  refine ze_ca1 rfl rfl (e_fill hI) (fun v τ h => ?_)
  obtain ⟨rfl, x, f⟩ := h
  have e : τ.1 (39 + dp) = (ze_ui (ze_ui (ze_ui σ (39 + dp) 1 a) (39 + dp) 2 t) (39 + dp) 3 b).1 (39 + dp) := (x (39 + dp) (by simp <;> omega)).1
  refine ze_rt1 rfl trivial ⟨rfl, zx_tr (zx_tr (zx_tr (zx_ui (by simp) _ _ _) (zx_ui (by simp) _ _ _)) (zx_ui (by simp) _ _ _)) (zx_wk x (by simp)), ?_, ?_, ?_, fun j hj => f j (by omega)⟩
  · rw [e, zui_n _ _ _ _ (by decide), zui_n _ _ _ _ (by decide), zui]
  · rw [e, zui_n _ _ _ _ (by decide), zui]
  · rw [e, zui]
theorem e_settle {d : Nat} {σ : ze_S} {dp : Nat} {p : Nat → Nat} (hdp : dp < 4) (hp : ∀ b, b < 4 → σ.1 (6 + dp) b = nI (p b)) (hpb : ∀ b, b < 4 → p b < 2 ^ 31) :
    zM (d + 2) m_Fo_settleParts [.ref (39 + dp)] σ (fun v τ => v = none ∧ zx [39 + dp] σ τ ∧ τ.1 (39 + dp) 1 = σ.1 (39 + dp) 1 ∧ τ.1 (39 + dp) 2 = σ.1 (39 + dp) 2 ∧ τ.1 (39 + dp) 3 = σ.1 (39 + dp) 3 ∧ τ.1 (39 + dp) 4 = nI (zm_s p 4) ∧ τ.1 (39 + dp) 5 = nI (zm_fg p 4)) := by
  have hkf : ze_cl (39 + dp) = 3 := zk_fo (by omega)
  obtain ⟨hI, hlen⟩ := zk_fp (k := 6 + dp) (by omega)
  refine zM_in t_Fo_settleParts [some (.ref (39 + dp))] rfl rfl ?_
  iterate 2 (refine ze_go1 rfl ?_)
  refine ze_go2 rfl (by first | rfl | exact hkf) ?_
  iterate 2 (refine ze_go1 rfl ?_)
  rw [show 39 + dp - 33 = 6 + dp by omega]
  refine ze_ca1 rfl rfl (e_sum (a := 0) (n := 4) (f := p) hI (by omega) (fun i hi => by rw [Nat.zero_add]; exact hp i hi)) (fun v τ h => ?_)
  obtain ⟨rfl, rfl⟩ := h
  refine ze_go2 rfl (by first | rfl | exact hkf) ?_
  iterate 2 (refine ze_go1 rfl ?_)
  refine ze_go2 rfl (by first | rfl | exact hkf) ?_
  iterate 2 (refine ze_go1 rfl ?_)
  rw [show 39 + dp - 33 = 6 + dp by omega]
  refine ze_ca1 rfl rfl (e_fg (a := 0) (n := 4) (f := p) (by decide) hI (by omega) (fun i hi => by rw [Nat.zero_add, zui_o _ _ _ _ (by omega)]; exact hp i hi) hpb) (fun v υ h => ?_)
  obtain ⟨rfl, rfl⟩ := h
  refine ze_go2 rfl (by first | rfl | exact hkf) ?_
  refine ze_rt1 rfl trivial ⟨rfl, zx_tr (zx_ui (by simp) _ _ _) (zx_ui (by simp) _ _ _), ?_, ?_, ?_, ?_, ?_⟩
  · rw [zui_n _ _ _ _ (by decide), zui_n _ _ _ _ (by decide)]
  · rw [zui_n _ _ _ _ (by decide), zui_n _ _ _ _ (by decide)]
  · rw [zui_n _ _ _ _ (by decide), zui_n _ _ _ _ (by decide)]
  · rw [zui_n _ _ _ _ (by decide), zui]
  · rw [zui]
/-- a value with its branch -/
def zvb (k : Nat) (t y : Int32) : Prop := (y = -1 ∧ ¬ 0 ≤ y) ∨ (¬ y = -1 ∧ 0 ≤ y ∧ (if t = -1 then y else if y ≤ t then 0 else 1) = nI (zm_br k t y) ∧ zm_br k t y < 4)
set_option maxRecDepth 20000 in
set_option maxHeartbeats 1000000 in
theorem e_passed {d : Nat} {σ : ze_S} {dp a k x b : Nat} {t y : Int32} {p : Nat → Nat} (hdp : dp < 4) (hF : zFk σ dp a t (zm_nb k) p) (hk : zm_nb k ≤ 4) (hK : zm_s p 4 ≤ 17280) (hx : x ≤ 720) (hy : zvb k t y) (hb : b < zm_nb k) :
    zM (d + 2) m_Fo_passed [.ref (39 + dp), .int (nI x), .int y, .int (nI b)] σ (fun v τ => v = some (.int (nI (zm_ps k t p (zm_s p 4) (zm_fg p 4) x y b))) ∧ τ = σ) := by
  have hkf : ze_cl (39 + dp) = 3 := zk_fo (by omega)
  obtain ⟨hI, hlen⟩ := zk_fp (k := 6 + dp) (by omega)
  obtain ⟨f1, f2, f3, f4, f5, f6⟩ := hF
  have hpb : ∀ j, j < 4 → p j ≤ 17280 := fun j hj => Nat.le_trans (zm_s_pos (f := p) hj) hK
  have hxp : ∀ j, j < 4 → x * p j ≤ 12441600 := fun j hj => Nat.le_trans (Nat.mul_le_mul hx (hpb j hj)) (by decide)
  have hfg : zm_fg p 4 < 4 := zm_fg_lt p 3
  refine zM_in t_Fo_passed [some (.ref (39 + dp)), some (.int (nI x)), some (.int y), some (.int (nI b)), none, none] rfl rfl ?_
  iterate 2 (refine ze_go1 rfl ?_)
  rcases hy with ⟨c, c0⟩ | ⟨c, c0, c1, c2⟩
  · refine ze_brT rfl c ?_
    refine ze_go1 rfl ?_
    refine ze_go2 rfl (by first | rfl | exact hkf) ?_
    rw [f4]
    have e0 : zm_ps k t p (zm_s p 4) (zm_fg p 4) x y b = if zm_s p 4 = 0 then (if b = 0 then x else 0) else if b = zm_fg p 4 then x - zm_qs p (zm_s p 4) (zm_fg p 4) x (zm_nb k) else x * p b / zm_s p 4 := if_neg c0
    rw [e0]
    by_cases z : zm_s p 4 = 0
    · refine ze_brF rfl (by rw [z]; exact fun q => q rfl) ?_
      rw [if_pos z]
      refine ze_go1 rfl ?_
      by_cases zb : b = 0
      · refine ze_brF rfl (by rw [zb]; exact fun q => q rfl) ?_
        rw [if_pos zb]
        iterate 2 (refine ze_go1 rfl ?_)
        exact ze_rt1 rfl trivial ⟨rfl, rfl⟩
      · refine ze_brT rfl (nI_ne0 (by omega) (by omega)) ?_
        rw [if_neg zb]
        refine ze_go1 rfl ?_
        exact ze_rt1 rfl trivial ⟨rfl, rfl⟩
    · refine ze_brT rfl (nI_ne0 (by omega) (by omega)) ?_
      rw [if_neg z]
      iterate 2 (refine ze_go1 rfl ?_)
      refine ze_go2 rfl (by first | rfl | exact hkf) ?_
      rw [f5]
      by_cases zh : b = zm_fg p 4
      · refine ze_brT rfl (by rw [zh]) ?_
        rw [if_pos zh]
        have hq : ∀ j, j ≤ 4 → zm_qs p (zm_s p 4) (zm_fg p 4) x j ≤ x := fun j hj => zm_qs_x (zm_s_mono p hj)
        have loop : ∀ m j, j + m = zm_nb k → zE (d + 1) t_Fo_passed (fun v τ => v = some (.int (nI (x - zm_qs p (zm_s p 4) (zm_fg p 4) x (zm_nb k)))) ∧ τ = σ) (68, [some (.ref (39 + dp)), some (.int (nI x)), some (.int y), some (.int (nI b)), some (.int (nI (x - zm_qs p (zm_s p 4) (zm_fg p 4) x j))), some (.int (nI j))], [], σ) := by
          intro m
          induction m with
          | zero =>
            intro j hj
            iterate 2 (refine ze_go1 rfl ?_)
            refine ze_go2 rfl (by first | rfl | exact hkf) ?_
            rw [f3]
            refine ze_brT rfl (nI_le (by omega) (by omega)) ?_
            refine ze_go1 rfl ?_
            refine ze_rt1 rfl trivial ⟨?_, rfl⟩
            rw [show j = zm_nb k by omega]
          | succ m ih =>
            intro j hj
            have h := ih (j + 1) (by omega)
            rw [show zm_qs p (zm_s p 4) (zm_fg p 4) x (j + 1) = if j = zm_fg p 4 then zm_qs p (zm_s p 4) (zm_fg p 4) x j else zm_qs p (zm_s p 4) (zm_fg p 4) x j + x * p j / zm_s p 4 from rfl, ← show nI j + 1 = nI (j + 1) from nI_1 _] at h
            iterate 2 (refine ze_go1 rfl ?_)
            refine ze_go2 rfl (by first | rfl | exact hkf) ?_
            rw [f3]
            refine ze_brF rfl (nI_ge (by omega) (by omega)) ?_
            iterate 2 (refine ze_go1 rfl ?_)
            refine ze_go2 rfl (by first | rfl | exact hkf) ?_
            rw [f5]
            by_cases zj : j = zm_fg p 4
            · refine ze_brT rfl (by rw [zj]) ?_
              rw [if_pos zj] at h
              iterate 2 (refine ze_go1 rfl ?_)
              exact h
            · refine ze_brF rfl (fun q => zj ((nI_eq (by omega) (by omega)).mp q)) ?_
              rw [if_neg zj] at h
              iterate 3 (refine ze_go1 rfl ?_)
              refine ze_go2 rfl (by first | rfl | exact hkf) ?_
              refine ze_go1 rfl ?_
              rw [show 39 + dp - 33 = 6 + dp by omega]
              refine ze_go2 rfl ⟨hI, by rw [hlen]; exact vp_in_nI (by omega) (by decide)⟩ ?_
              rw [nI_clamp (n := j) (by omega), f6 j (by omega)]
              iterate 2 (refine ze_go1 rfl ?_)
              refine ze_go2 rfl (by first | rfl | exact hkf) ?_
              rw [pk_mul, f4]
              refine ze_go2 rfl (nI_ne0 (by omega) (by omega)) ?_
              have hxj := hxp j (by omega)
              rw [pk_div (by omega) (by omega) (by omega)]
              iterate 4 (refine ze_go1 rfl ?_)
              have hq1 := hq (j + 1) (by omega)
              rw [show zm_qs p (zm_s p 4) (zm_fg p 4) x (j + 1) = if j = zm_fg p 4 then zm_qs p (zm_s p 4) (zm_fg p 4) x j else zm_qs p (zm_s p 4) (zm_fg p 4) x j + x * p j / zm_s p 4 from rfl, if_neg zj] at hq1
              rw [pk_sub (by omega), show x - zm_qs p (zm_s p 4) (zm_fg p 4) x j - x * p j / zm_s p 4 = x - (zm_qs p (zm_s p 4) (zm_fg p 4) x j + x * p j / zm_s p 4) by omega]
              exact h
        iterate 4 (refine ze_go1 rfl ?_)
        exact loop (zm_nb k) 0 (by omega)
      · refine ze_brF rfl (fun q => zh ((nI_eq (by omega) (by omega)).mp q)) ?_
        rw [if_neg zh]
        iterate 2 (refine ze_go1 rfl ?_)
        refine ze_go2 rfl (by first | rfl | exact hkf) ?_
        refine ze_go1 rfl ?_
        rw [show 39 + dp - 33 = 6 + dp by omega]
        refine ze_go2 rfl ⟨hI, by rw [hlen]; exact vp_in_nI (by omega) (by decide)⟩ ?_
        rw [nI_clamp (n := b) (by omega), f6 b (by omega)]
        iterate 2 (refine ze_go1 rfl ?_)
        refine ze_go2 rfl (by first | rfl | exact hkf) ?_
        rw [pk_mul, f4]
        refine ze_go2 rfl (nI_ne0 (by omega) (by omega)) ?_
        have hxj := hxp b (by omega)
        rw [pk_div (by omega) (by omega) (by omega)]
        exact ze_rt1 rfl trivial ⟨rfl, rfl⟩
  · refine ze_brF rfl c ?_
    iterate 2 (refine ze_go1 rfl ?_)
    refine ze_go2 rfl (by first | rfl | exact hkf) ?_
    rw [f2]
    refine ze_ca1 rfl rfl e_branchFor (fun v τ h => ?_)
    obtain ⟨rfl, rfl⟩ := h
    rw [c1]
    refine ze_go1 rfl ?_
    have e0 : zm_ps k t p (zm_s p 4) (zm_fg p 4) x y b = if zm_br k t y = b then x else 0 := if_pos c0
    rw [e0]
    by_cases z : zm_br k t y = b
    · refine ze_brF rfl (by rw [z]; exact fun q => q rfl) ?_
      rw [if_pos z]
      iterate 2 (refine ze_go1 rfl ?_)
      exact ze_rt1 rfl trivial ⟨rfl, rfl⟩
    · refine ze_brT rfl (fun q => z ((nI_eq (by omega) (by omega)).mp q)) ?_
      rw [if_neg z]
      refine ze_go1 rfl ?_
      exact ze_rt1 rfl trivial ⟨rfl, rfl⟩
