def zxp (S : Nat → Prop) (σ τ : ze_S) : Prop := ∀ k, ¬ S k → τ.1 k = σ.1 k ∧ τ.2 k = σ.2 k
theorem zxp_of {l : List Nat} {S : Nat → Prop} {σ τ : ze_S} (h : zx l σ τ) (hs : ∀ k, k ∈ l → S k) : zxp S σ τ := fun k hk => h k (fun q => hk (hs k q))
theorem zxp_rf (S : Nat → Prop) (σ : ze_S) : zxp S σ σ := fun _ _ => ⟨rfl, rfl⟩
theorem zxp_tr {S : Nat → Prop} {σ τ υ : ze_S} (h1 : zxp S σ τ) (h2 : zxp S τ υ) : zxp S σ υ := fun k hk => ⟨(h2 k hk).1.trans (h1 k hk).1, (h2 k hk).2.trans (h1 k hk).2⟩
theorem zxp_wk {S S' : Nat → Prop} {σ τ : ze_S} (h : zxp S σ τ) (hs : ∀ k, S k → S' k) : zxp S' σ τ := fun k hk => h k (fun q => hk (hs k q))
def zpr (f : Nat → Nat) : Nat → Nat
  | 0 => 0
  | c + 1 => if 0 < f c then zpr f c + 1 else zpr f c
theorem zm_fg_2 (f : Nat → Nat) : zm_fg f 2 = if f 0 < f 1 then 1 else 0 := by
  show (if f (zm_fg f 1) < f 1 then 1 else zm_fg f 1) = _
  rw [zm_fg_1]
theorem zpr_iff (f : Nat → Nat) : zpr f 3 ≤ 1 ↔ f (zm_fg f 3) = zm_s f 3 := by
  rw [zm_s3, show zm_fg f 3 = if f (zm_fg f 2) < f 2 then 2 else zm_fg f 2 from rfl, zm_fg_2]
  have e : zpr f 3 = (if 0 < f 2 then (if 0 < f 1 then (if 0 < f 0 then 0 + 1 else 0) + 1 else (if 0 < f 0 then 0 + 1 else 0)) + 1 else (if 0 < f 1 then (if 0 < f 0 then 0 + 1 else 0) + 1 else (if 0 < f 0 then 0 + 1 else 0))) := rfl
  rw [e]
  by_cases h : f 0 < f 1
  · rw [if_pos h]
    by_cases k : f 1 < f 2
    · rw [if_pos k]
      repeat' split
      all_goals omega
    · rw [if_neg k]
      repeat' split
      all_goals omega
  · rw [if_neg h]
    by_cases k : f 0 < f 2
    · rw [if_pos k]
      repeat' split
      all_goals omega
    · rw [if_neg k]
      repeat' split
      all_goals omega
theorem e_hasTooLittle {d : Nat} {σ : ze_S} {f : Nat → Nat} {m : Nat} (hf : ∀ c, c < 3 → σ.1 14 c = nI (f c)) (hfb : zm_s f 3 ≤ 17280) (hm : σ.1 32 4 = nI m) (hm5 : m ≤ 5) :
    zM (d + 2) m_Gr_hasTooLittle [.ref 32] σ (fun v τ => v = some (.int (if zm_s f 3 < 1440 * m ∨ f (zm_fg f 3) = zm_s f 3 then 1 else 0)) ∧ τ = σ) := by
  have hfc : ∀ c, c < 3 → f c ≤ 17280 := fun c hc => Nat.le_trans (zm_s_pos (f := f) hc) hfb
  have hle : ∀ c, zpr f c ≤ c := by
    intro c
    induction c with
    | zero => exact Nat.le_refl _
    | succ c ih =>
      unfold zpr
      split <;> omega
  refine zM_in t_Gr_hasTooLittle [some (.ref 32), none, none] rfl rfl ?_
  have loop : ∀ q j, j + q = 3 → zE (d + 1) t_Gr_hasTooLittle (fun v τ => v = some (.int (if zm_s f 3 < 1440 * m ∨ f (zm_fg f 3) = zm_s f 3 then 1 else 0)) ∧ τ = σ) (4, [some (.ref 32), some (.int (nI (zpr f j))), some (.int (nI j))], [], σ) := by
    intro q
    induction q with
    | zero =>
      intro j hj
      have ej : j = 3 := by omega
      subst ej
      have h3 := hle 3
      iterate 2 (refine ze_go1 rfl ?_)
      refine ze_brT rfl (by decide) ?_
      iterate 2 (refine ze_go1 rfl ?_)
      by_cases c : zpr f 3 ≤ 1
      · refine ze_brT rfl (nI_le (b := 1) c (by decide)) ?_
        iterate 2 (refine ze_go1 rfl ?_)
        refine ze_rt1 rfl (Or.inr rfl) ⟨?_, rfl⟩
        rw [if_pos (Or.inr ((zpr_iff f).mp c))]
      · refine ze_brF rfl (nI_ge (a := 1) (by omega) (by omega)) ?_
        refine ze_go1 rfl ?_
        iterate 2 (refine ze_go2 rfl rfl ?_)
        iterate 2 (refine ze_go1 rfl ?_)
        refine ze_ca1 rfl rfl (e_sum (k := 14) (a := 0) (n := 3) (f := f) rfl (by decide) (fun i hi => by rw [Nat.zero_add]; exact hf i hi)) (fun v τ h => ?_)
        obtain ⟨rfl, rfl⟩ := h
        iterate 2 (refine ze_go1 rfl ?_)
        refine ze_go2 rfl rfl ?_
        refine ze_go1 rfl ?_
        rw [hm, show (1440 : Int32) * nI m = nI (1440 * m) from pk_mul 1440 m]
        by_cases c2 : zm_s f 3 < 1440 * m
        · refine ze_brF rfl (nI_ge c2 (by omega)) ?_
          iterate 2 (refine ze_go1 rfl ?_)
          refine ze_rt1 rfl (Or.inr rfl) ⟨?_, rfl⟩
          rw [if_pos (Or.inl c2)]
        · refine ze_brT rfl (nI_le (by omega) (by omega)) ?_
          refine ze_go1 rfl ?_
          refine ze_rt1 rfl (Or.inl rfl) ⟨?_, rfl⟩
          rw [if_neg (fun q => q.elim c2 (fun z => c ((zpr_iff f).mpr z)))]
    | succ q ih =>
      intro j hj
      have h := ih (j + 1) (by omega)
      have hj3 := hfc j (by omega)
      rw [show zpr f (j + 1) = if 0 < f j then zpr f j + 1 else zpr f j from rfl, ← show nI j + 1 = nI (j + 1) from nI_1 _] at h
      iterate 2 (refine ze_go1 rfl ?_)
      refine ze_brF rfl (nI_ge (b := 3) (by omega) (by decide)) ?_
      refine ze_go1 rfl ?_
      iterate 2 (refine ze_go2 rfl rfl ?_)
      refine ze_go1 rfl ?_
      refine ze_go2 rfl ⟨rfl, vp_in_nI (N := 3) (by omega) (by decide)⟩ ?_
      rw [nI_clamp (n := j) (by omega), hf j (by omega)]
      by_cases c : 0 < f j
      · refine ze_brF rfl (nI_nle c (by omega)) ?_
        rw [if_pos c, ← show nI (zpr f j) + 1 = nI (zpr f j + 1) from nI_1 _] at h
        iterate 3 (refine ze_go1 rfl ?_)
        exact h
      · refine ze_brT rfl (by rw [show f j = 0 by omega]; exact Int32.le_refl _) ?_
        rw [if_neg c] at h
        iterate 2 (refine ze_go1 rfl ?_)
        exact h
  iterate 4 (refine ze_go1 rfl ?_)
  exact loop 3 0 rfl
set_option maxRecDepth 20000 in
set_option maxHeartbeats 1000000 in
theorem e_fork {d : Nat} {σ : ze_S} {D : zD} {pl dp a : Nat} {t : Int32} {w : Nat → Nat} (hd : zdok D) (hB : zB σ D) (hp : pl < 85) (hdp : dp < 4) (ha : a < D.1) (ht : zth D a t) (hw : zrow σ dp D.2.1 w) (hwb : ∀ i, i < D.2.1 → w i ≤ 720) (hth : σ.1 (35 + a) 1 = t) :
    zM (d + 4) m_Gr_fork [.ref 32, .int (nI pl), .int (nI dp), .int (nI a)] σ (fun v τ => v = none ∧ zx [39 + dp, 6 + dp, 15, 16, 17, 20] σ τ ∧ (∀ q, q ≠ pl → zsame σ τ q) ∧ zFk τ dp a t (zm_nb (D.2.2.1 a)) (zpt D a t w) ∧ τ.1 15 pl = nI a ∧ τ.1 16 pl = t ∧ τ.1 17 pl = nI (zm_nb (D.2.2.1 a)) ∧ ∀ b, b < 4 → τ.1 20 (4 * pl + b) = nI (zpt D a t w b)) := by
  have h4 := hd.1
  have hkf : ze_cl (39 + dp) = 3 := zk_fo (by omega)
  have hkn : ze_cl (35 + a) = 2 := zk_fi (by omega)
  refine zM_in t_Gr_fork [some (.ref 32), some (.int (nI pl)), some (.int (nI dp)), some (.int (nI a)), none] rfl rfl ?_
  refine ze_go1 rfl ?_
  iterate 2 (refine ze_go2 rfl rfl ?_)
  refine ze_go1 rfl ?_
  refine ze_go2 rfl ⟨rfl, vp_in_nI (by omega) (by decide)⟩ ?_
  rw [nI_clamp (n := a) (by omega)]
  refine ze_go2 rfl (by first | rfl | exact hkn) ?_
  iterate 2 (refine ze_go1 rfl ?_)
  iterate 2 (refine ze_go2 rfl (by first | rfl | exact hkn) ?_)
  refine ze_go1 rfl ?_
  refine ze_go2 rfl ⟨rfl, vp_in_nI (by omega) (by decide)⟩ ?_
  rw [nI_clamp (n := dp) (by omega), hth]
  iterate 3 (refine ze_go1 rfl ?_)
  refine ze_go2 rfl rfl ?_
  refine ze_go1 rfl ?_
  refine ze_ca1 rfl ⟨rfl, rfl⟩ (e_branchesOf hd hB ha) (fun v τ h => ?_)
  obtain ⟨rfl, rfl⟩ := h
  refine ze_ca1 rfl ⟨rfl, hkf⟩ (e_setTest hdp) (fun v τ1 h => ?_)
  obtain ⟨rfl, x1, f1, f2, f3, f4⟩ := h
  have hB1 : zB τ1 D := zB_x hB x1 (fun k hk => by simp at hk; omega)
  have hw1 : zrow τ1 dp D.2.1 w := fun i hi => by rw [(x1 (10 + dp) (by simp <;> omega)).1]; exact hw i hi
  refine ze_go1 rfl ?_
  refine ze_go2 rfl rfl ?_
  refine ze_go1 rfl ?_
  refine ze_ca1 rfl ⟨rfl, rfl⟩ (e_tallyParts hd hB1 hdp ha ht hw1 hwb f1 f2 f3 f4) (fun v τ2 h => ?_)
  obtain ⟨rfl, x2, F⟩ := h
  refine ze_go1 rfl ?_
  refine ze_go2 rfl rfl ?_
  iterate 2 (refine ze_go1 rfl ?_)
  iterate 2 (refine ze_go2 rfl rfl ?_)
  refine ze_go1 rfl ?_
  refine ze_go2 rfl ⟨rfl, vp_in_nI (by omega) (by decide)⟩ ?_
  rw [nI_clamp (n := dp) (by omega)]
  refine ze_ca1 rfl ⟨rfl, rfl⟩ (ze_M_le (e_keepTest (d := 0) hp hdp) (by omega)) (fun v τ3 h => ?_)
  obtain ⟨rfl, rfl⟩ := h
  obtain ⟨g1, g2, g3, g4, g5, g6⟩ := F
  have x12 : zx [39 + dp, 6 + dp] τ τ2 := zx_tr x1 x2
  have e20 : τ2.1 20 = τ.1 20 := (x12 20 (by simp <;> omega)).1
  refine ze_rt1 rfl trivial ⟨rfl, ?_, fun q hq => ?_, ?_, ?_, ?_, ?_, fun b hb => ?_⟩
  · refine zx_tr (zx_wk x12 (by simp)) (zx_tr (zx_tr (zx_tr (zx_ui (by simp) _ _ _) (zx_ui (by simp) _ _ _)) (zx_ui (by simp) _ _ _)) (zx_uf (by simp) _ _))
  · have s1 := zsame_x x12 (by simp <;> omega) (by simp <;> omega) (by simp <;> omega) (by simp <;> omega) (by simp <;> omega) (by simp <;> omega) (by simp <;> omega) q
    refine zsame_tr s1 ⟨?_, ?_, ?_, ?_, fun c hc => ?_, fun b hb => ?_, fun b hb => ?_⟩
    · rw [zuf_o _ _ _ (by decide), zui_o _ _ _ _ (by decide), zui_o _ _ _ _ (by decide), zui_n _ _ _ _ hq]
    · rw [zuf_o _ _ _ (by decide), zui_o _ _ _ _ (by decide), zui_n _ _ _ _ hq, zui_o _ _ _ _ (by decide)]
    · rw [zuf_o _ _ _ (by decide), zui_n _ _ _ _ hq, zui_o _ _ _ _ (by decide), zui_o _ _ _ _ (by decide)]
    · rw [zuf_o _ _ _ (by decide), zui_o _ _ _ _ (by decide), zui_o _ _ _ _ (by decide), zui_o _ _ _ _ (by decide)]
    · rw [zuf_o _ _ _ (by decide), zui_o _ _ _ _ (by decide), zui_o _ _ _ _ (by decide), zui_o _ _ _ _ (by decide)]
    · rw [zuf, pk_cpy_out (by omega)]
    · rw [zuf_o _ _ _ (by decide), zui_o _ _ _ _ (by decide), zui_o _ _ _ _ (by decide), zui_o _ _ _ _ (by decide)]
  · have e39 : (ze_uf (ze_ui (ze_ui (ze_ui τ2 15 pl (τ2.1 (39 + dp) 1)) 16 pl (τ2.1 (39 + dp) 2)) 17 pl (τ2.1 (39 + dp) 3)) 20 (va_cpy (τ2.1 (6 + dp)) (τ2.1 20) 0 (4 * pl) 4)).1 (39 + dp) = τ2.1 (39 + dp) := by rw [zuf_o _ _ _ (by omega), zui_o _ _ _ _ (by omega), zui_o _ _ _ _ (by omega), zui_o _ _ _ _ (by omega)]
    have e6 : (ze_uf (ze_ui (ze_ui (ze_ui τ2 15 pl (τ2.1 (39 + dp) 1)) 16 pl (τ2.1 (39 + dp) 2)) 17 pl (τ2.1 (39 + dp) 3)) 20 (va_cpy (τ2.1 (6 + dp)) (τ2.1 20) 0 (4 * pl) 4)).1 (6 + dp) = τ2.1 (6 + dp) := by rw [zuf_o _ _ _ (by omega), zui_o _ _ _ _ (by omega), zui_o _ _ _ _ (by omega), zui_o _ _ _ _ (by omega)]
    exact zFk_eq ⟨g1, g2, g3, g4, g5, g6⟩ e39 e6
  · rw [zuf_o _ _ _ (by decide), zui_o _ _ _ _ (by decide), zui_o _ _ _ _ (by decide), zui, g1]
  · rw [zuf_o _ _ _ (by decide), zui_o _ _ _ _ (by decide), zui, g2]
  · rw [zuf_o _ _ _ (by decide), zui, g3]
  · rw [zuf, pk_cpy_in (by omega) (by omega), show 0 + (4 * pl + b - 4 * pl) = b by omega]
    exact g6 b hb
