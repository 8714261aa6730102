def zrow (σ : ze_S) (dp n : Nat) (w : Nat → Nat) : Prop := ∀ i, i < n → σ.1 (10 + dp) i = nI (w i)
set_option maxRecDepth 20000 in
theorem e_start {d : Nat} {σ : ze_S} {n : Nat} (hn : n ≤ 24) :
    zM (d + 1) m_Pa_start [.ref 30, .int (nI n)] σ (fun v τ => v = none ∧ zx [10] σ τ ∧ ∀ i, i < 24 → τ.1 10 i = nI (if i < n then 720 else 0)) := by
  refine zM_in t_Pa_start [some (.ref 30), some (.int (nI n)), none] rfl rfl ?_
  have loop : ∀ m j τ, j + m = 24 → zx [10] σ τ → (∀ i, i < j → τ.1 10 i = nI (if i < n then 720 else 0)) → zE d t_Pa_start (fun v τ => v = none ∧ zx [10] σ τ ∧ ∀ i, i < 24 → τ.1 10 i = nI (if i < n then 720 else 0)) (2, [some (.ref 30), some (.int (nI n)), some (.int (nI j))], [], τ) := by
    intro m
    induction m with
    | zero =>
      intro j τ hj hx hs
      iterate 2 (refine ze_go1 rfl ?_)
      refine ze_brT rfl (nI_le (a := 24) (by omega) (by omega)) ?_
      exact ze_rt1 rfl trivial ⟨rfl, hx, fun i hi => hs i (by omega)⟩
    | succ m ih =>
      intro j τ hj hx hs
      iterate 2 (refine ze_go1 rfl ?_)
      refine ze_brF rfl (nI_ge (b := 24) (by omega) (by decide)) ?_
      refine ze_go1 rfl ?_
      refine ze_go2 rfl rfl ?_
      refine ze_go1 rfl ?_
      refine ze_go2 rfl ⟨rfl, vp_in_nI (n := 0) (by decide) (by decide)⟩ ?_
      iterate 3 (refine ze_go1 rfl ?_)
      have h := ih (j + 1) (ze_ui τ 10 j (nI (if j < n then 720 else 0))) (by omega) (zx_tr hx (zx_ui (by simp) _ _ _)) (fun i hi => by
        by_cases q : i = j
        · subst q; exact zui _ _ _ _
        · rw [zui_n _ _ _ _ q]; exact hs i (by omega))
      rw [← show nI j + 1 = nI (j + 1) from nI_1 _] at h
      by_cases c : j < n
      · refine ze_brF rfl (nI_ge c (by omega)) ?_
        iterate 2 (refine ze_go1 rfl ?_)
        refine ze_go2 rfl ⟨rfl, vp_in_nI (N := 24) (by omega) (by decide)⟩ ?_
        rw [nI_clamp (n := j) (by omega)]
        rw [if_pos c] at h
        iterate 2 (refine ze_go1 rfl ?_)
        exact h
      · refine ze_brT rfl (nI_le (by omega) (by omega)) ?_
        refine ze_go1 rfl ?_
        refine ze_go2 rfl ⟨rfl, vp_in_nI (N := 24) (by omega) (by decide)⟩ ?_
        rw [nI_clamp (n := j) (by omega)]
        rw [if_neg c] at h
        iterate 2 (refine ze_go1 rfl ?_)
        exact h
  iterate 2 (refine ze_go1 rfl ?_)
  exact loop 24 0 σ (by omega) (zx_rf _ _) (fun i hi => absurd hi (Nat.not_lt_zero _))
set_option maxRecDepth 20000 in
theorem e_tallyClasses {d : Nat} {σ : ze_S} {D : zD} {dp : Nat} {w : Nat → Nat} (hd : zdok D) (hB : zB σ D) (hdp : dp < 4) (hw : zrow σ dp D.2.1 w) :
    zM (d + 2) m_Pa_tallyClasses [.ref 30, .int (nI dp)] σ (fun v τ => v = none ∧ zx [14] σ τ ∧ ∀ c, c < 3 → τ.1 14 c = nI (zm_cw D.2.2.2.1 w D.2.1 c)) := by
  have h24 := hd.2.1
  obtain ⟨hI, hlen⟩ := zrow_I (kr := 10 + dp) (by omega)
  refine zM_in t_Pa_tallyClasses [some (.ref 30), some (.int (nI dp)), none] rfl rfl ?_
  refine ze_go1 rfl ?_
  refine ze_go2 rfl rfl ?_
  refine ze_go1 rfl ?_
  refine ze_ca1 rfl rfl (e_fill (k := 14) rfl) (fun v τ0 h => ?_)
  obtain ⟨rfl, x0, f0⟩ := h
  have loop : ∀ m j τ, j + m = D.2.1 → zx [14] σ τ → (∀ c, c < 3 → τ.1 14 c = nI (zm_cw D.2.2.2.1 w j c)) → zE (d + 1) t_Pa_tallyClasses (fun v τ => v = none ∧ zx [14] σ τ ∧ ∀ c, c < 3 → τ.1 14 c = nI (zm_cw D.2.2.2.1 w D.2.1 c)) (10, [some (.ref 30), some (.int (nI dp)), some (.int (nI j))], [], τ) := by
    intro m
    induction m with
    | zero =>
      intro j τ hj hx hs
      have hB2 : zB τ D := zB_x hB hx (by decide)
      iterate 2 (refine ze_go1 rfl ?_)
      iterate 2 (refine ze_go2 rfl rfl ?_)
      refine ze_brT rfl (by rw [hB2.2.1]; exact nI_le (by omega) (by omega)) ?_
      refine ze_rt1 rfl trivial ⟨rfl, hx, fun c hc => ?_⟩
      rw [← show j = D.2.1 by omega]
      exact hs c hc
    | succ m ih =>
      intro j τ hj hx hs
      have hj1 : j < D.2.1 := by omega
      have hB2 : zB τ D := zB_x hB hx (by decide)
      have hty := hd.2.2.2.1 j hj1
      have er : τ.1 (10 + dp) j = nI (w j) := by rw [(hx (10 + dp) (by simp <;> omega)).1]; exact hw j hj1
      iterate 2 (refine ze_go1 rfl ?_)
      iterate 2 (refine ze_go2 rfl rfl ?_)
      refine ze_brF rfl (by rw [hB2.2.1]; exact nI_ge (by omega) (by omega)) ?_
      refine ze_go1 rfl ?_
      refine ze_go2 rfl rfl ?_
      refine ze_go1 rfl ?_
      iterate 2 (refine ze_go2 rfl rfl ?_)
      refine ze_go1 rfl ?_
      refine ze_go2 rfl ⟨rfl, vp_in_nI (N := 24) (by omega) (by decide)⟩ ?_
      rw [nI_clamp (n := j) (by omega), hB2.2.2.2.1 j hj1]
      refine ze_go2 rfl ⟨rfl, rfl⟩ ?_
      refine ze_go2 rfl ⟨rfl, vp_in_nI (N := 3) (by omega) (by decide)⟩ ?_
      refine ze_go1 rfl ?_
      refine ze_go2 rfl rfl ?_
      refine ze_go1 rfl ?_
      refine ze_go2 rfl ⟨rfl, vp_in_nI (by omega) (by decide)⟩ ?_
      rw [nI_clamp (n := dp) (by omega)]
      refine ze_go1 rfl ?_
      refine ze_go2 rfl ⟨hI, by rw [hlen]; exact vp_in_nI (by omega) (by decide)⟩ ?_
      rw [nI_clamp (n := j) (by omega), er]
      refine ze_go1 rfl ?_
      refine ze_go2 rfl ⟨rfl, vp_in_nI (N := 3) (by omega) (by decide)⟩ ?_
      rw [nI_clamp (n := D.2.2.2.1 j) (by omega), hs _ hty, nI_add]
      have h := ih (j + 1) (ze_ui τ 14 (D.2.2.2.1 j) (nI (zm_cw D.2.2.2.1 w j (D.2.2.2.1 j) + w j))) (by omega) (zx_tr hx (zx_ui (by simp) _ _ _)) (fun c hc => by
        have e : zm_cw D.2.2.2.1 w (j + 1) c = zm_cw D.2.2.2.1 w j c + if D.2.2.2.1 j = c then w j else 0 := rfl
        rw [e]
        by_cases q : c = D.2.2.2.1 j
        · rw [q, zui, if_pos rfl]
        · rw [zui_n _ _ _ _ q, if_neg (fun z => q z.symm), hs c hc]
          rfl)
      rw [← show nI j + 1 = nI (j + 1) from nI_1 _] at h
      iterate 2 (refine ze_go1 rfl ?_)
      exact h
  iterate 2 (refine ze_go1 rfl ?_)
  exact loop D.2.1 0 τ0 (by omega) x0 (fun c hc => f0 c hc)
theorem zvb_of {D : zD} (hd : zdok D) {i a : Nat} {t : Int32} (hi : i < D.2.1) (ha : a < D.1) (ht : zth D a t) : zvb (D.2.2.1 a) t (D.2.2.2.2 i a) := by
  rcases zval hd hi ha with h | ⟨h1, h2, h3⟩
  · exact Or.inl h
  · obtain ⟨b1, b2, b3⟩ := zbf hd hi ha ht h2
    exact Or.inr ⟨h1, h2, b1, by omega⟩
theorem zm_pu_eq {D : zD} (hd : zdok D) {a : Nat} {t : Int32} {w : Nat → Nat} (ha : a < D.1) (ht : zth D a t) : zm_s (zm_pt (D.2.2.1 a) t (fun i => D.2.2.2.2 i a) w D.2.1) 4 = zm_kn (fun i => D.2.2.2.2 i a) w D.2.1 := by
  rw [zm_s4]
  exact zm_pt_sum fun i hi h0 => by
    obtain ⟨-, b2, b3⟩ := zbf hd hi ha ht h0
    omega
set_option maxRecDepth 20000 in
set_option maxHeartbeats 1000000 in
theorem e_tallyParts {d : Nat} {σ : ze_S} {D : zD} {dp a nb : Nat} {t : Int32} {w : Nat → Nat} (hd : zdok D) (hB : zB σ D) (hdp : dp < 4) (ha : a < D.1) (ht : zth D a t) (hw : zrow σ dp D.2.1 w) (hwb : ∀ i, i < D.2.1 → w i ≤ 720) (h1 : σ.1 (39 + dp) 1 = nI a) (h2 : σ.1 (39 + dp) 2 = t) (h3 : σ.1 (39 + dp) 3 = nI nb) (h0 : ∀ j, j < 4 → σ.1 (6 + dp) j = 0) :
    zM (d + 3) m_Pa_tallyParts [.ref 30, .int (nI dp)] σ (fun v τ => v = none ∧ zx [39 + dp, 6 + dp] σ τ ∧ zFk τ dp a t nb (zm_pt (D.2.2.1 a) t (fun i => D.2.2.2.2 i a) w D.2.1)) := by
  have h4 := hd.1
  have h24 := hd.2.1
  have hkf : ze_cl (39 + dp) = 3 := zk_fo (by omega)
  obtain ⟨hI, hlen⟩ := zrow_I (kr := 10 + dp) (by omega)
  obtain ⟨hPI, hPlen⟩ := zk_fp (k := 6 + dp) (by omega)
  have hW := zm_w_le h24 hwb
  refine zM_in t_Pa_tallyParts [some (.ref 30), some (.int (nI dp)), none, none, none] rfl rfl ?_
  refine ze_go1 rfl ?_
  refine ze_go2 rfl rfl ?_
  refine ze_go1 rfl ?_
  refine ze_go2 rfl ⟨rfl, vp_in_nI (by omega) (by decide)⟩ ?_
  rw [nI_clamp (n := dp) (by omega)]
  have loop : ∀ m j (o : Option Value) τ, j + m = D.2.1 → zx [6 + dp] σ τ → (∀ b, b < 4 → τ.1 (6 + dp) b = nI (zm_pt (D.2.2.1 a) t (fun i => D.2.2.2.2 i a) w j b)) → zE (d + 2) t_Pa_tallyParts (fun v τ => v = none ∧ zx [39 + dp, 6 + dp] σ τ ∧ zFk τ dp a t nb (zm_pt (D.2.2.1 a) t (fun i => D.2.2.2.2 i a) w D.2.1)) (9, [some (.ref 30), some (.int (nI dp)), some (.ref (39 + dp)), some (.int (nI j)), o], [], τ) := by
    intro m
    induction m with
    | zero =>
      intro j o τ hj hx hs
      have hB2 : zB τ D := zB_x hB hx (fun k hk => by simp at hk; omega)
      have ef : τ.1 (39 + dp) = σ.1 (39 + dp) := (hx (39 + dp) (by simp <;> omega)).1
      have ejn : j = D.2.1 := by omega
      rw [ejn] at hs
      iterate 2 (refine ze_go1 rfl ?_)
      iterate 2 (refine ze_go2 rfl rfl ?_)
      refine ze_brT rfl (by rw [hB2.2.1]; exact nI_le (by omega) (by omega)) ?_
      refine ze_go1 rfl ?_
      refine ze_ca1 rfl ⟨rfl, hkf⟩ (e_settle hdp hs (fun b _ => by
        have q1 := zm_pt_le (k := D.2.2.1 a) (t := t) (v := fun i => D.2.2.2.2 i a) (w := w) (n := D.2.1) (b := b)
        have q2 := zm_kn_le (v := fun i => D.2.2.2.2 i a) (w := w) (n := D.2.1)
        omega)) (fun v υ h => ?_)
      obtain ⟨rfl, x, g1, g2, g3, g4, g5⟩ := h
      refine ze_rt1 rfl trivial ⟨rfl, zx_tr (zx_wk hx (by simp)) (zx_wk x (by simp)), ?_, ?_, ?_, g4, g5, fun b hb => ?_⟩
      · rw [g1, ef, h1]
      · rw [g2, ef, h2]
      · rw [g3, ef, h3]
      · rw [(x (6 + dp) (by simp <;> omega)).1]
        exact hs b hb
    | succ m ih =>
      intro j o τ hj hx hs
      have hj1 : j < D.2.1 := by omega
      have hB2 : zB τ D := zB_x hB hx (fun k hk => by simp at hk; omega)
      have ef : τ.1 (39 + dp) = σ.1 (39 + dp) := (hx (39 + dp) (by simp <;> omega)).1
      have er : τ.1 (10 + dp) j = nI (w j) := by rw [(hx (10 + dp) (by simp <;> omega)).1]; exact hw j hj1
      iterate 2 (refine ze_go1 rfl ?_)
      iterate 2 (refine ze_go2 rfl rfl ?_)
      refine ze_brF rfl (by rw [hB2.2.1]; exact nI_ge (by omega) (by omega)) ?_
      refine ze_go1 rfl ?_
      refine ze_go2 rfl (by first | rfl | exact hkf) ?_
      iterate 2 (refine ze_go1 rfl ?_)
      refine ze_go2 rfl (by first | rfl | exact hkf) ?_
      rw [ef, h1]
      refine ze_ca1 rfl ⟨rfl, rfl⟩ (e_valueOf hd hB2 hj1 (show a < 4 by omega)) (fun v υ h => ?_)
      obtain ⟨rfl, rfl⟩ := h
      iterate 3 (refine ze_go1 rfl ?_)
      rcases zvb_of hd hj1 ha ht with ⟨c, cu⟩ | ⟨c, cu, b1, b2⟩
      · refine ze_brT rfl c ?_
        have h := ih (j + 1) (some (.int (D.2.2.2.2 j a))) υ (by omega) hx (fun b hb => by
          have e : zm_pt (D.2.2.1 a) t (fun i => D.2.2.2.2 i a) w (j + 1) b = zm_pt (D.2.2.1 a) t (fun i => D.2.2.2.2 i a) w j b + if 0 ≤ D.2.2.2.2 j a ∧ zm_br (D.2.2.1 a) t (D.2.2.2.2 j a) = b then w j else 0 := rfl
          rw [e, if_neg (fun q => cu q.1)]
          exact hs b hb)
        rw [← show nI j + 1 = nI (j + 1) from nI_1 _] at h
        iterate 2 (refine ze_go1 rfl ?_)
        exact h
      · refine ze_brF rfl c ?_
        refine ze_go1 rfl ?_
        refine ze_go2 rfl (by first | rfl | exact hkf) ?_
        iterate 2 (refine ze_go1 rfl ?_)
        refine ze_go2 rfl (by first | rfl | exact hkf) ?_
        rw [show 39 + dp - 33 = 6 + dp by omega, ef, h2]
        refine ze_ca1 rfl rfl e_branchFor (fun v ρ h => ?_)
        obtain ⟨rfl, rfl⟩ := h
        rw [b1]
        refine ze_go2 rfl ⟨rfl, rfl⟩ ?_
        refine ze_go2 rfl ⟨hPI, by rw [hPlen]; exact vp_in_nI (by omega) (by decide)⟩ ?_
        rw [nI_clamp (n := zm_br (D.2.2.1 a) t (D.2.2.2.2 j a)) (by omega), hs _ b2]
        refine ze_go1 rfl ?_
        refine ze_go2 rfl rfl ?_
        refine ze_go1 rfl ?_
        refine ze_go2 rfl ⟨rfl, vp_in_nI (by omega) (by decide)⟩ ?_
        rw [nI_clamp (n := dp) (by omega)]
        refine ze_go1 rfl ?_
        refine ze_go2 rfl ⟨hI, by rw [hlen]; exact vp_in_nI (by omega) (by decide)⟩ ?_
        rw [nI_clamp (n := j) (by omega), er]
        refine ze_go1 rfl ?_
        refine ze_go2 rfl ⟨hPI, by rw [hPlen]; exact vp_in_nI (by omega) (by decide)⟩ ?_
        rw [nI_clamp (n := zm_br (D.2.2.1 a) t (D.2.2.2.2 j a)) (by omega), nI_add]
        have h := ih (j + 1) (some (.int (D.2.2.2.2 j a))) (ze_ui ρ (6 + dp) (zm_br (D.2.2.1 a) t (D.2.2.2.2 j a)) (nI (zm_pt (D.2.2.1 a) t (fun i => D.2.2.2.2 i a) w j (zm_br (D.2.2.1 a) t (D.2.2.2.2 j a)) + w j))) (by omega) (zx_tr hx (zx_ui (by simp) _ _ _)) (fun b hb => by
          have e : zm_pt (D.2.2.1 a) t (fun i => D.2.2.2.2 i a) w (j + 1) b = zm_pt (D.2.2.1 a) t (fun i => D.2.2.2.2 i a) w j b + if 0 ≤ D.2.2.2.2 j a ∧ zm_br (D.2.2.1 a) t (D.2.2.2.2 j a) = b then w j else 0 := rfl
          rw [e]
          by_cases q : b = zm_br (D.2.2.1 a) t (D.2.2.2.2 j a)
          · rw [q, zui, if_pos ⟨cu, rfl⟩]
          · rw [zui_n _ _ _ _ q, if_neg (fun z => q z.2.symm), hs b hb]
            rfl)
        rw [← show nI j + 1 = nI (j + 1) from nI_1 _] at h
        iterate 2 (refine ze_go1 rfl ?_)
        exact h
  iterate 3 (refine ze_go1 rfl ?_)
  exact loop D.2.1 0 none σ (by omega) (zx_rf _ _) (fun b hb => h0 b hb)
set_option maxRecDepth 20000 in
set_option maxHeartbeats 1000000 in
theorem e_goDown {d : Nat} {σ : ze_S} {D : zD} {dp a b : Nat} {t : Int32} {w p : Nat → Nat} (hd : zdok D) (hB : zB σ D) (hdp : dp < 3) (ha : a < D.1) (ht : zth D a t) (hw : zrow σ dp D.2.1 w) (hwb : ∀ i, i < D.2.1 → w i ≤ 720) (hF : zFk σ dp a t (zm_nb (D.2.2.1 a)) p) (hK : zm_s p 4 ≤ 17280) (hb : b < zm_nb (D.2.2.1 a)) :
    zM (d + 3) m_Pa_goDown [.ref 30, .int (nI dp), .int (nI b)] σ (fun v τ => v = none ∧ zx [10 + (dp + 1)] σ τ ∧ zrow τ (dp + 1) D.2.1 (fun i => zm_ps (D.2.2.1 a) t p (zm_s p 4) (zm_fg p 4) (w i) (D.2.2.2.2 i a) b)) := by
  have h4 := hd.1
  have h24 := hd.2.1
  have hkf : ze_cl (39 + dp) = 3 := zk_fo (by omega)
  obtain ⟨hI, hlen⟩ := zrow_I (kr := 10 + dp) (by omega)
  obtain ⟨hI2, hlen2⟩ := zrow_I (kr := 10 + (dp + 1)) (by omega)
  have hnb : zm_nb (D.2.2.1 a) ≤ 4 := by
    have := hd.2.2.1 a ha
    unfold zm_nb
    split <;> omega
  refine zM_in t_Pa_goDown [some (.ref 30), some (.int (nI dp)), some (.int (nI b)), none, none, none] rfl rfl ?_
  refine ze_go1 rfl ?_
  refine ze_go2 rfl rfl ?_
  refine ze_go1 rfl ?_
  refine ze_go2 rfl ⟨rfl, vp_in_nI (by omega) (by decide)⟩ ?_
  rw [nI_clamp (n := dp) (by omega)]
  have loop : ∀ m j (o : Option Value) τ, j + m = D.2.1 → zx [10 + (dp + 1)] σ τ → (∀ i, i < j → τ.1 (10 + (dp + 1)) i = nI (zm_ps (D.2.2.1 a) t p (zm_s p 4) (zm_fg p 4) (w i) (D.2.2.2.2 i a) b)) → zE (d + 2) t_Pa_goDown (fun v τ => v = none ∧ zx [10 + (dp + 1)] σ τ ∧ zrow τ (dp + 1) D.2.1 (fun i => zm_ps (D.2.2.1 a) t p (zm_s p 4) (zm_fg p 4) (w i) (D.2.2.2.2 i a) b)) (10, [some (.ref 30), some (.int (nI dp)), some (.int (nI b)), some (.ref (39 + dp)), some (.int (nI j)), o], [], τ) := by
    intro m
    induction m with
    | zero =>
      intro j o τ hj hx hs
      have hB2 : zB τ D := zB_x hB hx (fun k hk => by simp at hk; omega)
      iterate 2 (refine ze_go1 rfl ?_)
      iterate 2 (refine ze_go2 rfl rfl ?_)
      refine ze_brT rfl (by rw [hB2.2.1]; exact nI_le (by omega) (by omega)) ?_
      exact ze_rt1 rfl trivial ⟨rfl, hx, fun i hi => hs i (by omega)⟩
    | succ m ih =>
      intro j o τ hj hx hs
      have hj1 : j < D.2.1 := by omega
      have hB2 : zB τ D := zB_x hB hx (fun k hk => by simp at hk; omega)
      have ef : τ.1 (39 + dp) = σ.1 (39 + dp) := (hx (39 + dp) (by simp <;> omega)).1
      have hF2 : zFk τ dp a t (zm_nb (D.2.2.1 a)) p := zFk_eq hF ef (hx (6 + dp) (by simp <;> omega)).1
      have er : τ.1 (10 + dp) j = nI (w j) := by rw [(hx (10 + dp) (by simp <;> omega)).1]; exact hw j hj1
      iterate 2 (refine ze_go1 rfl ?_)
      iterate 2 (refine ze_go2 rfl rfl ?_)
      refine ze_brF rfl (by rw [hB2.2.1]; exact nI_ge (by omega) (by omega)) ?_
      refine ze_go1 rfl ?_
      refine ze_go2 rfl (by first | rfl | exact hkf) ?_
      iterate 2 (refine ze_go1 rfl ?_)
      refine ze_go2 rfl (by first | rfl | exact hkf) ?_
      rw [ef, hF.1]
      refine ze_ca1 rfl ⟨rfl, rfl⟩ (e_valueOf hd hB2 hj1 (show a < 4 by omega)) (fun v υ h => ?_)
      obtain ⟨rfl, rfl⟩ := h
      iterate 2 (refine ze_go1 rfl ?_)
      refine ze_go2 rfl rfl ?_
      iterate 3 (refine ze_go1 rfl ?_)
      rw [show nI dp + 1 = nI (dp + 1) from nI_1 _]
      refine ze_go2 rfl ⟨rfl, vp_in_nI (by omega) (by decide)⟩ ?_
      rw [nI_clamp (n := dp + 1) (by omega)]
      iterate 3 (refine ze_go1 rfl ?_)
      refine ze_go2 rfl rfl ?_
      refine ze_go1 rfl ?_
      refine ze_go2 rfl ⟨rfl, vp_in_nI (by omega) (by decide)⟩ ?_
      rw [nI_clamp (n := dp) (by omega)]
      refine ze_go1 rfl ?_
      refine ze_go2 rfl ⟨hI, by rw [hlen]; exact vp_in_nI (by omega) (by decide)⟩ ?_
      rw [nI_clamp (n := j) (by omega), er]
      iterate 2 (refine ze_go1 rfl ?_)
      refine ze_ca1 rfl ⟨rfl, hkf⟩ (e_passed (by omega) hF2 hnb hK (hwb j hj1) (zvb_of hd hj1 ha ht) hb) (fun v ρ h => ?_)
      obtain ⟨rfl, rfl⟩ := h
      refine ze_go2 rfl ⟨hI2, by rw [hlen2]; exact vp_in_nI (by omega) (by decide)⟩ ?_
      rw [nI_clamp (n := j) (by omega)]
      have h := ih (j + 1) (some (.int (D.2.2.2.2 j a))) (ze_ui ρ (10 + (dp + 1)) j (nI (zm_ps (D.2.2.1 a) t p (zm_s p 4) (zm_fg p 4) (w j) (D.2.2.2.2 j a) b))) (by omega) (zx_tr hx (zx_ui (by simp) _ _ _)) (fun i hi => by
        by_cases q : i = j
        · rw [q, zui]
        · rw [zui_n _ _ _ _ q]
          exact hs i (by omega))
      rw [← show nI j + 1 = nI (j + 1) from nI_1 _] at h
      iterate 2 (refine ze_go1 rfl ?_)
      exact h
  iterate 3 (refine ze_go1 rfl ?_)
  exact loop D.2.1 0 none σ (by omega) (zx_rf _ _) (fun i hi => absurd hi (Nat.not_lt_zero _))
