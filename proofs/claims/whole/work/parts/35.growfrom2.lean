theorem zcl_th {D : zD} (hd : zdok D) {a m : Nat} {w : Nat → Nat} (ha : a < D.1) (hk : D.2.2.1 a = 0) : ∀ (f : Nat) (x : Int32) (r : Nat × Int64 × Int32), ((∃ i, i < D.2.1 ∧ x = D.2.2.2.2 i a ∧ 0 ≤ x) ∨ zm_nv (fun i => D.2.2.2.2 i a) w x D.2.1 = -1) → (r.1 = 0 ∨ ¬ r.2.2 = -1) →
    (zm_cl (fun i => D.2.2.2.2 i a) D.2.2.2.1 w D.2.1 m f x r).1 = 0 ∨ ¬ (zm_cl (fun i => D.2.2.2.2 i a) D.2.2.2.1 w D.2.1 m f x r).2.2 = -1
  | 0, _, _, _, hr => hr
  | f + 1, x, r, hx, hr => by
    unfold zm_cl
    by_cases ny : zm_nv (fun i => D.2.2.2.2 i a) w x D.2.1 < 0
    · rw [if_pos ny]; exact hr
    · rw [if_neg ny]
      rcases zm_nv_or (fun i => D.2.2.2.2 i a) w x D.2.1 with h1 | ⟨iy, hiy, h1, h2⟩
      · rw [h1] at ny; exact absurd (by decide) ny
      rcases hx with ⟨ix, hix, ex, hx0⟩ | hbad
      · have hx0' : 0 ≤ D.2.2.2.2 ix a := by rw [← ex]; exact hx0
        rcases zval hd hix ha with ⟨-, q⟩ | ⟨-, -, p1, hp1, hp2⟩
        · exact absurd hx0' q
        have hy0 : 0 ≤ D.2.2.2.2 iy a := Int32.le_trans hx0 (Int32.le_of_lt h2)
        rcases zval hd hiy ha with ⟨-, q⟩ | ⟨q0, -, p2, hp3, hp4⟩
        · exact absurd hy0 q
        rw [show zlim (D.2.2.1 a) = 1000 from if_pos hk] at hp2 hp4
        have exI : x = nI p1 := by rw [ex, hp1]
        have eyI : zm_nv (fun i => D.2.2.2.2 i a) w x D.2.1 = nI p2 := by rw [h1]; exact hp3
        have hpp : p1 < p2 := by
          have : nI p1 < nI p2 := by rw [← exI, ← hp3]; exact h2
          exact (nI_ltI (by omega) (by omega)).mp this
        have hth : ¬ zm_vu (fun i => D.2.2.2.2 i a) ((x + zm_nv (fun i => D.2.2.2.2 i a) w x D.2.1) / 2) D.2.1 = -1 := by
          intro e
          have hmid : x ≤ (x + zm_nv (fun i => D.2.2.2.2 i a) w x D.2.1) / 2 := by rw [eyI, exI]; exact zmid hpp hp4
          have hge := zm_vu_ge (v := fun i => D.2.2.2.2 i a) (x := (x + zm_nv (fun i => D.2.2.2.2 i a) w x D.2.1) / 2) (n := D.2.1) (i := ix) hix (by show D.2.2.2.2 ix a ≤ _; rw [← ex]; exact hmid)
          rw [e] at hge
          have : (0 : Int32) ≤ -1 := Int32.le_trans hx0' hge
          exact absurd this (by decide)
        refine zcl_th hd ha hk f _ _ (Or.inl ⟨iy, hiy, h1, by rw [h1]; exact hy0⟩) ?_
        unfold zm_of
        by_cases c1 : 2 ≤ zm_ct (zm_pt 0 (zm_vu (fun i => D.2.2.2.2 i a) ((x + zm_nv (fun i => D.2.2.2.2 i a) w x D.2.1) / 2) D.2.1) (fun i => D.2.2.2.2 i a) w D.2.1) m 4
        · rw [if_pos c1]
          by_cases c2 : r.1 = 0 ∨ r.2.1 < zm_gn 0 (zm_vu (fun i => D.2.2.2.2 i a) ((x + zm_nv (fun i => D.2.2.2.2 i a) w x D.2.1) / 2) D.2.1) (fun i => D.2.2.2.2 i a) D.2.2.2.1 w D.2.1
          · rw [if_pos c2]; exact Or.inr hth
          · rw [if_neg c2]
            exact Or.inr (hr.resolve_left (fun z => c2 (Or.inl z)))
        · rw [if_neg c1]; exact hr
      · rw [hbad] at ny; exact absurd (by decide) ny
theorem zts_th {D : zD} (hd : zdok D) {a m : Nat} {w : Nat → Nat} (ha : a < D.1) {q : Int32 × Int64 × Int64} (h : zm_ts (D.2.2.1 a) (fun i => D.2.2.2.2 i a) D.2.2.2.1 w D.2.1 m = some q) : zth D a q.1 := by
  unfold zm_ts at h
  by_cases c : D.2.2.1 a = 0
  · rw [if_pos c] at h
    have key := zcl_th (m := m) (w := w) hd ha c 24 (zm_nv (fun i => D.2.2.2.2 i a) w (-1) D.2.1) (0, 0, -1) (by
      rcases zm_nv_or (fun i => D.2.2.2.2 i a) w (-1) D.2.1 with h | ⟨i, hi, h1, h2⟩
      · rw [h]; exact Or.inr h
      · refine Or.inl ⟨i, hi, h1, ?_⟩
        rw [h1]
        rcases zval hd hi ha with ⟨z, -⟩ | ⟨-, z, -⟩
        · have h2' : -1 < D.2.2.2.2 i a := h2
          rw [z] at h2'
          exact absurd h2' (by decide)
        · exact z) (Or.inl rfl)
    by_cases c2 : (zm_cl (fun i => D.2.2.2.2 i a) D.2.2.2.1 w D.2.1 m 24 (zm_nv (fun i => D.2.2.2.2 i a) w (-1) D.2.1) (0, 0, -1)).1 = 0
    · rw [if_pos c2] at h; cases h
    · rw [if_neg c2] at h
      cases h
      exact ⟨fun _ => key.resolve_left c2, fun z => absurd c z⟩
  · rw [if_neg c] at h
    split at h
    · cases h
      exact ⟨fun z => absurd z c, fun _ => rfl⟩
    · cases h
theorem zchs_some {D : zD} (hd : zdok D) {w : Nat → Nat} {m c a : Nat} {t : Int32} (h : zchs D w m c = some (a, t)) : zm_ch (zfos D w m c) D.1 = some a ∧ a < D.1 ∧ zth D a t ∧ ∃ q, zfos D w m c a = some q ∧ q.1 = t := by
  unfold zchs at h
  cases hc : zm_ch (zfos D w m c) D.1 with
  | none => rw [hc] at h; cases h
  | some b =>
    rw [hc] at h
    cases h
    obtain ⟨h1, h2⟩ := zm_bs_lt _ _ _ _ _ hc
    obtain ⟨q, hq⟩ := zm_ub_some h2
    refine ⟨rfl, h1, ?_, q, hq, by rw [hq]; rfl⟩
    rw [hq]
    show zth D a q.1
    have hq2 := hq
    unfold zfos at hq2
    cases hb : c.testBit a with
    | true => rw [hb] at hq2; cases hq2
    | false => rw [hb] at hq2; exact zts_th hd h1 hq2
set_option maxRecDepth 20000 in
set_option maxHeartbeats 1000000 in
theorem e_gpre {e : Nat} {D : zD} {σ : ze_S} {m dp pl pt : Nat} {w : Nat → Nat} {c : Int32} {Q : ze_P} (hd : zdok D) (he : 4 ≤ e) (hB : zB σ D) (hm : σ.1 32 4 = nI m) (hdp : dp < 4) (hw : zrow σ dp D.2.1 w) (hwb : ∀ i, i < D.2.1 → w i ≤ 720) (hp : pl < 85) (h18 : σ.1 18 pl = nI pt) (h15 : σ.1 15 pl = -1) (h16 : σ.1 16 pl = -1) (h17 : σ.1 17 pl = 0)
    (k : ∀ υ, zH2 D σ m dp pl w (zty D w pt) υ → (∀ c, c < 3 → υ.1 14 c = nI (zcw D w c)) → zE e t_Gr_growFrom Q (23, [some (.ref 32), some (.int (nI pl)), some (.int (nI dp)), some (.int c), none, none, none, none], [], υ)) :
    zE e t_Gr_growFrom Q (0, [some (.ref 32), some (.int (nI pl)), some (.int (nI dp)), some (.int c), none, none, none, none], [], σ) := by
  have hW : zm_s (zcw D w) 3 ≤ 17280 := by rw [zcw_sum hd]; exact zm_w_le hd.2.1 hwb
  refine ze_go1 rfl ?_
  refine ze_go2 rfl rfl ?_
  refine ze_go1 rfl ?_
  refine ze_ca1 rfl ⟨rfl, rfl⟩ (ze_M_le (e_tallyClasses (d := 0) hd hB hdp hw) (by omega)) (fun v τ h => ?_)
  obtain ⟨rfl, x, f⟩ := h
  refine ze_go1 rfl ?_
  refine ze_go2 rfl rfl ?_
  iterate 2 (refine ze_go1 rfl ?_)
  iterate 2 (refine ze_go2 rfl rfl ?_)
  refine ze_ca1 rfl ⟨rfl, rfl⟩ (ze_M_le (e_keepWeights (d := 0) (f := zcw D w) hp f hW) (by omega)) (fun v υ h => ?_)
  obtain ⟨rfl, rfl⟩ := h
  have ne : ∀ q, q ≠ 14 → τ.1 q = σ.1 q := fun q hq => (x q (by simp [hq])).1
  refine k _ ?_ ?_
  · have cp : ∀ q c, q ≠ pl → c < 3 → va_cpy (τ.1 14) (τ.1 19) 0 (3 * pl) 3 (3 * q + c) = σ.1 19 (3 * q + c) := fun q c hq hc => by rw [pk_cpy_out (by omega), ne 19 (by decide)]
    have cp2 : ∀ c, c < 3 → va_cpy (τ.1 14) (τ.1 19) 0 (3 * pl) 3 (3 * pl + c) = nI (zcw D w c) := fun c hc => by rw [pk_cpy_in (by omega) (by omega), show 0 + (3 * pl + c - 3 * pl) = c by omega]; exact f c hc
    have x2 : zx [14, 19] σ (ze_uf τ 19 (va_cpy (τ.1 14) (τ.1 19) 0 (3 * pl) 3)) := zx_tr (zx_wk x (by simp)) (zx_uf (by simp) _ _)
    by_cases c0 : zm_s (zcw D w) 3 = 0
    · rw [if_pos c0]
      have ety : zty D w pt = pt := if_pos c0
      refine ⟨zxp_of x2 (fun k hk => by simp at hk; unfold zGS; omega), (x2 29 (by simp)).1, fun q hq => ⟨by rw [(x2 15 (by simp)).1], by rw [(x2 16 (by simp)).1], by rw [(x2 17 (by simp)).1], by rw [(x2 18 (by simp)).1], fun c hc => by rw [zuf]; exact cp q c hq hc, fun b hb => by rw [(x2 20 (by simp)).1], fun b hb => by rw [(x2 21 (by simp)).1]⟩, by rw [(x2 18 (by simp)).1, h18, ety], fun c hc => by rw [zuf]; exact cp2 c hc, ⟨by rw [(x2 15 (by simp)).1, h15], by rw [(x2 16 (by simp)).1, h16], by rw [(x2 17 (by simp)).1, h17]⟩, zB_x hB x2 (by decide), fun i hi => by rw [(x2 (10 + dp) (by simp <;> omega)).1]; exact hw i hi, by rw [(x2 32 (by simp)).1, hm]⟩
    · rw [if_neg c0]
      have ety : zty D w pt = zm_fg (zcw D w) 3 := if_neg c0
      have x3 : zx [14, 18, 19] σ (ze_ui (ze_uf τ 19 (va_cpy (τ.1 14) (τ.1 19) 0 (3 * pl) 3)) 18 pl (nI (zm_fg (zcw D w) 3))) := zx_tr (zx_wk x2 (by simp)) (zx_ui (by simp) _ _ _)
      refine ⟨zxp_of x3 (fun k hk => by simp at hk; unfold zGS; omega), (x3 29 (by simp)).1, fun q hq => ⟨by rw [(x3 15 (by simp)).1], by rw [(x3 16 (by simp)).1], by rw [(x3 17 (by simp)).1], by rw [zui_n _ _ _ _ hq, (x2 18 (by simp)).1], fun c hc => by rw [zui_o _ _ _ _ (by decide), zuf]; exact cp q c hq hc, fun b hb => by rw [(x3 20 (by simp)).1], fun b hb => by rw [(x3 21 (by simp)).1]⟩, by rw [zui, ety], fun c hc => by rw [zui_o _ _ _ _ (by decide), zuf]; exact cp2 c hc, ⟨by rw [(x3 15 (by simp)).1, h15], by rw [(x3 16 (by simp)).1, h16], by rw [(x3 17 (by simp)).1, h17]⟩, zB_x hB x3 (by decide), fun i hi => by rw [(x3 (10 + dp) (by simp <;> omega)).1]; exact hw i hi, by rw [(x3 32 (by simp)).1, hm]⟩
  · intro c hc
    split
    · rw [zuf_o _ _ _ (by decide)]; exact f c hc
    · rw [zui_o _ _ _ _ (by decide), zuf_o _ _ _ (by decide)]; exact f c hc
