set_option maxRecDepth 20000 in
set_option maxHeartbeats 2000000 in
theorem e_send {D : zD} {ch : Nat} {kp : Bool} (hd : zdok D) (hc : ch ≤ 2000) : ∀ (f dp : Nat), dp + f ≤ 3 → ∀ (σ : ze_S) (P : Nat → List Nat) (w : Nat → Nat) (pl : Nat) (p : List Nat) (T : zTr), zB σ D → zrow σ dp D.2.1 w → (∀ i, i < D.2.1 → w i ≤ 720) → zRS D σ P f pl p T → σ.1 33 2 = nI ch →
    zM (f + 5) m_Pr_sendFrom [.ref 33, .int (nI pl), .int (nI dp), .int (bif kp then 1 else 0)] σ (fun v τ => v = some (.int (nI (zer D ch f w T))) ∧ zSP D σ P kp f dp pl p w T τ) := by
  intro f
  induction f with
  | zero =>
    intro dp hdf σ P w pl p T hB hw hwb hR hch
    obtain ⟨⟨h85, hPp, h18, hty⟩, hn, h15, h16, h17⟩ := hR
    refine zM_in t_Pr_sendFrom [some (.ref 33), some (.int (nI pl)), some (.int (nI dp)), some (.int (bif kp then 1 else 0)), none, none, none] rfl rfl ?_
    refine e_spre hd (by omega) hB (by omega) hw hwb h85 h18 (fun υ hS h14 => ?_)
    obtain ⟨y1, y2, y3, y4, y5, y6⟩ := hS
    refine ze_go1 rfl ?_
    refine ze_go2 rfl rfl ?_
    refine ze_go1 rfl ?_
    refine ze_ca1 rfl ⟨rfl, rfl⟩ (ze_M_le (e_isLeaf (d := 0) (nb := 0) h85 (by rw [y5]; exact h17) (by decide)) (by omega)) (fun v υ' h => ?_)
    obtain ⟨rfl, rfl⟩ := h
    refine ze_brT rfl (by rw [if_pos rfl]; decide) ?_
    iterate 2 (refine ze_go1 rfl ?_)
    iterate 2 (refine ze_go2 rfl rfl ?_)
    refine ze_go1 rfl ?_
    have h33 : υ'.1 33 = σ.1 33 := (y1 33 (by unfold zSS; omega)).1
    refine ze_ca1 rfl ⟨rfl, rfl⟩ (ze_M_le (e_leafErrors (d := 0) (k := 14) (a := 0) (w := w) (ch := ch) hd hwb rfl (by decide) (fun c hc => by rw [Nat.zero_add]; exact h14 c hc) (by rw [h33]; exact hch)) (by omega)) (fun v υ h => ?_)
    obtain ⟨rfl, rfl⟩ := h
    refine ze_rt1 rfl trivial ⟨rfl, y1, fun q hq => y2 q (hq.imp_right (fun z e => z (by rw [e, hPp]; exact List.prefix_rfl))), fun hk => ?_⟩
    rw [zrt_none hn]
    exact ⟨⟨h85, hPp, (y6 hk).1, zty_lt D w hty, (y6 hk).2, zty_id D w _⟩, rfl, by rw [y3]; exact h15, by rw [y4]; exact h16, by rw [y5]; exact h17⟩
  | succ f ih =>
    intro dp hdf σ P w pl p T hB hw hwb hR hch
    obtain ⟨⟨h85, hPp, h18, hty⟩, hR2⟩ := hR
    refine zM_in t_Pr_sendFrom [some (.ref 33), some (.int (nI pl)), some (.int (nI dp)), some (.int (bif kp then 1 else 0)), none, none, none] rfl rfl ?_
    refine e_spre hd (by omega) hB (by omega) hw hwb h85 h18 (fun υ hS h14 => ?_)
    obtain ⟨y1, y2, y3, y4, y5, y6⟩ := hS
    have h33 : υ.1 33 = σ.1 33 := (y1 33 (by unfold zSS; omega)).1
    refine ze_go1 rfl ?_
    refine ze_go2 rfl rfl ?_
    refine ze_go1 rfl ?_
    rcases hR2 with ⟨hn, h15, h16, h17⟩ | ⟨a, t, hT, ha, ht, h15, h16, h17, c8⟩
    · refine ze_ca1 rfl ⟨rfl, rfl⟩ (ze_M_le (e_isLeaf (d := 0) (nb := 0) h85 (by rw [y5]; exact h17) (by decide)) (by omega)) (fun v υ' h => ?_)
      obtain ⟨rfl, rfl⟩ := h
      refine ze_brT rfl (by rw [if_pos rfl]; decide) ?_
      iterate 2 (refine ze_go1 rfl ?_)
      iterate 2 (refine ze_go2 rfl rfl ?_)
      refine ze_go1 rfl ?_
      refine ze_ca1 rfl ⟨rfl, rfl⟩ (ze_M_le (e_leafErrors (d := 0) (k := 14) (a := 0) (w := w) (ch := ch) hd hwb rfl (by decide) (fun c hc => by rw [Nat.zero_add]; exact h14 c hc) (by rw [h33]; exact hch)) (by omega)) (fun v υ h => ?_)
      obtain ⟨rfl, rfl⟩ := h
      refine ze_rt1 rfl trivial ⟨by rw [zer_none hn], y1, fun q hq => y2 q (hq.imp_right (fun z e => z (by rw [e, hPp]; exact List.prefix_rfl))), fun hk => ?_⟩
      rw [zrt_none hn]
      exact ⟨⟨h85, hPp, (y6 hk).1, zty_lt D w hty, (y6 hk).2, zty_id D w _⟩, Or.inl ⟨rfl, by rw [y3]; exact h15, by rw [y4]; exact h16, by rw [y5]; exact h17⟩⟩
    · obtain ⟨hn2, hn4⟩ := znb4 hd ha
      have h4 := hd.1
      have hkf : ze_cl (39 + dp) = 3 := zk_fo (by omega)
      obtain ⟨hBu, hwu, -, -, e21u⟩ := zSS_keep (by omega) y1 hB hw
      have eer : zer D ch (f + 1) w T = zm_s (fun b => zer D ch f (zsd D a t w b) (zsub T b)) (zm_nb (D.2.2.1 a)) := by
        show (match T.1 [] with | none => _ | some q => _) = _
        rw [hT]
      refine ze_ca1 rfl ⟨rfl, rfl⟩ (ze_M_le (e_isLeaf (d := 0) (nb := zm_nb (D.2.2.1 a)) h85 (by rw [y5]; exact h17) hn4) (by omega)) (fun v υ' h => ?_)
      obtain ⟨rfl, rfl⟩ := h
      refine ze_brF rfl (by rw [if_neg (show ¬ zm_nb (D.2.2.1 a) = 0 by omega)]; exact fun q => q rfl) ?_
      iterate 2 (refine ze_go1 rfl ?_)
      refine ze_brT rfl (nI_lt (b := 3) (by omega) (by decide)) ?_
      refine ze_go1 rfl ?_
      iterate 2 (refine ze_go2 rfl rfl ?_)
      refine ze_go1 rfl ?_
      refine ze_go2 rfl ⟨rfl, vp_in_nI (by omega) (by decide)⟩ ?_
      rw [nI_clamp (n := dp) (by omega)]
      iterate 3 (refine ze_go1 rfl ?_)
      iterate 2 (refine ze_go2 rfl rfl ?_)
      refine ze_go1 rfl ?_
      refine ze_go2 rfl ⟨rfl, vp_in_nI (N := 85) h85 (by decide)⟩ ?_
      refine ze_go1 rfl ?_
      iterate 2 (refine ze_go2 rfl rfl ?_)
      refine ze_go1 rfl ?_
      refine ze_go2 rfl ⟨rfl, vp_in_nI (N := 85) h85 (by decide)⟩ ?_
      refine ze_go1 rfl ?_
      iterate 2 (refine ze_go2 rfl rfl ?_)
      refine ze_go1 rfl ?_
      refine ze_go2 rfl ⟨rfl, vp_in_nI (N := 85) h85 (by decide)⟩ ?_
      rw [nI_clamp (n := pl) (by omega), y3, y4, y5, h15, h16, h17]
      refine ze_ca1 rfl ⟨rfl, hkf⟩ (ze_M_le (e_setTest (d := 0) (by omega)) (by omega)) (fun v τ1 h => ?_)
      obtain ⟨rfl, x1, f1, f2, f3, f4⟩ := h
      have hB1 : zB τ1 D := zB_x hBu x1 (fun k hk => by simp at hk; omega)
      have hw1 : zrow τ1 dp D.2.1 w := fun i hi => by rw [(x1 (10 + dp) (by simp <;> omega)).1]; exact hwu i hi
      refine ze_go1 rfl ?_
      refine ze_go2 rfl rfl ?_
      refine ze_go1 rfl ?_
      refine ze_ca1 rfl ⟨rfl, rfl⟩ (ze_M_le (e_tallyParts (d := 0) hd hB1 (by omega) ha ht hw1 hwb f1 f2 f3 f4) (by omega)) (fun v τ2 h => ?_)
      obtain ⟨rfl, x2, F2⟩ := h
      have x12 : zx [39 + dp, 6 + dp] υ' τ2 := zx_tr x1 x2
      have hcl : ∀ k, k ∈ [39 + dp, 6 + dp] → (k = 39 + dp ∨ k = 6 + dp) := fun k hk => by simpa using hk
      have s12 : ∀ q, zsame υ' τ2 q := fun q => zsame_x x12 (by simp <;> omega) (by simp <;> omega) (by simp <;> omega) (by simp <;> omega) (by simp <;> omega) (by simp <;> omega) (by simp <;> omega) q
      -- the branches
      have main : ∀ n j (E : Nat) τ, j + n = zm_nb (D.2.2.1 a) → E = zm_s (fun b => zer D ch f (zsd D a t w b) (zsub T b)) j → zSI D σ P kp f dp pl p w T a t j τ → zE (f + 5) t_Pr_sendFrom (fun v τ => v = some (.int (nI (zer D ch (f + 1) w T))) ∧ zSP D σ P kp (f + 1) dp pl p w T τ) (127, [some (.ref 33), some (.int (nI pl)), some (.int (nI dp)), some (.int (bif kp then 1 else 0)), some (.ref (39 + dp)), some (.int (nI E)), some (.int (nI j))], [], τ) := by
        intro n
        induction n with
        | zero =>
          intro j E τ hj hE hI
          obtain ⟨i1, i2, ⟨j15, j16, j17⟩, i4, i5, i6, i7⟩ := hI
          have ej : j = zm_nb (D.2.2.1 a) := by omega
          subst ej
          iterate 2 (refine ze_go1 rfl ?_)
          iterate 2 (refine ze_go2 rfl rfl ?_)
          refine ze_go1 rfl ?_
          refine ze_go2 rfl ⟨rfl, vp_in_nI (N := 85) h85 (by decide)⟩ ?_
          rw [nI_clamp (n := pl) (by omega), j17]
          refine ze_brT rfl (nI_le (Nat.le_refl _) (by omega)) ?_
          refine ze_go1 rfl ?_
          refine ze_rt1 rfl trivial ⟨by rw [hE, eer], i1, i5, fun hk => ?_⟩
          have ert : zrt D (f + 1) w T = zmk (some (a, t)) (zty D w (T.2 [])) (fun b => if b < zm_nb (D.2.2.1 a) then zrt D f (zsd D a t w b) (zsub T b) else zsub T b) := by
            show (match T.1 [] with | none => _ | some q => _) = _
            rw [hT]
          rw [ert]
          obtain ⟨k18, k19, k20⟩ := i4 hk
          have e21 : τ.1 21 = σ.1 21 := (i1 21 (by unfold zSS; omega)).1
          refine ⟨⟨h85, hPp, k18, zty_lt D w hty, k19, zty_id D w _⟩, Or.inr ⟨a, t, rfl, ha, ht, j15, j16, j17, k20, fun b hb => ?_⟩⟩
          have ec : zch τ pl b = zch σ pl b := by unfold zch; rw [e21]
          rw [ec, e21]
          refine ⟨(c8 b hb).1, ?_⟩
          rw [zsub_mk, if_pos hb]
          exact i7 hk b hb
        | succ n ihn =>
          intro j E τ hj hE hI
          obtain ⟨i1, i2, ⟨j15, j16, j17⟩, i4, i5, i6, i7⟩ := hI
          obtain ⟨hBt, hwt, e33, -, e21⟩ := zSS_keep (by omega) i1 hB hw
          have hK : zm_s (zpt D a t w) 4 ≤ 17280 := by
            have e1 : zm_s (zpt D a t w) 4 = zm_kn (fun i => D.2.2.2.2 i a) w D.2.1 := zm_pu_eq hd ha ht
            have := zm_kn_le (v := fun i => D.2.2.2.2 i a) (w := w) (n := D.2.1)
            have := zm_w_le hd.2.1 hwb
            omega
          iterate 2 (refine ze_go1 rfl ?_)
          iterate 2 (refine ze_go2 rfl rfl ?_)
          refine ze_go1 rfl ?_
          refine ze_go2 rfl ⟨rfl, vp_in_nI (N := 85) h85 (by decide)⟩ ?_
          rw [nI_clamp (n := pl) (by omega), j17]
          refine ze_brF rfl (nI_ge (by omega) (by omega)) ?_
          refine ze_go1 rfl ?_
          refine ze_go2 rfl rfl ?_
          iterate 2 (refine ze_go1 rfl ?_)
          refine ze_ca1 rfl ⟨rfl, rfl⟩ (ze_M_le (e_goDown (d := 0) (b := j) hd hBt (by omega) ha ht hwt hwb i2 hK (by omega)) (by omega)) (fun v τc hτ => ?_)
          obtain ⟨rfl, xc, rc⟩ := hτ
          have esd : (fun i => zm_ps (D.2.2.1 a) t (zpt D a t w) (zm_s (zpt D a t w) 4) (zm_fg (zpt D a t w) 4) (w i) (D.2.2.2.2 i a) j) = zsd D a t w j := by
            funext i
            rw [show zm_s (zpt D a t w) 4 = zm_kn (fun i => D.2.2.2.2 i a) w D.2.1 from zm_pu_eq hd ha ht]
            rfl
          rw [esd] at rc
          have sc : ∀ q, zsame τ τc q := fun q => zsame_x xc (by simp <;> omega) (by simp <;> omega) (by simp <;> omega) (by simp <;> omega) (by simp <;> omega) (by simp <;> omega) (by simp <;> omega) q
          have ec : ∀ k, k ≠ 10 + (dp + 1) → τc.1 k = τ.1 k := fun k hk => (xc k (by simp [hk])).1
          iterate 3 (refine ze_go1 rfl ?_)
          refine ze_go2 rfl rfl ?_
          iterate 2 (refine ze_go1 rfl ?_)
          refine ze_ca1 rfl ⟨rfl, rfl⟩ (ze_M_le (e_below (d := 0) h85 (show j < 4 by omega)) (by omega)) (fun v τc' h => ?_)
          obtain ⟨rfl, rfl⟩ := h
          rw [ec 21 (by omega), e21, (c8 j (by omega)).1]
          iterate 4 (refine ze_go1 rfl ?_)
          rw [show nI dp + 1 = nI (dp + 1) from nI_1 _]
          have hRj : zRS D τc' P f (zch σ pl j) (p ++ [j]) (zsub T j) := zRS_eq hd (i6 j (Nat.le_refl _) (by omega)) (fun q _ => ⟨sc q, rfl⟩)
          have hBc : zB τc' D := zB_x hBt xc (fun k hk => by simp at hk; omega)
          refine ze_ca1 rfl ⟨rfl, rfl⟩ (ih (dp + 1) (by omega) τc' P (zsd D a t w j) (zch σ pl j) (p ++ [j]) (zsub T j) hBc rc (fun i hi => Nat.le_trans zsd_le (hwb i hi)) hRj (by rw [ec 33 (by omega), e33]; exact hch)) (fun v τd hτ => ?_)
          obtain ⟨rfl, z1, z2, z3⟩ := hτ
          iterate 4 (refine ze_go1 rfl ?_)
          rw [nI_add, show nI j + 1 = nI (j + 1) from nI_1 _]
          refine ihn (j + 1) _ τd (by omega) (by rw [hE]; rfl) ?_
          have spl : zsame τc' τd pl := z2 pl (Or.inr (by rw [hPp]; exact zpre3))
          have sall : ∀ q, (kp = false ∨ ¬ (p ++ [j]) <+: P q) → zsame τ τd q := fun q hq => zsame_tr (sc q) (z2 q hq)
          refine ⟨zxp_tr i1 (zxp_tr (zxp_of xc (fun k hk => by simp at hk; unfold zSS; omega)) (zxp_wk z1 (fun k hk => by unfold zSS at hk ⊢; omega))), ?_, ⟨?_, ?_, ?_⟩, fun hk => ⟨?_, fun c hc => ?_, fun b hb => ?_⟩, fun q hq => ?_, fun b hb1 hb2 => ?_, fun hk b hb => ?_⟩
          · exact zFk_eq i2 (by rw [(z1 (39 + dp) (by unfold zSS; omega)).1, ec _ (by omega)]) (by rw [(z1 (6 + dp) (by unfold zSS; omega)).1, ec _ (by omega)])
          · rw [spl.1, ec 15 (by omega), j15]
          · rw [spl.2.1, ec 16 (by omega), j16]
          · rw [spl.2.2.1, ec 17 (by omega), j17]
          · rw [spl.2.2.2.1, ec 18 (by omega)]; exact (i4 hk).1
          · rw [spl.2.2.2.2.1 c hc, ec 19 (by omega)]; exact (i4 hk).2.1 c hc
          · rw [spl.2.2.2.2.2.1 b hb, ec 20 (by omega)]; exact (i4 hk).2.2 b hb
          · refine zsame_tr (i5 q hq) (sall q (hq.imp_right (fun z e => z ((List.prefix_append p [j]).trans e))))
          · refine zRS_eq hd (i6 b (by omega) hb2) (fun q hq => ⟨sall q (Or.inr (fun z => ?_)), rfl⟩)
            have := zpre4 hq z
            omega
          · by_cases q : b = j
            · subst q; exact z3 hk
            · refine zRC_eq hd (i7 hk b (by omega)) (fun s hs => ⟨sall s (Or.inr (fun z => q (zpre4 hs z))), rfl⟩)
      -- where the test is kept
      have st : ∀ τ3, zSI D σ P kp f dp pl p w T a t 0 τ3 → zE (f + 5) t_Pr_sendFrom (fun v τ => v = some (.int (nI (zer D ch (f + 1) w T))) ∧ zSP D σ P kp (f + 1) dp pl p w T τ) (121, [some (.ref 33), some (.int (nI pl)), some (.int (nI dp)), some (.int (bif kp then 1 else 0)), some (.ref (39 + dp)), none, none], [], τ3) := fun τ3 h3 => by
        iterate 4 (refine ze_go1 rfl ?_)
        exact main (zm_nb (D.2.2.1 a)) 0 0 τ3 (by omega) rfl h3
      have z12 : zxp (zSS dp) σ τ2 := zxp_tr y1 (zxp_of x12 (fun k hk => by have := hcl k hk; unfold zSS; omega))
      have hRS2 : ∀ b, b < zm_nb (D.2.2.1 a) → zRS D τ2 P f (zch σ pl b) (p ++ [b]) (zsub T b) := fun b hb => zRS_eq hd (c8 b hb).2 (fun q hq => ⟨zsame_tr (y2 q (Or.inr (fun e => by rw [e, hPp] at hq; exact zpre3 hq))) (s12 q), rfl⟩)
      refine ze_go1 rfl ?_
      cases hkp : kp with
      | false =>
        rw [hkp] at st y2 y6
        refine ze_brT rfl rfl ?_
        refine st τ2 ⟨z12, F2, ⟨by rw [(s12 pl).1, y3, h15], by rw [(s12 pl).2.1, y4, h16], by rw [(s12 pl).2.2.1, y5, h17]⟩, fun h => (by cases h), fun q _ => zsame_tr (y2 q (Or.inl rfl)) (s12 q), fun b _ hb => hRS2 b hb, fun h => (by cases h)⟩
      | true =>
        rw [hkp] at st y2 y6
        refine ze_brF rfl (by decide) ?_
        refine ze_go1 rfl ?_
        refine ze_go2 rfl rfl ?_
        iterate 2 (refine ze_go1 rfl ?_)
        refine ze_ca1 rfl ⟨rfl, rfl⟩ (ze_M_le (e_keepTest (d := 0) (dp := dp) h85 (by omega)) (by omega)) (fun v τ3 h => ?_)
        obtain ⟨rfl, hτ3⟩ := h
        obtain ⟨g1, g2, g3, g4, g5, g6⟩ := F2
        have x3 : zx [15, 16, 17, 20] τ2 τ3 := by
          rw [hτ3]
          exact zx_tr (zx_tr (zx_tr (zx_ui (by simp) _ _ _) (zx_ui (by simp) _ _ _)) (zx_ui (by simp) _ _ _)) (zx_uf (by simp) _ _)
        have n15 : τ3.1 15 pl = nI a ∧ τ3.1 16 pl = t ∧ τ3.1 17 pl = nI (zm_nb (D.2.2.1 a)) ∧ ∀ b, b < 4 → τ3.1 20 (4 * pl + b) = nI (zpt D a t w b) := by
          refine ⟨?_, ?_, ?_, fun b hb => ?_⟩
          · rw [hτ3, zuf_o _ _ _ (by decide), zui_o _ _ _ _ (by decide), zui_o _ _ _ _ (by decide), zui, g1]
          · rw [hτ3, zuf_o _ _ _ (by decide), zui_o _ _ _ _ (by decide), zui, g2]
          · rw [hτ3, zuf_o _ _ _ (by decide), zui, g3]
          · rw [hτ3, zuf, pk_cpy_in (by omega) (by omega), show 0 + (4 * pl + b - 4 * pl) = b by omega]
            exact g6 b hb
        have s3 : ∀ q, q ≠ pl → zsame τ2 τ3 q := fun q hq => by
          refine ⟨?_, ?_, ?_, by rw [(x3 18 (by simp)).1], fun c hc => by rw [(x3 19 (by simp)).1], fun b hb => ?_, fun b hb => by rw [(x3 21 (by simp)).1]⟩
          · rw [hτ3, zuf_o _ _ _ (by decide), zui_o _ _ _ _ (by decide), zui_o _ _ _ _ (by decide), zui_n _ _ _ _ hq]
          · rw [hτ3, zuf_o _ _ _ (by decide), zui_o _ _ _ _ (by decide), zui_n _ _ _ _ hq, zui_o _ _ _ _ (by decide)]
          · rw [hτ3, zuf_o _ _ _ (by decide), zui_n _ _ _ _ hq, zui_o _ _ _ _ (by decide), zui_o _ _ _ _ (by decide)]
          · rw [hτ3, zuf, pk_cpy_out (by omega)]
        have e2 : ∀ k, k ≠ 39 + dp → k ≠ 6 + dp → τ2.1 k = υ'.1 k := fun k h1 h2 => (x12 k (fun z => by have := hcl k z; omega)).1
        refine st τ3 ⟨zxp_tr z12 (zxp_of x3 (fun k hk => by simp at hk; unfold zSS; omega)), zFk_eq ⟨g1, g2, g3, g4, g5, g6⟩ (x3 (39 + dp) (by simp <;> omega)).1 (x3 (6 + dp) (by simp <;> omega)).1, ⟨n15.1, n15.2.1, n15.2.2.1⟩, fun _ => ⟨?_, fun c hc => ?_, n15.2.2.2⟩, fun q hq => ?_, fun b _ hb => ?_, fun _ b hb => absurd hb (Nat.not_lt_zero _)⟩
        · rw [(x3 18 (by simp)).1, e2 18 (by omega) (by omega)]; exact (y6 rfl).1
        · rw [(x3 19 (by simp)).1, e2 19 (by omega) (by omega)]; exact (y6 rfl).2 c hc
        · have hq2 : q ≠ pl := fun e => (hq.resolve_left (by decide)) (by rw [e, hPp]; exact List.prefix_rfl)
          exact zsame_tr (zsame_tr (y2 q (Or.inr hq2)) (s12 q)) (s3 q hq2)
        · exact zRS_eq hd (hRS2 b hb) (fun q hq => ⟨s3 q (fun e => by rw [e, hPp] at hq; exact zpre3 hq), rfl⟩)
