theorem zpn_none {D : zD} {ch f : Nat} {w : Nat → Nat} {T : zTr} (h : T.1 [] = none) : zpn D ch f w T = T := by
  cases f with
  | zero => rfl
  | succ f => unfold zpn; rw [h]
set_option maxRecDepth 20000 in
set_option maxHeartbeats 4000000 in
theorem e_prune {D : zD} {ch : Nat} (hd : zdok D) (hc : ch ≤ 2000) : ∀ (f dp : Nat), dp + f ≤ 3 → ∀ (σ : ze_S) (P : Nat → List Nat) (w : Nat → Nat) (pl : Nat) (p : List Nat) (T : zTr), zB σ D → zrow σ dp D.2.1 w → (∀ i, i < D.2.1 → w i ≤ 720) → zRC D σ P f w pl p T → σ.1 33 2 = nI ch →
    zM (f + 6) m_Pr_pruneFrom [.ref 33, .int (nI pl), .int (nI dp)] σ (fun v τ => v = some (.int (nI (zer D ch f w (zpn D ch f w T)))) ∧ zPP D σ P ch f dp pl p w T τ) := by
  intro f
  induction f with
  | zero =>
    intro dp hdf σ P w pl p T hB hw hwb hR hch
    obtain ⟨h85, hPp, h18, hty, h19, -⟩ := zRC_hd hR
    have hR0 := hR
    obtain ⟨-, hn, h15, h16, h17⟩ := hR0
    refine zM_in t_Pr_pruneFrom [some (.ref 33), some (.int (nI pl)), some (.int (nI dp)), none, none, none, none] rfl rfl ?_
    refine ze_go1 rfl ?_
    refine ze_go2 rfl rfl ?_
    refine ze_go1 rfl ?_
    refine ze_ca1 rfl ⟨rfl, rfl⟩ (ze_M_le (e_isLeaf (d := 0) (nb := 0) h85 h17 (by decide)) (by omega)) (fun v υ' h => ?_)
    obtain ⟨rfl, rfl⟩ := h
    refine ze_brT rfl (by rw [if_pos rfl]; decide) ?_
    iterate 2 (refine ze_go1 rfl ?_)
    iterate 2 (refine ze_go2 rfl rfl ?_)
    iterate 3 (refine ze_go1 rfl ?_)
    rw [zi3m]
    refine ze_ca1 rfl ⟨rfl, rfl⟩ (ze_M_le (e_leafErrors (d := 0) (k := 19) (a := 3 * pl) (w := w) (ch := ch) hd hwb rfl (by show 3 * pl + 3 ≤ 255; omega) h19 hch) (by omega)) (fun v υ h => ?_)
    obtain ⟨rfl, rfl⟩ := h
    refine ze_rt1 rfl trivial ⟨rfl, zxp_rf _ _, P, fun q _ => ⟨zsame_rf _ _, rfl⟩, fun q h => h, hR⟩
  | succ f ih =>
    intro dp hdf σ P w pl p T hB hw hwb hR hch
    obtain ⟨h85, hPp, h18, hty, h19, hty2⟩ := zRC_hd hR
    refine zM_in t_Pr_pruneFrom [some (.ref 33), some (.int (nI pl)), some (.int (nI dp)), none, none, none, none] rfl rfl ?_
    refine ze_go1 rfl ?_
    refine ze_go2 rfl rfl ?_
    refine ze_go1 rfl ?_
    rcases hR.2 with ⟨hn, h15, h16, h17⟩ | ⟨a, t, hT, ha, ht, h15, h16, h17, h20, c8⟩
    · refine ze_ca1 rfl ⟨rfl, rfl⟩ (ze_M_le (e_isLeaf (d := 0) (nb := 0) h85 h17 (by decide)) (by omega)) (fun v υ' h => ?_)
      obtain ⟨rfl, rfl⟩ := h
      refine ze_brT rfl (by rw [if_pos rfl]; decide) ?_
      iterate 2 (refine ze_go1 rfl ?_)
      iterate 2 (refine ze_go2 rfl rfl ?_)
      iterate 3 (refine ze_go1 rfl ?_)
      rw [zi3m]
      refine ze_ca1 rfl ⟨rfl, rfl⟩ (ze_M_le (e_leafErrors (d := 0) (k := 19) (a := 3 * pl) (w := w) (ch := ch) hd hwb rfl (by show 3 * pl + 3 ≤ 255; omega) h19 hch) (by omega)) (fun v υ h => ?_)
      obtain ⟨rfl, rfl⟩ := h
      refine ze_rt1 rfl trivial ⟨?_, zxp_rf _ _, P, fun q _ => ⟨zsame_rf _ _, rfl⟩, fun q h => h, ?_⟩
      · rw [zpn_none hn, zer_none hn]
      · rw [zpn_none hn]; exact hR
    · obtain ⟨hn2, hn4⟩ := znb4 hd ha
      have h4 := hd.1
      have hkf : ze_cl (39 + dp) = 3 := zk_fo (by omega)
      have hK : zm_s (zpt D a t w) 4 ≤ 17280 := by
        have e1 : zm_s (zpt D a t w) 4 = zm_kn (fun i => D.2.2.2.2 i a) w D.2.1 := zm_pu_eq hd ha ht
        have := zm_kn_le (v := fun i => D.2.2.2.2 i a) (w := w) (n := D.2.1)
        have := zm_w_le hd.2.1 hwb
        omega
      have hwd : ∀ b i, i < D.2.1 → zsd D a t w b i ≤ 720 := fun b i hi => Nat.le_trans zsd_le (hwb i hi)
      -- the pruned branches
      have eS : ∀ b, b < zm_nb (D.2.2.1 a) → (fun b => if b < zm_nb (D.2.2.1 a) then zpn D ch f (zsd D a t w b) (zsub T b) else zsub T b) b = zpn D ch f (zsd D a t w b) (zsub T b) := fun b hb => if_pos hb
      have epn : zpn D ch (f + 1) w T = zpl D ch f w (T.2 []) a t (fun b => if b < zm_nb (D.2.2.1 a) then zpn D ch f (zsd D a t w b) (zsub T b) else zsub T b) := by
        show (match T.1 [] with | none => _ | some q => _) = _
        rw [hT]
      rw [epn]
      generalize hS : (fun b => if b < zm_nb (D.2.2.1 a) then zpn D ch f (zsd D a t w b) (zsub T b) else zsub T b) = S at eS epn
      refine ze_ca1 rfl ⟨rfl, rfl⟩ (ze_M_le (e_isLeaf (d := 0) (nb := zm_nb (D.2.2.1 a)) h85 h17 hn4) (by omega)) (fun v υ' h => ?_)
      obtain ⟨rfl, rfl⟩ := h
      refine ze_brF rfl (by rw [if_neg (show ¬ zm_nb (D.2.2.1 a) = 0 by omega)]; exact fun q => q rfl) ?_
      iterate 2 (refine ze_go1 rfl ?_)
      refine ze_brT rfl (nI_lt (b := 3) (by omega) (by decide)) ?_
      refine ze_go1 rfl ?_
      refine ze_go2 rfl rfl ?_
      iterate 2 (refine ze_go1 rfl ?_)
      iterate 2 (refine ze_go2 rfl rfl ?_)
      refine ze_go1 rfl ?_
      refine ze_go2 rfl ⟨rfl, vp_in_nI (by omega) (by decide)⟩ ?_
      rw [nI_clamp (n := dp) (by omega)]
      refine ze_ca1 rfl ⟨rfl, rfl⟩ (ze_M_le (e_readTest (d := 0) (dp := dp) h85 (by omega) h15 h16 h17 h20 (fun b hb => Nat.lt_of_le_of_lt (Nat.le_trans (zm_s_pos (f := zpt D a t w) hb) hK) (by decide))) (by omega)) (fun v τ1 h => ?_)
      obtain ⟨rfl, x1, F1⟩ := h
      have hcl : ∀ k, k ∈ [39 + dp, 6 + dp] → (k = 39 + dp ∨ k = 6 + dp) := fun k hk => by simpa using hk
      have s1 : ∀ q, zsame υ' τ1 q := fun q => zsame_x x1 (by simp <;> omega) (by simp <;> omega) (by simp <;> omega) (by simp <;> omega) (by simp <;> omega) (by simp <;> omega) (by simp <;> omega) q
      -- behind the branches
      have after : ∀ τ R, zPI D υ' P ch f dp pl p w T a t (zm_nb (D.2.2.1 a)) R τ → zE (f + 6) t_Pr_pruneFrom (fun v τ => v = some (.int (nI (zer D ch (f + 1) w (zpl D ch f w (T.2 []) a t S)))) ∧ zPP D υ' P ch (f + 1) dp pl p w T τ) (103, [some (.ref 33), some (.int (nI pl)), some (.int (nI dp)), some (.int (nI (zm_s (fun b => zer D ch f (zsd D a t w b) (S b)) (zm_nb (D.2.2.1 a))))), some (.int (nI (zm_nb (D.2.2.1 a)))), none, none], [], τ) := by
        intro τ R hI
        obtain ⟨i1, i2, i3, i4, i5, i6, -, i8⟩ := hI
        obtain ⟨hBt, hwt, e33, -⟩ := zPS_keep (by omega) i1 hB hw
        have i8' : ∀ b, b < zm_nb (D.2.2.1 a) → zRC D τ R f (zsd D a t w b) (zch υ' pl b) (p ++ [b]) (S b) := fun b hb => by rw [eS b hb]; exact i8 b hb
        have ech : ∀ b, b < zm_nb (D.2.2.1 a) → zch τ pl b = zch υ' pl b := fun b hb => by unfold zch; rw [i3.2.2.2.2.2.2 b (by omega)]
        have t17 : τ.1 17 pl = nI (zm_nb (D.2.2.1 a)) := by rw [i3.2.2.1, h17]
        have t19 : ∀ c, c < 3 → τ.1 19 (3 * pl + c) = nI (zcw D w c) := fun c hc => by rw [i3.2.2.2.2.1 c hc]; exact h19 c hc
        have hhv : zhv D w a t < zm_nb (D.2.2.1 a) := by
          have := zm_fg_lt (fun b => zm_s (zcw D (zsd D a t w b)) 3) (zm_nb (D.2.2.1 a) - 1)
          rwa [show zm_nb (D.2.2.1 a) - 1 + 1 = zm_nb (D.2.2.1 a) by omega] at this
        have hRB := i8' _ hhv
        have hB85 : zch υ' pl (zhv D w a t) < 85 := (zRC_hd hRB).1
        have bA := zle_lt hd hwb hc
        have bC : zer D ch f w (S (zhv D w a t)) ≤ 20000 * 4 ^ f := zer_lt hd hc hwb (zRC_S hRB)
        have bE : zm_s (fun b => zer D ch f (zsd D a t w b) (S b)) (zm_nb (D.2.2.1 a)) ≤ 20000 * 4 ^ f * 4 := by
          have h1 := zm_s_bd (f := fun b => zer D ch f (zsd D a t w b) (S b)) (n := zm_nb (D.2.2.1 a)) (c := 20000 * 4 ^ f) (fun b hb => zer_lt hd hc (hwd b) (zRC_S (i8' b hb)))
          exact Nat.le_trans h1 (Nat.mul_le_mul_left _ hn4)
        have b4 : 4 ^ f ≤ 16 := by
          have : 4 ^ f ≤ 4 ^ 2 := Nat.pow_le_pow_right (by decide) (by omega)
          exact this
        iterate 2 (refine ze_go1 rfl ?_)
        iterate 2 (refine ze_go2 rfl rfl ?_)
        iterate 3 (refine ze_go1 rfl ?_)
        rw [zi3m]
        refine ze_ca1 rfl ⟨rfl, rfl⟩ (ze_M_le (e_leafErrors (d := 0) (k := 19) (a := 3 * pl) (w := w) (ch := ch) hd hwb rfl (by show 3 * pl + 3 ≤ 255; omega) t19 (by rw [e33]; exact hch)) (by omega)) (fun v τ' h => ?_)
        obtain ⟨rfl, rfl⟩ := h
        iterate 2 (refine ze_go1 rfl ?_)
        refine ze_go2 rfl rfl ?_
        refine ze_go1 rfl ?_
        refine ze_ca1 rfl ⟨rfl, rfl⟩ (ze_M_le (e_heaviest (d := 0) (D := D) (P := R) (f := f) (a := a) (p := p) (W := fun b => zsd D a t w b) (S := S) hd h85 t17 ⟨hn2, hn4⟩ (fun b hb => by rw [zcw_sum hd]; exact zm_w_le hd.2.1 (hwd b)) (fun b hb => by
          rw [ech b hb, i3.2.2.2.2.2.2 b (by omega)]
          exact ⟨(c8 b hb).1, i8' b hb⟩)) (by omega)) (fun v τ' h => ?_)
        obtain ⟨rfl, rfl⟩ := h
        rw [show zm_fg (fun b => zm_s (zcw D ((fun b => zsd D a t w b) b)) 3) (zm_nb (D.2.2.1 a)) = zhv D w a t from rfl, ech _ hhv]
        iterate 5 (refine ze_go1 rfl ?_)
        refine ze_ca1 rfl ⟨rfl, rfl⟩ (ze_M_le (e_send (kp := false) (ch := ch) hd hc f dp (by omega) τ' R w (zch υ' pl (zhv D w a t)) (p ++ [zhv D w a t]) (S (zhv D w a t)) hBt hwt hwb (zRC_S hRB) (by rw [e33]; exact hch)) (by omega)) (fun v τ2 h => ?_)
        obtain ⟨rfl, z1, z2, -⟩ := h
        have sz : ∀ q, zsame τ' τ2 q := fun q => z2 q (Or.inl rfl)
        have zP : zxp (zPS dp) υ' τ2 := zxp_tr i1 (zxp_wk z1 (fun k hk => by unfold zSS at hk; unfold zPS; omega))
        have hR2 : ∀ b, b < zm_nb (D.2.2.1 a) → zRC D τ2 R f (zsd D a t w b) (zch υ' pl b) (p ++ [b]) (S b) := fun b hb => zRC_eq hd (i8' b hb) (fun q _ => ⟨sz q, rfl⟩)
        have spl : zsame υ' τ2 pl := zsame_tr i3 (sz pl)
        have fr2 : ∀ q, ¬ p <+: P q → zsame υ' τ2 q ∧ R q = P q := fun q hq => ⟨zsame_tr (i5 q hq).1 (sz q), (i5 q hq).2⟩
        -- E stays
        have stay : ¬ (zle D w ch ≤ zer D ch f w (S (zhv D w a t)) ∧ zle D w ch ≤ zm_s (fun b => zer D ch f (zsd D a t w b) (S b)) (zm_nb (D.2.2.1 a))) → ¬ zer D ch f w (S (zhv D w a t)) ≤ zm_s (fun b => zer D ch f (zsd D a t w b) (S b)) (zm_nb (D.2.2.1 a)) → zm_s (fun b => zer D ch f (zsd D a t w b) (S b)) (zm_nb (D.2.2.1 a)) = zer D ch (f + 1) w (zpl D ch f w (T.2 []) a t S) ∧ zPP D υ' P ch (f + 1) dp pl p w T τ2 := by
          intro q1 q2
          have e : zpl D ch f w (T.2 []) a t S = zmk (some (a, t)) (T.2 []) S := by
            unfold zpl
            rw [if_neg q1, if_neg q2]
          rw [e]
          refine ⟨rfl, zP, R, fr2, i6, ?_⟩
          rw [epn, e]
          refine ⟨⟨h85, i4, by rw [spl.2.2.2.1]; exact h18, hty, fun c hc => by rw [spl.2.2.2.2.1 c hc]; exact h19 c hc, hty2⟩, Or.inr ⟨a, t, rfl, ha, ht, by rw [spl.1]; exact h15, by rw [spl.2.1]; exact h16, by rw [spl.2.2.1]; exact h17, fun b hb => by rw [spl.2.2.2.2.2.1 b hb]; exact h20 b hb, fun b hb => ?_⟩⟩
          have e2 : zch τ2 pl b = zch υ' pl b := by unfold zch; rw [spl.2.2.2.2.2.2 b (by omega)]
          rw [e2, spl.2.2.2.2.2.2 b (by omega)]
          exact ⟨(c8 b hb).1, hR2 b hb⟩
        have raise : ¬ (zle D w ch ≤ zer D ch f w (S (zhv D w a t)) ∧ zle D w ch ≤ zm_s (fun b => zer D ch f (zsd D a t w b) (S b)) (zm_nb (D.2.2.1 a))) → zE (f + 6) t_Pr_pruneFrom (fun v τ => v = some (.int (nI (zer D ch (f + 1) w (zpl D ch f w (T.2 []) a t S)))) ∧ zPP D υ' P ch (f + 1) dp pl p w T τ) (163, [some (.ref 33), some (.int (nI pl)), some (.int (nI dp)), some (.int (nI (zm_s (fun b => zer D ch f (zsd D a t w b) (S b)) (zm_nb (D.2.2.1 a))))), some (.int (nI (zle D w ch))), some (.int (nI (zch υ' pl (zhv D w a t)))), some (.int (nI (zer D ch f w (S (zhv D w a t)))))], [], τ2) := by
          intro q1
          iterate 2 (refine ze_go1 rfl ?_)
          by_cases q2 : zer D ch f w (S (zhv D w a t)) ≤ zm_s (fun b => zer D ch f (zsd D a t w b) (S b)) (zm_nb (D.2.2.1 a))
          · refine ze_brF rfl (nI_nlt q2 (by omega)) ?_
            refine ze_go1 rfl ?_
            refine ze_go2 rfl rfl ?_
            iterate 2 (refine ze_go1 rfl ?_)
            refine ze_ca1 rfl ⟨rfl, rfl⟩ (ze_M_le (e_moveNode (d := 0) hB85 h85) (by omega)) (fun v τ3 h => ?_)
            obtain ⟨rfl, rfl⟩ := h
            iterate 4 (refine ze_go1 rfl ?_)
            have x3 := zmv_x τ2 (zch υ' pl (zhv D w a t)) pl
            have hRm : zRS D (zmv τ2 (zch υ' pl (zhv D w a t)) pl) (fun q => zrl p (zhv D w a t) (R q)) f pl p (S (zhv D w a t)) := zRS_mv hd h85 i4 (zRC_S (hR2 _ hhv))
            have zP3 : zxp (zPS dp) υ' (zmv τ2 (zch υ' pl (zhv D w a t)) pl) := zxp_tr zP (zxp_of x3 (fun k hk => by simp at hk; unfold zPS; omega))
            obtain ⟨hB3, hw3, e33c, -⟩ := zPS_keep (by omega) zP3 hB hw
            refine ze_ca1 rfl ⟨rfl, rfl⟩ (ze_M_le (e_send (kp := true) (ch := ch) hd hc f dp (by omega) (zmv τ2 (zch υ' pl (zhv D w a t)) pl) (fun q => zrl p (zhv D w a t) (R q)) w pl p (S (zhv D w a t)) hB3 hw3 hwb hRm (by rw [e33c]; exact hch)) (by omega)) (fun v τ4 h => ?_)
            obtain ⟨rfl, u1, u2, u3⟩ := h
            have e : zpl D ch f w (T.2 []) a t S = zrt D f w (S (zhv D w a t)) := by
              unfold zpl
              rw [if_neg q1, if_pos q2]
            rw [e]
            refine ze_rt1 rfl trivial ⟨by rw [zer_rt hRm], zxp_tr zP3 (zxp_wk u1 (fun k hk => by unfold zSS at hk; unfold zPS; omega)), fun q => zrl p (zhv D w a t) (R q), fun q hq => ?_, fun q hq => ?_, ?_⟩
            · have hRq : ¬ p <+: R q := by rw [(fr2 q hq).2]; exact hq
              have hz : zrl p (zhv D w a t) (R q) = R q := zrl_out (fun z => hRq ((List.prefix_append p _).trans z))
              refine ⟨zsame_tr (zsame_tr (fr2 q hq).1 (zmv_same (fun e => hq (by rw [e, hPp]; exact List.prefix_rfl)))) (u2 q (Or.inr (by show ¬ p <+: zrl p (zhv D w a t) (R q); rw [hz]; exact hRq))), by show zrl p (zhv D w a t) (R q) = P q; rw [hz]; exact (fr2 q hq).2⟩
            · show p <+: zrl p (zhv D w a t) (R q)
              unfold zrl
              split
              · exact List.prefix_append _ _
              · exact i6 q hq
            · rw [epn, e]
              exact zRC_up (u3 rfl)
          · refine ze_brT rfl (nI_lt (by omega) (by omega)) ?_
            refine ze_go1 rfl ?_
            obtain ⟨w1, w2⟩ := stay q1 q2
            refine ze_rt1 rfl trivial ⟨?_, w2⟩
            rw [← w1]
        iterate 3 (refine ze_go1 rfl ?_)
        by_cases q1 : zle D w ch ≤ zer D ch f w (S (zhv D w a t))
        · refine ze_brF rfl (nI_nlt q1 (by omega)) ?_
          iterate 2 (refine ze_go1 rfl ?_)
          by_cases q2 : zle D w ch ≤ zm_s (fun b => zer D ch f (zsd D a t w b) (S b)) (zm_nb (D.2.2.1 a))
          · refine ze_brF rfl (nI_nlt q2 (by omega)) ?_
            refine ze_go1 rfl ?_
            refine ze_go2 rfl rfl ?_
            refine ze_go1 rfl ?_
            refine ze_ca1 rfl ⟨rfl, rfl⟩ (ze_M_le (e_becomeLeaf (d := 0) h85) (by omega)) (fun v τ3 h => ?_)
            obtain ⟨rfl, rfl⟩ := h
            refine ze_go1 rfl ?_
            have e : zpl D ch f w (T.2 []) a t S = zmk none (T.2 []) (fun _ => zlf) := by
              unfold zpl
              rw [if_pos ⟨q1, q2⟩]
            rw [e]
            have x3 : zx [15, 16, 17] τ2 (ze_ui (ze_ui (ze_ui τ2 15 pl (-1)) 16 pl (-1)) 17 pl 0) := zx_tr (zx_tr (zx_ui (by simp) _ _ _) (zx_ui (by simp) _ _ _)) (zx_ui (by simp) _ _ _)
            refine ze_rt1 rfl trivial ⟨rfl, zxp_tr zP (zxp_of x3 (fun k hk => by simp at hk; unfold zPS; omega)), R, fun q hq => ⟨zsame_tr (fr2 q hq).1 ?_, (fr2 q hq).2⟩, i6, ?_⟩
            · have hq2 : q ≠ pl := fun e => hq (by rw [e, hPp]; exact List.prefix_rfl)
              refine ⟨?_, ?_, ?_, by rw [(x3 18 (by simp)).1], fun c hc => by rw [(x3 19 (by simp)).1], fun b hb => by rw [(x3 20 (by simp)).1], fun b hb => by rw [(x3 21 (by simp)).1]⟩
              · rw [zui_o _ _ _ _ (by decide), zui_o _ _ _ _ (by decide), zui_n _ _ _ _ hq2]
              · rw [zui_o _ _ _ _ (by decide), zui_n _ _ _ _ hq2, zui_o _ _ _ _ (by decide)]
              · rw [zui_n _ _ _ _ hq2, zui_o _ _ _ _ (by decide), zui_o _ _ _ _ (by decide)]
            · rw [epn, e]
              refine ⟨⟨h85, i4, by rw [(x3 18 (by simp)).1, spl.2.2.2.1]; exact h18, hty, fun c hc => by rw [(x3 19 (by simp)).1, spl.2.2.2.2.1 c hc]; exact h19 c hc, hty2⟩, Or.inl ⟨rfl, ?_, ?_, ?_⟩⟩
              · rw [zui_o _ _ _ _ (by decide), zui_o _ _ _ _ (by decide), zui]
              · rw [zui_o _ _ _ _ (by decide), zui]
              · rw [zui]
          · refine ze_brT rfl (nI_lt (by omega) (by omega)) ?_
            exact raise (fun z => q2 z.2)
        · refine ze_brT rfl (nI_lt (by omega) (by omega)) ?_
          exact raise (fun z => q1 z.1)
      -- the branches
      have main : ∀ n j (E : Nat) τ R, j + n = zm_nb (D.2.2.1 a) → E = zm_s (fun b => zer D ch f (zsd D a t w b) (S b)) j → zPI D υ' P ch f dp pl p w T a t j R τ → zE (f + 6) t_Pr_pruneFrom (fun v τ => v = some (.int (nI (zer D ch (f + 1) w (zpl D ch f w (T.2 []) a t S)))) ∧ zPP D υ' P ch (f + 1) dp pl p w T τ) (53, [some (.ref 33), some (.int (nI pl)), some (.int (nI dp)), some (.int (nI E)), some (.int (nI j)), none, none], [], τ) := by
        intro n
        induction n with
        | zero =>
          intro j E τ R hj hE hI
          have ej : j = zm_nb (D.2.2.1 a) := by omega
          subst ej
          have t17 : τ.1 17 pl = nI (zm_nb (D.2.2.1 a)) := by rw [hI.2.2.1.2.2.1, h17]
          iterate 2 (refine ze_go1 rfl ?_)
          iterate 2 (refine ze_go2 rfl rfl ?_)
          refine ze_go1 rfl ?_
          refine ze_go2 rfl ⟨rfl, vp_in_nI (N := 85) h85 (by decide)⟩ ?_
          rw [nI_clamp (n := pl) (by omega), t17]
          refine ze_brT rfl (nI_le (Nat.le_refl _) (by omega)) ?_
          rw [hE]
          exact after τ R hI
        | succ n ihn =>
          intro j E τ R hj hE hI
          obtain ⟨i1, i2, i3, i4, i5, i6, i7, i8⟩ := hI
          obtain ⟨hBt, hwt, e33, -⟩ := zPS_keep (by omega) i1 hB hw
          have t17 : τ.1 17 pl = nI (zm_nb (D.2.2.1 a)) := by rw [i3.2.2.1, h17]
          iterate 2 (refine ze_go1 rfl ?_)
          iterate 2 (refine ze_go2 rfl rfl ?_)
          refine ze_go1 rfl ?_
          refine ze_go2 rfl ⟨rfl, vp_in_nI (N := 85) h85 (by decide)⟩ ?_
          rw [nI_clamp (n := pl) (by omega), t17]
          refine ze_brF rfl (nI_ge (by omega) (by omega)) ?_
          refine ze_go1 rfl ?_
          refine ze_go2 rfl rfl ?_
          iterate 2 (refine ze_go1 rfl ?_)
          refine ze_ca1 rfl ⟨rfl, rfl⟩ (ze_M_le (e_goDown (d := 0) (b := j) hd hBt (by omega) ha ht hwt hwb i2 hK (by omega)) (by omega)) (fun v τc hτ => ?_)
          obtain ⟨rfl, xc, rc⟩ := hτ
          have esd : (fun i => zm_ps (D.2.2.1 a) t (zpt D a t w) (zm_s (zpt D a t w) 4) (zm_fg (zpt D a t w) 4) (w i) (D.2.2.2.2 i a) j) = zsd D a t w j := by
            funext i
            rw [show zm_s (zpt D a t w) 4 = zm_kn (fun i => D.2.2.2.2 i a) w D.2.1 from zm_pu_eq hd ha ht]
            rfl
          rw [esd] at rc
          have sc : ∀ q, zsame τ τc q := fun q => zsame_x xc (by simp <;> omega) (by simp <;> omega) (by simp <;> omega) (by simp <;> omega) (by simp <;> omega) (by simp <;> omega) (by simp <;> omega) q
          have ec : ∀ k, k ≠ 10 + (dp + 1) → τc.1 k = τ.1 k := fun k hk => (xc k (by simp [hk])).1
          iterate 3 (refine ze_go1 rfl ?_)
          refine ze_go2 rfl rfl ?_
          iterate 2 (refine ze_go1 rfl ?_)
          refine ze_ca1 rfl ⟨rfl, rfl⟩ (ze_M_le (e_below (d := 0) h85 (show j < 4 by omega)) (by omega)) (fun v τc' h => ?_)
          obtain ⟨rfl, rfl⟩ := h
          rw [ec 21 (by omega), i3.2.2.2.2.2.2 j (by omega), (c8 j (by omega)).1]
          iterate 3 (refine ze_go1 rfl ?_)
          rw [show nI dp + 1 = nI (dp + 1) from nI_1 _]
          have hRj : zRC D τc' R f (zsd D a t w j) (zch υ' pl j) (p ++ [j]) (zsub T j) := zRC_eq hd (i7 j (Nat.le_refl _) (by omega)) (fun q _ => ⟨sc q, rfl⟩)
          have hBc : zB τc' D := zB_x hBt xc (fun k hk => by simp at hk; omega)
          refine ze_ca1 rfl ⟨rfl, rfl⟩ (ih (dp + 1) (by omega) τc' R (zsd D a t w j) (zch υ' pl j) (p ++ [j]) (zsub T j) hBc rc (hwd j) hRj (by rw [ec 33 (by omega), e33]; exact hch)) (fun v τd hτ => ?_)
          obtain ⟨rfl, z1, R', z2, z3, z4⟩ := hτ
          iterate 4 (refine ze_go1 rfl ?_)
          rw [nI_add, show nI j + 1 = nI (j + 1) from nI_1 _]
          refine ihn (j + 1) _ τd R' (by omega) ?_ ?_
          · rw [hE]
            show _ = zm_s (fun b => zer D ch f (zsd D a t w b) (S b)) j + zer D ch f (zsd D a t w j) (S j)
            rw [eS j (by omega)]
          have sall : ∀ q, ¬ (p ++ [j]) <+: R q → zsame τ τd q := fun q hq => zsame_tr (sc q) (z2 q hq).1
          refine ⟨zxp_tr i1 (zxp_tr (zxp_of xc (fun k hk => by simp at hk; unfold zPS; omega)) (zxp_wk z1 (fun k hk => by unfold zPS at hk ⊢; omega))), ?_, ?_, ?_, fun q hq => ?_, fun q hq => ?_, fun b hb1 hb2 => ?_, fun b hb => ?_⟩
          · exact zFk_eq i2 (by rw [(z1 (39 + dp) (by unfold zPS; omega)).1, ec _ (by omega)]) (by rw [(z1 (6 + dp) (by unfold zPS; omega)).1, ec _ (by omega)])
          · exact zsame_tr i3 (sall pl (by rw [i4]; exact zpre3))
          · rw [(z2 pl (by rw [i4]; exact zpre3)).2]; exact i4
          · have hq2 : ¬ (p ++ [j]) <+: R q := by rw [(i5 q hq).2]; exact fun z => hq ((List.prefix_append p _).trans z)
            exact ⟨zsame_tr (i5 q hq).1 (sall q hq2), by rw [(z2 q hq2).2]; exact (i5 q hq).2⟩
          · by_cases z : (p ++ [j]) <+: R q
            · exact (List.prefix_append p [j]).trans (z3 q z)
            · rw [(z2 q z).2]; exact i6 q hq
          · refine zRC_eq hd (i7 b (by omega) hb2) (fun q hq => ?_)
            have hq2 : ¬ (p ++ [j]) <+: R q := fun z => by have := zpre4 hq z; omega
            exact ⟨sall q hq2, (z2 q hq2).2⟩
          · by_cases q : b = j
            · subst q; exact z4
            · refine zRC_eq hd (i8 b (by omega)) (fun s hs => ?_)
              have hs2 : ¬ (p ++ [j]) <+: R s := fun z => q (zpre4 hs z)
              exact ⟨sall s hs2, (z2 s hs2).2⟩
      iterate 4 (refine ze_go1 rfl ?_)
      refine main (zm_nb (D.2.2.1 a)) 0 0 τ1 P (by omega) rfl ⟨zxp_of x1 (fun k hk => by have := hcl k hk; unfold zPS; omega), F1, s1 pl, hPp, fun q _ => ⟨s1 q, rfl⟩, fun q h => h, fun b _ hb => zRC_eq hd (c8 b hb).2 (fun q _ => ⟨s1 q, rfl⟩), fun b hb => absurd hb (Nat.not_lt_zero _)⟩
