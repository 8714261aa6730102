theorem zsame_xp {S : Nat → Prop} {σ τ : ze_S} (h : zxp S σ τ) (hS : ∀ k, 15 ≤ k → k ≤ 21 → ¬ S k) (q : Nat) : zsame σ τ q := by
  unfold zsame
  rw [(h 15 (hS 15 (by decide) (by decide))).1, (h 16 (hS 16 (by decide) (by decide))).1, (h 17 (hS 17 (by decide) (by decide))).1, (h 18 (hS 18 (by decide) (by decide))).1, (h 19 (hS 19 (by decide) (by decide))).1, (h 20 (hS 20 (by decide) (by decide))).1, (h 21 (hS 21 (by decide) (by decide))).1]
  exact zsame_rf σ q
set_option maxRecDepth 20000 in
set_option maxHeartbeats 2000000 in
theorem e_give {D : zD} {vs : Nat → Int32} (hd : zdok D) (hf : zfit D vs) : ∀ (f dp : Nat), dp + f ≤ 3 → ∀ (σ : ze_S) (P : Nat → List Nat) (w : Nat → Nat) (pl : Nat) (p : List Nat) (T : zTr) (x : Nat) (g : Nat → Nat), (∀ i, i < D.2.1 → w i ≤ 720) → zRC D σ P f w pl p T → x ≤ 720 → (∀ a, a < 4 → σ.1 25 a = vs a) → (∀ c, c < 3 → σ.1 24 c = nI (g c)) →
    zM (f + 5) m_Ju_giveFrom [.ref 34, .int (nI pl), .int (nI dp), .int (nI x), .ref 25] σ (fun v τ => v = none ∧ zxp (zJS dp) σ τ ∧ ∀ c, c < 3 → τ.1 24 c = nI (g c + zgv D vs f w T x c)) := by
  intro f
  induction f with
  | zero =>
    intro dp hdf σ P w pl p T x g hwb hR hx hv hg
    obtain ⟨h85, hPp, h18, hty, h19, -⟩ := zRC_hd hR
    obtain ⟨-, hn, h15, h16, h17⟩ := hR
    refine zM_in t_Ju_giveFrom [some (.ref 34), some (.int (nI pl)), some (.int (nI dp)), some (.int (nI x)), some (.ref 25), none, none, none] rfl rfl ?_
    refine ze_go1 rfl ?_
    refine ze_go2 rfl rfl ?_
    refine ze_go1 rfl ?_
    refine ze_ca1 rfl ⟨rfl, rfl⟩ (ze_M_le (e_isLeaf (d := 0) (nb := 0) h85 h17 (by decide)) (by omega)) (fun v υ' h => ?_)
    obtain ⟨rfl, rfl⟩ := h
    refine ze_brT rfl (by rw [if_pos rfl]; decide) ?_
    iterate 3 (refine ze_go1 rfl ?_)
    refine ze_ca1 rfl ⟨rfl, rfl⟩ (ze_M_le (e_shareOut (d := 0) hd hwb h85 hx h18 hty h19 hg) (by omega)) (fun v τ h => ?_)
    obtain ⟨rfl, z1, z2⟩ := h
    exact ze_rt1 rfl trivial ⟨rfl, zxp_of z1 (fun k hk => by simp at hk; unfold zJS; omega), z2⟩
  | succ f ih =>
    intro dp hdf σ P w pl p T x g hwb hR hx hv hg
    obtain ⟨h85, hPp, h18, hty, h19, -⟩ := zRC_hd hR
    refine zM_in t_Ju_giveFrom [some (.ref 34), some (.int (nI pl)), some (.int (nI dp)), some (.int (nI x)), some (.ref 25), none, none, none] rfl rfl ?_
    refine ze_go1 rfl ?_
    refine ze_go2 rfl rfl ?_
    refine ze_go1 rfl ?_
    rcases hR.2 with ⟨hn, h15, h16, h17⟩ | ⟨a, t, hT, ha, ht, h15, h16, h17, h20, c8⟩
    · refine ze_ca1 rfl ⟨rfl, rfl⟩ (ze_M_le (e_isLeaf (d := 0) (nb := 0) h85 h17 (by decide)) (by omega)) (fun v υ' h => ?_)
      obtain ⟨rfl, rfl⟩ := h
      refine ze_brT rfl (by rw [if_pos rfl]; decide) ?_
      iterate 3 (refine ze_go1 rfl ?_)
      refine ze_ca1 rfl ⟨rfl, rfl⟩ (ze_M_le (e_shareOut (d := 0) hd hwb h85 hx h18 hty h19 hg) (by omega)) (fun v τ h => ?_)
      obtain ⟨rfl, z1, z2⟩ := h
      have e : ∀ c, zgv D vs (f + 1) w T x c = zgl D w (T.2 []) x c := fun c => by
        show (match T.1 [] with | none => _ | some q => _) = _
        rw [hn]
      refine ze_rt1 rfl trivial ⟨rfl, zxp_of z1 (fun k hk => by simp at hk; unfold zJS; omega), fun c hc => ?_⟩
      rw [e c]
      exact z2 c hc
    · obtain ⟨hn2, hn4⟩ := znb4 hd ha
      have h4 := hd.1
      have hkf : ze_cl (39 + dp) = 3 := zk_fo (by omega)
      have hK : zm_s (zpt D a t w) 4 ≤ 17280 := by
        have e1 : zm_s (zpt D a t w) 4 = zm_kn (fun i => D.2.2.2.2 i a) w D.2.1 := zm_pu_eq hd ha ht
        have := zm_kn_le (v := fun i => D.2.2.2.2 i a) (w := w) (n := D.2.1)
        have := zm_w_le hd.2.1 hwb
        omega
      have e : ∀ c, zgv D vs (f + 1) w T x c = zm_s (fun b => zgv D vs f (zsd D a t w b) (zsub T b) (zm_ps (D.2.2.1 a) t (zpt D a t w) (zm_s (zpt D a t w) 4) (zm_fg (zpt D a t w) 4) x (vs a) b) c) (zm_nb (D.2.2.1 a)) := fun c => by
        show (match T.1 [] with | none => _ | some q => _) = _
        rw [hT]
      refine ze_ca1 rfl ⟨rfl, rfl⟩ (ze_M_le (e_isLeaf (d := 0) (nb := zm_nb (D.2.2.1 a)) h85 h17 hn4) (by omega)) (fun v υ' h => ?_)
      obtain ⟨rfl, rfl⟩ := h
      refine ze_brF rfl (by rw [if_neg (show ¬ zm_nb (D.2.2.1 a) = 0 by omega)]; exact fun q => q rfl) ?_
      iterate 2 (refine ze_go1 rfl ?_)
      refine ze_brT rfl (nI_lt (b := 3) (by omega) (by decide)) ?_
      refine ze_go1 rfl ?_
      iterate 2 (refine ze_go2 rfl rfl ?_)
      refine ze_go1 rfl ?_
      refine ze_go2 rfl ⟨rfl, vp_in_nI (by omega) (by decide)⟩ ?_
      rw [nI_clamp (n := dp) (by omega)]
      iterate 2 (refine ze_go1 rfl ?_)
      refine ze_go2 rfl rfl ?_
      iterate 2 (refine ze_go1 rfl ?_)
      refine ze_ca1 rfl ⟨rfl, rfl⟩ (ze_M_le (e_readTest (d := 0) (dp := dp) h85 (by omega) h15 h16 h17 h20 (fun b hb => Nat.lt_of_le_of_lt (Nat.le_trans (zm_s_pos (f := zpt D a t w) hb) hK) (by decide))) (by omega)) (fun v τ1 h => ?_)
      obtain ⟨rfl, x1, F1⟩ := h
      have hcl : ∀ k, k ∈ [39 + dp, 6 + dp] → (k = 39 + dp ∨ k = 6 + dp) := fun k hk => by simpa using hk
      have main : ∀ n j (o : Option Value) τ, j + n = zm_nb (D.2.2.1 a) → zxp (zJS dp) υ' τ → zFk τ dp a t (zm_nb (D.2.2.1 a)) (zpt D a t w) → (∀ c, c < 3 → τ.1 24 c = nI (g c + zm_s (fun b => zgv D vs f (zsd D a t w b) (zsub T b) (zm_ps (D.2.2.1 a) t (zpt D a t w) (zm_s (zpt D a t w) 4) (zm_fg (zpt D a t w) 4) x (vs a) b) c) j)) → zE (f + 5) t_Ju_giveFrom (fun v τ => v = none ∧ zxp (zJS dp) υ' τ ∧ ∀ c, c < 3 → τ.1 24 c = nI (g c + zgv D vs (f + 1) w T x c)) (47, [some (.ref 34), some (.int (nI pl)), some (.int (nI dp)), some (.int (nI x)), some (.ref 25), some (.ref (39 + dp)), some (.int (nI j)), o], [], τ) := by
        intro n
        induction n with
        | zero =>
          intro j o τ hj hz hF hs
          have ej : j = zm_nb (D.2.2.1 a) := by omega
          subst ej
          iterate 2 (refine ze_go1 rfl ?_)
          refine ze_go2 rfl (by first | rfl | exact hkf) ?_
          rw [hF.2.2.1]
          refine ze_brT rfl (nI_le (Nat.le_refl _) (by omega)) ?_
          refine ze_rt1 rfl trivial ⟨rfl, hz, fun c hc => ?_⟩
          rw [e c]
          exact hs c hc
        | succ n ihn =>
          intro j o τ hj hz hF hs
          have e25 : τ.1 25 = υ'.1 25 := (hz 25 (by unfold zJS; omega)).1
          have e21 : τ.1 21 = υ'.1 21 := (hz 21 (by unfold zJS; omega)).1
          iterate 2 (refine ze_go1 rfl ?_)
          refine ze_go2 rfl (by first | rfl | exact hkf) ?_
          rw [hF.2.2.1]
          refine ze_brF rfl (nI_ge (by omega) (by omega)) ?_
          iterate 4 (refine ze_go1 rfl ?_)
          refine ze_go2 rfl (by first | rfl | exact hkf) ?_
          rw [hF.1]
          refine ze_go2 rfl ⟨rfl, vp_in_nI (N := 4) (by omega) (by decide)⟩ ?_
          rw [nI_clamp (n := a) (by omega), e25, hv a (by omega)]
          refine ze_go1 rfl ?_
          refine ze_ca1 rfl ⟨rfl, hkf⟩ (ze_M_le (e_passed (d := 0) (k := D.2.2.1 a) (by omega) hF hn4 hK hx (zvb_fit hd hf ha ht) (show j < zm_nb (D.2.2.1 a) by omega)) (by omega)) (fun v τ2 h => ?_)
          obtain ⟨rfl, rfl⟩ := h
          iterate 2 (refine ze_go1 rfl ?_)
          have hps : zm_ps (D.2.2.1 a) t (zpt D a t w) (zm_s (zpt D a t w) 4) (zm_fg (zpt D a t w) 4) x (vs a) j ≤ x := zm_ps_le (zm_s_pos (show j < 4 by omega))
          generalize hy : zm_ps (D.2.2.1 a) t (zpt D a t w) (zm_s (zpt D a t w) 4) (zm_fg (zpt D a t w) 4) x (vs a) j = y at hps
          have nx : ∀ τ3, zxp (zJS dp) υ' τ3 → zFk τ3 dp a t (zm_nb (D.2.2.1 a)) (zpt D a t w) → (∀ c, c < 3 → τ3.1 24 c = nI (g c + zm_s (fun b => zgv D vs f (zsd D a t w b) (zsub T b) (zm_ps (D.2.2.1 a) t (zpt D a t w) (zm_s (zpt D a t w) 4) (zm_fg (zpt D a t w) 4) x (vs a) b) c) j + zgv D vs f (zsd D a t w j) (zsub T j) y c)) → zE (f + 5) t_Ju_giveFrom (fun v τ => v = none ∧ zxp (zJS dp) υ' τ ∧ ∀ c, c < 3 → τ.1 24 c = nI (g c + zgv D vs (f + 1) w T x c)) (101, [some (.ref 34), some (.int (nI pl)), some (.int (nI dp)), some (.int (nI x)), some (.ref 25), some (.ref (39 + dp)), some (.int (nI j)), some (.int (nI y))], [], τ3) := by
            intro τ3 h1 h2 h3
            iterate 2 (refine ze_go1 rfl ?_)
            rw [show nI j + 1 = nI (j + 1) from nI_1 _]
            refine ihn (j + 1) _ τ3 (by omega) h1 h2 (fun c hc => ?_)
            rw [h3 c hc, Nat.add_assoc]
            congr 2
            show _ = zm_s (fun b => zgv D vs f (zsd D a t w b) (zsub T b) (zm_ps (D.2.2.1 a) t (zpt D a t w) (zm_s (zpt D a t w) 4) (zm_fg (zpt D a t w) 4) x (vs a) b) c) j + zgv D vs f (zsd D a t w j) (zsub T j) (zm_ps (D.2.2.1 a) t (zpt D a t w) (zm_s (zpt D a t w) 4) (zm_fg (zpt D a t w) 4) x (vs a) j) c
            rw [hy]
          by_cases c0 : y = 0
          · refine ze_brT rfl (by rw [c0]; exact Int32.le_refl _) ?_
            refine nx τ2 hz hF (fun c hc => ?_)
            rw [c0, zgv_0, Nat.add_zero]
            exact hs c hc
          · refine ze_brF rfl (nI_nle (by omega) (by omega)) ?_
            iterate 2 (refine ze_go1 rfl ?_)
            refine ze_go2 rfl rfl ?_
            iterate 2 (refine ze_go1 rfl ?_)
            refine ze_ca1 rfl ⟨rfl, rfl⟩ (ze_M_le (e_below (d := 0) h85 (show j < 4 by omega)) (by omega)) (fun v τ2' h => ?_)
            obtain ⟨rfl, rfl⟩ := h
            rw [e21, (c8 j (by omega)).1]
            iterate 5 (refine ze_go1 rfl ?_)
            rw [show nI dp + 1 = nI (dp + 1) from nI_1 _]
            refine ze_ca1 rfl ⟨rfl, rfl⟩ (ih (dp + 1) (by omega) τ2' P (zsd D a t w j) (zch υ' pl j) (p ++ [j]) (zsub T j) y _ (fun i hi => Nat.le_trans zsd_le (hwb i hi)) (zRC_eq hd (c8 j (by omega)).2 (fun q _ => ⟨zsame_xp hz (fun k h1 h2 => by unfold zJS; omega) q, rfl⟩)) (by omega) (fun a' ha' => by rw [e25]; exact hv a' ha') hs) (fun v τ3 h => ?_)
            obtain ⟨rfl, u1, u2⟩ := h
            refine nx τ3 (zxp_tr hz (zxp_wk u1 (fun k hk => by unfold zJS at hk ⊢; omega))) (zFk_eq hF (u1 (39 + dp) (by unfold zJS; omega)).1 (u1 (6 + dp) (by unfold zJS; omega)).1) u2
      iterate 2 (refine ze_go1 rfl ?_)
      refine main (zm_nb (D.2.2.1 a)) 0 none τ1 (by omega) (zxp_of x1 (fun k hk => by have := hcl k hk; unfold zJS; omega)) F1 (fun c hc => ?_)
      rw [(x1 24 (fun z => by have := hcl _ z; omega)).1]
      exact hg c hc
theorem zgl_le {D : zD} {w : Nat → Nat} {ty x c : Nat} (hc : c < 3) : zgl D w ty x c ≤ 2 * x := by
  have h1 : zpo D w x c ≤ x := Nat.le_trans (zm_s_pos hc) (zpo_sum (D := D) (w := w) (x := x) (j := 3) (Nat.le_refl _))
  unfold zgl
  split <;> omega
theorem zgv_le {D : zD} (hd : zdok D) {σ : ze_S} {P : Nat → List Nat} {vs : Nat → Int32} {c : Nat} (hc : c < 3) : ∀ {f : Nat} {w : Nat → Nat} {pl : Nat} {p : List Nat} {T : zTr} {x : Nat}, zRC D σ P f w pl p T → zgv D vs f w T x c ≤ 2 * x * 4 ^ f
  | 0, w, pl, p, T, x, _ => by
    have := zgl_le (D := D) (w := w) (ty := T.2 []) (x := x) hc
    show zgl D w (T.2 []) x c ≤ 2 * x * 1
    omega
  | f + 1, w, pl, p, T, x, h => by
    have h4 : 2 * x * 4 ^ (f + 1) = 2 * x * 4 ^ f * 4 := by rw [Nat.pow_succ, ← Nat.mul_assoc]
    have hp : 1 ≤ 4 ^ f := Nat.one_le_pow _ _ (by decide)
    unfold zgv
    rcases h.2 with ⟨e, -⟩ | ⟨a, t, e, ha, -, -, -, -, -, c8⟩
    · rw [e, h4]
      have h1 := zgl_le (D := D) (w := w) (ty := T.2 []) (x := x) hc
      have h2 : 2 * x * 1 ≤ 2 * x * 4 ^ f := Nat.mul_le_mul_left _ hp
      show zgl D w (T.2 []) x c ≤ _
      omega
    · rw [e, h4]
      obtain ⟨-, hn⟩ := znb4 hd ha
      have h1 := zm_s_bd (f := fun b => zgv D vs f (zsd D a t w b) (zsub T b) (zm_ps (D.2.2.1 a) t (zpt D a t w) (zm_s (zpt D a t w) 4) (zm_fg (zpt D a t w) 4) x (vs a) b) c) (n := zm_nb (D.2.2.1 a)) (c := 2 * x * 4 ^ f) (fun b hb => Nat.le_trans (zgv_le hd hc (c8 b hb).2) (Nat.mul_le_mul_right _ (Nat.mul_le_mul_left _ (zm_ps_le (zm_s_pos (show b < 4 by omega))))))
      exact Nat.le_trans h1 (Nat.mul_le_mul_left _ hn)
theorem e_classFor {D : zD} {d : Nat} {σ : ze_S} {P : Nat → List Nat} {vs : Nat → Int32} {w : Nat → Nat} {T : zTr} (hd : zdok D) (hf : zfit D vs) (hwb : ∀ i, i < D.2.1 → w i ≤ 720) (hR : zRC D σ P 3 w 0 [] T) (hv : ∀ a, a < 4 → σ.1 25 a = vs a) :
    zM (d + 9) m_Ju_classFor [.ref 34, .ref 25] σ (fun v τ => v = some (.int (nI (zm_fg (zgv D vs 3 w T 720) 3))) ∧ zxp (zJS 0) σ τ ∧ ∀ c, c < 3 → τ.1 24 c = nI (zgv D vs 3 w T 720 c)) := by
  refine zM_in t_Ju_classFor [some (.ref 34), some (.ref 25)] rfl rfl ?_
  refine ze_go1 rfl ?_
  refine ze_go2 rfl rfl ?_
  refine ze_go1 rfl ?_
  refine ze_ca1 rfl rfl (ze_M_le (e_fill (d := 0) (k := 24) rfl) (by omega)) (fun v τ0 h => ?_)
  obtain ⟨rfl, x0, f0⟩ := h
  iterate 5 (refine ze_go1 rfl ?_)
  refine ze_ca1 rfl ⟨rfl, rfl⟩ (ze_M_le (e_give (vs := vs) hd hf 3 0 (by decide) τ0 P w 0 [] T 720 (fun _ => 0) hwb (zRC_x hd hR x0 (by simp)) (by decide) (fun a ha => by rw [(x0 25 (by simp)).1]; exact hv a ha) (fun c hc => f0 c hc)) (by omega)) (fun v τ h => ?_)
  obtain ⟨rfl, x1, f1⟩ := h
  have f2 : ∀ c, c < 3 → τ.1 24 c = nI (zgv D vs 3 w T 720 c) := fun c hc => by rw [f1 c hc, Nat.zero_add]
  refine ze_go1 rfl ?_
  refine ze_go2 rfl rfl ?_
  iterate 2 (refine ze_go1 rfl ?_)
  refine ze_ca1 rfl rfl (ze_M_le (e_fg (d := 0) (k := 24) (a := 0) (n := 3) (f := zgv D vs 3 w T 720) (by decide) rfl (by decide) (fun i hi => by rw [Nat.zero_add]; exact f2 i hi) (fun i hi => Nat.lt_of_le_of_lt (zgv_le hd hi hR) (by decide))) (by omega)) (fun v τ' h => ?_)
  obtain ⟨rfl, rfl⟩ := h
  exact ze_rt1 rfl trivial ⟨rfl, zxp_tr (zxp_of x0 (fun k hk => by simp at hk; unfold zJS; omega)) x1, f2⟩
