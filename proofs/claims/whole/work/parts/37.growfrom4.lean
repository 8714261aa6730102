theorem zxl {l : List Nat} {S : Nat → Prop} {σ τ : ze_S} (h : zx l σ τ) (hs : ∀ k, k ∈ l → S k) {k : Nat} (hk : ¬ S k) : τ.1 k = σ.1 k := (h k (fun q => hk (hs k q))).1
set_option maxRecDepth 20000 in
set_option maxHeartbeats 2000000 in
theorem e_gex {e : Nat} {D : zD} {σ : ze_S} {m dp pl c ty : Nat} {w : Nat → Nat} {Q : ze_P} (hd : zdok D) (he : 4 ≤ e) (hdp : dp < 4) (hm5 : m ≤ 5) (hc : c < 16) (hwb : ∀ i, i < D.2.1 → w i ≤ 720)
    (k : ∀ υ, zH2 D σ m dp pl w ty υ → (∀ a, a < D.1 → zFd υ (35 + a) (zfos D w m c a)) → zE e t_Gr_growFrom Q (106, [some (.ref 32), some (.int (nI pl)), some (.int (nI dp)), some (.int (nI c)), some (.int (nI D.1)), none, none, none], [], υ)) :
    ∀ n j υ, j + n = D.1 → zH2 D σ m dp pl w ty υ → (∀ a, a < j → zFd υ (35 + a) (zfos D w m c a)) → zE e t_Gr_growFrom Q (39, [some (.ref 32), some (.int (nI pl)), some (.int (nI dp)), some (.int (nI c)), some (.int (nI j)), none, none, none], [], υ) := by
  have h4 := hd.1
  intro n
  induction n with
  | zero =>
    intro j υ hj hH hF
    have hB := hH.2.2.2.2.2.2.1
    have ej : j = D.1 := by omega
    subst ej
    iterate 2 (refine ze_go1 rfl ?_)
    iterate 2 (refine ze_go2 rfl rfl ?_)
    refine ze_brT rfl (by rw [hB.1]; exact nI_le (Nat.le_refl _) (by omega)) ?_
    exact k υ hH hF
  | succ n ih =>
    intro j υ hj hH hF
    have hj1 : j < D.1 := by omega
    have hkf : ze_cl (35 + j) = 2 := zk_fi (by omega)
    have hB := hH.2.2.2.2.2.2.1
    have hw := hH.2.2.2.2.2.2.2.1
    have hm := hH.2.2.2.2.2.2.2.2
    iterate 2 (refine ze_go1 rfl ?_)
    iterate 2 (refine ze_go2 rfl rfl ?_)
    refine ze_brF rfl (by rw [hB.1]; exact nI_ge (by omega) (by omega)) ?_
    iterate 6 (refine ze_go1 rfl ?_)
    rw [zbit hc (show j < 4 by omega)]
    have step : ∀ υ', zx [3, 4, 5, 35 + j] υ υ' → zFd υ' (35 + j) (zfos D w m c j) → zE e t_Gr_growFrom Q (39, [some (.ref 32), some (.int (nI pl)), some (.int (nI dp)), some (.int (nI c)), some (.int (nI (j + 1))), none, none, none], [], υ') := fun υ' hx hf => by
      refine ih (j + 1) υ' (by omega) (zH2_x hH hdp hx (fun k hk => by simp at hk; omega)) (fun a ha => ?_)
      by_cases q : a = j
      · subst q; exact hf
      · exact zFd_eq (hF a (by omega)) (hx (35 + a) (by simp <;> omega)).1 (hx (35 + a) (by simp <;> omega)).2
    cases hb : c.testBit j with
    | true =>
      refine ze_brF rfl (fun q => q rfl) ?_
      refine ze_go1 rfl ?_
      iterate 2 (refine ze_go2 rfl rfl ?_)
      refine ze_go1 rfl ?_
      refine ze_go2 rfl ⟨rfl, vp_in_nI (by omega) (by decide)⟩ ?_
      rw [nI_clamp (n := j) (by omega)]
      refine ze_go1 rfl ?_
      refine ze_go2 rfl ⟨by first | rfl | exact hkf, by first | exact Or.inl rfl | exact Or.inr rfl⟩ ?_
      iterate 3 (refine ze_go1 rfl ?_)
      have h := step (ze_ui υ (35 + j) 0 0) (zx_ui (by simp) _ _ _) (by
        unfold zfos
        rw [hb]
        exact zui _ _ _ _)
      rw [← show nI j + 1 = nI (j + 1) from nI_1 _] at h
      exact h
    | false =>
      refine ze_brT rfl (by decide) ?_
      refine ze_go1 rfl ?_
      refine ze_go2 rfl rfl ?_
      iterate 2 (refine ze_go1 rfl ?_)
      iterate 2 (refine ze_go2 rfl rfl ?_)
      refine ze_go1 rfl ?_
      refine ze_go2 rfl ⟨rfl, vp_in_nI (by omega) (by decide)⟩ ?_
      rw [nI_clamp (n := dp) (by omega)]
      refine ze_go1 rfl ?_
      refine ze_go2 rfl rfl ?_
      rw [hm]
      refine ze_ca1 rfl ⟨rfl, rfl⟩ (ze_M_le (e_examine (d := 0) hd hB hj1 (show 10 ≤ 10 + dp ∧ 10 + dp < 14 by omega) hw hwb hm5) (by omega)) (fun v υ' h => ?_)
      obtain ⟨rfl, hx, hf⟩ := h
      iterate 2 (refine ze_go1 rfl ?_)
      have h := step υ' hx (by
        unfold zfos
        rw [hb]
        exact hf)
      rw [← show nI j + 1 = nI (j + 1) from nI_1 _] at h
      exact h
set_option maxRecDepth 20000 in
set_option maxHeartbeats 2000000 in
theorem e_growFrom {D : zD} {m : Nat} (hd : zdok D) (hm1 : 1 ≤ m) (hm5 : m ≤ 5) : ∀ (f dp : Nat), dp + f = 3 → ∀ (σ : ze_S) (pl : Nat) (p : List Nat) (w : Nat → Nat) (c pt mk : Nat) (P : Nat → List Nat), zB σ D → σ.1 32 4 = nI m → zrow σ dp D.2.1 w → (∀ i, i < D.2.1 → w i ≤ 720) → pl < mk → mk + zN f ≤ 86 → σ.1 29 9 = nI mk → P pl = p → (∀ q, mk ≤ q → P q = [99]) → (∀ b, b ∈ p → b < 4) → σ.1 18 pl = nI pt → pt < 3 → σ.1 15 pl = -1 → σ.1 16 pl = -1 → σ.1 17 pl = 0 → c < 16 →
    zM (f + 5) m_Gr_growFrom [.ref 32, .int (nI pl), .int (nI dp), .int (nI c)] σ (fun v τ => v = none ∧ zGP D σ P m f dp pl p w c pt mk τ) := by
  intro f
  induction f with
  | zero =>
    intro dp hdf σ pl p w c pt mk P hB hm hw hwb hpl hmk hmade hP hP9 hp4 h18 hpt h15 h16 h17 hc
    have hN : zN 0 = 1 := rfl
    refine zM_in t_Gr_growFrom [some (.ref 32), some (.int (nI pl)), some (.int (nI dp)), some (.int (nI c)), none, none, none, none] rfl rfl ?_
    refine e_gpre hd (by omega) hB hm (by omega) hw hwb (by omega) h18 h15 h16 h17 (fun υ hH _ => ?_)
    iterate 2 (refine ze_go1 rfl ?_)
    refine ze_brT rfl (nI_le (a := 3) (by omega) (by omega)) ?_
    exact ze_rt1 rfl trivial ⟨rfl, zGP_leaf hH hpl (by omega) hmade hP hP9 hpt rfl⟩
  | succ f ih =>
    intro dp hdf σ pl p w c pt mk P hB hm hw hwb hpl hmk hmade hP hP9 hp4 h18 hpt h15 h16 h17 hc
    have h4 := hd.1
    have hN := zN_pos f
    have hNs : zN (f + 1) = 1 + 4 * zN f := rfl
    have hW : zm_s (zcw D w) 3 ≤ 17280 := by rw [zcw_sum hd]; exact zm_w_le hd.2.1 hwb
    have hpl85 : pl < 85 := by omega
    refine zM_in t_Gr_growFrom [some (.ref 32), some (.int (nI pl)), some (.int (nI dp)), some (.int (nI c)), none, none, none, none] rfl rfl ?_
    refine e_gpre hd (by omega) hB hm (by omega) hw hwb hpl85 h18 h15 h16 h17 (fun υ hH h14 => ?_)
    iterate 2 (refine ze_go1 rfl ?_)
    refine ze_brF rfl (nI_ge (b := 3) (by omega) (by decide)) ?_
    refine ze_go1 rfl ?_
    refine ze_ca1 rfl ⟨rfl, rfl⟩ (ze_M_le (e_hasTooLittle (d := 0) h14 hW hH.2.2.2.2.2.2.2.2 hm5) (by omega)) (fun v υ' h => ?_)
    obtain ⟨rfl, rfl⟩ := h
    by_cases cl : zm_s (zcw D w) 3 < 1440 * m ∨ zcw D w (zm_fg (zcw D w) 3) = zm_s (zcw D w) 3
    · rw [if_pos cl]
      refine ze_brF rfl (by decide) ?_
      refine ze_rt1 rfl trivial ⟨rfl, zGP_leaf hH hpl hpl85 hmade hP hP9 hpt ?_⟩
      have e : zgt D w m c = none := if_pos cl
      show (match zgt D w m c with | none => _ | some q => _) = _
      rw [e]
    · rw [if_neg cl]
      refine ze_brT rfl rfl ?_
      have egt : zgt D w m c = zchs D w m c := if_neg cl
      iterate 2 (refine ze_go1 rfl ?_)
      refine e_gex hd (by omega) (by omega) hm5 hc hwb (fun ρ hHr hFr => ?_) D.1 0 υ' (by omega) hH (fun a ha => absurd ha (Nat.not_lt_zero _))
      refine ze_go1 rfl ?_
      refine ze_go2 rfl rfl ?_
      refine ze_ca1 rfl ⟨rfl, rfl⟩ (ze_M_le (e_chosen (d := 0) hd hHr.2.2.2.2.2.2.1 hFr) (by omega)) (fun v ρ' h => ?_)
      obtain ⟨rfl, rfl⟩ := h
      iterate 3 (refine ze_go1 rfl ?_)
      cases hch : zchs D w m c with
      | none =>
        have hn : zm_ch (zfos D w m c) D.1 = none := by
          unfold zchs at hch
          cases hc2 : zm_ch (zfos D w m c) D.1 with
          | none => rfl
          | some b => rw [hc2] at hch; cases hch
        refine ze_brF rfl (by rw [hn]; exact fun q => q rfl) ?_
        refine ze_rt1 rfl trivial ⟨rfl, zGP_leaf hHr hpl hpl85 hmade hP hP9 hpt ?_⟩
        show (match zgt D w m c with | none => _ | some q => _) = _
        rw [egt, hch]
      | some at0 =>
        obtain ⟨a, t⟩ := at0
        obtain ⟨k1, ha, ht, q0, k2, k3⟩ := zchs_some hd hch
        have hFa := hFr a ha
        rw [k2] at hFa
        have hth : ρ'.1 (35 + a) 1 = t := by rw [hFa.2.1, k3]
        rw [k1]
        have na : ¬ nI a = -1 := by
          intro z
          have := nI_toInt (n := a) (by omega)
          rw [z] at this
          have h2 : (-1 : Int32).toInt = -1 := by decide
          omega
        refine ze_brT rfl na ?_
        iterate 4 (refine ze_go1 rfl ?_)
        obtain ⟨y1, y2, y3, y4, y5, y6, y7, y8, y9⟩ := hHr
        refine ze_ca1 rfl ⟨rfl, rfl⟩ (ze_M_le (e_fork (d := 0) hd y7 hpl85 (show dp < 4 by omega) ha ht y8 hwb hth) (by omega)) (fun v τ1 h => ?_)
        obtain ⟨rfl, x1, s1, F1, p15, p16, p17, p20⟩ := h
        have hcl : ∀ k, k ∈ [39 + dp, 6 + dp, 15, 16, 17, 20] → (k = 39 + dp ∨ k = 6 + dp ∨ k = 15 ∨ k = 16 ∨ k = 17 ∨ k = 20) := fun k hk => by simpa using hk
        have hB1 : zB τ1 D := zB_x y7 x1 (fun k hk => by have := hcl k hk; omega)
        refine ze_go1 rfl ?_
        refine ze_go2 rfl rfl ?_
        refine ze_go1 rfl ?_
        refine ze_ca1 rfl ⟨rfl, rfl⟩ (ze_M_le (e_isCont (d := 0) hd hB1 ha) (by omega)) (fun v τ2 h => ?_)
        obtain ⟨rfl, rfl⟩ := h
        have body : zE (f + 1 + 4) t_Gr_growFrom (fun v τ => v = none ∧ zGP D σ P m (f + 1) dp pl p w c pt mk τ) (157, [some (.ref 32), some (.int (nI pl)), some (.int (nI dp)), some (.int (nI c)), some (.int (nI a)), some (.int (nI (zcm D a c))), some (.int (nI 0)), none], [], τ2) := by
          refine e_gbr (m := m) (f := f) (w := w) (ty := zty D w pt) (mk := mk) (t := t) (p := p) (P := P) (σ := σ) hd (by omega) (by omega) hB hm hw hwb hpl hmk hP hP9 hp4 (zty_lt D w hpt) ha ht (zcm_lt hc (by omega)) (fun σ pl p w c pt mk P => ih (dp + 1) (by omega) σ pl p w c pt mk P) (fun τ hI => ?_) (zm_nb (D.2.2.1 a)) 0 none τ2 (by omega) ?_
          · refine ⟨rfl, ?_⟩
            obtain ⟨i1, i2, i3, i4, ⟨j15, j16, j17, j18, j19, j20⟩, mkj, R, g1, g2, g3, g4, g5, g6, g7, g8⟩ := hI
            obtain ⟨hn2, hn4⟩ := znb4 hd ha
            have hle : zm_nb (D.2.2.1 a) * zN f ≤ 4 * zN f := Nat.mul_le_mul_right _ hn4
            refine ⟨i1, i2, i3, mkj, R, g1, by omega, g3, g4, g5, fun q h1 h2 => ?_, g7, ?_⟩
            · obtain ⟨b, r, hb, hr⟩ := g6 q h1 h2
              exact ⟨b, r, by omega, hr⟩
            · have eg : zgw D m (f + 1) w c pt = zmk (some (a, t)) (zty D w pt) (fun b => zgw D m f (zsd D a t w b) (zcm D a c) (zty D w pt)) := by
                show (match zgt D w m c with | none => _ | some q => _) = _
                rw [egt, hch]
              rw [eg]
              exact ⟨⟨hpl85, by rw [g4 pl hpl]; exact hP, j18, zty_lt D w hpt, j19, zty_id D w pt⟩, Or.inr ⟨a, t, rfl, ha, ht, j15, j16, j17, j20, fun b hb => g8 b hb⟩⟩
          · refine ⟨zxp_tr y1 (zxp_of x1 (fun k hk => by have := hcl k hk; unfold zGS; omega)), ?_, ?_, F1, ⟨p15, p16, p17, ?_, ?_, p20⟩, mk, P, Nat.le_refl _, by omega, ?_, fun _ _ => rfl, hP9, fun q h1 h2 => by omega, fun q h1 h2 => zsame_tr (y3 q h2) (s1 q h2), fun b hb => absurd hb (Nat.not_lt_zero _)⟩
            · rw [(x1 29 (fun z => by have := hcl _ z; omega)).1, y2]
            · rw [(x1 29 (fun z => by have := hcl _ z; omega)).1, y2]
            · rw [(x1 18 (fun z => by have := hcl _ z; omega)).1, y4]
            · intro x hx
              rw [(x1 19 (fun z => by have := hcl _ z; omega)).1]
              exact y5 x hx
            · rw [(x1 29 (fun z => by have := hcl _ z; omega)).1, y2, hmade]
        by_cases ck : D.2.2.1 a = 0
        · refine ze_brF rfl (by rw [if_pos ck]; decide) ?_
          iterate 5 (refine ze_go1 rfl ?_)
          rw [show zcm D a c = c from if_pos ck] at body
          exact body
        · refine ze_brT rfl (by rw [if_neg ck]) ?_
          iterate 8 (refine ze_go1 rfl ?_)
          have e1 : (1 : Int32) <<< (zbI (some a) &&& 31) = nI (2 ^ a) := by
            have := zm_shl (n := 1) (b := a) (by omega) (by have : 2 ^ a < 2 ^ 5 := Nat.pow_lt_pow_right (by decide) (by omega); omega)
            rw [Nat.one_mul] at this
            exact this
          have e2 : nI c ||| nI (2 ^ a) = nI (zcm D a c) := by
            rw [zor c hc (2 ^ a) (by have : 2 ^ a < 2 ^ 4 := Nat.pow_lt_pow_right (by decide) (by omega); omega)]
            rw [show zcm D a c = c ||| 2 ^ a from if_neg ck]
          rw [e1, e2]
          exact body
