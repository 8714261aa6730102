theorem zgv_leM {D : zD} (hd : zdok D) {σ : ze_S} {mk : Nat} {P : Nat → List Nat} {vs : Nat → Int32} {c : Nat} (hc : c < 3) : ∀ {f : Nat} {w : Nat → Nat} {pl : Nat} {p : List Nat} {T : zTr} {x : Nat}, zRM D σ mk P f w pl p T → zgv D vs f w T x c ≤ 2 * x * 4 ^ f
  | 0, w, pl, p, T, x, _ => by
    have := zgl_le (D := D) (w := w) (ty := T.2 []) (x := x) hc
    show zgl D w (T.2 []) x c ≤ 2 * x * 1
    omega
  | f + 1, w, pl, p, T, x, h => by
    have hp : 1 ≤ 4 ^ f := Nat.one_le_pow _ _ (by decide)
    have h4 : 2 * x * 4 ^ (f + 1) = 2 * x * 4 ^ f * 4 := by rw [Nat.pow_succ, ← Nat.mul_assoc]
    have h5 : 2 * x * 1 ≤ 2 * x * 4 ^ f := Nat.mul_le_mul_left _ hp
    unfold zgv
    rcases h.2 with ⟨e, -⟩ | ⟨a, t, e, ha, -, -, -, c6⟩
    · rw [e]
      have := zgl_le (D := D) (w := w) (ty := T.2 []) (x := x) hc
      show zgl D w (T.2 []) x c ≤ _
      omega
    · rw [e]
      obtain ⟨-, hn⟩ := znb4 hd ha
      have h1 := zm_s_bd (f := fun b => zgv D vs f (zsd D a t w b) (zsub T b) (zm_ps (D.2.2.1 a) t (zpt D a t w) (zm_s (zpt D a t w) 4) (zm_fg (zpt D a t w) 4) x (vs a) b) c) (n := zm_nb (D.2.2.1 a)) (c := 2 * x * 4 ^ f) (fun b hb => Nat.le_trans (zgv_leM hd hc (c6 b hb).2.2) (Nat.mul_le_mul_right _ (Nat.mul_le_mul_left _ (zm_ps_le (zm_s_pos (show b < 4 by omega))))))
      have h2 : 2 * x * 4 ^ f * zm_nb (D.2.2.1 a) ≤ 2 * x * 4 ^ f * 4 := Nat.mul_le_mul_left _ hn
      show zm_s (fun b => zgv D vs f (zsd D a t w b) (zsub T b) (zm_ps (D.2.2.1 a) t (zpt D a t w) (zm_s (zpt D a t w) 4) (zm_fg (zpt D a t w) 4) x (vs a) b) c) (zm_nb (D.2.2.1 a)) ≤ _
      omega
set_option maxRecDepth 20000 in
set_option maxHeartbeats 1000000 in
theorem r_ca {e : Nat} {D : zD} {σ : ze_S} {mk : Nat} {P : Nat → List Nat} {L : List Nat} {vs : Nat → Int32} {Q : ze_P} (he : 5 ≤ e) (hd : zdok D) (hB : zBn σ D) (hmk : mk ≤ 85) (hL : zLs σ L) (hL85 : L.length ≤ 85) (h6 : σ.1 64 6 = nI D.2.1) (hv : ∀ a, a < 4 → σ.1 61 a = vs a) :
    ∀ (f : Nat) (w : Nat → Nat) (pl : Nat) (p : List Nat) (T : zTr) (k x : Nat) (g : Nat → Nat) (τ : ze_S), zRM D σ mk P f w pl p T → zy [56, 57, 60, 62] [17, 18, 21] σ τ → τ.1 60 pl = nI x → x ≤ 720 → (∀ c, c < 3 → τ.1 62 c = nI (g c)) → (∀ i, i < D.2.1 → w i ≤ 720) → zsg L k (zprm D σ f pl T) →
      (∀ τ', zy [56, 57, 60, 62] [17, 18, 21] σ τ' → (∀ q, q < mk → ¬ p <+: P q → τ'.1 60 q = τ.1 60 q) → (∀ c, c < 3 → τ'.1 62 c = nI (g c + zgv D vs f w T x c)) → zE e t_M_classifyAsked Q (36, [some (.ref 64), some (.int (nI (k + (zprm D σ f pl T).length))), none], [], τ')) →
      zE e t_M_classifyAsked Q (36, [some (.ref 64), some (.int (nI k)), none], [], τ) := by
  have node : ∀ (pl k : Nat) (τ : ze_S) (Φ : ze_P), pl < mk → L[k]? = some pl → zy [56, 57, 60, 62] [17, 18, 21] σ τ → zM 5 m_M_arrive [.ref 64, .int (nI pl)] τ Φ → (∀ v τ', Φ v τ' → v = none ∧ zE e t_M_classifyAsked Q (36, [some (.ref 64), some (.int (nI (k + 1))), none], [], τ')) →
      zE e t_M_classifyAsked Q (36, [some (.ref 64), some (.int (nI k)), none], [], τ) := by
    intro pl k τ Φ hpl hk hy hM K
    have hkl := zlt_get hk
    iterate 2 (refine ze_go1 rfl ?_)
    refine ze_go2 rfl rfl ?_
    rw [hy.2 23 (by simp), hL.1]
    refine ze_brF rfl (nI_ge (by omega) (by omega)) ?_
    iterate 2 (refine ze_go1 rfl ?_)
    refine ze_go2 rfl rfl ?_
    refine ze_go1 rfl ?_
    refine ze_go2 rfl ⟨rfl, vp_in_nI (N := 96) (n := k) (by omega) (by omega)⟩ ?_
    rw [nI_clamp (n := k) (by omega), (hy.1 58 (by simp) (by decide)).1, hL.2 k pl hk]
    refine ze_ca1 rfl ⟨rfl, rfl⟩ (ze_M_le hM (by omega)) (fun v τ' q => ?_)
    obtain ⟨rfl, h⟩ := K v τ' q
    iterate 2 (refine ze_go1 rfl ?_)
    rw [← show nI k + 1 = nI (k + 1) from nI_1 _] at h
    exact h
  have leaf : ∀ (f : Nat) (w : Nat → Nat) (pl : Nat) (p : List Nat) (T : zTr) (k x : Nat) (g : Nat → Nat) (τ : ze_S), zRM D σ mk P f w pl p T → σ.1 49 pl = -1 → L[k]? = some pl → zy [56, 57, 60, 62] [17, 18, 21] σ τ → τ.1 60 pl = nI x → x ≤ 720 → (∀ c, c < 3 → τ.1 62 c = nI (g c)) → (∀ i, i < D.2.1 → w i ≤ 720) →
      (∀ τ', zy [56, 57, 60, 62] [17, 18, 21] σ τ' → (∀ q, q < mk → ¬ p <+: P q → τ'.1 60 q = τ.1 60 q) → (∀ c, c < 3 → τ'.1 62 c = nI (g c + zgl D w (T.2 []) x c)) → zE e t_M_classifyAsked Q (36, [some (.ref 64), some (.int (nI (k + 1))), none], [], τ')) →
      zE e t_M_classifyAsked Q (36, [some (.ref 64), some (.int (nI k)), none], [], τ) := by
    intro f w pl p T k x g τ hR h49 hk hy h60 hx hg hwb K
    obtain ⟨b1, b2, b3, b4, b5⟩ := zRM_hd hR
    refine node pl k τ _ b1 hk hy (r_arriveL (d := 0) (w := w) (ty := T.2 []) (x := x) (g := g) hd (zBn_y hB hy (by simp) (by simp)) (fun i hi => by rw [(hy.1 55 (by simp) (by decide)).1]; exact b5 i hi) hwb (by omega) hx (by rw [(hy.1 49 (by simp) (by decide)).1]; exact h49) (by rw [(hy.1 54 (by simp) (by decide)).1]; exact b3) b4 h60 (by rw [hy.2 6 (by simp)]; exact h6) hg) (fun v τ' q => ⟨q.1, ?_⟩)
    exact K τ' (zy_tr hy (zy_wk q.2.1 (by simp) (by simp))) (fun q' _ _ => by rw [(q.2.1.1 60 (by simp) (by decide)).1]) q.2.2
  intro f
  induction f with
  | zero =>
    intro w pl p T k x g τ hR hy h60 hx hg hwb hs K
    exact leaf 0 w pl p T k x g τ hR hR.2.2 (hs 0 pl rfl) hy h60 hx hg hwb K
  | succ f ih =>
    intro w pl p T k x g τ hR hy h60 hx hg hwb hs K
    have hg0 := (zsg_cons (l := (match T.1 [] with | none => [] | some q => zcat (fun b => zprm D σ f (zkd σ pl b) (zsub T b)) (zm_nb (D.2.2.1 q.1)))) hs)
    have ezp : zprm D σ (f + 1) pl T = pl :: (match T.1 [] with | none => [] | some q => zcat (fun b => zprm D σ f (zkd σ pl b) (zsub T b)) (zm_nb (D.2.2.1 q.1))) := rfl
    rcases hR.2 with ⟨e1, e2⟩ | ⟨a, t, c1, c2, c3, c4, c5, c6⟩
    · have ez : ∀ c, zgv D vs (f + 1) w T x c = zgl D w (T.2 []) x c := fun c => by
        show (match T.1 [] with | none => _ | some q => _) = _
        rw [e1]
      rw [ezp, e1] at K
      exact leaf (f + 1) w pl p T k x g τ hR e2 hg0.1 hy h60 hx hg hwb (fun τ' h1 h2 h3 => K τ' h1 h2 (fun c hc => by rw [ez]; exact h3 c hc))
    · have ez : ∀ c, zgv D vs (f + 1) w T x c = zm_s (fun b => zgv D vs f (zsd D a t w b) (zsub T b) (zm_ps (D.2.2.1 a) t (zpt D a t w) (zm_s (zpt D a t w) 4) (zm_fg (zpt D a t w) 4) x (vs a) b) c) (zm_nb (D.2.2.1 a)) := fun c => by
        show (match T.1 [] with | none => _ | some q => _) = _
        rw [c1]
      rw [ezp, c1] at K
      rw [c1] at hg0
      have hn := znb4 hd c2
      have h4 := hd.1
      obtain ⟨b1, b2, b3, b4, b5⟩ := hR.1
      have hkd0 : zKd D σ pl a t (zkd σ pl) := zKd_RM (f := f) (w := w) (p := p) (T := T) (P := P) hmk c4 c5 c6
      have hPk : ∀ b, b < zm_nb (D.2.2.1 a) → P (zkd σ pl b) = p ++ [b] := fun b hb => (zRM_hd (c6 b hb).2.2).2.1
      have hkm : ∀ b, b < zm_nb (D.2.2.1 a) → zkd σ pl b < mk := fun b hb => (zRM_hd (c6 b hb).2.2).1
      refine node pl k τ _ b1 hg0.1 hy (r_arriveN (d := 0) (x := x) (w := w) hd (zBn_y hB hy (by simp) (by simp)) c2 (zKd_eq hkd0 (hy.1 49 (by simp) (by decide)).1 (hy.1 50 (by simp) (by decide)).1 (hy.1 51 (by simp) (by decide)).1) (fun i hi => by rw [(hy.1 55 (by simp) (by decide)).1]; exact b5 i hi) hwb (by omega) hx h60 (by rw [hy.2 6 (by simp)]; exact h6)) (fun v τ2 q => ⟨q.1, ?_⟩)
      obtain ⟨-, y2, r2, o2⟩ := q
      rw [(hy.1 61 (by simp) (by decide)).1, hv a (by omega)] at r2
      have hy2 : zy [56, 57, 60, 62] [17, 18, 21] σ τ2 := zy_tr hy (zy_wk y2 (by simp) (by simp))
      have kids : ∀ n j τ3, j + n = zm_nb (D.2.2.1 a) → zy [56, 57, 60, 62] [17, 18, 21] σ τ3 → (∀ q, q < mk → ¬ p <+: P q → τ3.1 60 q = τ.1 60 q) → (∀ b, j ≤ b → b < zm_nb (D.2.2.1 a) → τ3.1 60 (zkd σ pl b) = nI (zm_ps (D.2.2.1 a) t (zpt D a t w) (zm_s (zpt D a t w) 4) (zm_fg (zpt D a t w) 4) x (vs a) b)) → (∀ c, c < 3 → τ3.1 62 c = nI (g c + zm_s (fun b => zgv D vs f (zsd D a t w b) (zsub T b) (zm_ps (D.2.2.1 a) t (zpt D a t w) (zm_s (zpt D a t w) 4) (zm_fg (zpt D a t w) 4) x (vs a) b) c) j)) → zE e t_M_classifyAsked Q (36, [some (.ref 64), some (.int (nI (k + 1 + (zcat (fun b => zprm D σ f (zkd σ pl b) (zsub T b)) j).length))), none], [], τ3) := by
        intro n
        induction n with
        | zero =>
          intro j τ3 hj y3 o3 h3 g3
          rw [show j = zm_nb (D.2.2.1 a) by omega] at g3 ⊢
          rw [show k + 1 + (zcat (fun b => zprm D σ f (zkd σ pl b) (zsub T b)) (zm_nb (D.2.2.1 a))).length = k + (pl :: zcat (fun b => zprm D σ f (zkd σ pl b) (zsub T b)) (zm_nb (D.2.2.1 a))).length by rw [List.length_cons]; omega]
          exact K τ3 y3 o3 (fun c hc => by rw [ez]; exact g3 c hc)
        | succ n ihn =>
          intro j τ3 hj y3 o3 h3 g3
          have hps : zm_ps (D.2.2.1 a) t (zpt D a t w) (zm_s (zpt D a t w) 4) (zm_fg (zpt D a t w) 4) x (vs a) j ≤ x := zm_ps_le (zm_s_pos (show j < 4 by omega))
          refine ih (zsd D a t w j) (zkd σ pl j) (p ++ [j]) (zsub T j) _ _ _ τ3 (c6 j (by omega)).2.2 y3 (h3 j (Nat.le_refl _) (by omega)) (by omega) g3 (fun i hi => Nat.le_trans zsd_le (hwb i hi)) (zsg_cat hg0.2 (b := j) (by show j < zm_nb (D.2.2.1 a); omega)) (fun τ4 y4 o4 g4 => ?_)
          have h := ihn (j + 1) τ4 (by omega) y4 (fun q hq hp => by
            rw [o4 q hq (fun z => hp ((List.prefix_append p [j]).trans z))]
            exact o3 q hq hp) (fun b hb1 hb2 => by
            rw [o4 _ (hkm b hb2) (by rw [hPk b hb2]; exact fun z => by have := zpre4 z (List.prefix_refl _); omega)]
            exact h3 b (by omega) hb2) (fun c hc => by rw [g4 c hc, Nat.add_assoc]; rfl)
          rw [show zcat (fun b => zprm D σ f (zkd σ pl b) (zsub T b)) (j + 1) = zcat (fun b => zprm D σ f (zkd σ pl b) (zsub T b)) j ++ zprm D σ f (zkd σ pl j) (zsub T j) from rfl, List.length_append, ← Nat.add_assoc] at h
          exact h
      have h := kids (zm_nb (D.2.2.1 a)) 0 τ2 (by omega) hy2 (fun q hq hp => o2 q (fun b hb z => hp (by rw [z, hPk b hb]; exact List.prefix_append _ _))) (fun b _ hb => r2 b hb) (fun c hc => by rw [(y2.1 62 (by simp) (by decide)).1]; exact hg c hc)
      exact h
set_option maxRecDepth 20000 in
set_option maxHeartbeats 1000000 in
theorem r_classifyAsked {d : Nat} {D : zD} {σ : ze_S} {mk : Nat} {P : Nat → List Nat} {w : Nat → Nat} {T : zTr} {vs : Nat → Int32} (hd : zdok D) (hB : zBn σ D) (hmk : mk ≤ 85) (hR : zRM D σ mk P 3 w 0 [] T) (hwb : ∀ i, i < D.2.1 → w i ≤ 720) (h6 : σ.1 64 6 = nI D.2.1) (hv : ∀ a, a < 4 → σ.1 61 a = vs a) :
    zM (d + 6) m_M_classifyAsked [.ref 64] σ (fun v τ => v = some (.int (nI (zm_fg (zgv D vs 3 w T 720) 3))) ∧ zy [56, 57, 58, 59, 60, 62] [17, 18, 21, 23] σ τ ∧ ∀ c, c < 3 → τ.1 62 c = nI (zgv D vs 3 w T 720 c)) := by
  have hb3 : ∀ c, c < 3 → zgv D vs 3 w T 720 c < 2 ^ 31 := fun c hc => Nat.lt_of_le_of_lt (zgv_leM hd hc hR) (by decide)
  -- the greatest
  have fin : ∀ τ, zy [56, 57, 58, 59, 60, 62] [17, 18, 21, 23] σ τ → (∀ c, c < 3 → τ.1 62 c = nI (zgv D vs 3 w T 720 c)) → zE (d + 5) t_M_classifyAsked (fun v τ => v = some (.int (nI (zm_fg (zgv D vs 3 w T 720) 3))) ∧ zy [56, 57, 58, 59, 60, 62] [17, 18, 21, 23] σ τ ∧ ∀ c, c < 3 → τ.1 62 c = nI (zgv D vs 3 w T 720 c)) (64, [some (.ref 64), some (.int 0), some (.int 1)], [], τ) := by
    intro τ hy hg
    have loop : ∀ m j, j + m = 2 → zE (d + 5) t_M_classifyAsked (fun v τ => v = some (.int (nI (zm_fg (zgv D vs 3 w T 720) 3))) ∧ zy [56, 57, 58, 59, 60, 62] [17, 18, 21, 23] σ τ ∧ ∀ c, c < 3 → τ.1 62 c = nI (zgv D vs 3 w T 720 c)) (64, [some (.ref 64), some (.int (nI (zm_fg (zgv D vs 3 w T 720) (j + 1)))), some (.int (nI (j + 1)))], [], τ) := by
      intro m
      induction m with
      | zero =>
        intro j hj
        have ej : j = 2 := by omega
        subst ej
        iterate 2 (refine ze_go1 rfl ?_)
        refine ze_brT rfl (by decide) ?_
        refine ze_go1 rfl ?_
        exact ze_rt1 rfl trivial ⟨rfl, hy, hg⟩
      | succ m ih =>
        intro j hj
        have h := ih (j + 1) (by omega)
        rw [← show nI (j + 1) + 1 = nI (j + 1 + 1) from nI_1 _, show zm_fg (zgv D vs 3 w T 720) (j + 1 + 1) = if zgv D vs 3 w T 720 (zm_fg (zgv D vs 3 w T 720) (j + 1)) < zgv D vs 3 w T 720 (j + 1) then j + 1 else zm_fg (zgv D vs 3 w T 720) (j + 1) from rfl] at h
        have hf := zm_fg_lt (zgv D vs 3 w T 720) j
        have b1 := hb3 (j + 1) (by omega)
        have b2 := hb3 (zm_fg (zgv D vs 3 w T 720) (j + 1)) (by omega)
        iterate 2 (refine ze_go1 rfl ?_)
        refine ze_brF rfl (nI_ge (b := 3) (by omega) (by omega)) ?_
        refine ze_go1 rfl ?_
        refine ze_go2 rfl rfl ?_
        refine ze_go1 rfl ?_
        refine ze_go2 rfl ⟨rfl, vp_in_nI (N := 3) (n := j + 1) (by omega) (by omega)⟩ ?_
        rw [nI_clamp (n := j + 1) (by omega), hg (j + 1) (by omega)]
        refine ze_go1 rfl ?_
        refine ze_go2 rfl rfl ?_
        refine ze_go1 rfl ?_
        refine ze_go2 rfl ⟨rfl, vp_in_nI (N := 3) (n := zm_fg (zgv D vs 3 w T 720) (j + 1)) (by omega) (by omega)⟩ ?_
        rw [nI_clamp (n := zm_fg (zgv D vs 3 w T 720) (j + 1)) (by omega), hg _ (by omega)]
        by_cases e : zgv D vs 3 w T 720 (zm_fg (zgv D vs 3 w T 720) (j + 1)) < zgv D vs 3 w T 720 (j + 1)
        · refine ze_brF rfl (nI_ge e (by omega)) ?_
          rw [if_pos e] at h
          iterate 5 (refine ze_go1 rfl ?_)
          exact h
        · refine ze_brT rfl (nI_le (by omega) (by omega)) ?_
          rw [if_neg e] at h
          iterate 4 (refine ze_go1 rfl ?_)
          exact h
    have h := loop 2 0 rfl
    rw [zm_fg_1] at h
    exact h
  -- behind the zeros
  have st : ∀ τ, zy [62] [] σ τ → (∀ c, c < 3 → τ.1 62 c = nI 0) → zE (d + 5) t_M_classifyAsked (fun v τ => v = some (.int (nI (zm_fg (zgv D vs 3 w T 720) 3))) ∧ zy [56, 57, 58, 59, 60, 62] [17, 18, 21, 23] σ τ ∧ ∀ c, c < 3 → τ.1 62 c = nI (zgv D vs 3 w T 720 c)) (20, [some (.ref 64), some (.int 3), none], [], τ) := by
    intro τ hy hg
    have R0 : zRM D τ mk P 3 w 0 [] T := zRM_eq hd hR (fun q _ _ => ⟨zsmr_y hy (by simp) q, rfl⟩)
    have B0 : zBn τ D := zBn_y hB hy (by simp) (by simp)
    iterate 2 (refine ze_go1 rfl ?_)
    refine ze_ca1 rfl ⟨rfl, rfl⟩ (ze_M_le (r_list (d := 0) (pl := 0) hd B0 hmk (Nat.le_refl _) R0) (by omega)) (fun v τ2 q => ?_)
    obtain ⟨rfl, y2, l2⟩ := q
    have e51 : τ2.1 51 = τ.1 51 := (y2.1 51 (by simp) (by decide)).1
    have R2 : zRM D τ2 mk P 3 w 0 [] T := zRM_eq hd R0 (fun q _ _ => ⟨zsmr_y y2 (by simp) q, rfl⟩)
    have B2 : zBn τ2 D := zBn_y B0 y2 (by simp) (by simp)
    rw [← zprm_eq e51] at l2
    have hlen := zprm_len hd R2
    have hN : zN 3 ≤ 85 := by decide
    refine ze_go1 rfl ?_
    refine ze_go2 rfl rfl ?_
    iterate 2 (refine ze_go1 rfl ?_)
    refine ze_go2 rfl ⟨rfl, vp_in_nI (N := 96) (n := 0) (by omega) (by omega)⟩ ?_
    rw [sb_cl0]
    iterate 2 (refine ze_go1 rfl ?_)
    have h := r_ca (e := d + 5) (vs := vs) (Q := fun v τ => v = some (.int (nI (zm_fg (zgv D vs 3 w T 720) 3))) ∧ zy [56, 57, 58, 59, 60, 62] [17, 18, 21, 23] σ τ ∧ ∀ c, c < 3 → τ.1 62 c = nI (zgv D vs 3 w T 720 c)) (by omega) hd B2 hmk l2 (by omega) (by rw [y2.2 6 (by simp), hy.2 6 (by simp)]; exact h6) (fun a ha => by rw [(y2.1 61 (by simp) (by decide)).1, (hy.1 61 (by simp) (by decide)).1]; exact hv a ha) 3 w 0 [] T 0 720 (fun _ => 0) (ze_ui τ2 60 0 720) R2 (zy_ui (by simp) (by decide) _ _ _) (zui _ _ _ _) (Nat.le_refl _) (fun c hc => by rw [zui_o _ _ _ _ (by decide), (y2.1 62 (by simp) (by decide)).1]; exact hg c hc) hwb (fun j x hx => by rw [Nat.zero_add]; exact hx) (fun τ3 y3 _ g3 => ?_)
    · exact h
    · rw [Nat.zero_add]
      iterate 2 (refine ze_go1 rfl ?_)
      refine ze_go2 rfl rfl ?_
      rw [y3.2 23 (by simp), l2.1]
      refine ze_brT rfl (Int32.le_refl _) ?_
      iterate 4 (refine ze_go1 rfl ?_)
      exact fin τ3 (zy_tr (zy_wk hy (by simp) (by simp)) (zy_tr (zy_wk y2 (by simp) (by simp)) (zy_wk y3 (by simp) (by simp)))) (fun c hc => by rw [g3 c hc, Nat.zero_add])
  refine zM_in t_M_classifyAsked [some (.ref 64), none, none] rfl rfl ?_
  have loop : ∀ m j τ, j + m = 3 → zy [62] [] σ τ → (∀ c, c < j → τ.1 62 c = nI 0) → zE (d + 5) t_M_classifyAsked (fun v τ => v = some (.int (nI (zm_fg (zgv D vs 3 w T 720) 3))) ∧ zy [56, 57, 58, 59, 60, 62] [17, 18, 21, 23] σ τ ∧ ∀ c, c < 3 → τ.1 62 c = nI (zgv D vs 3 w T 720 c)) (2, [some (.ref 64), some (.int (nI j)), none], [], τ) := by
    intro m
    induction m with
    | zero =>
      intro j τ hj hy hg
      have ej : j = 3 := by omega
      subst ej
      iterate 2 (refine ze_go1 rfl ?_)
      refine ze_brT rfl (by decide) ?_
      exact st τ hy hg
    | succ m ih =>
      intro j τ hj hy hg
      iterate 2 (refine ze_go1 rfl ?_)
      refine ze_brF rfl (nI_ge (b := 3) (by omega) (by omega)) ?_
      refine ze_go1 rfl ?_
      refine ze_go2 rfl rfl ?_
      iterate 2 (refine ze_go1 rfl ?_)
      refine ze_go2 rfl ⟨rfl, vp_in_nI (N := 3) (n := j) (by omega) (by omega)⟩ ?_
      rw [nI_clamp (n := j) (by omega)]
      iterate 2 (refine ze_go1 rfl ?_)
      have h := ih (j + 1) (ze_ui τ 62 j 0) (by omega) (zy_tr hy (zy_ui (by simp) (by decide) _ _ _)) (fun c hc => by
        by_cases e : c = j
        · subst e; rw [zui]; rfl
        · rw [zui_n _ _ _ _ e]; exact hg c (by omega))
      rw [← show nI j + 1 = nI (j + 1) from nI_1 _] at h
      exact h
  iterate 2 (refine ze_go1 rfl ?_)
  exact loop 3 0 σ rfl (zy_rf _ _ _) (fun c hc => by omega)
