theorem zRM_up {D : zD} {σ : ze_S} {mk : Nat} {P : Nat → List Nat} : ∀ {f : Nat} {w : Nat → Nat} {pl : Nat} {p : List Nat} {T : zTr}, zRM D σ mk P f w pl p T → zRM D σ mk P (f + 1) w pl p T
  | 0, _, _, _, _, h => ⟨h.1, Or.inl h.2⟩
  | f + 1, _, _, _, _, h => by
    refine ⟨h.1, ?_⟩
    rcases h.2 with q | ⟨a, t, c1, c2, c3, c4, c5, c6⟩
    · exact Or.inl q
    · exact Or.inr ⟨a, t, c1, c2, c3, c4, c5, fun b hb => ⟨(c6 b hb).1, (c6 b hb).2.1, zRM_up (c6 b hb).2.2⟩⟩
/-- tops and rows may differ, the copied rows stay -/
def zRp (σ τ : ze_S) : Prop := zy [54, 55] [] σ τ ∧ ∀ q i, q < 96 → i < 24 → τ.1 55 (24 * (q + 96) + i) = σ.1 55 (24 * (q + 96) + i)
set_option maxRecDepth 20000 in
set_option maxHeartbeats 1000000 in
theorem r_rp_node {e : Nat} {D : zD} {σ : ze_S} {L : List Nat} {x1 x2 : Int32} {Q : ze_P} (he : 3 ≤ e) (hd : zdok D) (hB : zBn σ D) (hL : zLs σ L) (hL85 : L.length ≤ 85) (h6 : σ.1 64 6 = nI D.2.1) {pl k : Nat} {τ : ze_S} {w : Nat → Nat} {tp : Nat} (hpl : pl < 85) (hk : L[k]? = some pl) (hy : zRp σ τ) (hw : zrw σ (pl + 96) D.2.1 w) (hwb : ∀ i, i < D.2.1 → w i ≤ 720) (htp : τ.1 54 pl = nI tp)
    (K : ∀ τ2, zRp σ τ2 → (∀ q, q < 96 → q ≠ pl → zsmr τ τ2 q) → zrw τ2 pl D.2.1 w → τ2.1 54 pl = nI (zty D w tp) → zE e t_M_replace Q (7, [some (.ref 64), some (.int x1), some (.int x2), some (.int (nI (k + 1)))], [], τ2)) :
    zE e t_M_replace Q (7, [some (.ref 64), some (.int x1), some (.int x2), some (.int (nI k))], [], τ) := by
  have hkl := zlt_get hk
  have h24 := hd.2.1
  iterate 2 (refine ze_go1 rfl ?_)
  refine ze_go2 rfl rfl ?_
  rw [hy.1.2 23 (by simp), hL.1]
  refine ze_brF rfl (nI_ge (by omega) (by omega)) ?_
  iterate 2 (refine ze_go1 rfl ?_)
  refine ze_go2 rfl rfl ?_
  refine ze_go1 rfl ?_
  refine ze_go2 rfl ⟨rfl, vp_in_nI (N := 96) (n := k) (by omega) (by omega)⟩ ?_
  rw [nI_clamp (n := k) (by omega), (hy.1.1 58 (by simp) (by decide)).1, hL.2 k pl hk]
  iterate 3 (refine ze_go1 rfl ?_)
  refine ze_go2 rfl rfl ?_
  refine ze_go1 rfl ?_
  refine ze_go2 rfl ⟨rfl, vp_in_nI (N := 96) (n := k) (by omega) (by omega)⟩ ?_
  rw [nI_clamp (n := k) (by omega), (hy.1.1 58 (by simp) (by decide)).1, hL.2 k pl hk, show nI pl + 96 = nI (pl + 96) from nI_add pl 96]
  refine ze_ca1 rfl ⟨rfl, rfl⟩ (ze_M_le (r_copyWeights (d := 0) (fr := pl + 96) (to := pl) (by omega) (by omega) (by omega)) (by omega)) (fun v τ1 q => ?_)
  obtain ⟨rfl, y1, r1, o1⟩ := q
  have hy1 : zRp σ τ1 := ⟨zy_tr hy.1 (zy_wk y1 (by simp) (by simp)), fun q i hq hi => by rw [o1 (q + 96) (by omega) i hi]; exact hy.2 q i hq hi⟩
  have w1 : zrw τ1 pl D.2.1 w := fun i hi => by rw [r1 i (by omega), hy.2 pl i (by omega) (by omega)]; exact hw i hi
  have s1 : ∀ q, q < 96 → q ≠ pl → zsmr τ τ1 q := fun q hq hn => ⟨by rw [(y1.1 49 (by simp) (by decide)).1], by rw [(y1.1 50 (by simp) (by decide)).1], by rw [(y1.1 52 (by simp) (by decide)).1], by rw [(y1.1 53 (by simp) (by decide)).1], by rw [(y1.1 54 (by simp) (by decide)).1], fun _ _ => by rw [(y1.1 51 (by simp) (by decide)).1], fun i hi => o1 q hn i hi⟩
  have t1 : τ1.1 54 pl = nI tp := by rw [(y1.1 54 (by simp) (by decide)).1]; exact htp
  have B1 : zBn τ1 D := zBn_y hB hy1.1 (by simp) (by simp)
  have h61 : τ1.1 64 6 = nI D.2.1 := by rw [hy1.1.2 6 (by simp)]; exact h6
  have e58 : τ1.1 58 = σ.1 58 := (hy1.1.1 58 (by simp) (by decide)).1
  have hwl := zcw_le hd hwb
  iterate 2 (refine ze_go1 rfl ?_)
  refine ze_go2 rfl rfl ?_
  refine ze_go1 rfl ?_
  refine ze_go2 rfl ⟨rfl, vp_in_nI (N := 96) (n := k) (by omega) (by omega)⟩ ?_
  rw [nI_clamp (n := k) (by omega), e58, hL.2 k pl hk]
  refine ze_go1 rfl ?_
  refine ze_go2 rfl rfl ?_
  rw [h61]
  refine ze_ca1 rfl ⟨rfl, rfl⟩ (ze_M_le (r_weightOf (d := 0) hd B1 (by omega) w1) (by omega)) (fun v τ' q => ?_)
  obtain ⟨rfl, e0⟩ := q
  rw [e0]
  unfold zty at K
  by_cases c : zm_s (zcw D w) 3 = 0
  · refine ze_brT rfl (by rw [c]; decide) ?_
    iterate 2 (refine ze_go1 rfl ?_)
    rw [if_pos c] at K
    have h := K τ1 hy1 s1 w1 t1
    rw [← show nI k + 1 = nI (k + 1) from nI_1 _] at h
    exact h
  · refine ze_brF rfl (nI_nle (by omega) (by omega)) ?_
    refine ze_go1 rfl ?_
    refine ze_go2 rfl rfl ?_
    refine ze_go1 rfl ?_
    refine ze_go2 rfl rfl ?_
    refine ze_go1 rfl ?_
    refine ze_go2 rfl ⟨rfl, vp_in_nI (N := 96) (n := k) (by omega) (by omega)⟩ ?_
    rw [nI_clamp (n := k) (by omega), e58, hL.2 k pl hk]
    iterate 2 (refine ze_go1 rfl ?_)
    refine ze_go2 rfl rfl ?_
    refine ze_go1 rfl ?_
    refine ze_go2 rfl ⟨rfl, vp_in_nI (N := 96) (n := k) (by omega) (by omega)⟩ ?_
    rw [nI_clamp (n := k) (by omega), e58, hL.2 k pl hk]
    refine ze_go1 rfl ?_
    refine ze_go2 rfl rfl ?_
    rw [h61]
    refine ze_ca1 rfl ⟨rfl, rfl⟩ (ze_M_le (r_heaviest (d := 0) hd B1 (by omega) w1 hwb) (by omega)) (fun v τ' q => ?_)
    obtain ⟨rfl, e0⟩ := q
    rw [e0]
    refine ze_go2 rfl ⟨rfl, vp_in_nI (N := 96) (n := pl) (by omega) (by omega)⟩ ?_
    rw [nI_clamp (n := pl) (by omega)]
    iterate 2 (refine ze_go1 rfl ?_)
    rw [if_neg c] at K
    have h := K (ze_ui τ1 54 pl (nI (zm_fg (zcw D w) 3))) ⟨zy_tr hy1.1 (zy_ui (by simp) (by decide) _ _ _), fun q i hq hi => by rw [zui_o _ _ _ _ (by decide)]; exact hy1.2 q i hq hi⟩ (fun q hq hn => by
      obtain ⟨u1, u2, u3, u4, u5, u6, u7⟩ := s1 q hq hn
      refine ⟨?_, ?_, ?_, ?_, ?_, fun b hb => ?_, fun i hi => ?_⟩
      · rw [zui_o _ _ _ _ (by decide)]; exact u1
      · rw [zui_o _ _ _ _ (by decide)]; exact u2
      · rw [zui_o _ _ _ _ (by decide)]; exact u3
      · rw [zui_o _ _ _ _ (by decide)]; exact u4
      · rw [zui_n _ _ _ _ hn]; exact u5
      · rw [zui_o _ _ _ _ (by decide)]; exact u6 b hb
      · rw [zui_o _ _ _ _ (by decide)]; exact u7 i hi) (fun i hi => by rw [zui_o _ _ _ _ (by decide)]; exact w1 i hi) (zui _ _ _ _)
    rw [← show nI k + 1 = nI (k + 1) from nI_1 _] at h
    exact h
set_option maxHeartbeats 1000000 in
theorem r_rp {e : Nat} {D : zD} {σ : ze_S} {mk : Nat} {P : Nat → List Nat} {L : List Nat} {x1 x2 : Int32} {Q : ze_P} (he : 3 ≤ e) (hd : zdok D) (hB : zBn σ D) (hmk : mk ≤ 85) (hL : zLs σ L) (hL85 : L.length ≤ 85) (h6 : σ.1 64 6 = nI D.2.1) :
    ∀ (f : Nat) (w w' : Nat → Nat) (pl : Nat) (p : List Nat) (T : zTr) (k : Nat) (τ : ze_S), zRM D σ mk P f w' pl p T → zWR D σ 96 f w pl T → zRp σ τ → (∀ q, q < mk → p <+: P q → zsmr σ τ q) → (∀ i, i < D.2.1 → w i ≤ 720) → zsg L k (zprm D σ f pl T) →
      (∀ τ', zRp σ τ' → (∀ q, q < mk → ¬ p <+: P q → zsmr τ τ' q) → zRM D τ' mk P f w pl p (zrt D f w T) → zE e t_M_replace Q (7, [some (.ref 64), some (.int x1), some (.int x2), some (.int (nI (k + (zprm D σ f pl T).length)))], [], τ')) →
      zE e t_M_replace Q (7, [some (.ref 64), some (.int x1), some (.int x2), some (.int (nI k))], [], τ) := by
  have outside : ∀ {p : List Nat} {pl q : Nat}, P pl = p → ¬ p <+: P q → q ≠ pl := fun h1 h2 e => h2 (by rw [e, h1]; exact List.prefix_refl _)
  intro f
  induction f with
  | zero =>
    intro w w' pl p T k τ hR hW hy hs hwb hg K
    obtain ⟨⟨b1, b2, b3, b4, b5⟩, b6, b7⟩ := hR
    have hst := hs pl b1 (by rw [b2]; exact List.prefix_refl _)
    refine r_rp_node he hd hB hL hL85 h6 (by omega) (hg 0 pl rfl) hy hW hwb (hst.2.2.2.2.1.trans b3) (fun τ2 y2 s2 w2 t2 => ?_)
    refine K τ2 y2 (fun q hq hp => s2 q (by omega) (outside b2 hp)) ⟨⟨b1, b2, t2, zty_lt D w b4, w2⟩, b6, ?_⟩
    rw [(y2.1.1 49 (by simp) (by decide)).1]
    exact b7
  | succ f ih =>
    intro w w' pl p T k τ hR hW hy hs hwb hg K
    have hg0 := (zsg_cons (l := (match T.1 [] with | none => [] | some q => zcat (fun b => zprm D σ f (zkd σ pl b) (zsub T b)) (zm_nb (D.2.2.1 q.1)))) hg)
    have ezp : zprm D σ (f + 1) pl T = pl :: (match T.1 [] with | none => [] | some q => zcat (fun b => zprm D σ f (zkd σ pl b) (zsub T b)) (zm_nb (D.2.2.1 q.1))) := rfl
    obtain ⟨⟨b1, b2, b3, b4, b5⟩, hR2⟩ := hR
    have hst := hs pl b1 (by rw [b2]; exact List.prefix_refl _)
    rcases hR2 with ⟨e1, e2⟩ | ⟨a, t, c1, c2, c3, c4, c5, c6⟩
    · rw [ezp, e1] at K
      rw [zrt_none e1] at K
      refine r_rp_node he hd hB hL hL85 h6 (by omega) hg0.1 hy hW.1 hwb (hst.2.2.2.2.1.trans b3) (fun τ2 y2 s2 w2 t2 => ?_)
      refine K τ2 y2 (fun q hq hp => s2 q (by omega) (outside b2 hp)) ⟨⟨b1, b2, t2, zty_lt D w b4, w2⟩, Or.inl ⟨rfl, ?_⟩⟩
      rw [(y2.1.1 49 (by simp) (by decide)).1]
      exact e2
    · have e1 : zrt D (f + 1) w T = zmk (some (a, t)) (zty D w (T.2 [])) (fun b => if b < zm_nb (D.2.2.1 a) then zrt D f (zsd D a t w b) (zsub T b) else zsub T b) := by
        show (match T.1 [] with | none => _ | some q => _) = _
        rw [c1]
      rw [ezp, e1, c1] at K
      rw [c1] at hg0
      have hn := znb4 hd c2
      have h4 := hd.1
      have h24 := hd.2.1
      refine r_rp_node he hd hB hL hL85 h6 (by omega) hg0.1 hy hW.1 hwb (hst.2.2.2.2.1.trans b3) (fun τ2 y2 s2 w2 t2 => ?_)
      have kids : ∀ n j τ3, j + n = zm_nb (D.2.2.1 a) → zRp σ τ3 → (∀ q, q < mk → (∀ b, b < j → ¬ (p ++ [b]) <+: P q) → zsmr τ2 τ3 q) → (∀ b, b < j → zRM D τ3 mk P f (zsd D a t w b) (zkd σ pl b) (p ++ [b]) (zrt D f (zsd D a t w b) (zsub T b))) → zE e t_M_replace Q (7, [some (.ref 64), some (.int x1), some (.int x2), some (.int (nI (k + 1 + (zcat (fun b => zprm D σ f (zkd σ pl b) (zsub T b)) j).length)))], [], τ3) := by
        intro n
        induction n with
        | zero =>
          intro j τ3 hj y3 s3 hdn
          rw [show j = zm_nb (D.2.2.1 a) by omega] at hdn s3 ⊢
          rw [show k + 1 + (zcat (fun b => zprm D σ f (zkd σ pl b) (zsub T b)) (zm_nb (D.2.2.1 a))).length = k + (pl :: zcat (fun b => zprm D σ f (zkd σ pl b) (zsub T b)) (zm_nb (D.2.2.1 a))).length by rw [List.length_cons]; omega]
          have spl := s3 pl b1 (fun b hb => by rw [b2]; exact zpre3)
          refine K τ3 y3 (fun q hq hp => zsmr_tr (s2 q (by omega) (outside b2 hp)) (s3 q hq (fun b hb z => hp ((List.prefix_append p [b]).trans z)))) ⟨⟨b1, b2, spl.2.2.2.2.1.trans t2, zty_lt D w b4, fun i hi => by rw [spl.2.2.2.2.2.2 i (by omega)]; exact w2 i hi⟩, Or.inr ⟨a, t, rfl, c2, c3, ?_, ?_, fun b hb => ?_⟩⟩
          · rw [(y3.1.1 49 (by simp) (by decide)).1]; exact c4
          · rw [(y3.1.1 50 (by simp) (by decide)).1]; exact c5
          · rw [show zkd τ3 pl b = zkd σ pl b by unfold zkd; rw [(y3.1.1 51 (by simp) (by decide)).1], (y3.1.1 51 (by simp) (by decide)).1]
            refine ⟨(c6 b hb).1, (c6 b hb).2.1, ?_⟩
            rw [zsub_mk, if_pos hb]
            exact hdn b hb
        | succ n ihn =>
          intro j τ3 hj y3 s3 hdn
          refine ih (zsd D a t w j) _ (zkd σ pl j) (p ++ [j]) (zsub T j) _ τ3 (c6 j (by omega)).2.2 (hW.2 a t c1 j (by omega)) y3 (fun q hq hp => ?_) (fun i hi => Nat.le_trans zsd_le (hwb i hi)) (zsg_cat hg0.2 (b := j) (by show j < zm_nb (D.2.2.1 a); omega)) (fun τ4 y4 s4 hR4 => ?_)
          · refine zsmr_tr (hs q hq ((List.prefix_append p [j]).trans hp)) (zsmr_tr (s2 q (by omega) (fun e => by rw [e, b2] at hp; exact zpre3 hp)) (s3 q hq (fun b hb z => by have := zpre4 hp z; omega)))
          · have h := ihn (j + 1) τ4 (by omega) y4 (fun q hq hp => zsmr_tr (s3 q hq (fun b hb => hp b (by omega))) (s4 q hq (hp j (by omega)))) (fun b hb => ?_)
            · rw [show zcat (fun b => zprm D σ f (zkd σ pl b) (zsub T b)) (j + 1) = zcat (fun b => zprm D σ f (zkd σ pl b) (zsub T b)) j ++ zprm D σ f (zkd σ pl j) (zsub T j) from rfl, List.length_append, ← Nat.add_assoc] at h
              exact h
            · by_cases ej : b = j
              · subst ej
                exact hR4
              · exact zRM_eq hd (hdn b (by omega)) (fun q hq hp => ⟨s4 q hq (fun z => ej (zpre4 hp z)), rfl⟩)
      have h := kids (zm_nb (D.2.2.1 a)) 0 τ2 (by omega) y2 (fun q _ _ => zsmr_rf _ _) (fun b hb => by omega)
      exact h
theorem zRM_rel {D : zD} {σ τ : ze_S} {mk : Nat} {P : Nat → List Nat} {p : List Nat} {h : Nat} (hd : zdok D) (hs : ∀ q, q < mk → (p ++ [h]) <+: P q → zsmr σ τ q) : ∀ {f : Nat} {w : Nat → Nat} {pl : Nat} {s : List Nat} {T : zTr}, zRM D σ mk P f w pl (p ++ [h] ++ s) T → zRM D τ mk (fun q => zrl p h (P q)) f w pl (p ++ s) T
  | 0, w, pl, s, T, hR => by
    have h24 := hd.2.1
    obtain ⟨⟨b1, b2, b3, b4, b5⟩, b6, b7⟩ := hR
    obtain ⟨u1, u2, u3, u4, u5, u6, u7⟩ := hs pl b1 (by rw [b2]; exact List.prefix_append _ _)
    exact ⟨⟨b1, by show zrl p h (P pl) = _; rw [b2, zrl_in], by rw [u5]; exact b3, b4, fun i hi => by rw [u7 i (by omega)]; exact b5 i hi⟩, b6, by rw [u1]; exact b7⟩
  | f + 1, w, pl, s, T, hR => by
    have h24 := hd.2.1
    obtain ⟨⟨b1, b2, b3, b4, b5⟩, hb⟩ := hR
    obtain ⟨u1, u2, u3, u4, u5, u6, u7⟩ := hs pl b1 (by rw [b2]; exact List.prefix_append _ _)
    refine ⟨⟨b1, by show zrl p h (P pl) = _; rw [b2, zrl_in], by rw [u5]; exact b3, b4, fun i hi => by rw [u7 i (by omega)]; exact b5 i hi⟩, ?_⟩
    rcases hb with ⟨e1, e2⟩ | ⟨a, t, c1, c2, c3, c4, c5, c6⟩
    · exact Or.inl ⟨e1, by rw [u1]; exact e2⟩
    · have hn := znb4 hd c2
      refine Or.inr ⟨a, t, c1, c2, c3, by rw [u1]; exact c4, by rw [u2]; exact c5, fun b hb => ?_⟩
      have e : zkd τ pl b = zkd σ pl b := by
        unfold zkd
        rw [u6 b (by omega)]
      rw [e, u6 b (by omega), List.append_assoc]
      refine ⟨(c6 b hb).1, (c6 b hb).2.1, zRM_rel hd hs ?_⟩
      have := (c6 b hb).2.2
      rw [List.append_assoc (p ++ [h]) s [b]] at this
      exact this
/-- n takes what b has -/
def zTk (σ : ze_S) (n b : Nat) (τ : ze_S) : Prop := zy [49, 50, 51, 54] [] σ τ ∧ τ.1 49 n = σ.1 49 b ∧ τ.1 50 n = σ.1 50 b ∧ τ.1 54 n = σ.1 54 b ∧ (∀ q, q < 4 → τ.1 51 (4 * n + q) = σ.1 51 (4 * b + q)) ∧ ∀ q, q ≠ n → zsmr σ τ q
theorem zRM_tk {D : zD} {σ τ : ze_S} {mk : Nat} {P : Nat → List Nat} {p : List Nat} {h n pl : Nat} {f : Nat} {w : Nat → Nat} {T : zTr} (hd : zdok D) (ht : zTk σ n pl τ) (hn : n < mk) (hP : P n = p) (hl : n < pl) (hw : zrw σ n D.2.1 w) (hR : zRM D σ mk P f w pl (p ++ [h]) T) : zRM D τ mk (fun q => zrl p h (P q)) f w n p T := by
  obtain ⟨t1, t2, t3, t4, t5, t6⟩ := ht
  have e55 : τ.1 55 = σ.1 55 := (t1.1 55 (by simp) (by decide)).1
  have hlab : zrl p h (P n) = p := by rw [hP, zrl_out zpre3]
  have hs : ∀ q, q < mk → (p ++ [h]) <+: P q → zsmr σ τ q := fun q _ hq => t6 q (fun e => by rw [e, hP] at hq; exact zpre3 hq)
  cases f with
  | zero =>
    obtain ⟨⟨b1, b2, b3, b4, b5⟩, b6, b7⟩ := hR
    exact ⟨⟨hn, hlab, by rw [t4]; exact b3, b4, fun i hi => by rw [e55]; exact hw i hi⟩, b6, by rw [t2]; exact b7⟩
  | succ f =>
    obtain ⟨⟨b1, b2, b3, b4, b5⟩, hb⟩ := hR
    refine ⟨⟨hn, hlab, by rw [t4]; exact b3, b4, fun i hi => by rw [e55]; exact hw i hi⟩, ?_⟩
    rcases hb with ⟨e1, e2⟩ | ⟨a, t, c1, c2, c3, c4, c5, c6⟩
    · exact Or.inl ⟨e1, by rw [t2]; exact e2⟩
    · have hnb := znb4 hd c2
      refine Or.inr ⟨a, t, c1, c2, c3, by rw [t2]; exact c4, by rw [t3]; exact c5, fun b hb => ?_⟩
      have e : zkd τ n b = zkd σ pl b := by
        unfold zkd
        rw [t5 b (by omega)]
      rw [e, t5 b (by omega)]
      exact ⟨(c6 b hb).1, Nat.lt_trans hl (c6 b hb).2.1, zRM_rel hd hs (c6 b hb).2.2⟩
set_option maxRecDepth 20000 in
set_option maxHeartbeats 1000000 in
theorem r_replace {d : Nat} {D : zD} {σ : ze_S} {mk : Nat} {P : Nat → List Nat} {f : Nat} {w w' : Nat → Nat} {n pl h : Nat} {p : List Nat} {T : zTr} (hd : zdok D) (hB : zBn σ D) (hmk : mk ≤ 85) (hf : f ≤ 3) (hn : n < mk) (hP : P n = p) (hl : n < pl) (hw : zrw σ n D.2.1 w) (hR : zRM D σ mk P f w' pl (p ++ [h]) T) (hW : zWR D σ 96 f w pl T) (hwb : ∀ i, i < D.2.1 → w i ≤ 720) (h6 : σ.1 64 6 = nI D.2.1) :
    zM (d + 4) m_M_replace [.ref 64, .int (nI n), .int (nI pl)] σ (fun v τ => v = none ∧ zy [49, 50, 51, 54, 55, 58, 59] [23] σ τ ∧ (∀ q, q < mk → ¬ p <+: P q → zsmr σ τ q) ∧ zRM D τ mk (fun q => zrl p h (P q)) f w n p (zrt D f w T)) := by
  have hpl := (zRM_hd hR).1
  have h24 := hd.2.1
  have hN : zN f ≤ 85 := by
    have : ∀ f, f ≤ 3 → zN f ≤ 85 := by decide
    exact this f hf
  refine zM_in t_M_replace [some (.ref 64), some (.int (nI n)), some (.int (nI pl)), none] rfl rfl ?_
  iterate 2 (refine ze_go1 rfl ?_)
  refine ze_ca1 rfl ⟨rfl, rfl⟩ (ze_M_le (r_list (d := 0) hd hB hmk hf hR) (by omega)) (fun v τ2 q => ?_)
  obtain ⟨rfl, y2, l2⟩ := q
  have e51 : τ2.1 51 = σ.1 51 := (y2.1 51 (by simp) (by decide)).1
  have e55 : τ2.1 55 = σ.1 55 := (y2.1 55 (by simp) (by decide)).1
  have R2 : zRM D τ2 mk P f w' pl (p ++ [h]) T := zRM_eq hd hR (fun q _ _ => ⟨zsmr_y y2 (by simp) q, rfl⟩)
  have W2 : zWR D τ2 96 f w pl T := zWR_eq e51 hd hR hW (fun q _ _ i _ => by rw [e55])
  have B2 : zBn τ2 D := zBn_y hB y2 (by simp) (by simp)
  rw [← zprm_eq e51] at l2
  have hlen := zprm_len hd R2
  have h62 : τ2.1 64 6 = nI D.2.1 := by rw [y2.2 6 (by simp)]; exact h6
  iterate 2 (refine ze_go1 rfl ?_)
  refine r_rp (e := d + 3) (x1 := nI n) (x2 := nI pl) (by omega) hd B2 hmk l2 (by omega) h62 f w w' pl (p ++ [h]) T 0 τ2 R2 W2 ⟨zy_rf _ _ _, fun _ _ _ _ => rfl⟩ (fun q _ _ => zsmr_rf _ _) hwb (fun j x hx => by rw [Nat.zero_add]; exact hx) (fun τ3 y3 s3 R3 => ?_)
  rw [Nat.zero_add]
  iterate 2 (refine ze_go1 rfl ?_)
  refine ze_go2 rfl rfl ?_
  rw [y3.1.2 23 (by simp), l2.1]
  refine ze_brT rfl (Int32.le_refl _) ?_
  refine ze_go1 rfl ?_
  refine ze_go2 rfl rfl ?_
  iterate 2 (refine ze_go1 rfl ?_)
  refine ze_go2 rfl rfl ?_
  refine ze_go1 rfl ?_
  refine ze_go2 rfl ⟨rfl, vp_in_nI (N := 96) (n := pl) (by omega) (by omega)⟩ ?_
  rw [nI_clamp (n := pl) (by omega)]
  refine ze_go2 rfl ⟨rfl, vp_in_nI (N := 96) (n := n) (by omega) (by omega)⟩ ?_
  rw [nI_clamp (n := n) (by omega)]
  refine ze_go1 rfl ?_
  refine ze_go2 rfl rfl ?_
  iterate 2 (refine ze_go1 rfl ?_)
  refine ze_go2 rfl rfl ?_
  refine ze_go1 rfl ?_
  refine ze_go2 rfl ⟨rfl, vp_in_nI (N := 96) (n := pl) (by omega) (by omega)⟩ ?_
  rw [nI_clamp (n := pl) (by omega)]
  refine ze_go2 rfl ⟨rfl, vp_in_nI (N := 96) (n := n) (by omega) (by omega)⟩ ?_
  rw [nI_clamp (n := n) (by omega)]
  refine ze_go1 rfl ?_
  refine ze_go2 rfl rfl ?_
  iterate 2 (refine ze_go1 rfl ?_)
  refine ze_go2 rfl rfl ?_
  refine ze_go1 rfl ?_
  refine ze_go2 rfl ⟨rfl, vp_in_nI (N := 96) (n := pl) (by omega) (by omega)⟩ ?_
  rw [nI_clamp (n := pl) (by omega)]
  refine ze_go2 rfl ⟨rfl, vp_in_nI (N := 96) (n := n) (by omega) (by omega)⟩ ?_
  rw [nI_clamp (n := n) (by omega)]
  have e1 : (ze_ui τ3 49 n (τ3.1 49 pl)).1 50 pl = τ3.1 50 pl := by rw [zui_o _ _ _ _ (by decide)]
  have e2 : (ze_ui (ze_ui τ3 49 n (τ3.1 49 pl)) 50 n (τ3.1 50 pl)).1 54 pl = τ3.1 54 pl := by rw [zui_o _ _ _ _ (by decide), zui_o _ _ _ _ (by decide)]
  rw [e1, e2]
  have hsp : zsmr τ2 τ3 n := s3 n hn (by rw [hP]; exact zpre3)
  have loop : ∀ m j τ4, j + m = 4 → zy [49, 50, 51, 54] [] τ3 τ4 → τ4.1 49 n = τ3.1 49 pl → τ4.1 50 n = τ3.1 50 pl → τ4.1 54 n = τ3.1 54 pl → (∀ q, q < j → τ4.1 51 (4 * n + q) = τ3.1 51 (4 * pl + q)) → (∀ q, q ≠ n → zsmr τ3 τ4 q) → zE (d + 3) t_M_replace (fun v τ => v = none ∧ zy [49, 50, 51, 54, 55, 58, 59] [23] σ τ ∧ (∀ q, q < mk → ¬ p <+: P q → zsmr σ τ q) ∧ zRM D τ mk (fun q => zrl p h (P q)) f w n p (zrt D f w T)) (120, [some (.ref 64), some (.int (nI n)), some (.int (nI pl)), some (.int (nI j))], [], τ4) := by
    intro m
    induction m with
    | zero =>
      intro j τ4 hj y4 g1 g2 g3 g4 g5
      have ej : j = 4 := by omega
      subst ej
      iterate 2 (refine ze_go1 rfl ?_)
      refine ze_brT rfl (by decide) ?_
      refine ze_rt1 rfl trivial ⟨rfl, zy_tr (zy_wk y2 (by simp) (by simp)) (zy_tr (zy_wk y3.1 (by simp) (by simp)) (zy_wk y4 (by simp) (by simp))), fun q hq hp => ?_, ?_⟩
      · exact zsmr_tr (zsmr_y y2 (by simp) q) (zsmr_tr (s3 q hq (fun z => hp ((List.prefix_append p [h]).trans z))) (g5 q (fun e => hp (by rw [e, hP]; exact List.prefix_refl _))))
      · exact zRM_tk hd ⟨y4, g1, g2, g3, g4, g5⟩ hn hP hl (fun i hi => by rw [hsp.2.2.2.2.2.2 i (by omega), e55]; exact hw i hi) R3
    | succ m ih =>
      intro j τ4 hj y4 g1 g2 g3 g4 g5
      iterate 2 (refine ze_go1 rfl ?_)
      refine ze_brF rfl (nI_ge (b := 4) (by omega) (by omega)) ?_
      refine ze_go1 rfl ?_
      refine ze_go2 rfl rfl ?_
      iterate 6 (refine ze_go1 rfl ?_)
      refine ze_go2 rfl rfl ?_
      iterate 5 (refine ze_go1 rfl ?_)
      rw [zi4', zi4']
      refine ze_go2 rfl ⟨rfl, vp_in_nI (N := 384) (n := 4 * pl + j) (by omega) (by omega)⟩ ?_
      rw [nI_clamp (n := 4 * pl + j) (by omega), (g5 pl (by omega)).2.2.2.2.2.1 j (by omega)]
      refine ze_go2 rfl ⟨rfl, vp_in_nI (N := 384) (n := 4 * n + j) (by omega) (by omega)⟩ ?_
      rw [nI_clamp (n := 4 * n + j) (by omega)]
      iterate 2 (refine ze_go1 rfl ?_)
      have h' := ih (j + 1) (ze_ui τ4 51 (4 * n + j) (τ3.1 51 (4 * pl + j))) (by omega) (zy_tr y4 (zy_ui (by simp) (by decide) _ _ _)) (by rw [zui_o _ _ _ _ (by decide)]; exact g1) (by rw [zui_o _ _ _ _ (by decide)]; exact g2) (by rw [zui_o _ _ _ _ (by decide)]; exact g3) (fun q hq => by
        by_cases e : q = j
        · subst e; rw [zui]
        · rw [zui_n _ _ _ _ (by omega)]; exact g4 q (by omega)) (fun q hq => by
        obtain ⟨u1, u2, u3, u4, u5, u6, u7⟩ := g5 q hq
        refine ⟨?_, ?_, ?_, ?_, ?_, fun b hb => ?_, fun i hi => ?_⟩
        · rw [zui_o _ _ _ _ (by decide)]; exact u1
        · rw [zui_o _ _ _ _ (by decide)]; exact u2
        · rw [zui_o _ _ _ _ (by decide)]; exact u3
        · rw [zui_o _ _ _ _ (by decide)]; exact u4
        · rw [zui_o _ _ _ _ (by decide)]; exact u5
        · rw [zui_n _ _ _ _ (by omega)]; exact u6 b hb
        · rw [zui_o _ _ _ _ (by decide)]; exact u7 i hi)
      rw [← show nI j + 1 = nI (j + 1) from nI_1 _] at h'
      exact h'
  iterate 2 (refine ze_go1 rfl ?_)
  refine loop 4 0 _ rfl (zy_tr (zy_ui (by simp) (by decide) _ _ _) (zy_tr (zy_ui (by simp) (by decide) _ _ _) (zy_ui (by simp) (by decide) _ _ _))) ?_ ?_ ?_ (fun q hq => by omega) (fun q hq => ⟨?_, ?_, ?_, ?_, ?_, fun b hb => ?_, fun i hi => ?_⟩)
  · rw [zui_o _ _ _ _ (by decide), zui_o _ _ _ _ (by decide), zui]
  · rw [zui_o _ _ _ _ (by decide), zui]
  · rw [zui]
  · rw [zui_o _ _ _ _ (by decide), zui_o _ _ _ _ (by decide), zui_n _ _ _ _ hq]
  · rw [zui_o _ _ _ _ (by decide), zui_n _ _ _ _ hq, zui_o _ _ _ _ (by decide)]
  · rw [zui_o _ _ _ _ (by decide), zui_o _ _ _ _ (by decide), zui_o _ _ _ _ (by decide)]
  · rw [zui_o _ _ _ _ (by decide), zui_o _ _ _ _ (by decide), zui_o _ _ _ _ (by decide)]
  · rw [zui_n _ _ _ _ hq, zui_o _ _ _ _ (by decide), zui_o _ _ _ _ (by decide)]
  · rw [zui_o _ _ _ _ (by decide), zui_o _ _ _ _ (by decide), zui_o _ _ _ _ (by decide)]
  · rw [zui_o _ _ _ _ (by decide), zui_o _ _ _ _ (by decide), zui_o _ _ _ _ (by decide)]
