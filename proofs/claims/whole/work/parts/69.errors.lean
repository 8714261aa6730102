theorem r_leafErrors {d : Nat} {σ : ze_S} {D : zD} {pl ch : Nat} {w : Nat → Nat} (hd : zdok D) (hB : zBn σ D) (hp : pl < 193) (hw : zrw σ pl D.2.1 w) (hwb : ∀ i, i < D.2.1 → w i ≤ 720) (h6 : σ.1 64 6 = nI D.2.1) :
    zM (d + 3) m_M_leafErrors [.ref 64, .int (nI pl), .int (nI ch)] σ (fun v τ => v = some (.int (nI (zle D w ch))) ∧ τ = σ) := by
  have hwl := zcw_le hd hwb
  refine zM_in t_M_leafErrors [some (.ref 64), some (.int (nI pl)), some (.int (nI ch)), none] rfl rfl ?_
  iterate 3 (refine ze_go1 rfl ?_)
  refine ze_go2 rfl rfl ?_
  rw [h6]
  refine ze_ca1 rfl ⟨rfl, rfl⟩ (ze_M_le (r_weightOf (d := 0) hd hB hp hw) (by omega)) (fun v τ q => ?_)
  obtain ⟨rfl, rfl⟩ := q
  iterate 2 (refine ze_go1 rfl ?_)
  unfold zle
  by_cases c : zm_s (zcw D w) 3 = 0
  · refine ze_brF rfl (by rw [c]; decide) ?_
    iterate 2 (refine ze_go1 rfl ?_)
    rw [if_pos c]
    exact ze_rt1 rfl trivial ⟨rfl, rfl⟩
  · refine ze_brT rfl (nI_ne0 (by omega) (by omega)) ?_
    iterate 6 (refine ze_go1 rfl ?_)
    refine ze_go2 rfl rfl ?_
    rw [h6]
    refine ze_ca1 rfl ⟨rfl, rfl⟩ (ze_M_le (r_heaviest (d := 0) hd hB hp hw hwb) (by omega)) (fun v τ' q => ?_)
    obtain ⟨rfl, e0⟩ := q
    rw [e0]
    have hfg3 : zm_fg (zcw D w) 3 < 3 := zm_fg_lt _ 2
    have hfgw := zm_s_pos (f := zcw D w) hfg3
    refine ze_go1 rfl ?_
    refine ze_go2 rfl rfl ?_
    rw [h6]
    refine ze_ca1 rfl ⟨rfl, rfl⟩ (ze_M_le (r_classWeight (d := 0) (c := zm_fg (zcw D w) 3) hd hB hp hfg3 hw) (by omega)) (fun v τ' q => ?_)
    obtain ⟨rfl, e0⟩ := q
    rw [e0]
    iterate 3 (refine ze_go1 rfl ?_)
    rw [pk_sub hfgw, nI_add, if_neg c]
    exact ze_rt1 rfl trivial ⟨rfl, rfl⟩
/-- only the rows of one place differ -/
def zCo (σ : ze_S) (fr to : Nat) (τ : ze_S) : Prop := zy [55] [] σ τ ∧ (∀ i, i < 24 → τ.1 55 (24 * to + i) = σ.1 55 (24 * fr + i)) ∧ ∀ q, q ≠ to → ∀ i, i < 24 → τ.1 55 (24 * q + i) = σ.1 55 (24 * q + i)
set_option maxRecDepth 20000 in
theorem r_copyWeights {d : Nat} {σ : ze_S} {fr to : Nat} (hf : fr < 193) (ht : to < 193) (hn : fr ≠ to) :
    zM (d + 1) m_M_copyWeights [.ref 64, .int (nI fr), .int (nI to)] σ (fun v τ => v = none ∧ zCo σ fr to τ) := by
  refine zM_in t_M_copyWeights [some (.ref 64), some (.int (nI fr)), some (.int (nI to)), none] rfl rfl ?_
  have loop : ∀ n j τ, j + n = 24 → zy [55] [] σ τ → (∀ i, i < j → τ.1 55 (24 * to + i) = σ.1 55 (24 * fr + i)) → (∀ q, q ≠ to → ∀ i, i < 24 → τ.1 55 (24 * q + i) = σ.1 55 (24 * q + i)) → zE d t_M_copyWeights (fun v τ => v = none ∧ zCo σ fr to τ) (2, [some (.ref 64), some (.int (nI fr)), some (.int (nI to)), some (.int (nI j))], [], τ) := by
    intro n
    induction n with
    | zero =>
      intro j τ hj hy h1 h2
      have ej : j = 24 := by omega
      subst ej
      iterate 2 (refine ze_go1 rfl ?_)
      refine ze_brT rfl (by decide) ?_
      exact ze_rt1 rfl trivial ⟨rfl, hy, h1, h2⟩
    | succ n ih =>
      intro j τ hj hy h1 h2
      iterate 2 (refine ze_go1 rfl ?_)
      refine ze_brF rfl (nI_ge (b := 24) (by omega) (by omega)) ?_
      refine ze_go1 rfl ?_
      refine ze_go2 rfl rfl ?_
      iterate 6 (refine ze_go1 rfl ?_)
      refine ze_go2 rfl rfl ?_
      iterate 5 (refine ze_go1 rfl ?_)
      rw [zi24, zi24]
      refine ze_go2 rfl ⟨rfl, vp_in_nI (N := 4632) (n := 24 * fr + j) (by omega) (by omega)⟩ ?_
      rw [nI_clamp (n := 24 * fr + j) (by omega), h2 fr hn j (by omega)]
      refine ze_go2 rfl ⟨rfl, vp_in_nI (N := 4632) (n := 24 * to + j) (by omega) (by omega)⟩ ?_
      rw [nI_clamp (n := 24 * to + j) (by omega)]
      iterate 2 (refine ze_go1 rfl ?_)
      have h := ih (j + 1) (ze_ui τ 55 (24 * to + j) (σ.1 55 (24 * fr + j))) (by omega) (zy_tr hy (zy_ui (by simp) (by decide) _ _ _)) (fun i hi => by
        by_cases e : i = j
        · subst e; rw [zui]
        · rw [zui_n _ _ _ _ (by omega)]; exact h1 i (by omega)) (fun q hq i hi => by rw [zui_n _ _ _ _ (by omega)]; exact h2 q hq i hi)
      rw [← show nI j + 1 = nI (j + 1) from nI_1 _] at h
      exact h
  iterate 2 (refine ze_go1 rfl ?_)
  exact loop 24 0 σ rfl (zy_rf _ _ _) (fun i hi => by omega) (fun _ _ _ _ => rfl)
/-- the rows of weights of a tree, s places on -/
def zWR (D : zD) (σ : ze_S) (s : Nat) : Nat → (Nat → Nat) → Nat → zTr → Prop
  | 0, w, pl, _ => zrw σ (pl + s) D.2.1 w
  | f + 1, w, pl, T => zrw σ (pl + s) D.2.1 w ∧ ∀ a t, T.1 [] = some (a, t) → ∀ b, b < zm_nb (D.2.2.1 a) → zWR D σ s f (zsd D a t w b) (zkd σ pl b) (zsub T b)
theorem zWR_hd {D : zD} {σ : ze_S} {s f : Nat} {w : Nat → Nat} {pl : Nat} {T : zTr} (h : zWR D σ s f w pl T) : zrw σ (pl + s) D.2.1 w := by
  cases f with
  | zero => exact h
  | succ f => exact h.1
theorem zRM_WR {D : zD} {σ : ze_S} {mk : Nat} {P : Nat → List Nat} : ∀ {f : Nat} {w : Nat → Nat} {pl : Nat} {p : List Nat} {T : zTr}, zRM D σ mk P f w pl p T → zWR D σ 0 f w pl T
  | 0, w, pl, p, T, h => h.1.2.2.2.2
  | f + 1, w, pl, p, T, h => by
    refine ⟨h.1.2.2.2.2, fun a t e b hb => ?_⟩
    rcases h.2 with ⟨e2, -⟩ | ⟨a', t', e2, -, -, -, -, c6⟩
    · rw [e2] at e; cases e
    · rw [e2] at e
      cases e
      exact zRM_WR (c6 b hb).2.2
theorem zcat_get {g : Nat → List Nat} {j i x : Nat} : ∀ {n : Nat}, j < n → (g j)[i]? = some x → (zcat g n)[(zcat g j).length + i]? = some x
  | 0, h, _ => by omega
  | n + 1, h, hx => by
    show (zcat g n ++ g n)[(zcat g j).length + i]? = some x
    by_cases e : j = n
    · subst e
      rw [List.getElem?_append_right (by omega), Nat.add_sub_cancel_left]
      exact hx
    · have ih := zcat_get (n := n) (by omega) hx
      have hl : (zcat g j).length + i < (zcat g n).length := by
        rcases Nat.lt_or_ge ((zcat g j).length + i) (zcat g n).length with h | h
        · exact h
        · rw [List.getElem?_eq_none h] at ih; cases ih
      rw [List.getElem?_append_left hl]
      exact ih
/-- a segment of a list -/
def zsg (L : List Nat) (k : Nat) (l : List Nat) : Prop := ∀ j x, l[j]? = some x → L[k + j]? = some x
theorem zsg_cons {L : List Nat} {k x : Nat} {l : List Nat} (h : zsg L k (x :: l)) : L[k]? = some x ∧ zsg L (k + 1) l := by
  refine ⟨h 0 x rfl, fun j y hy => ?_⟩
  have := h (j + 1) y (by simpa using hy)
  rwa [show k + (j + 1) = k + 1 + j by omega] at this
theorem zsg_cat {L : List Nat} {k : Nat} {g : Nat → List Nat} {n : Nat} (h : zsg L k (zcat g n)) {b : Nat} (hb : b < n) : zsg L (k + (zcat g b).length) (g b) := fun j x hx => by
  have := h _ x (zcat_get hb hx)
  rwa [show k + ((zcat g b).length + j) = k + (zcat g b).length + j by omega] at this
theorem zlt_get {L : List Nat} {k x : Nat} (h : L[k]? = some x) : k < L.length := by
  rcases Nat.lt_or_ge k L.length with h1 | h1
  · exact h1
  · rw [List.getElem?_eq_none h1] at h; cases h
set_option maxRecDepth 20000 in
set_option maxHeartbeats 1000000 in
theorem r_er {e : Nat} {D : zD} {σ : ze_S} {mk : Nat} {P : Nat → List Nat} {L : List Nat} {s ch : Nat} {x1 : Int32} {Q : ze_P} (he : 3 ≤ e) (hd : zdok D) (hB : zBn σ D) (hmk : mk ≤ 85) (hs : s ≤ 96) (hL : zLs σ L) (hL85 : L.length ≤ 85) (h6 : σ.1 64 6 = nI D.2.1) :
    ∀ (f : Nat) (w w' : Nat → Nat) (pl : Nat) (p : List Nat) (T : zTr) (k sm : Nat), zRM D σ mk P f w' pl p T → zWR D σ s f w pl T → (∀ i, i < D.2.1 → w i ≤ 720) → zsg L k (zprm D σ f pl T) →
      zE e t_M_errors Q (11, [some (.ref 64), some (.int x1), some (.int (nI s)), some (.int (nI ch)), some (.int (nI (sm + zer D ch f w T))), some (.int (nI (k + (zprm D σ f pl T).length)))], [], σ) →
      zE e t_M_errors Q (11, [some (.ref 64), some (.int x1), some (.int (nI s)), some (.int (nI ch)), some (.int (nI sm)), some (.int (nI k))], [], σ) := by
  have node : ∀ (f : Nat) (w w' : Nat → Nat) (pl : Nat) (p : List Nat) (T : zTr) (k sm : Nat), zRM D σ mk P f w' pl p T → L[k]? = some pl → zE e t_M_errors Q (32, [some (.ref 64), some (.int x1), some (.int (nI s)), some (.int (nI ch)), some (.int (nI sm)), some (.int (nI k))], [.int (σ.1 49 pl)], σ) →
      zE e t_M_errors Q (11, [some (.ref 64), some (.int x1), some (.int (nI s)), some (.int (nI ch)), some (.int (nI sm)), some (.int (nI k))], [], σ) := by
    intro f w w' pl p T k sm hR hk K
    have hkl := zlt_get hk
    have hpl := (zRM_hd hR).1
    iterate 2 (refine ze_go1 rfl ?_)
    refine ze_go2 rfl rfl ?_
    rw [hL.1]
    refine ze_brF rfl (nI_ge (by omega) (by omega)) ?_
    refine ze_go1 rfl ?_
    refine ze_go2 rfl rfl ?_
    refine ze_go1 rfl ?_
    refine ze_go2 rfl rfl ?_
    refine ze_go1 rfl ?_
    refine ze_go2 rfl ⟨rfl, vp_in_nI (N := 96) (n := k) (by omega) (by omega)⟩ ?_
    rw [nI_clamp (n := k) (by omega), hL.2 k pl hk]
    refine ze_go2 rfl ⟨rfl, vp_in_nI (N := 96) (n := pl) (by omega) (by omega)⟩ ?_
    rw [nI_clamp (n := pl) (by omega)]
    exact K
  have leaf : ∀ (f : Nat) (w w' : Nat → Nat) (pl : Nat) (p : List Nat) (T : zTr) (k sm : Nat), zRM D σ mk P f w' pl p T → zWR D σ s f w pl T → (∀ i, i < D.2.1 → w i ≤ 720) → L[k]? = some pl → σ.1 49 pl = -1 →
      zE e t_M_errors Q (11, [some (.ref 64), some (.int x1), some (.int (nI s)), some (.int (nI ch)), some (.int (nI (sm + zle D w ch))), some (.int (nI (k + 1)))], [], σ) →
      zE e t_M_errors Q (11, [some (.ref 64), some (.int x1), some (.int (nI s)), some (.int (nI ch)), some (.int (nI sm)), some (.int (nI k))], [], σ) := by
    intro f w w' pl p T k sm hR hW hwb hk h49 K
    have hkl := zlt_get hk
    have hpl := (zRM_hd hR).1
    refine node f w w' pl p T k sm hR hk ?_
    rw [h49]
    refine ze_brF rfl (by decide) ?_
    iterate 3 (refine ze_go1 rfl ?_)
    refine ze_go2 rfl rfl ?_
    refine ze_go1 rfl ?_
    refine ze_go2 rfl ⟨rfl, vp_in_nI (N := 96) (n := k) (by omega) (by omega)⟩ ?_
    rw [nI_clamp (n := k) (by omega), hL.2 k pl hk]
    iterate 3 (refine ze_go1 rfl ?_)
    rw [nI_add]
    refine ze_ca1 rfl ⟨rfl, rfl⟩ (ze_M_le (r_leafErrors (d := 0) (pl := pl + s) hd hB (by omega) (zWR_hd hW) hwb h6) (by omega)) (fun v τ q => ?_)
    obtain ⟨rfl, e0⟩ := q
    rw [e0]
    iterate 5 (refine ze_go1 rfl ?_)
    rw [nI_add]
    rw [← show nI k + 1 = nI (k + 1) from nI_1 _] at K
    exact K
  intro f
  induction f with
  | zero =>
    intro w w' pl p T k sm hR hW hwb hg K
    exact leaf 0 w w' pl p T k sm hR hW hwb (hg 0 pl rfl) hR.2.2 K
  | succ f ih =>
    intro w w' pl p T k sm hR hW hwb hg K
    have hg0 := (zsg_cons (l := (match T.1 [] with | none => [] | some q => zcat (fun b => zprm D σ f (zkd σ pl b) (zsub T b)) (zm_nb (D.2.2.1 q.1)))) hg)
    have ezp : zprm D σ (f + 1) pl T = pl :: (match T.1 [] with | none => [] | some q => zcat (fun b => zprm D σ f (zkd σ pl b) (zsub T b)) (zm_nb (D.2.2.1 q.1))) := rfl
    have eze : zer D ch (f + 1) w T = match T.1 [] with | none => zle D w ch | some q => zm_s (fun b => zer D ch f (zsd D q.1 q.2 w b) (zsub T b)) (zm_nb (D.2.2.1 q.1)) := rfl
    rcases hR.2 with ⟨e1, e2⟩ | ⟨a, t, c1, c2, c3, c4, c5, c6⟩
    · rw [ezp, eze, e1] at K
      exact leaf (f + 1) w w' pl p T k sm hR hW hwb hg0.1 e2 K
    · rw [ezp, eze, c1] at K
      rw [c1] at hg0
      have hn := znb4 hd c2
      have h4 := hd.1
      have kids : ∀ n j, j + n = zm_nb (D.2.2.1 a) → zE e t_M_errors Q (11, [some (.ref 64), some (.int x1), some (.int (nI s)), some (.int (nI ch)), some (.int (nI (sm + zm_s (fun b => zer D ch f (zsd D a t w b) (zsub T b)) j))), some (.int (nI (k + 1 + (zcat (fun b => zprm D σ f (zkd σ pl b) (zsub T b)) j).length)))], [], σ) := by
        intro n
        induction n with
        | zero =>
          intro j hj
          rw [show j = zm_nb (D.2.2.1 a) by omega]
          rw [show k + 1 + (zcat (fun b => zprm D σ f (zkd σ pl b) (zsub T b)) (zm_nb (D.2.2.1 a))).length = k + (pl :: zcat (fun b => zprm D σ f (zkd σ pl b) (zsub T b)) (zm_nb (D.2.2.1 a))).length by rw [List.length_cons]; omega]
          exact K
        | succ n ihn =>
          intro j hj
          have h := ihn (j + 1) (by omega)
          refine ih (zsd D a t w j) _ (zkd σ pl j) (p ++ [j]) (zsub T j) _ _ (c6 j (by omega)).2.2 (hW.2 a t c1 j (by omega)) (fun i hi => Nat.le_trans zsd_le (hwb i hi)) (zsg_cat hg0.2 (b := j) (by show j < zm_nb (D.2.2.1 a); omega)) ?_
          rw [show zm_s (fun b => zer D ch f (zsd D a t w b) (zsub T b)) (j + 1) = zm_s (fun b => zer D ch f (zsd D a t w b) (zsub T b)) j + zer D ch f (zsd D a t w j) (zsub T j) from rfl, show zcat (fun b => zprm D σ f (zkd σ pl b) (zsub T b)) (j + 1) = zcat (fun b => zprm D σ f (zkd σ pl b) (zsub T b)) j ++ zprm D σ f (zkd σ pl j) (zsub T j) from rfl, List.length_append, ← Nat.add_assoc, ← Nat.add_assoc] at h
          exact h
      refine node (f + 1) w w' pl p T k sm hR hg0.1 ?_
      rw [c4]
      refine ze_brT rfl (nI_pos' (by omega)) ?_
      iterate 4 (refine ze_go1 rfl ?_)
      have h := kids (zm_nb (D.2.2.1 a)) 0 (by omega)
      rw [show sm + zm_s (fun b => zer D ch f (zsd D a t w b) (zsub T b)) 0 = sm from rfl, show k + 1 + (zcat (fun b => zprm D σ f (zkd σ pl b) (zsub T b)) 0).length = k + 1 from rfl, ← show nI k + 1 = nI (k + 1) from nI_1 _] at h
      exact h
theorem zWR_eq {D : zD} {σ τ : ze_S} {s mk : Nat} {P : Nat → List Nat} (h51 : τ.1 51 = σ.1 51) (hd : zdok D) : ∀ {f : Nat} {w w' : Nat → Nat} {pl : Nat} {p : List Nat} {T : zTr}, zRM D σ mk P f w' pl p T → zWR D σ s f w pl T → (∀ q, q < mk → p <+: P q → ∀ i, i < 24 → τ.1 55 (24 * (q + s) + i) = σ.1 55 (24 * (q + s) + i)) → zWR D τ s f w pl T
  | 0, w, w', pl, p, T, hR, h, hs => fun i hi => by
    have h24 := hd.2.1
    rw [hs pl hR.1.1 (by rw [hR.1.2.1]; exact List.prefix_refl _) i (by omega)]; exact h i hi
  | f + 1, w, w', pl, p, T, hR, h, hs => by
    have h24 := hd.2.1
    refine ⟨fun i hi => by rw [hs pl hR.1.1 (by rw [hR.1.2.1]; exact List.prefix_refl _) i (by omega)]; exact h.1 i hi, fun a t e b hb => ?_⟩
    rcases hR.2 with ⟨e2, -⟩ | ⟨a', t', e2, -, -, -, -, c6⟩
    · rw [e2] at e; cases e
    · rw [e2] at e
      cases e
      rw [show zkd τ pl b = zkd σ pl b by unfold zkd; rw [h51]]
      exact zWR_eq h51 hd (c6 b hb).2.2 (h.2 a t e2 b hb) (fun q hq hp => hs q hq ((List.prefix_append p [b]).trans hp))
theorem r_errors {d : Nat} {D : zD} {σ : ze_S} {mk : Nat} {P : Nat → List Nat} {f : Nat} {w w' : Nat → Nat} {pl : Nat} {p : List Nat} {T : zTr} {s ch : Nat} (hd : zdok D) (hB : zBn σ D) (hmk : mk ≤ 85) (hf : f ≤ 3) (hs : s ≤ 96) (hR : zRM D σ mk P f w' pl p T) (hW : zWR D σ s f w pl T) (hwb : ∀ i, i < D.2.1 → w i ≤ 720) (h6 : σ.1 64 6 = nI D.2.1) :
    zM (d + 4) m_M_errors [.ref 64, .int (nI pl), .int (nI s), .int (nI ch)] σ (fun v τ => v = some (.int (nI (zer D ch f w T))) ∧ zy [58, 59] [23] σ τ) := by
  have hlen := zprm_len hd hR
  have hN : zN f ≤ 85 := by
    have : ∀ f, f ≤ 3 → zN f ≤ 85 := by decide
    exact this f hf
  refine zM_in t_M_errors [some (.ref 64), some (.int (nI pl)), some (.int (nI s)), some (.int (nI ch)), none, none] rfl rfl ?_
  iterate 4 (refine ze_go1 rfl ?_)
  refine ze_ca1 rfl ⟨rfl, rfl⟩ (ze_M_le (r_list (d := 0) hd hB hmk hf hR) (by omega)) (fun v τ q => ?_)
  obtain ⟨rfl, y1, l1⟩ := q
  have e51 : τ.1 51 = σ.1 51 := (y1.1 51 (by simp) (by decide)).1
  have e55 : τ.1 55 = σ.1 55 := (y1.1 55 (by simp) (by decide)).1
  have hR1 : zRM D τ mk P f w' pl p T := zRM_eq hd hR (fun q _ _ => ⟨zsmr_y y1 (by simp) q, rfl⟩)
  have hW1 : zWR D τ s f w pl T := zWR_eq e51 hd hR hW (fun q _ _ i _ => by rw [e55])
  rw [← zprm_eq e51] at l1 hlen
  iterate 2 (refine ze_go1 rfl ?_)
  have h := r_er (e := d + 3) (x1 := nI pl) (ch := ch) (Q := fun v τ => v = some (.int (nI (zer D ch f w T))) ∧ zy [58, 59] [23] σ τ) (by omega) hd (zBn_y hB y1 (by simp) (by simp)) hmk hs l1 (by omega) (by rw [y1.2 6 (by simp)]; exact h6) f w w' pl p T 0 0 hR1 hW1 hwb (fun j x hx => by rw [Nat.zero_add]; exact hx) ?_
  · exact h
  · rw [Nat.zero_add, Nat.zero_add]
    iterate 2 (refine ze_go1 rfl ?_)
    refine ze_go2 rfl rfl ?_
    rw [l1.1]
    refine ze_brT rfl (Int32.le_refl _) ?_
    refine ze_go1 rfl ?_
    exact ze_rt1 rfl trivial ⟨rfl, y1⟩
