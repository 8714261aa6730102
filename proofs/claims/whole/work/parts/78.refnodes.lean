theorem zRM_at {D : zD} {σ : ze_S} {mk : Nat} {P : Nat → List Nat} : ∀ {f : Nat} {w : Nat → Nat} {pl : Nat} {p : List Nat} {T : zTr}, zRM D σ mk P f w pl p T → ∀ x, x ∈ zprm D σ f pl T → ∃ s f', P x = p ++ s ∧ zRM D σ mk P f' (zwp D s T w) x (p ++ s) (zsp T s) ∧ ∀ a t, T.1 s = some (a, t) → ∀ b, b < zm_nb (D.2.2.1 a) → zkd σ x b ∈ zprm D σ f pl T ∧ P (zkd σ x b) = p ++ s ++ [b]
  | 0, w, pl, p, T, h, x, hx => by
    have e : x = pl := by
      have : x ∈ [pl] := hx
      simpa using this
    subst e
    refine ⟨[], 0, by rw [List.append_nil]; exact h.1.2.1, by rw [List.append_nil]; exact h, fun a t e => ?_⟩
    rw [h.2.1] at e
    cases e
  | f + 1, w, pl, p, T, h, x, hx => by
    have e0 : zprm D σ (f + 1) pl T = pl :: (match T.1 [] with | none => [] | some q => zcat (fun b => zprm D σ f (zkd σ pl b) (zsub T b)) (zm_nb (D.2.2.1 q.1))) := rfl
    rcases h.2 with ⟨e, -⟩ | ⟨a, t, e, c2, c3, c4, c5, c6⟩
    · rw [e0, e] at hx
      have e : x = pl := by
        have : x ∈ [pl] := hx
        simpa using this
      subst e
      refine ⟨[], f + 1, by rw [List.append_nil]; exact h.1.2.1, by rw [List.append_nil]; exact h, fun a t e2 => ?_⟩
      rw [e] at e2
      cases e2
    · rw [e0, e] at hx ⊢
      have hx : x ∈ pl :: zcat (fun b => zprm D σ f (zkd σ pl b) (zsub T b)) (zm_nb (D.2.2.1 a)) := hx
      show ∃ s f', P x = p ++ s ∧ zRM D σ mk P f' (zwp D s T w) x (p ++ s) (zsp T s) ∧ ∀ a' t', T.1 s = some (a', t') → ∀ b, b < zm_nb (D.2.2.1 a') → zkd σ x b ∈ pl :: zcat (fun b => zprm D σ f (zkd σ pl b) (zsub T b)) (zm_nb (D.2.2.1 a)) ∧ P (zkd σ x b) = p ++ s ++ [b]
      rcases List.mem_cons.1 hx with hx | hx
      · subst hx
        refine ⟨[], f + 1, by rw [List.append_nil]; exact h.1.2.1, by rw [List.append_nil]; exact h, fun a' t' e2 b hb => ?_⟩
        rw [e] at e2
        cases e2
        obtain ⟨l, el⟩ := zprm_hd D σ f (zkd σ x b) (zsub T b)
        refine ⟨List.mem_cons_of_mem _ (zcat_mem (b := b) hb (by show _ ∈ zprm D σ f (zkd σ x b) (zsub T b); rw [el]; exact List.mem_cons_self)), ?_⟩
        rw [List.append_nil]
        exact (zRM_hd (c6 b hb).2.2).2.1
      · obtain ⟨b, hb, hx⟩ := zcat_in hx
        obtain ⟨s, f', i1, i2, i3⟩ := zRM_at (c6 b hb).2.2 x hx
        have ea : p ++ [b] ++ s = p ++ b :: s := by simp
        rw [ea] at i1 i2 i3
        refine ⟨b :: s, f', i1, ?_, fun a' t' e2 b' hb' => ?_⟩
        · have : zwp D (b :: s) T w = zwp D s (zsub T b) (zsd D a t w b) := by
            show (match T.1 [] with | none => w | some q => zwp D s (zsub T b) (zsd D q.1 q.2 w b)) = _
            rw [e]
          rw [this]
          exact i2
        · exact ⟨List.mem_cons_of_mem _ (zcat_mem hb (i3 a' t' e2 b' hb').1), (i3 a' t' e2 b' hb').2⟩
theorem zag_wp {n : Nat} {D E : zD} (h : zag n D E) : ∀ (s : List Nat) (T : zTr) (w : Nat → Nat), zz n w → zwp E s T w = zwp D s T w ∧ zz n (zwp D s T w)
  | [], T, w, hw => ⟨rfl, hw⟩
  | b :: s, T, w, hw => by
    show (match T.1 [] with | none => w | some q => zwp E s (zsub T b) (zsd E q.1 q.2 w b)) = (match T.1 [] with | none => w | some q => zwp D s (zsub T b) (zsd D q.1 q.2 w b)) ∧ zz n (match T.1 [] with | none => w | some q => zwp D s (zsub T b) (zsd D q.1 q.2 w b))
    cases T.1 [] with
    | none => exact ⟨rfl, hw⟩
    | some q =>
      show zwp E s (zsub T b) (zsd E q.1 q.2 w b) = zwp D s (zsub T b) (zsd D q.1 q.2 w b) ∧ zz n (zwp D s (zsub T b) (zsd D q.1 q.2 w b))
      rw [zag_sd h hw]
      exact zag_wp h s _ _ (zz_sd hw _ _ _)
theorem zwp_le {D : zD} : ∀ (s : List Nat) (T : zTr) (w : Nat → Nat) (i : Nat), zwp D s T w i ≤ w i
  | [], T, w, i => Nat.le_refl _
  | b :: s, T, w, i => by
    show (match T.1 [] with | none => w | some q => zwp D s (zsub T b) (zsd D q.1 q.2 w b)) i ≤ w i
    cases T.1 [] with
    | none => exact Nat.le_refl _
    | some q => exact Nat.le_trans (zwp_le s _ _ i) zsd_le
/-- the node that a number names -/
def zNo (S : zSt) (x : Int32) (τ : ze_S) (v : Option Value) : Prop :=
  (v = some (.int (-1)) ∧ ∀ k : Nat → zTr → List Nat → Int32, zat S x k = -1) ∨
  ∃ (n : Nat) (T : zTr) (y : Nat) (p : List Nat) (mk : Nat) (P : Nat → List Nat) (f : Nat) (L : List Nat), v = some (.int (nI y)) ∧ n ≤ S.1.2.1 ∧ mk ≤ 85 ∧ y < 85 ∧ zRM (ztr S.1 n) τ mk P f (zwp S.1 p T (zw0 n)) y p (zsp T p) ∧ zLs τ L ∧ L.length ≤ 85 ∧ L.map P = zpp S.1 3 [] T ∧ (∀ z, z ∈ L → z < 85) ∧ (∀ k : Nat → zTr → List Nat → Int32, zat S x k = k n T p) ∧ τ.1 64 6 = nI n ∧ zz n (zwp S.1 p T (zw0 n)) ∧
    ∀ a t, T.1 p = some (a, t) → ∀ b, b < zm_nb (S.1.2.2.1 a) → zkd τ y b ∈ L ∧ P (zkd τ y b) = p ++ [b]
theorem zprm_lt {D : zD} {σ : ze_S} {mk : Nat} {P : Nat → List Nat} {x : Nat} : ∀ {f : Nat} {w : Nat → Nat} {pl : Nat} {p : List Nat} {T : zTr}, zRM D σ mk P f w pl p T → x ∈ zprm D σ f pl T → x < mk := by
  intro f w pl p T h hx
  obtain ⟨s, f', -, h2, -⟩ := zRM_at h x hx
  exact (zRM_hd h2).1
theorem r_at {d : Nat} {σ : ze_S} {S : zSt} {x : Int32} (h : zMR σ S) : zM (d + 4) m_M_at [.ref 64, .int x] σ (fun v τ => zy [58, 59] [23] σ τ ∧ zNo S x τ v) := by
  have hM := h
  obtain ⟨hd, hB, g3, g4, g5⟩ := h
  have h24 := hd.2.1
  refine zM_in t_M_at [some (.ref 64), some (.int x)] rfl rfl ?_
  have bad : ∀ τ, zy [58, 59] [23] σ τ → (∀ k : Nat → zTr → List Nat → Int32, zat S x k = -1) → zE (d + 3) t_M_at (fun v τ => zy [58, 59] [23] σ τ ∧ zNo S x τ v) (12, [some (.ref 64), some (.int x)], [], τ) := by
    intro τ hy hk
    iterate 2 (refine ze_go1 rfl ?_)
    exact ze_rt1 rfl trivial ⟨hy, Or.inl ⟨rfl, hk⟩⟩
  refine ze_go1 rfl ?_
  refine ze_br1 rfl (fun c => ?_) (fun c => ?_)
  · refine bad σ (zy_rf _ _ _) (fun k => ?_)
    unfold zat
    cases S.2.1 with
    | none => rfl
    | some q => exact if_pos c
  · iterate 2 (refine ze_go1 rfl ?_)
    refine ze_ca1 rfl ⟨rfl, rfl⟩ (ze_M_le (r_nodes (d := 0) hM) (by omega)) (fun v τ q => ?_)
    obtain ⟨rfl, y1, l1⟩ := q
    have hc : zn_nodes S ≤ x → ∀ k : Nat → zTr → List Nat → Int32, zat S x k = -1 := by
      intro hz k
      unfold zat
      unfold zn_nodes at hz
      cases es : S.2.1 with
      | none => rfl
      | some q =>
        rw [es] at hz
        show (if x < 0 then -1 else match (zpp S.1 3 [] q.2)[x.toNatClampNeg]? with | none => -1 | some p => k q.1 q.2 p) = -1
        rw [if_neg c]
        obtain ⟨j, hj, rfl⟩ := nI_of c
        rw [zcl hj]
        rw [es] at g5
        obtain ⟨g5, g6, g7, g8, mk, P, g9, g10, g11, hR⟩ := g5
        have hlen := zprm_len (ztr_ok hd g7) hR
        have hm := congrArg List.length (zprm_map hR)
        rw [List.length_map, zpp_k (D := S.1) (E := ztr S.1 q.1) rfl] at hm
        have hN : zN 3 ≤ 85 := by decide
        have : (zpp S.1 3 [] q.2).length ≤ j := Nat.le_of_not_lt (fun z => nI_ge z (by omega) hz)
        rw [List.getElem?_eq_none this]
    by_cases c2 : x < zn_nodes S
    · refine ze_brT rfl c2 ?_
      obtain ⟨j, hj, rfl⟩ := nI_of c
      have e6 := y1.2 6 (by simp)
      unfold zn_nodes at c2
      cases es : S.2.1 with
      | none =>
        rw [es] at c2
        exact absurd c2 c
      | some q =>
        rw [es] at c2 g5
        obtain ⟨g5, g6, g7, g8, mk, P, g9, g10, g11, hR⟩ := g5
        have hl := l1 q es
        have e51 : τ.1 51 = σ.1 51 := (y1.1 51 (by simp) (by decide)).1
        have R1 : zRM (ztr S.1 q.1) τ mk P 3 (zw0 q.1) 0 [] q.2 := zRM_eq (ztr_ok hd g7) hR (fun q _ _ => ⟨zsmr_y y1 (by simp) q, rfl⟩)
        rw [← zprm_eq e51] at hl
        have hlen := zprm_len (ztr_ok hd g7) R1
        have hN : zN 3 ≤ 85 := by decide
        have hmap := zprm_map R1
        rw [zpp_k (D := S.1) (E := ztr S.1 q.1) rfl] at hmap
        have hm := congrArg List.length hmap
        rw [List.length_map] at hm
        have hjl : j < (zpp S.1 3 [] q.2).length := Nat.lt_of_not_le (fun z => Int32.not_le.2 c2 (nI_le z hj))
        have hj2 : j < (zprm (ztr S.1 q.1) τ 3 0 q.2).length := by omega
        have hget : (zprm (ztr S.1 q.1) τ 3 0 q.2)[j]? = some (zprm (ztr S.1 q.1) τ 3 0 q.2)[j] := List.getElem?_eq_getElem hj2
        have hmem : (zprm (ztr S.1 q.1) τ 3 0 q.2)[j] ∈ zprm (ztr S.1 q.1) τ 3 0 q.2 := List.getElem_mem hj2
        generalize (zprm (ztr S.1 q.1) τ 3 0 q.2)[j] = y at hget hmem
        have hall : ∀ z, z ∈ zprm (ztr S.1 q.1) τ 3 0 q.2 → z < 85 := fun z hz => by have := zprm_lt R1 hz; omega
        obtain ⟨s, f', k1, k2, k3⟩ := zRM_at R1 y hmem
        rw [List.nil_append] at k1 k2 k3
        obtain ⟨w1, w2⟩ := zag_wp (zag_tr g7) s q.2 (zw0 q.1) (zz_w0 _)
        rw [w1] at k2
        have hzp : (zpp S.1 3 [] q.2)[j]? = some s := by
          rw [← hmap, List.getElem?_map, hget, ← k1]
          rfl
        refine ze_go1 rfl ?_
        refine ze_go2 rfl rfl ?_
        refine ze_go1 rfl ?_
        refine ze_go2 rfl ⟨rfl, vp_in_nI (N := 96) (n := j) (by omega) (by omega)⟩ ?_
        rw [nI_clamp (n := j) (by omega), hl.2 j y hget]
        refine ze_rt1 rfl trivial ⟨y1, Or.inr ⟨q.1, q.2, y, s, mk, P, f', zprm (ztr S.1 q.1) τ 3 0 q.2, rfl, g7, g11, hall y hmem, k2, hl, by omega, hmap, hall, fun k => ?_, by rw [e6]; exact g8, w2, k3⟩⟩
        unfold zat
        rw [es]
        show (if nI j < 0 then -1 else match (zpp S.1 3 [] q.2)[(nI j).toNatClampNeg]? with | none => -1 | some p => k q.1 q.2 p) = _
        rw [if_neg c, zcl hj, hzp]
    · refine ze_brF rfl c2 ?_
      exact bad τ y1 (hc (Int32.not_lt.1 c2))
/-- a node's test in the reference -/
theorem zRM_t {D : zD} {σ : ze_S} {mk : Nat} {P : Nat → List Nat} {f : Nat} {w : Nat → Nat} {y : Nat} {p : List Nat} {T : zTr} (h : zRM D σ mk P f w y p (zsp T p)) : (T.1 p = none ∧ σ.1 49 y = -1) ∨ ∃ a t, T.1 p = some (a, t) ∧ a < D.1 ∧ zth D a t ∧ σ.1 49 y = nI a ∧ σ.1 50 y = t ∧ ∀ b, b < zm_nb (D.2.2.1 a) → σ.1 51 (4 * y + b) = nI (zkd σ y b) := by
  cases f with
  | zero => exact Or.inl ⟨by rw [← zsp_1]; exact h.2.1, h.2.2⟩
  | succ f =>
    rcases h.2 with ⟨e1, e2⟩ | ⟨a, t, c1, c2, c3, c4, c5, c6⟩
    · exact Or.inl ⟨by rw [← zsp_1]; exact e1, e2⟩
    · exact Or.inr ⟨a, t, by rw [← zsp_1]; exact c1, c2, c3, c4, c5, fun b hb => (c6 b hb).1⟩
theorem r_tested {d : Nat} {σ : ze_S} {S : zSt} {x : Int32} (h : zMR σ S) : zM (d + 5) m_M_tested [.ref 64, .int x] σ (zOm σ (zn_tested S x) S) := by
  refine zM_in t_M_tested [some (.ref 64), some (.int x), none] rfl rfl ?_
  iterate 2 (refine ze_go1 rfl ?_)
  refine ze_ca1 rfl ⟨rfl, rfl⟩ (ze_M_le (r_at (d := 0) (x := x) h) (by omega)) (fun v τ q => ?_)
  obtain ⟨y1, q⟩ := q
  have hM := zMR_y h y1 (by simp) (by simp)
  unfold zn_tested
  rcases q with ⟨rfl, hk⟩ | ⟨n, T, y, p, mk, P, f, L, rfl, -, -, hy, hR, -, -, -, -, hk, -⟩
  · iterate 2 (refine ze_go1 rfl ?_)
    refine ze_brF rfl (by decide) ?_
    iterate 2 (refine ze_go1 rfl ?_)
    rw [hk]
    exact ze_rt1 rfl trivial ⟨rfl, hM, zy46 y1 (by simp)⟩
  · iterate 2 (refine ze_go1 rfl ?_)
    refine ze_brT rfl (nI_pos' (by omega)) ?_
    refine ze_go1 rfl ?_
    refine ze_go2 rfl rfl ?_
    refine ze_go1 rfl ?_
    refine ze_go2 rfl ⟨rfl, vp_in_nI (N := 96) (n := y) (by omega) (by omega)⟩ ?_
    rw [nI_clamp (n := y) (by omega), hk]
    refine ze_rt1 rfl trivial ⟨?_, hM, zy46 y1 (by simp)⟩
    rcases zRM_t hR with ⟨e1, e2⟩ | ⟨a, t, e1, -, -, e2, -⟩
    · rw [e1, e2]
    · rw [e1, e2]
theorem r_threshold {d : Nat} {σ : ze_S} {S : zSt} {x : Int32} (h : zMR σ S) : zM (d + 5) m_M_threshold [.ref 64, .int x] σ (zOm σ (zn_threshold S x) S) := by
  have h4 := h.1.1
  refine zM_in t_M_threshold [some (.ref 64), some (.int x), none] rfl rfl ?_
  iterate 2 (refine ze_go1 rfl ?_)
  refine ze_ca1 rfl ⟨rfl, rfl⟩ (ze_M_le (r_at (d := 0) (x := x) h) (by omega)) (fun v τ q => ?_)
  obtain ⟨y1, q⟩ := q
  have hM := zMR_y h y1 (by simp) (by simp)
  unfold zn_threshold
  rcases q with ⟨rfl, hk⟩ | ⟨n, T, y, p, mk, P, f, L, rfl, -, -, hy, hR, -, -, -, -, hk, -⟩
  · iterate 2 (refine ze_go1 rfl ?_)
    refine ze_brT rfl (by decide) ?_
    iterate 2 (refine ze_go1 rfl ?_)
    rw [hk]
    exact ze_rt1 rfl trivial ⟨rfl, hM, zy46 y1 (by simp)⟩
  · iterate 2 (refine ze_go1 rfl ?_)
    refine ze_brF rfl (nI_pos (by omega)) ?_
    refine ze_go1 rfl ?_
    refine ze_go2 rfl rfl ?_
    refine ze_go1 rfl ?_
    refine ze_go2 rfl ⟨rfl, vp_in_nI (N := 96) (n := y) (by omega) (by omega)⟩ ?_
    rw [nI_clamp (n := y) (by omega), hk]
    rcases zRM_t hR with ⟨e1, e2⟩ | ⟨a, t, e1, ha, ht, e2, e3, -⟩
    · rw [e2, e1]
      refine ze_brT rfl (by decide) ?_
      iterate 2 (refine ze_go1 rfl ?_)
      exact ze_rt1 rfl trivial ⟨rfl, hM, zy46 y1 (by simp)⟩
    · have ha : a < S.1.1 := ha
      have ht : (S.1.2.2.1 a = 0 → ¬ t = -1) ∧ (¬ S.1.2.2.1 a = 0 → t = -1) := ht
      have hkk := h.1.2.2.1 a ha
      rw [e2, e1]
      refine ze_brF rfl (nI_pos (by omega)) ?_
      refine ze_go1 rfl ?_
      refine ze_go2 rfl rfl ?_
      refine ze_go1 rfl ?_
      refine ze_go2 rfl rfl ?_
      refine ze_go1 rfl ?_
      refine ze_go2 rfl ⟨rfl, vp_in_nI (N := 96) (n := y) (by omega) (by omega)⟩ ?_
      rw [nI_clamp (n := y) (by omega), e2]
      refine ze_go2 rfl ⟨rfl, vp_in_nI (N := 4) (n := a) (by omega) (by omega)⟩ ?_
      rw [nI_clamp (n := a) (by omega), hM.2.1.2.1 a ha]
      by_cases hk0 : S.1.2.2.1 a = 0
      · refine ze_brT rfl (by rw [hk0]; rfl) ?_
        refine ze_go1 rfl ?_
        refine ze_go2 rfl rfl ?_
        refine ze_go1 rfl ?_
        refine ze_go2 rfl ⟨rfl, vp_in_nI (N := 96) (n := y) (by omega) (by omega)⟩ ?_
        rw [nI_clamp (n := y) (by omega), e3]
        exact ze_rt1 rfl trivial ⟨rfl, hM, zy46 y1 (by simp)⟩
      · refine ze_brF rfl (nI_ne0 (by omega) (by omega)) ?_
        iterate 2 (refine ze_go1 rfl ?_)
        refine ze_rt1 rfl trivial ⟨?_, hM, zy46 y1 (by simp)⟩
        show _ = some (Value.int t)
        rw [ht.2 hk0]
theorem r_classOf {d : Nat} {σ : ze_S} {S : zSt} {x : Int32} (h : zMR σ S) : zM (d + 5) m_M_classOf [.ref 64, .int x] σ (zOm σ (zn_classOf S x) S) := by
  refine zM_in t_M_classOf [some (.ref 64), some (.int x), none] rfl rfl ?_
  iterate 2 (refine ze_go1 rfl ?_)
  refine ze_ca1 rfl ⟨rfl, rfl⟩ (ze_M_le (r_at (d := 0) (x := x) h) (by omega)) (fun v τ q => ?_)
  obtain ⟨y1, q⟩ := q
  have hM := zMR_y h y1 (by simp) (by simp)
  unfold zn_classOf
  rcases q with ⟨rfl, hk⟩ | ⟨n, T, y, p, mk, P, f, L, rfl, -, -, hy, hR, -, -, -, -, hk, -⟩
  · iterate 2 (refine ze_go1 rfl ?_)
    refine ze_brF rfl (by decide) ?_
    iterate 2 (refine ze_go1 rfl ?_)
    rw [hk]
    exact ze_rt1 rfl trivial ⟨rfl, hM, zy46 y1 (by simp)⟩
  · have h54 := (zRM_hd hR).2.2.1
    rw [zsp_2] at h54
    iterate 2 (refine ze_go1 rfl ?_)
    refine ze_brT rfl (nI_pos' (by omega)) ?_
    refine ze_go1 rfl ?_
    refine ze_go2 rfl rfl ?_
    refine ze_go1 rfl ?_
    refine ze_go2 rfl ⟨rfl, vp_in_nI (N := 96) (n := y) (by omega) (by omega)⟩ ?_
    rw [nI_clamp (n := y) (by omega), hk, h54]
    exact ze_rt1 rfl trivial ⟨rfl, hM, zy46 y1 (by simp)⟩
theorem r_weight {d : Nat} {σ : ze_S} {S : zSt} {x c : Int32} (h : zMR σ S) : zM (d + 5) m_M_weight [.ref 64, .int x, .int c] σ (zOm σ (zn_weight S x c) S) := by
  refine zM_in t_M_weight [some (.ref 64), some (.int x), some (.int c), none] rfl rfl ?_
  iterate 2 (refine ze_go1 rfl ?_)
  refine ze_ca1 rfl ⟨rfl, rfl⟩ (ze_M_le (r_at (d := 0) (x := x) h) (by omega)) (fun v τ q => ?_)
  obtain ⟨y1, q⟩ := q
  have hM := zMR_y h y1 (by simp) (by simp)
  unfold zn_weight
  rcases q with ⟨rfl, hk⟩ | ⟨n, T, y, p, mk, P, f, L, rfl, hn, -, hy, hR, -, -, -, -, hk, h6, hz, -⟩
  · iterate 2 (refine ze_go1 rfl ?_)
    refine ze_brT rfl (by decide) ?_
    iterate 2 (refine ze_go1 rfl ?_)
    rw [hk]
    exact ze_rt1 rfl trivial ⟨rfl, hM, zy46 y1 (by simp)⟩
  · iterate 2 (refine ze_go1 rfl ?_)
    refine ze_brF rfl (nI_pos (by omega)) ?_
    rw [hk]
    have bad : (c < 0 ∨ 3 ≤ c) → zE (d + 4) t_M_weight (zOm σ (if c < 0 ∨ 3 ≤ c then -1 else nI (zcw S.1 (zwp S.1 p T (zw0 n)) c.toNatClampNeg)) S) (19, [some (.ref 64), some (.int x), some (.int c), some (.int (nI y))], [], τ) := by
      intro hb
      iterate 2 (refine ze_go1 rfl ?_)
      rw [if_pos hb]
      exact ze_rt1 rfl trivial ⟨rfl, hM, zy46 y1 (by simp)⟩
    refine ze_go1 rfl ?_
    refine ze_br1 rfl (fun q => bad (Or.inl q)) (fun c0 => ?_)
    iterate 2 (refine ze_go1 rfl ?_)
    by_cases c3 : 3 ≤ c
    · refine ze_brF rfl (fun q => absurd (Int32.le_trans c3 q) (by decide)) ?_
      exact bad (Or.inr c3)
    · obtain ⟨k, rfl, hk3⟩ := zn_lt (n := 3) (by decide) c0 c3
      refine ze_brT rfl (nI_le (b := 2) (by omega) (by decide)) ?_
      rw [if_neg (fun q => q.elim c0 c3), zcl (by omega)]
      iterate 4 (refine ze_go1 rfl ?_)
      refine ze_go2 rfl rfl ?_
      rw [h6]
      refine ze_ca1 rfl ⟨rfl, rfl⟩ (ze_M_le (r_classWeight (d := 0) (D := ztr S.1 n) (c := k) (ztr_ok h.1 hn) (ztr_Bn hM.2.1 hn) (by omega) hk3 (zRM_hd hR).2.2.2.2) (by omega)) (fun v τ' q => ?_)
      obtain ⟨rfl, e0⟩ := q
      rw [e0, zag_cw (zag_tr hn) hz]
      exact ze_rt1 rfl trivial ⟨rfl, hM, zy46 y1 (by simp)⟩
set_option maxRecDepth 20000 in
theorem r_child {d : Nat} {σ : ze_S} {S : zSt} {x b : Int32} (h : zMR σ S) : zM (d + 5) m_M_child [.ref 64, .int x, .int b] σ (zOm σ (zn_child S x b) S) := by
  have h4 := h.1.1
  refine zM_in t_M_child [some (.ref 64), some (.int x), some (.int b), none, none, none] rfl rfl ?_
  iterate 2 (refine ze_go1 rfl ?_)
  refine ze_ca1 rfl ⟨rfl, rfl⟩ (ze_M_le (r_at (d := 0) (x := x) h) (by omega)) (fun v τ q => ?_)
  obtain ⟨y1, q⟩ := q
  have hM := zMR_y h y1 (by simp) (by simp)
  unfold zn_child
  have bad : ∀ (z : Int32), z = -1 → ∀ o, zE (d + 4) t_M_child (zOm σ z S) (37, [some (.ref 64), some (.int x), some (.int b), some (.int o), none, none], [], τ) := by
    intro z hz o
    refine ze_go1 rfl ?_
    rw [hz]
    exact ze_rt1 rfl trivial ⟨rfl, hM, zy46 y1 (by simp)⟩
  rcases q with ⟨rfl, hk⟩ | ⟨n, T, y, p, mk, P, f, L, rfl, hn, -, hy, hR, hL, hL85, hmap, hall, hk, h6, hz, hkid⟩
  · iterate 2 (refine ze_go1 rfl ?_)
    refine ze_brT rfl (by decide) ?_
    exact bad _ (hk _) _
  · iterate 2 (refine ze_go1 rfl ?_)
    refine ze_brF rfl (nI_pos (by omega)) ?_
    rw [hk]
    refine ze_go1 rfl ?_
    refine ze_go2 rfl rfl ?_
    refine ze_go1 rfl ?_
    refine ze_go2 rfl ⟨rfl, vp_in_nI (N := 96) (n := y) (by omega) (by omega)⟩ ?_
    rw [nI_clamp (n := y) (by omega)]
    rcases zRM_t hR with ⟨e1, e2⟩ | ⟨a, t, e1, ha, ht, e2, e3, e5⟩
    · rw [e2]
      refine ze_brT rfl (by decide) ?_
      exact bad _ (by unfold zbk; rw [e1]) _
    · have ha : a < S.1.1 := ha
      have e5 : ∀ b, b < zm_nb (S.1.2.2.1 a) → τ.1 51 (4 * y + b) = nI (zkd τ y b) := e5
      have hnb := znb4 h.1 ha
      rw [e2]
      refine ze_brF rfl (nI_pos (by omega)) ?_
      refine ze_go1 rfl ?_
      refine ze_br1 rfl (fun c => bad _ (by unfold zbk; rw [e1]; exact if_pos (Or.inl c)) _) (fun c => ?_)
      iterate 3 (refine ze_go1 rfl ?_)
      refine ze_go2 rfl rfl ?_
      refine ze_go1 rfl ?_
      refine ze_go2 rfl ⟨rfl, vp_in_nI (N := 96) (n := y) (by omega) (by omega)⟩ ?_
      rw [nI_clamp (n := y) (by omega), e2]
      refine ze_ca1 rfl ⟨rfl, rfl⟩ (ze_M_le (r_branches (d := 0) h.1 hM.2.1 ha) (by omega)) (fun v τ' q => ?_)
      obtain ⟨rfl, e0⟩ := q
      rw [e0]
      by_cases c2 : nI (zm_nb (S.1.2.2.1 a)) ≤ b
      · refine ze_brF rfl (Int32.not_lt.2 c2) ?_
        exact bad _ (by unfold zbk; rw [e1]; exact if_pos (Or.inr c2)) _
      · refine ze_brT rfl (Int32.not_le.1 c2) ?_
        obtain ⟨i, rfl, hi⟩ := zn_lt (by omega) c c2
        have ez : zbk S (nI i) (fun _ T p _ => nI (zix (zpp S.1 3 [] T) (p ++ [(nI i).toNatClampNeg]))) n T p = nI (zix (zpp S.1 3 [] T) (p ++ [i])) := by
          unfold zbk
          rw [e1]
          show (if nI i < 0 ∨ nI (zm_nb (S.1.2.2.1 a)) ≤ nI i then -1 else nI (zix (zpp S.1 3 [] T) (p ++ [(nI i).toNatClampNeg]))) = _
          rw [if_neg (fun q => q.elim c c2), zcl (by omega)]
        rw [ez]
        obtain ⟨hm, hP⟩ := hkid a t e1 i hi
        have hto := hall _ hm
        -- the search
        have loop : ∀ m j, j + m = L.length → (∀ i', i' < j → L[i']? ≠ some (zkd τ y i)) → zE (d + 4) t_M_child (zOm σ (nI (zix (zpp S.1 3 [] T) (p ++ [i]))) S) (54, [some (.ref 64), some (.int x), some (.int (nI i)), some (.int (nI y)), some (.int (nI (zkd τ y i))), some (.int (nI j))], [], τ) := by
          intro m
          induction m with
          | zero =>
            intro j hj hno
            obtain ⟨u, hu⟩ := List.mem_iff_getElem?.1 hm
            have := zlt_get hu
            exact absurd hu (hno u (by omega))
          | succ m ih =>
            intro j hj hno
            have hjl : j < L.length := by omega
            have hj1 : L[j]? = some L[j] := List.getElem?_eq_getElem hjl
            have hxl := hall _ (List.getElem_mem hjl)
            iterate 2 (refine ze_go1 rfl ?_)
            refine ze_go2 rfl rfl ?_
            rw [hL.1]
            refine ze_brF rfl (nI_ge (by omega) (by omega)) ?_
            refine ze_go1 rfl ?_
            refine ze_go2 rfl rfl ?_
            refine ze_go1 rfl ?_
            refine ze_go2 rfl ⟨rfl, vp_in_nI (N := 96) (n := j) (by omega) (by omega)⟩ ?_
            rw [nI_clamp (n := j) (by omega), hL.2 j _ hj1]
            refine ze_go1 rfl ?_
            by_cases e : L[j] = zkd τ y i
            · refine ze_brF rfl (fun z => z (by rw [e])) ?_
              refine ze_go1 rfl ?_
              have : zix (zpp S.1 3 [] T) (p ++ [i]) = j := zix_eq (zpp_nd 3 [] T) (by rw [← hmap, List.getElem?_map, hj1, e, ← hP]; rfl)
              rw [this]
              exact ze_rt1 rfl trivial ⟨rfl, hM, zy46 y1 (by simp)⟩
            · refine ze_brT rfl (fun z => e ((nI_eq (by omega) (by omega)).1 z)) ?_
              iterate 2 (refine ze_go1 rfl ?_)
              have h := ih (j + 1) (by omega) (fun i' hi' z => by
                by_cases e2 : i' = j
                · rw [e2, hj1] at z
                  exact e (by simpa using z)
                · exact hno i' (by omega) z)
              rw [← show nI j + 1 = nI (j + 1) from nI_1 _] at h
              exact h
        refine ze_go1 rfl ?_
        refine ze_go2 rfl rfl ?_
        iterate 5 (refine ze_go1 rfl ?_)
        rw [zi4']
        refine ze_go2 rfl ⟨rfl, vp_in_nI (N := 384) (n := 4 * y + i) (by omega) (by omega)⟩ ?_
        rw [nI_clamp (n := 4 * y + i) (by omega), e5 i hi]
        iterate 3 (refine ze_go1 rfl ?_)
        exact loop L.length 0 (by omega) (fun i' hi' => by omega)
set_option maxRecDepth 20000 in
theorem r_part {d : Nat} {σ : ze_S} {S : zSt} {x b : Int32} (h : zMR σ S) : zM (d + 5) m_M_part [.ref 64, .int x, .int b] σ (zOm σ (zn_part S x b) S) := by
  have h4 := h.1.1
  refine zM_in t_M_part [some (.ref 64), some (.int x), some (.int b), none] rfl rfl ?_
  iterate 2 (refine ze_go1 rfl ?_)
  refine ze_ca1 rfl ⟨rfl, rfl⟩ (ze_M_le (r_at (d := 0) (x := x) h) (by omega)) (fun v τ q => ?_)
  obtain ⟨y1, q⟩ := q
  have hM := zMR_y h y1 (by simp) (by simp)
  unfold zn_part
  have bad : ∀ (z : Int32), z = -1 → ∀ o, zE (d + 4) t_M_part (zOm σ z S) (37, [some (.ref 64), some (.int x), some (.int b), some (.int o)], [], τ) := by
    intro z hz o
    refine ze_go1 rfl ?_
    rw [hz]
    exact ze_rt1 rfl trivial ⟨rfl, hM, zy46 y1 (by simp)⟩
  rcases q with ⟨rfl, hk⟩ | ⟨n, T, y, p, mk, P, f, L, rfl, hn, -, hy, hR, hL, hL85, hmap, hall, hk, h6, hz, hkid⟩
  · iterate 2 (refine ze_go1 rfl ?_)
    refine ze_brT rfl (by decide) ?_
    exact bad _ (hk _) _
  · iterate 2 (refine ze_go1 rfl ?_)
    refine ze_brF rfl (nI_pos (by omega)) ?_
    rw [hk]
    refine ze_go1 rfl ?_
    refine ze_go2 rfl rfl ?_
    refine ze_go1 rfl ?_
    refine ze_go2 rfl ⟨rfl, vp_in_nI (N := 96) (n := y) (by omega) (by omega)⟩ ?_
    rw [nI_clamp (n := y) (by omega)]
    rcases zRM_t hR with ⟨e1, e2⟩ | ⟨a, t, e1, ha, ht, e2, e3, e5⟩
    · rw [e2]
      refine ze_brT rfl (by decide) ?_
      exact bad _ (by unfold zbk; rw [e1]) _
    · have ha' : a < (ztr S.1 n).1 := ha
      have ha : a < S.1.1 := ha
      have hnb := znb4 h.1 ha
      rw [e2]
      refine ze_brF rfl (nI_pos (by omega)) ?_
      refine ze_go1 rfl ?_
      refine ze_br1 rfl (fun c => bad _ (by unfold zbk; rw [e1]; exact if_pos (Or.inl c)) _) (fun c => ?_)
      iterate 3 (refine ze_go1 rfl ?_)
      refine ze_go2 rfl rfl ?_
      refine ze_go1 rfl ?_
      refine ze_go2 rfl ⟨rfl, vp_in_nI (N := 96) (n := y) (by omega) (by omega)⟩ ?_
      rw [nI_clamp (n := y) (by omega), e2]
      refine ze_ca1 rfl ⟨rfl, rfl⟩ (ze_M_le (r_branches (d := 0) h.1 hM.2.1 ha) (by omega)) (fun v τ' q => ?_)
      obtain ⟨rfl, e0⟩ := q
      rw [e0]
      by_cases c2 : nI (zm_nb (S.1.2.2.1 a)) ≤ b
      · refine ze_brF rfl (Int32.not_lt.2 c2) ?_
        exact bad _ (by unfold zbk; rw [e1]; exact if_pos (Or.inr c2)) _
      · refine ze_brT rfl (Int32.not_le.1 c2) ?_
        obtain ⟨i, rfl, hi⟩ := zn_lt (by omega) c c2
        have ez : zbk S (nI i) (fun n T p r => nI (zpt S.1 r.1 r.2 (zwp S.1 p T (zw0 n)) (nI i).toNatClampNeg)) n T p = nI (zpt S.1 a t (zwp S.1 p T (zw0 n)) i) := by
          unfold zbk
          rw [e1]
          show (if nI i < 0 ∨ nI (zm_nb (S.1.2.2.1 a)) ≤ nI i then -1 else nI (zpt S.1 a t (zwp S.1 p T (zw0 n)) (nI i).toNatClampNeg)) = _
          rw [if_neg (fun q => q.elim c c2), zcl (by omega)]
        rw [ez]
        iterate 3 (refine ze_go1 rfl ?_)
        refine ze_go2 rfl rfl ?_
        refine ze_go1 rfl ?_
        refine ze_go2 rfl ⟨rfl, vp_in_nI (N := 96) (n := y) (by omega) (by omega)⟩ ?_
        rw [nI_clamp (n := y) (by omega), e2]
        refine ze_go1 rfl ?_
        refine ze_go2 rfl rfl ?_
        refine ze_go1 rfl ?_
        refine ze_go2 rfl ⟨rfl, vp_in_nI (N := 96) (n := y) (by omega) (by omega)⟩ ?_
        rw [nI_clamp (n := y) (by omega), e3]
        refine ze_go1 rfl ?_
        refine ze_go2 rfl rfl ?_
        refine ze_go1 rfl ?_
        rw [h6]
        refine ze_ca1 rfl ⟨rfl, rfl⟩ (ze_M_le (r_measure (d := 0) (D := ztr S.1 n) (m := 1) (ztr_ok h.1 hn) (ztr_Bn hM.2.1 hn) ha' (by omega) (zRM_hd hR).2.2.2.2 (fun i _ => Nat.le_trans (zwp_le _ _ _ i) (zw0_le _ i)) (by decide)) (by omega)) (fun v τ2 q => ?_)
        obtain ⟨rfl, y2, ms⟩ := q
        refine ze_go1 rfl ?_
        refine ze_go2 rfl rfl ?_
        refine ze_go1 rfl ?_
        refine ze_go2 rfl ⟨rfl, vp_in_nI (N := 4) (n := i) (by omega) (by omega)⟩ ?_
        rw [nI_clamp (n := i) (by omega), ms.1 i (by omega), zag_pt (zag_tr hn) hz]
        exact ze_rt1 rfl trivial ⟨rfl, zMR_y hM y2 (by simp) (by simp), zxp_tr (zy46 y1 (by simp)) (zy46 y2 (by simp))⟩
