theorem zKd_RM {D : zD} {σ : ze_S} {mk : Nat} {P : Nat → List Nat} {f : Nat} {w : Nat → Nat} {pl : Nat} {p : List Nat} {T : zTr} {a : Nat} {t : Int32} (hmk : mk ≤ 85) (h1 : σ.1 49 pl = nI a) (h2 : σ.1 50 pl = t) (h : ∀ b, b < zm_nb (D.2.2.1 a) → σ.1 51 (4 * pl + b) = nI (zkd σ pl b) ∧ pl < zkd σ pl b ∧ zRM D σ mk P f (zsd D a t w b) (zkd σ pl b) (p ++ [b]) (zsub T b)) : zKd D σ pl a t (zkd σ pl) := by
  refine ⟨h1, h2, fun b hb => ?_, fun b b' hb hb' e => ?_⟩
  · have := (zRM_hd (h b hb).2.2).1
    have := (h b hb).2.1
    exact ⟨(h b hb).1, by omega, by omega⟩
  · have e1 := (zRM_hd (h b hb).2.2).2.1
    have e2 := (zRM_hd (h b' hb').2.2).2.1
    rw [e, e2] at e1
    have := List.append_cancel_left e1
    simpa using this.symm
/-- the first 96 rows stay -/
def zWb (σ τ : ze_S) : Prop := zy [55, 56, 57] [17, 18, 21] σ τ ∧ ∀ q i, q < 96 → i < 24 → τ.1 55 (24 * q + i) = σ.1 55 (24 * q + i)
set_option maxRecDepth 20000 in
set_option maxHeartbeats 1000000 in
theorem r_wb {e : Nat} {D : zD} {σ : ze_S} {mk : Nat} {P : Nat → List Nat} {L : List Nat} {x1 x2 x3 : Int32} {Q : ze_P} (he : 5 ≤ e) (hd : zdok D) (hB : zBn σ D) (hmk : mk ≤ 85) (hL : zLs σ L) (hL85 : L.length ≤ 85) (h6 : σ.1 64 6 = nI D.2.1) :
    ∀ (f : Nat) (w w' : Nat → Nat) (pl : Nat) (p : List Nat) (T : zTr) (k : Nat) (τ : ze_S), zRM D σ mk P f w' pl p T → zWb σ τ → zrw τ (pl + 96) D.2.1 w → (∀ i, i < D.2.1 → w i ≤ 720) → zsg L k (zprm D σ f pl T) →
      (∀ τ', zWb σ τ' → (∀ q, q < mk → ¬ p <+: P q → ∀ i, i < 24 → τ'.1 55 (24 * (q + 96) + i) = τ.1 55 (24 * (q + 96) + i)) → zWR D τ' 96 f w pl T → zE e t_M_wouldBe Q (17, [some (.ref 64), some (.int x1), some (.int x2), some (.int x3), some (.int (nI (k + (zprm D σ f pl T).length)))], [], τ')) →
      zE e t_M_wouldBe Q (17, [some (.ref 64), some (.int x1), some (.int x2), some (.int x3), some (.int (nI k))], [], τ) := by
  have node : ∀ (pl k : Nat) (τ : ze_S), pl < mk → L[k]? = some pl → zWb σ τ → zE e t_M_wouldBe Q (38, [some (.ref 64), some (.int x1), some (.int x2), some (.int x3), some (.int (nI k))], [.int (σ.1 49 pl)], τ) →
      zE e t_M_wouldBe Q (17, [some (.ref 64), some (.int x1), some (.int x2), some (.int x3), some (.int (nI k))], [], τ) := by
    intro pl k τ hpl hk hy K
    have hkl := zlt_get hk
    iterate 2 (refine ze_go1 rfl ?_)
    refine ze_go2 rfl rfl ?_
    rw [hy.1.2 23 (by simp), hL.1]
    refine ze_brF rfl (nI_ge (by omega) (by omega)) ?_
    refine ze_go1 rfl ?_
    refine ze_go2 rfl rfl ?_
    refine ze_go1 rfl ?_
    refine ze_go2 rfl rfl ?_
    refine ze_go1 rfl ?_
    refine ze_go2 rfl ⟨rfl, vp_in_nI (N := 96) (n := k) (by omega) (by omega)⟩ ?_
    rw [nI_clamp (n := k) (by omega), (hy.1.1 58 (by simp) (by decide)).1, hL.2 k pl hk]
    refine ze_go2 rfl ⟨rfl, vp_in_nI (N := 96) (n := pl) (by omega) (by omega)⟩ ?_
    rw [nI_clamp (n := pl) (by omega), (hy.1.1 49 (by simp) (by decide)).1]
    exact K
  have leaf : ∀ (pl k : Nat) (τ : ze_S), pl < mk → L[k]? = some pl → zWb σ τ → σ.1 49 pl = -1 →
      zE e t_M_wouldBe Q (17, [some (.ref 64), some (.int x1), some (.int x2), some (.int x3), some (.int (nI (k + 1)))], [], τ) →
      zE e t_M_wouldBe Q (17, [some (.ref 64), some (.int x1), some (.int x2), some (.int x3), some (.int (nI k))], [], τ) := by
    intro pl k τ hpl hk hy h49 K
    refine node pl k τ hpl hk hy ?_
    rw [h49]
    refine ze_brT rfl (by decide) ?_
    iterate 2 (refine ze_go1 rfl ?_)
    rw [← show nI k + 1 = nI (k + 1) from nI_1 _] at K
    exact K
  intro f
  induction f with
  | zero =>
    intro w w' pl p T k τ hR hy hw hwb hg K
    refine leaf pl k τ hR.1.1 (hg 0 pl rfl) hy hR.2.2 ?_
    exact K τ hy (fun _ _ _ _ _ => rfl) hw
  | succ f ih =>
    intro w w' pl p T k τ hR hy hw hwb hg K
    have hg0 := (zsg_cons (l := (match T.1 [] with | none => [] | some q => zcat (fun b => zprm D σ f (zkd σ pl b) (zsub T b)) (zm_nb (D.2.2.1 q.1)))) hg)
    have ezp : zprm D σ (f + 1) pl T = pl :: (match T.1 [] with | none => [] | some q => zcat (fun b => zprm D σ f (zkd σ pl b) (zsub T b)) (zm_nb (D.2.2.1 q.1))) := rfl
    rcases hR.2 with ⟨e1, e2⟩ | ⟨a, t, c1, c2, c3, c4, c5, c6⟩
    · rw [ezp, e1] at K
      refine leaf pl k τ hR.1.1 hg0.1 hy e2 ?_
      exact K τ hy (fun _ _ _ _ _ => rfl) ⟨hw, fun a t e => by rw [e1] at e; cases e⟩
    · rw [ezp, c1] at K
      rw [c1] at hg0
      have hn := znb4 hd c2
      have h4 := hd.1
      have h24 := hd.2.1
      have hpl : pl < mk := hR.1.1
      have hkd0 : zKd D σ pl a t (zkd σ pl) := zKd_RM (f := f) (w := w') (p := p) (T := T) (P := P) hmk c4 c5 c6
      have hkl := zlt_get hg0.1
      have hPk : ∀ b, b < zm_nb (D.2.2.1 a) → P (zkd σ pl b) = p ++ [b] := fun b hb => (zRM_hd (c6 b hb).2.2).2.1
      have hkm : ∀ b, b < zm_nb (D.2.2.1 a) → zkd σ pl b < mk := fun b hb => (zRM_hd (c6 b hb).2.2).1
      have kids : ∀ n j τ2, j + n = zm_nb (D.2.2.1 a) → zWb σ τ2 → (∀ q, q < mk → ¬ p <+: P q → ∀ i, i < 24 → τ2.1 55 (24 * (q + 96) + i) = τ.1 55 (24 * (q + 96) + i)) → zrw τ2 (pl + 96) D.2.1 w → (∀ b, b < j → zWR D τ2 96 f (zsd D a t w b) (zkd σ pl b) (zsub T b)) → (∀ b, j ≤ b → b < zm_nb (D.2.2.1 a) → zrw τ2 (zkd σ pl b + 96) D.2.1 (zsd D a t w b)) → zE e t_M_wouldBe Q (17, [some (.ref 64), some (.int x1), some (.int x2), some (.int x3), some (.int (nI (k + 1 + (zcat (fun b => zprm D σ f (zkd σ pl b) (zsub T b)) j).length)))], [], τ2) := by
        intro n
        induction n with
        | zero =>
          intro j τ2 hj hy2 hq2 hw2 hdn htd
          rw [show j = zm_nb (D.2.2.1 a) by omega] at hdn ⊢
          rw [show k + 1 + (zcat (fun b => zprm D σ f (zkd σ pl b) (zsub T b)) (zm_nb (D.2.2.1 a))).length = k + (pl :: zcat (fun b => zprm D σ f (zkd σ pl b) (zsub T b)) (zm_nb (D.2.2.1 a))).length by rw [List.length_cons]; omega]
          refine K τ2 hy2 hq2 ⟨hw2, fun a' t' e b hb => ?_⟩
          rw [c1] at e
          cases e
          rw [show zkd τ2 pl b = zkd σ pl b by unfold zkd; rw [(hy2.1.1 51 (by simp) (by decide)).1]]
          exact hdn b hb
        | succ n ihn =>
          intro j τ2 hj hy2 hq2 hw2 hdn htd
          refine ih (zsd D a t w j) _ (zkd σ pl j) (p ++ [j]) (zsub T j) _ τ2 (c6 j (by omega)).2.2 hy2 (htd j (Nat.le_refl _) (by omega)) (fun i hi => Nat.le_trans zsd_le (hwb i hi)) (zsg_cat hg0.2 (b := j) (by show j < zm_nb (D.2.2.1 a); omega)) (fun τ3 hy3 hq3 hW3 => ?_)
          have h := ihn (j + 1) τ3 (by omega) hy3 (fun q hq hp i hi => by
            rw [hq3 q hq (fun z => hp ((List.prefix_append p [j]).trans z)) i hi]
            exact hq2 q hq hp i hi) (fun i hi => by
            rw [hq3 pl hpl (by rw [hR.1.2.1]; exact zpre3) i (by omega)]
            exact hw2 i hi) (fun b hb => ?_) (fun b hb1 hb2 i hi => by
            rw [hq3 _ (hkm b hb2) (by rw [hPk b hb2]; exact fun z => by have := zpre4 z (List.prefix_refl _); omega) i (by omega)]
            exact htd b (by omega) hb2 i hi)
          · rw [show zcat (fun b => zprm D σ f (zkd σ pl b) (zsub T b)) (j + 1) = zcat (fun b => zprm D σ f (zkd σ pl b) (zsub T b)) j ++ zprm D σ f (zkd σ pl j) (zsub T j) from rfl, List.length_append, ← Nat.add_assoc] at h
            exact h
          · by_cases ej : b = j
            · subst ej
              exact hW3
            · have hb2 : b < zm_nb (D.2.2.1 a) := by omega
              have hRb : zRM D τ2 mk P f (zsd D a t w' b) (zkd σ pl b) (p ++ [b]) (zsub T b) := zRM_eq hd (c6 b hb2).2.2 (fun q hq _ => ⟨⟨by rw [(hy2.1.1 49 (by simp) (by decide)).1], by rw [(hy2.1.1 50 (by simp) (by decide)).1], by rw [(hy2.1.1 52 (by simp) (by decide)).1], by rw [(hy2.1.1 53 (by simp) (by decide)).1], by rw [(hy2.1.1 54 (by simp) (by decide)).1], fun _ _ => by rw [(hy2.1.1 51 (by simp) (by decide)).1], fun i hi => hy2.2 q i (by omega) hi⟩, rfl⟩)
              refine zWR_eq (by rw [(hy2.1.1 51 (by simp) (by decide)).1, (hy3.1.1 51 (by simp) (by decide)).1]) hd hRb (hdn b (by omega)) (fun q hq hp i hi => hq3 q hq (fun z => ej (zpre4 hp z)) i hi)
      refine node pl k τ hpl hg0.1 hy ?_
      rw [c4]
      refine ze_brF rfl (nI_pos (by omega)) ?_
      iterate 2 (refine ze_go1 rfl ?_)
      refine ze_go2 rfl rfl ?_
      refine ze_go1 rfl ?_
      refine ze_go2 rfl ⟨rfl, vp_in_nI (N := 96) (n := k) (by omega) (by omega)⟩ ?_
      rw [nI_clamp (n := k) (by omega), (hy.1.1 58 (by simp) (by decide)).1, hL.2 k pl hg0.1]
      refine ze_go1 rfl ?_
      refine ze_ca1 rfl ⟨rfl, rfl⟩ (ze_M_le (r_sendDown (d := 0) (s := 96) (pl := pl) (a := a) (t := t) (kd := zkd σ pl) (w := w) hd (zBn_y hB hy.1 (by simp) (by simp)) c2 (by omega) (by omega) (zKd_eq hkd0 (hy.1.1 49 (by simp) (by decide)).1 (hy.1.1 50 (by simp) (by decide)).1 (hy.1.1 51 (by simp) (by decide)).1) hw hwb (by rw [hy.1.2 6 (by simp)]; exact h6)) (by omega)) (fun v τ2 q => ?_)
      obtain ⟨rfl, y2, r2, o2⟩ := q
      iterate 2 (refine ze_go1 rfl ?_)
      have h := kids (zm_nb (D.2.2.1 a)) 0 τ2 (by omega) ⟨zy_tr hy.1 y2, fun q i hq hi => by rw [o2 q (fun b hb => by omega) i hi]; exact hy.2 q i hq hi⟩ (fun q hq hp i hi => o2 (q + 96) (fun b hb z => hp (by rw [show q = zkd σ pl b by omega, hPk b hb]; exact List.prefix_append _ _)) i hi) (fun i hi => by
        rw [o2 (pl + 96) (fun b hb z => by have := (c6 b hb).2.1; omega) i (by omega)]
        exact hw i hi) (fun b hb => by omega) (fun b _ hb => r2 b hb)
      rw [show k + 1 + (zcat (fun b => zprm D σ f (zkd σ pl b) (zsub T b)) 0).length = k + 1 from rfl, ← show nI k + 1 = nI (k + 1) from nI_1 _] at h
      exact h
/-- what wouldBe leaves -/
def zWo (σ τ : ze_S) : Prop := zy [55, 56, 57, 58, 59] [17, 18, 21, 23] σ τ ∧ ∀ q i, q < 96 → i < 24 → τ.1 55 (24 * q + i) = σ.1 55 (24 * q + i)
theorem zWo_smr {σ τ : ze_S} (h : zWo σ τ) {q : Nat} (hq : q < 96) : zsmr σ τ q := ⟨by rw [(h.1.1 49 (by simp) (by decide)).1], by rw [(h.1.1 50 (by simp) (by decide)).1], by rw [(h.1.1 52 (by simp) (by decide)).1], by rw [(h.1.1 53 (by simp) (by decide)).1], by rw [(h.1.1 54 (by simp) (by decide)).1], fun _ _ => by rw [(h.1.1 51 (by simp) (by decide)).1], fun i hi => h.2 q i hq hi⟩
theorem r_wouldBe {d : Nat} {D : zD} {σ : ze_S} {mk : Nat} {P : Nat → List Nat} {f : Nat} {w w' : Nat → Nat} {n pl : Nat} {p : List Nat} {T : zTr} {ch : Nat} (hd : zdok D) (hB : zBn σ D) (hmk : mk ≤ 85) (hf : f ≤ 3) (hn : n < 96) (hw : zrw σ n D.2.1 w) (hR : zRM D σ mk P f w' pl p T) (hwb : ∀ i, i < D.2.1 → w i ≤ 720) (h6 : σ.1 64 6 = nI D.2.1) :
    zM (d + 6) m_M_wouldBe [.ref 64, .int (nI n), .int (nI pl), .int (nI ch)] σ (fun v τ => v = some (.int (nI (zer D ch f w T))) ∧ zWo σ τ ∧ zWR D τ 96 f w pl T) := by
  have hpl := (zRM_hd hR).1
  have h24 := hd.2.1
  have hN : zN f ≤ 85 := by
    have : ∀ f, f ≤ 3 → zN f ≤ 85 := by decide
    exact this f hf
  refine zM_in t_M_wouldBe [some (.ref 64), some (.int (nI n)), some (.int (nI pl)), some (.int (nI ch)), none] rfl rfl ?_
  iterate 5 (refine ze_go1 rfl ?_)
  rw [show nI pl + 96 = nI (pl + 96) from nI_add pl 96]
  refine ze_ca1 rfl ⟨rfl, rfl⟩ (ze_M_le (r_copyWeights (d := 0) (fr := n) (to := pl + 96) (by omega) (by omega) (by omega)) (by omega)) (fun v τ1 q => ?_)
  obtain ⟨rfl, y1, r1, o1⟩ := q
  have w1 : zrw τ1 (pl + 96) D.2.1 w := fun i hi => by rw [r1 i (by omega)]; exact hw i hi
  have R1 : zRM D τ1 mk P f w' pl p T := zRM_eq hd hR (fun q hq _ => ⟨⟨by rw [(y1.1 49 (by simp) (by decide)).1], by rw [(y1.1 50 (by simp) (by decide)).1], by rw [(y1.1 52 (by simp) (by decide)).1], by rw [(y1.1 53 (by simp) (by decide)).1], by rw [(y1.1 54 (by simp) (by decide)).1], fun _ _ => by rw [(y1.1 51 (by simp) (by decide)).1], fun i hi => o1 q (by omega) i hi⟩, rfl⟩)
  have B1 : zBn τ1 D := zBn_y hB y1 (by simp) (by simp)
  iterate 2 (refine ze_go1 rfl ?_)
  refine ze_ca1 rfl ⟨rfl, rfl⟩ (ze_M_le (r_list (d := 0) hd B1 hmk hf R1) (by omega)) (fun v τ2 q => ?_)
  obtain ⟨rfl, y2, l2⟩ := q
  have e51 : τ2.1 51 = τ1.1 51 := (y2.1 51 (by simp) (by decide)).1
  have e55 : τ2.1 55 = τ1.1 55 := (y2.1 55 (by simp) (by decide)).1
  have R2 : zRM D τ2 mk P f w' pl p T := zRM_eq hd R1 (fun q _ _ => ⟨zsmr_y y2 (by simp) q, rfl⟩)
  have B2 : zBn τ2 D := zBn_y B1 y2 (by simp) (by simp)
  rw [← zprm_eq e51] at l2
  have hlen := zprm_len hd R2
  have h62 : τ2.1 64 6 = nI D.2.1 := by rw [y2.2 6 (by simp), y1.2 6 (by simp)]; exact h6
  iterate 2 (refine ze_go1 rfl ?_)
  refine r_wb (e := d + 5) (x1 := nI n) (x2 := nI pl) (x3 := nI ch) (by omega) hd B2 hmk l2 (by omega) h62 f w w' pl p T 0 τ2 R2 ⟨zy_rf _ _ _, fun _ _ _ _ => rfl⟩ (fun i hi => by rw [e55]; exact w1 i hi) hwb (fun j x hx => by rw [Nat.zero_add]; exact hx) (fun τ3 hy3 _ hW3 => ?_)
  rw [Nat.zero_add]
  iterate 2 (refine ze_go1 rfl ?_)
  refine ze_go2 rfl rfl ?_
  rw [hy3.1.2 23 (by simp), l2.1]
  refine ze_brT rfl (Int32.le_refl _) ?_
  iterate 4 (refine ze_go1 rfl ?_)
  have R3 : zRM D τ3 mk P f w' pl p T := zRM_eq hd R2 (fun q hq _ => ⟨zWo_smr ⟨zy_wk hy3.1 (by simp) (by simp), hy3.2⟩ (by omega), rfl⟩)
  refine ze_ca1 rfl ⟨rfl, rfl⟩ (ze_M_le (r_errors (d := 0) (s := 96) (ch := ch) hd (zBn_y B2 hy3.1 (by simp) (by simp)) hmk hf (by omega) R3 hW3 hwb (by rw [hy3.1.2 6 (by simp)]; exact h62)) (by omega)) (fun v τ4 q => ?_)
  obtain ⟨rfl, y4⟩ := q
  have e55' : τ4.1 55 = τ3.1 55 := (y4.1 55 (by simp) (by decide)).1
  refine ze_rt1 rfl trivial ⟨rfl, ⟨zy_tr (zy_wk y1 (by simp) (by simp)) (zy_tr (zy_wk y2 (by simp) (by simp)) (zy_tr (zy_wk hy3.1 (by simp) (by simp)) (zy_wk y4 (by simp) (by simp)))), fun q i hq hi => ?_⟩, ?_⟩
  · rw [e55', hy3.2 q i hq hi, e55, o1 q (by omega) i hi]
  · exact zWR_eq (y4.1 51 (by simp) (by decide)).1 hd R3 hW3 (fun q hq _ i hi => by rw [e55'])
