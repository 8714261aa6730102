set_option maxRecDepth 20000 in
set_option maxHeartbeats 1000000 in
theorem r_rootTest {d : Nat} {σ : ze_S} {S : zSt} {x m : Int32} (h : zMR σ S) : zM (d + 7) m_M_rootTest [.ref 64, .int x, .int m] σ (fun v τ => zMR τ S ∧ zxp (fun k => 46 ≤ k) σ τ ∧ ((v = some (.int 0) ∧ zn_root S x m = none) ∨ (v = some (.int 1) ∧ ∃ q, zn_root S x m = some q ∧ zMq q τ))) := by
  have hM := h
  obtain ⟨hd, hB, g3, g4, g5⟩ := h
  have h24 := hd.2.1
  have h4 := hd.1
  refine zM_in t_M_rootTest [some (.ref 64), some (.int x), some (.int m), none] rfl rfl ?_
  have bad : (x < 0 ∨ nI S.1.1 ≤ x ∨ (m < 1 ∨ 5 < m)) → zE (d + 6) t_M_rootTest (fun v τ => zMR τ S ∧ zxp (fun k => 46 ≤ k) σ τ ∧ ((v = some (.int 0) ∧ zn_root S x m = none) ∨ (v = some (.int 1) ∧ ∃ q, zn_root S x m = some q ∧ zMq q τ))) (22, [some (.ref 64), some (.int x), some (.int m), none], [], σ) := by
    intro hb
    refine ze_go1 rfl ?_
    refine ze_rt1 rfl (Or.inl rfl) ⟨hM, zxp_rf _ _, Or.inl ⟨rfl, ?_⟩⟩
    unfold zn_root
    rw [if_pos hb]
  refine ze_go1 rfl ?_
  refine ze_br1 rfl (fun c => bad (Or.inl c)) (fun c => ?_)
  iterate 2 (refine ze_go1 rfl ?_)
  refine ze_go2 rfl rfl ?_
  rw [hB.1]
  refine ze_br1 rfl (fun c2 => bad (Or.inr (Or.inl c2))) (fun c2 => ?_)
  iterate 2 (refine ze_go1 rfl ?_)
  refine ze_br1 rfl (fun c3 => bad (Or.inr (Or.inr (Or.inl c3)))) (fun c3 => ?_)
  iterate 2 (refine ze_go1 rfl ?_)
  by_cases c5 : 5 < m
  · refine ze_brF rfl (fun q => Int32.not_lt.2 q c5) ?_
    exact bad (Or.inr (Or.inr (Or.inr c5)))
  · refine ze_brT rfl (Int32.not_lt.1 c5) ?_
    obtain ⟨k, ek, hk⟩ := zn_le (n := 5) (by decide) (zn_n0 c3) c5
    obtain ⟨j, ej, hj⟩ := zn_lt (n := S.1.1) (by omega) c c2
    have hn : ¬ (x < 0 ∨ nI S.1.1 ≤ x ∨ (m < 1 ∨ 5 < m)) := fun q => q.elim c (fun q => q.elim c2 (fun q => q.elim c3 c5))
    have er : zn_root S x m = zts S.1 j (zw0 S.1.2.1) k := by
      unfold zn_root zts
      rw [if_neg hn, ej, ek, zcl (by omega), zcl (by omega)]
    rw [er]
    subst ej ek
    clear bad hn er
    have loop : ∀ n i τ, i + n = 24 → zy [55] [] σ τ → (∀ q, q < i → τ.1 55 (24 * 192 + q) = nI 720) → (∀ q, q < 24 * 192 → τ.1 55 q = σ.1 55 q) → zE (d + 6) t_M_rootTest (fun v τ => zMR τ S ∧ zxp (fun k => 46 ≤ k) σ τ ∧ ((v = some (.int 0) ∧ zts S.1 j (zw0 S.1.2.1) k = none) ∨ (v = some (.int 1) ∧ ∃ q, zts S.1 j (zw0 S.1.2.1) k = some q ∧ zMq q τ))) (26, [some (.ref 64), some (.int (nI j)), some (.int (nI k)), some (.int (nI i))], [], τ) := by
      intro n
      induction n with
      | zero =>
        intro i τ hi hy hw ho
        have ei : i = 24 := by omega
        subst ei
        have hM1 : zMR τ S := zMR_z hM (zBn_y hB hy (by simp) (by simp)) (hy.1 63 (by simp) (by decide)).1 (hy.2 2 (by simp)) (hy.2 5 (by simp)) (hy.2 6 (by simp)) (hy.2 7 (by simp)) (fun q hq => ⟨by rw [(hy.1 49 (by simp) (by decide)).1], by rw [(hy.1 50 (by simp) (by decide)).1], by rw [(hy.1 52 (by simp) (by decide)).1], by rw [(hy.1 53 (by simp) (by decide)).1], by rw [(hy.1 54 (by simp) (by decide)).1], fun _ _ => by rw [(hy.1 51 (by simp) (by decide)).1], fun i hi => ho _ (by omega)⟩)
        iterate 2 (refine ze_go1 rfl ?_)
        refine ze_brT rfl (by decide) ?_
        iterate 4 (refine ze_go1 rfl ?_)
        refine ze_go2 rfl rfl ?_
        refine ze_go1 rfl ?_
        rw [hy.2 2 (by simp), g3]
        refine ze_ca1 rfl ⟨rfl, rfl⟩ (ze_M_le (r_measureTest (d := 0) (pl := 192) (a := j) (m := k) (w := zw0 S.1.2.1) hd hM1.2.1 hj (by omega) (fun i hi => by rw [hw i (by omega)]; show nI 720 = nI (if i < S.1.2.1 then 720 else 0); rw [if_pos hi]) (fun i _ => zw0_le _ i) hk) (by omega)) (fun v τ2 q => ?_)
        obtain ⟨y2, q⟩ := q
        have hM2 := zMR_y hM1 y2 (by simp) (by simp)
        have hx : zxp (fun k => 46 ≤ k) σ τ2 := zxp_tr (zy46 hy (by simp)) (zy46 y2 (by simp))
        rcases q with ⟨rfl, q⟩ | ⟨rfl, q⟩
        · exact ze_rt1 rfl (Or.inl rfl) ⟨hM2, hx, Or.inl ⟨rfl, q⟩⟩
        · exact ze_rt1 rfl (Or.inr rfl) ⟨hM2, hx, Or.inr ⟨rfl, q⟩⟩
      | succ n ih =>
        intro i τ hi hy hw ho
        iterate 2 (refine ze_go1 rfl ?_)
        refine ze_brF rfl (nI_ge (b := 24) (by omega) (by omega)) ?_
        refine ze_go1 rfl ?_
        refine ze_go2 rfl rfl ?_
        iterate 4 (refine ze_go1 rfl ?_)
        rw [show (4608 : Int32) + nI i = nI (24 * 192 + i) from nI_add 4608 i]
        refine ze_go2 rfl ⟨rfl, vp_in_nI (N := 4632) (n := 24 * 192 + i) (by omega) (by omega)⟩ ?_
        rw [nI_clamp (n := 24 * 192 + i) (by omega)]
        iterate 2 (refine ze_go1 rfl ?_)
        have h := ih (i + 1) (ze_ui τ 55 (24 * 192 + i) 720) (by omega) (zy_tr hy (zy_ui (by simp) (by decide) _ _ _)) (fun q hq => by
          by_cases e : q = i
          · subst e; rw [zui]; rfl
          · rw [zui_n _ _ _ _ (by omega)]; exact hw q (by omega)) (fun q hq => by rw [zui_n _ _ _ _ (by omega)]; exact ho q hq)
        rw [← show nI i + 1 = nI (i + 1) from nI_1 _] at h
        exact h
    iterate 2 (refine ze_go1 rfl ?_)
    exact loop 24 0 σ rfl (zy_rf _ _ _) (fun q hq => by omega) (fun _ _ => rfl)
theorem r_gain {d : Nat} {σ : ze_S} {S : zSt} {x m : Int32} (h : zMR σ S) : zM (d + 8) m_M_gain [.ref 64, .int x, .int m] σ (zOmL σ (zn_gain S x m) S) := by
  refine zM_in t_M_gain [some (.ref 64), some (.int x), some (.int m)] rfl rfl ?_
  iterate 3 (refine ze_go1 rfl ?_)
  refine ze_ca1 rfl ⟨rfl, rfl⟩ (ze_M_le (r_rootTest (d := 0) h) (by omega)) (fun v τ q => ?_)
  obtain ⟨hM, hx, q⟩ := q
  unfold zn_gain
  rcases q with ⟨rfl, e⟩ | ⟨rfl, q, e, F⟩
  · refine ze_brF rfl (by decide) ?_
    refine ze_go1 rfl ?_
    rw [e]
    exact ze_rt1 rfl trivial ⟨rfl, hM, hx⟩
  · refine ze_brT rfl (by decide) ?_
    rw [e]
    refine ze_go1 rfl ?_
    refine ze_go2 rfl rfl ?_
    iterate 2 (refine ze_go1 rfl ?_)
    rw [F.1]
    by_cases hg : q.2.1 < 0
    · refine ze_brF rfl (fun z => (zlc_ge.1 z) hg) ?_
      iterate 2 (refine ze_go1 rfl ?_)
      refine ze_rt1 rfl trivial ⟨?_, hM, hx⟩
      show some (Value.long (-2)) = some (Value.long (if q.2.1 < 0 then -2 else q.2.1))
      rw [if_pos hg]
    · refine ze_brT rfl (zlc_ge.2 hg) ?_
      refine ze_go1 rfl ?_
      refine ze_go2 rfl rfl ?_
      rw [F.1]
      refine ze_rt1 rfl trivial ⟨?_, hM, hx⟩
      show some (Value.long q.2.1) = some (Value.long (if q.2.1 < 0 then -2 else q.2.1))
      rw [if_neg hg]
theorem r_split {d : Nat} {σ : ze_S} {S : zSt} {x m : Int32} (h : zMR σ S) : zM (d + 8) m_M_split [.ref 64, .int x, .int m] σ (zOmL σ (zn_split S x m) S) := by
  refine zM_in t_M_split [some (.ref 64), some (.int x), some (.int m)] rfl rfl ?_
  iterate 3 (refine ze_go1 rfl ?_)
  refine ze_ca1 rfl ⟨rfl, rfl⟩ (ze_M_le (r_rootTest (d := 0) h) (by omega)) (fun v τ q => ?_)
  obtain ⟨hM, hx, q⟩ := q
  unfold zn_split
  rcases q with ⟨rfl, e⟩ | ⟨rfl, q, e, F⟩
  · refine ze_brT rfl (by decide) ?_
    refine ze_go1 rfl ?_
    rw [e]
    exact ze_rt1 rfl trivial ⟨rfl, hM, hx⟩
  · refine ze_brF rfl (by decide) ?_
    rw [e]
    refine ze_go1 rfl ?_
    refine ze_go2 rfl rfl ?_
    refine ze_go1 rfl ?_
    rw [F.2.1]
    exact ze_rt1 rfl trivial ⟨rfl, hM, hx⟩
theorem r_cut {d : Nat} {σ : ze_S} {S : zSt} {x m : Int32} (h : zMR σ S) : zM (d + 8) m_M_cut [.ref 64, .int x, .int m] σ (zOm σ (zn_cut S x m) S) := by
  refine zM_in t_M_cut [some (.ref 64), some (.int x), some (.int m)] rfl rfl ?_
  iterate 3 (refine ze_go1 rfl ?_)
  refine ze_ca1 rfl ⟨rfl, rfl⟩ (ze_M_le (r_rootTest (d := 0) h) (by omega)) (fun v τ q => ?_)
  obtain ⟨hM, hx, q⟩ := q
  unfold zn_cut
  rcases q with ⟨rfl, e⟩ | ⟨rfl, q, e, F⟩
  · refine ze_brT rfl (by decide) ?_
    refine ze_go1 rfl ?_
    rw [e]
    exact ze_rt1 rfl trivial ⟨rfl, hM, hx⟩
  · refine ze_brF rfl (by decide) ?_
    rw [e]
    refine ze_go1 rfl ?_
    refine ze_go2 rfl rfl ?_
    refine ze_go1 rfl ?_
    rw [F.2.2]
    exact ze_rt1 rfl trivial ⟨rfl, hM, hx⟩
set_option maxRecDepth 20000 in
theorem r_attribute {d : Nat} {σ : ze_S} {S : zSt} {x : Int32} (h : zMR σ S) : zM (d + 1) m_M_attribute [.ref 64, .int x] σ (zOm σ (zn_attr S x).1 (zn_attr S x).2) := by
  have hM := h
  obtain ⟨hd, hB, g3, g4, g5⟩ := h
  have h24 := hd.2.1
  refine zM_in t_M_attribute [some (.ref 64), some (.int x)] rfl rfl ?_
  have bad : ((¬ x = 0 ∧ (x < 2 ∨ 4 < x)) ∨ 0 < S.1.2.1) → zE d t_M_attribute (zOm σ (zn_attr S x).1 (zn_attr S x).2) (21, [some (.ref 64), some (.int x)], [], σ) := by
    intro hb
    refine ze_go1 rfl ?_
    unfold zn_attr
    rw [if_pos hb]
    exact ze_rt1 rfl trivial ⟨rfl, hM, zxp_rf _ _⟩
  have good : ¬ (¬ x = 0 ∧ (x < 2 ∨ 4 < x)) → zE d t_M_attribute (zOm σ (zn_attr S x).1 (zn_attr S x).2) (14, [some (.ref 64), some (.int x)], [], σ) := by
    intro hk
    refine ze_go1 rfl ?_
    refine ze_go2 rfl rfl ?_
    rw [g3]
    by_cases hc : 0 < S.1.2.1
    · refine ze_brF rfl (nI_nle hc (by omega)) ?_
      exact bad (Or.inr hc)
    · have hc0 : S.1.2.1 = 0 := by omega
      refine ze_brT rfl (by rw [hc0]; decide) ?_
      have hnb : ¬ ((¬ x = 0 ∧ (x < 2 ∨ 4 < x)) ∨ 0 < S.1.2.1) := fun q => q.elim hk hc
      refine ze_go1 rfl ?_
      refine ze_go2 rfl rfl ?_
      refine ze_go1 rfl ?_
      rw [hB.1]
      by_cases h4' : S.1.1 = 4
      · refine ze_brF rfl (by rw [h4']; decide) ?_
        refine ze_go1 rfl ?_
        unfold zn_attr
        rw [if_neg hnb, if_pos h4']
        exact ze_rt1 rfl trivial ⟨rfl, hM, zxp_rf _ _⟩
      · have hlt : S.1.1 < 4 := by have := hd.1; omega
        refine ze_brT rfl (fun z => h4' ((nI_eq (b := 4) (by omega) (by decide)).1 z)) ?_
        obtain ⟨k, ek, hk2⟩ := zk_attr hk
        have hk31 : k < 2 ^ 31 := by omega
        unfold zn_attr
        rw [if_neg hnb, if_neg h4', ek, zcl hk31]
        refine ze_go1 rfl ?_
        refine ze_go2 rfl rfl ?_
        refine ze_go1 rfl ?_
        refine ze_go2 rfl rfl ?_
        refine ze_go1 rfl ?_
        rw [hB.1]
        refine ze_go2 rfl ⟨rfl, vp_in_nI (N := 4) (n := S.1.1) (by omega) (by omega)⟩ ?_
        rw [nI_clamp (n := S.1.1) (by omega)]
        refine ze_go1 rfl ?_
        iterate 2 (refine ze_go2 rfl rfl ?_)
        iterate 2 (refine ze_go1 rfl ?_)
        refine ze_go2 rfl rfl ?_
        refine ze_go1 rfl ?_
        refine ze_go2 rfl rfl ?_
        refine ze_go1 rfl ?_
        rw [show (ze_ui σ 46 S.1.1 (nI k)).1 64 0 = nI S.1.1 by rw [zui_o _ _ _ _ (by decide)]; exact hB.1, zui, show nI S.1.1 + 1 = nI (S.1.1 + 1) from nI_1 _]
        have y1 : zy [46] [0] σ (ze_ui (ze_ui σ 46 S.1.1 (nI k)) 64 0 (nI (S.1.1 + 1))) := zy_tr (zy_ui (by simp) (by decide) _ _ _) (zy_uo (by simp) _ _)
        refine ze_go1 rfl ?_
        rw [nI_pred]
        refine ze_rt1 rfl trivial ⟨rfl, ⟨⟨?_, ?_, ?_, ?_, ?_⟩, ⟨zui _ _ _ _, fun a ha => ?_, fun i hi => ?_, fun i hi => ?_⟩, ?_, ?_, ?_⟩, zy46 y1 (by simp)⟩
        · show S.1.1 + 1 ≤ 4
          omega
        · exact h24
        · intro a ha
          show (if a = S.1.1 then k else S.1.2.2.1 a) = 0 ∨ (2 ≤ (if a = S.1.1 then k else S.1.2.2.1 a) ∧ (if a = S.1.1 then k else S.1.2.2.1 a) ≤ 4)
          have ha : a < S.1.1 + 1 := ha
          by_cases e : a = S.1.1
          · rw [if_pos e]; exact hk2
          · rw [if_neg e]; exact hd.2.2.1 a (by omega)
        · intro i hi
          have hi : i < S.1.2.1 := hi
          omega
        · intro i hi
          have hi : i < S.1.2.1 := hi
          omega
        · have ha : a < S.1.1 + 1 := ha
          show _ = nI (if a = S.1.1 then k else S.1.2.2.1 a)
          rw [zui_o _ _ _ _ (by decide)]
          by_cases e : a = S.1.1
          · rw [e, zui, if_pos rfl]
          · rw [zui_n _ _ _ _ e, if_neg e]; exact hB.2.1 a (by omega)
        · have hi : i < S.1.2.1 := hi
          omega
        · have hi : i < S.1.2.1 := hi
          omega
        · rw [y1.2 2 (by simp)]; exact g3
        · rw [(y1.1 63 (by simp) (by decide)).1]; exact g4
        · show (match S.2.1 with | none => (ze_ui (ze_ui σ 46 S.1.1 (nI k)) 64 0 (nI (S.1.1 + 1))).1 64 5 = 0 | some q => (ze_ui (ze_ui σ 46 S.1.1 (nI k)) 64 0 (nI (S.1.1 + 1))).1 64 5 = 1 ∧ 1 ≤ q.1 ∧ q.1 ≤ S.1.2.1 ∧ zTM _ (ze_ui (ze_ui σ 46 S.1.1 (nI k)) 64 0 (nI (S.1.1 + 1))) q.1 q.2)
          cases e : S.2.1 with
          | none =>
            rw [e] at g5
            show (ze_ui (ze_ui σ 46 S.1.1 (nI k)) 64 0 (nI (S.1.1 + 1))).1 64 5 = 0
            rw [y1.2 5 (by simp)]
            exact g5
          | some r =>
            rw [e] at g5
            have := g5.2.1
            have := g5.2.2.1
            omega
  refine ze_go1 rfl ?_
  refine ze_br1 rfl (fun c => good (fun q => q.1 c)) (fun c => ?_)
  iterate 2 (refine ze_go1 rfl ?_)
  refine ze_br1 rfl (fun c2 => bad (Or.inl ⟨c, Or.inl c2⟩)) (fun c2 => ?_)
  iterate 2 (refine ze_go1 rfl ?_)
  exact ze_br1 rfl (fun c3 => bad (Or.inl ⟨c, Or.inr c3⟩)) (fun c3 => good (fun q => q.2.elim c2 c3))
theorem zag_add2 {D : zD} {n t : Nat} {r : Nat → Int32} (hn : n ≤ D.2.1) : zag n (ztr D n) (ztr (zadd D t r) n) :=
  ⟨rfl, rfl, Nat.le_refl _, Nat.le_refl _, fun i hi => if_neg (by omega), fun i hi => by
    show (fun a => if i = D.2.1 then r a else D.2.2.2.2 i a) = _
    funext a
    exact if_neg (by omega)⟩
set_option maxRecDepth 20000 in
set_option maxHeartbeats 1000000 in
theorem r_add {e : Nat} {σ : ze_S} {S : zSt} {x a b c d : Int32} (h : zMR σ S) : zM (e + 3) m_M_add [.ref 64, .int x, .int a, .int b, .int c, .int d] σ (zOm σ (zn_add S x a b c d).1 (zn_add S x a b c d).2) := by
  have hM := h
  obtain ⟨hd, hB, g3, g4, g5⟩ := h
  have h24 := hd.2.1
  refine zM_in t_M_add [some (.ref 64), some (.int x), some (.int a), some (.int b), some (.int c), some (.int d)] rfl rfl ?_
  have bad : ((x < 0 ∨ 3 ≤ x) ∨ zfb S.1 (zr4 a b c d) = false) → zE (e + 2) t_M_add (zOm σ (zn_add S x a b c d).1 (zn_add S x a b c d).2) (22, [some (.ref 64), some (.int x), some (.int a), some (.int b), some (.int c), some (.int d)], [], σ) := by
    intro hb
    refine ze_go1 rfl ?_
    unfold zn_add
    rw [if_pos hb]
    exact ze_rt1 rfl trivial ⟨rfl, hM, zxp_rf _ _⟩
  refine ze_go1 rfl ?_
  refine ze_br1 rfl (fun c => bad (Or.inl (Or.inl c))) (fun hx0 => ?_)
  iterate 2 (refine ze_go1 rfl ?_)
  by_cases hx3 : 3 ≤ x
  · refine ze_brT rfl (Int32.lt_of_lt_of_le (by decide : (2 : Int32) < 3) hx3) ?_
    exact bad (Or.inl (Or.inr hx3))
  · obtain ⟨t, rfl, ht⟩ := zn_lt (n := 3) (by decide) hx0 hx3
    refine ze_brF rfl (show ¬ nI 2 < nI t from nI_nlt (by omega) (by decide)) ?_
    iterate 5 (refine ze_go1 rfl ?_)
    refine ze_ca1 rfl ⟨rfl, rfl⟩ (ze_M_le (r_allFit (e := 0) hd hB) (by omega)) (fun v τ q => ?_)
    obtain ⟨e0, q⟩ := q
    rw [e0]
    rcases q with ⟨rfl, hf⟩ | ⟨rfl, hf⟩
    rotate_left
    · refine ze_brF rfl (by decide) ?_
      exact bad (Or.inr (zfb_n.2 hf))
    · refine ze_brT rfl (by decide) ?_
      have hnb : ¬ ((nI t < 0 ∨ 3 ≤ nI t) ∨ zfb S.1 (zr4 a b c d) = false) := fun q => q.elim (fun q => q.elim hx0 hx3) (fun z => zfb_n.1 z hf)
      unfold zn_add
      rw [if_neg hnb]
      clear bad
      refine ze_go1 rfl ?_
      refine ze_go2 rfl rfl ?_
      refine ze_go1 rfl ?_
      rw [g3]
      by_cases hc : S.1.2.1 = 24
      · refine ze_brF rfl (by rw [hc]; decide) ?_
        refine ze_go1 rfl ?_
        rw [if_pos hc]
        exact ze_rt1 rfl trivial ⟨rfl, hM, zxp_rf _ _⟩
      · have hlt : S.1.2.1 < 24 := by omega
        refine ze_brT rfl (fun z => hc ((nI_eq (b := 24) (by omega) (by decide)).1 z)) ?_
        rw [if_neg hc, zcl (show t < 2 ^ 31 by omega)]
        -- the last steps
        have fin : ∀ τ, zy [47, 48] [] σ τ → τ.1 47 S.1.2.1 = nI t → (∀ i, i ≠ S.1.2.1 → τ.1 47 i = σ.1 47 i) → (∀ i, i < 4 → τ.1 48 (4 * S.1.2.1 + i) = zr4 a b c d i) → (∀ i, i < 4 * S.1.2.1 → τ.1 48 i = σ.1 48 i) → zE (e + 2) t_M_add (zOm σ (nI S.1.2.1) (zadd S.1 t (zr4 a b c d), S.2)) (102, [some (.ref 64), some (.int (nI t)), some (.int a), some (.int b), some (.int c), some (.int d)], [], τ) := by
          intro τ y1 k1 k2 k3 k4
          refine ze_go1 rfl ?_
          iterate 2 (refine ze_go2 rfl rfl ?_)
          iterate 2 (refine ze_go1 rfl ?_)
          refine ze_go2 rfl rfl ?_
          refine ze_go1 rfl ?_
          refine ze_go2 rfl rfl ?_
          refine ze_go1 rfl ?_
          rw [show τ.1 64 2 = nI S.1.2.1 by rw [y1.2 2 (by simp)]; exact g3, zui, show nI S.1.2.1 + 1 = nI (S.1.2.1 + 1) from nI_1 _]
          have y2 : zy [47, 48] [2] σ (ze_ui τ 64 2 (nI (S.1.2.1 + 1))) := zy_tr (zy_wk y1 (by simp) (by simp)) (zy_uo (by simp) _ _)
          refine ze_go1 rfl ?_
          rw [nI_pred]
          refine ze_rt1 rfl trivial ⟨rfl, ⟨zadd_ok hd ht hlt hf, ⟨?_, ?_, ?_, ?_⟩, zui _ _ _ _, ?_, ?_⟩, zy46 y2 (by simp)⟩
          · rw [y2.2 0 (by simp)]; exact hB.1
          · rw [(y2.1 46 (by simp) (by decide)).1]; exact hB.2.1
          · intro i hi
            have hi : i < S.1.2.1 + 1 := hi
            show _ = nI (if i = S.1.2.1 then t else S.1.2.2.2.1 i)
            rw [zui_o _ _ _ _ (by decide)]
            by_cases e : i = S.1.2.1
            · rw [if_pos e, e]; exact k1
            · rw [if_neg e, k2 i e]; exact hB.2.2.1 i (by omega)
          · intro i hi a' ha'
            have hi : i < S.1.2.1 + 1 := hi
            show _ = if i = S.1.2.1 then zr4 a b c d a' else S.1.2.2.2.2 i a'
            rw [zui_o _ _ _ _ (by decide)]
            by_cases e : i = S.1.2.1
            · rw [if_pos e, e]; exact k3 a' ha'
            · rw [if_neg e, k4 _ (by omega)]; exact hB.2.2.2 i (by omega) a' ha'
          · rw [(y2.1 63 (by simp) (by decide)).1]; exact g4
          · show (match S.2.1 with | none => (ze_ui τ 64 2 (nI (S.1.2.1 + 1))).1 64 5 = 0 | some q => (ze_ui τ 64 2 (nI (S.1.2.1 + 1))).1 64 5 = 1 ∧ 1 ≤ q.1 ∧ q.1 ≤ S.1.2.1 + 1 ∧ zTM (zadd S.1 t (zr4 a b c d)) (ze_ui τ 64 2 (nI (S.1.2.1 + 1))) q.1 q.2)
            cases es : S.2.1 with
            | none =>
              rw [es] at g5
              show (ze_ui τ 64 2 (nI (S.1.2.1 + 1))).1 64 5 = 0
              rw [y2.2 5 (by simp)]
              exact g5
            | some r =>
              rw [es] at g5
              obtain ⟨g5, g6, g7, g8⟩ := g5
              obtain ⟨u1, mk, P, u2, u3, u4, u5⟩ := zTM_z hd g7 g8 (y2.2 6 (by simp)) (y2.2 7 (by simp)) (fun q _ => zsmr_y y2 (by simp) q)
              exact ⟨by rw [y2.2 5 (by simp)]; exact g5, g6, Nat.le_succ_of_le g7, u1, mk, P, u2, u3, u4, zag_RM (zag_add2 g7) rfl (zz_w0 _) u5⟩
        have e4 : ∀ n, (4 : Int32) * nI n = nI (4 * n) := fun n => by rw [show (4 : Int32) = nI 4 from rfl, pk_mul]
        refine ze_go1 rfl ?_
        refine ze_go2 rfl rfl ?_
        refine ze_go1 rfl ?_
        refine ze_go2 rfl rfl ?_
        refine ze_go1 rfl ?_
        rw [g3]
        refine ze_go2 rfl ⟨rfl, vp_in_nI (N := 24) (n := S.1.2.1) (by omega) (by omega)⟩ ?_
        rw [nI_clamp (n := S.1.2.1) (by omega)]
        have w1 : (ze_ui σ 47 S.1.2.1 (nI t)).1 64 2 = nI S.1.2.1 := by rw [zui_o _ _ _ _ (by decide)]; exact g3
        have z1 : zy [47, 48] [] σ (ze_ui σ 47 S.1.2.1 (nI t)) := zy_ui (by simp) (by decide) _ _ _
        have z2 : (ze_ui σ 47 S.1.2.1 (nI t)).1 47 S.1.2.1 = nI t := zui _ _ _ _
        have z3 : ∀ i, i ≠ S.1.2.1 → (ze_ui σ 47 S.1.2.1 (nI t)).1 47 i = σ.1 47 i := fun i hi => zui_n _ _ _ _ hi
        have z4 : (ze_ui σ 47 S.1.2.1 (nI t)).1 48 = σ.1 48 := zui_o _ _ _ _ (by decide)
        generalize ze_ui σ 47 S.1.2.1 (nI t) = τ1 at w1 z1 z2 z3 z4
        have st : zE (e + 2) t_M_add (zOm σ (nI S.1.2.1) (zadd S.1 t (zr4 a b c d), S.2)) (46, [some (.ref 64), some (.int (nI t)), some (.int a), some (.int b), some (.int c), some (.int d)], [], τ1) := by
          refine ze_go1 rfl ?_
          refine ze_go2 rfl rfl ?_
          iterate 2 (refine ze_go1 rfl ?_)
          refine ze_go2 rfl rfl ?_
          iterate 2 (refine ze_go1 rfl ?_)
          rw [w1, e4]
          refine ze_go2 rfl ⟨rfl, vp_in_nI (N := 96) (n := 4 * S.1.2.1) (by omega) (by omega)⟩ ?_
          rw [nI_clamp (n := 4 * S.1.2.1) (by omega)]
          refine ze_go1 rfl ?_
          refine ze_go2 rfl rfl ?_
          iterate 2 (refine ze_go1 rfl ?_)
          refine ze_go2 rfl rfl ?_
          iterate 4 (refine ze_go1 rfl ?_)
          rw [zui_o _ _ _ _ (by decide), w1, e4, show nI (4 * S.1.2.1) + 1 = nI (4 * S.1.2.1 + 1) from nI_1 _]
          refine ze_go2 rfl ⟨rfl, vp_in_nI (N := 96) (n := 4 * S.1.2.1 + 1) (by omega) (by omega)⟩ ?_
          rw [nI_clamp (n := 4 * S.1.2.1 + 1) (by omega)]
          refine ze_go1 rfl ?_
          refine ze_go2 rfl rfl ?_
          iterate 2 (refine ze_go1 rfl ?_)
          refine ze_go2 rfl rfl ?_
          iterate 4 (refine ze_go1 rfl ?_)
          rw [zui_o _ _ _ _ (by decide), zui_o _ _ _ _ (by decide), w1, e4, show nI (4 * S.1.2.1) + 2 = nI (4 * S.1.2.1 + 2) from nI_add _ 2]
          refine ze_go2 rfl ⟨rfl, vp_in_nI (N := 96) (n := 4 * S.1.2.1 + 2) (by omega) (by omega)⟩ ?_
          rw [nI_clamp (n := 4 * S.1.2.1 + 2) (by omega)]
          refine ze_go1 rfl ?_
          refine ze_go2 rfl rfl ?_
          iterate 2 (refine ze_go1 rfl ?_)
          refine ze_go2 rfl rfl ?_
          iterate 4 (refine ze_go1 rfl ?_)
          rw [zui_o _ _ _ _ (by decide), zui_o _ _ _ _ (by decide), zui_o _ _ _ _ (by decide), w1, e4, show nI (4 * S.1.2.1) + 3 = nI (4 * S.1.2.1 + 3) from nI_add _ 3]
          refine ze_go2 rfl ⟨rfl, vp_in_nI (N := 96) (n := 4 * S.1.2.1 + 3) (by omega) (by omega)⟩ ?_
          rw [nI_clamp (n := 4 * S.1.2.1 + 3) (by omega)]
          refine fin _ (zy_tr z1 (zy_tr (zy_ui (by simp) (by decide) _ _ _) (zy_tr (zy_ui (by simp) (by decide) _ _ _) (zy_tr (zy_ui (by simp) (by decide) _ _ _) (zy_ui (by simp) (by decide) _ _ _))))) ?_ (fun i hi => ?_) (fun i hi => ?_) (fun i hi => ?_)
          · rw [zui_o _ _ _ _ (by decide), zui_o _ _ _ _ (by decide), zui_o _ _ _ _ (by decide), zui_o _ _ _ _ (by decide)]; exact z2
          · rw [zui_o _ _ _ _ (by decide), zui_o _ _ _ _ (by decide), zui_o _ _ _ _ (by decide), zui_o _ _ _ _ (by decide)]; exact z3 i hi
          · have hc : i = 0 ∨ i = 1 ∨ i = 2 ∨ i = 3 := by omega
            rcases hc with rfl | rfl | rfl | rfl
            · rw [zui_n _ _ _ _ (by omega), zui_n _ _ _ _ (by omega), zui_n _ _ _ _ (by omega), Nat.add_zero, zui]; rfl
            · rw [zui_n _ _ _ _ (by omega), zui_n _ _ _ _ (by omega), zui]; rfl
            · rw [zui_n _ _ _ _ (by omega), zui]; rfl
            · rw [zui]; rfl
          · rw [zui_n _ _ _ _ (by omega), zui_n _ _ _ _ (by omega), zui_n _ _ _ _ (by omega), zui_n _ _ _ _ (by omega), z4]
        exact st
