theorem zl46 {l : List Nat} {σ τ : ze_S} (h : zx l σ τ) (hl : ∀ k, k ∈ l → k < 46) : zxp (fun k => k < 46) σ τ := zxp_of h hl
theorem zadd_ok {D : zD} (hd : zdok D) {t : Nat} {r : Nat → Int32} (ht : t < 3) (hn : D.2.1 < 24) (hf : zfit D r) : zdok (zadd D t r) := by
  refine ⟨hd.1, hn, hd.2.2.1, ?_, ?_⟩
  · intro i hi
    have hi : i < D.2.1 + 1 := hi
    show (if i = D.2.1 then t else D.2.2.2.1 i) < 3
    by_cases e : i = D.2.1
    · rw [if_pos e]; exact ht
    · rw [if_neg e]; exact hd.2.2.2.1 i (by omega)
  · intro i hi a ha
    have hi : i < D.2.1 + 1 := hi
    have ha : a < D.1 := ha
    show (if i = D.2.1 then r a else D.2.2.2.2 i a) = -1 ∨ ∃ v, (if i = D.2.1 then r a else D.2.2.2.2 i a) = nI v ∧ v < zlim (D.2.2.1 a)
    by_cases e : i = D.2.1
    · rw [if_pos e]
      obtain ⟨f1, f2⟩ := hf a ha
      have hl := zlim_lt hd ha
      by_cases h0 : r a < 0
      · left
        have q1 : (-1 : Int32).toInt ≤ (r a).toInt := Int32.le_iff_toInt_le.1 f1
        have q2 : (r a).toInt < (0 : Int32).toInt := Int32.lt_iff_toInt_lt.1 h0
        have e1 : (-1 : Int32).toInt = -1 := by decide
        have e2 : (0 : Int32).toInt = 0 := by decide
        apply Int32.toInt_inj.1
        omega
      · right
        obtain ⟨v, hv, ev⟩ := nI_of h0
        refine ⟨v, ev, ?_⟩
        rw [ev, nI_ltI hv (by omega)] at f2
        exact f2
    · rw [if_neg e]; exact hd.2.2.2.2 i (by omega) a ha
theorem e_C_add {e : Nat} {σ : ze_S} {S : zSt} {x a b c d : Int32} (h : zCR σ S) : zM (e + 3) m_C_add [.ref 27, .int x, .int a, .int b, .int c, .int d] σ (zOut σ (zn_add S x a b c d).1 (zn_add S x a b c d).2) := by
  refine zM_in t_C_add [some (.ref 27), some (.int x), some (.int a), some (.int b), some (.int c), some (.int d)] rfl rfl ?_
  iterate 5 (refine ze_go1 rfl ?_)
  refine ze_ca1 rfl ⟨rfl, rfl⟩ (ze_M_le (e_C_ask (e := 0)) (by omega)) (fun v τ q => ?_)
  obtain ⟨rfl, x1, r1⟩ := q
  have x1' := zl46 x1 (by simp)
  have hC := zCR_x h (zxp_of (S := fun k => k = 25) x1 (by simp)) (fun k hk => Or.inr (Or.inr (Or.inl hk)))
  obtain ⟨hd, hB, h3, h4⟩ := hC
  have h24 := hd.2.1
  have bad : ((x < 0 ∨ 3 ≤ x) ∨ zfb S.1 (zr4 a b c d) = false) → zE (e + 2) t_C_add (zOut σ (zn_add S x a b c d).1 (zn_add S x a b c d).2) (31, [some (.ref 27), some (.int x), some (.int a), some (.int b), some (.int c), some (.int d)], [], τ) := by
    intro hb
    refine ze_go1 rfl ?_
    refine ze_rt1 rfl trivial ?_
    unfold zn_add
    rw [if_pos hb]
    exact ⟨rfl, ⟨hd, hB, h3, h4⟩, x1'⟩
  refine ze_go1 rfl ?_
  refine ze_ca1 rfl rfl (ze_M_le (e_isClass (d := 0)) (by omega)) (fun v τ' q => ?_)
  obtain ⟨rfl, rfl⟩ := q
  by_cases hx : x < 0 ∨ 3 ≤ x
  · refine ze_brT rfl (if_neg (fun q => hx.elim q.1 q.2)) ?_
    exact bad (Or.inl hx)
  · have hx0 : ¬ x < 0 := fun q => hx (Or.inl q)
    have hx3 : ¬ 3 ≤ x := fun q => hx (Or.inr q)
    refine ze_brF rfl (by rw [if_pos ⟨hx0, hx3⟩]; decide) ?_
    refine ze_go1 rfl ?_
    refine ze_go2 rfl rfl ?_
    refine ze_go1 rfl ?_
    refine ze_go2 rfl rfl ?_
    refine ze_ca1 rfl ⟨rfl, rfl⟩ (ze_M_le (e_fits (d := 0) hd hB r1) (by omega)) (fun v τ' q => ?_)
    obtain ⟨q, rfl⟩ := q
    rcases q with ⟨rfl, hf⟩ | ⟨rfl, hf⟩
    · refine ze_brT rfl (by decide) ?_
      have hnb : ¬ ((x < 0 ∨ 3 ≤ x) ∨ zfb S.1 (zr4 a b c d) = false) := fun q => q.elim hx (fun z => zfb_n.1 z hf)
      refine ze_go1 rfl ?_
      iterate 2 (refine ze_go2 rfl rfl ?_)
      refine ze_go1 rfl ?_
      rw [hB.2.1]
      by_cases hc : S.1.2.1 = 24
      · refine ze_brF rfl (by rw [hc]; decide) ?_
        refine ze_go1 rfl ?_
        refine ze_rt1 rfl trivial ?_
        unfold zn_add
        rw [if_neg hnb, if_pos hc]
        exact ⟨rfl, ⟨hd, hB, h3, h4⟩, x1'⟩
      · have hlt : S.1.2.1 < 24 := by omega
        refine ze_brT rfl (nI_lt hlt (by decide)) ?_
        refine ze_go1 rfl ?_
        refine ze_go2 rfl rfl ?_
        iterate 2 (refine ze_go1 rfl ?_)
        refine ze_go2 rfl rfl ?_
        obtain ⟨t, et, ht⟩ := zn_lt (n := 3) (by decide) hx0 hx3
        unfold zn_add
        rw [if_neg hnb, if_neg hc, et, zcl (by omega)]
        refine ze_ca1 rfl ⟨rfl, rfl⟩ (ze_M_le (e_putCase (d := 0) (t := t) hd hB hlt r1) (by omega)) (fun v τ2 q => ?_)
        obtain ⟨rfl, q1, q2⟩ := q
        refine ze_rt1 rfl trivial ⟨rfl, ⟨zadd_ok hd ht hlt hf, q1, ?_, ?_⟩, zxp_tr x1' (zl46 q2 (by simp))⟩
        · rw [(q2 26 (by simp)).1]; exact h3
        · show (match S.2.1 with | none => τ2.1 29 10 = nI 0 | some q => 1 ≤ q.1 ∧ q.1 ≤ S.1.2.1 + 1 ∧ zTC (zadd S.1 t (zr4 a b c d)) τ2 q.1 q.2)
          cases es : S.2.1 with
          | none =>
            rw [es] at h4
            show τ2.1 29 10 = nI 0
            rw [(q2 29 (by simp)).1]
            exact h4
          | some r =>
            rw [es] at h4
            refine ⟨h4.1, Nat.le_succ_of_le h4.2.1, zag_TC (zag_add h4.2.1) ?_⟩
            obtain ⟨u1, ⟨P, u2⟩, u3, u4⟩ := h4.2.2
            refine ⟨by rw [(q2 29 (by simp)).1]; exact u1, ⟨P, zRC_x hd u2 q2 (by simp)⟩, ?_, ?_⟩
            · rw [zpre_eq (q2 21 (by simp)).1, (q2 29 (by simp)).1]; exact u3
            · rw [zpre_eq (q2 21 (by simp)).1]
              unfold zNb at u4 ⊢
              rw [(q2 22 (by simp)).1, (q2 23 (by simp)).1]
              exact u4
    · refine ze_brF rfl (by decide) ?_
      exact bad (Or.inr (zfb_n.2 hf))
theorem zTC_len {D : zD} {σ : ze_S} {n : Nat} {T : zTr} (h : zTC D σ n T) : σ.1 29 10 = nI (zpp D 3 [] T).length := by
  obtain ⟨-, ⟨P, h2⟩, h3, -⟩ := h
  rw [h3, ← zpre_map h2, List.length_map]
theorem zTC_pos {D : zD} {σ : ze_S} {n : Nat} {T : zTr} (hd : zdok D) (h : zTC D σ n T) : ¬ σ.1 29 10 = 0 := by
  obtain ⟨-, ⟨P, h2⟩, h3, -⟩ := h
  have h85 : zN 3 = 85 := rfl
  have := zpre_len hd h2
  rw [h3]
  exact nI_ne0 (by omega) (by omega)
theorem e_C_grow {d : Nat} {σ : ze_S} {S : zSt} {x : Int32} (h : zCR σ S) : zM (d + 10) m_C_grow [.ref 27, .int x] σ (zOut σ (zn_grow S x).1 (zn_grow S x).2) := by
  obtain ⟨hd, hB, h3, h4⟩ := h
  have h24 := hd.2.1
  refine zM_in t_C_grow [some (.ref 27), some (.int x)] rfl rfl ?_
  refine ze_go1 rfl ?_
  refine ze_ca1 rfl rfl (ze_M_le (e_isMinimum (d := 0)) (by omega)) (fun v τ' q => ?_)
  obtain ⟨rfl, rfl⟩ := q
  by_cases hx : x < 1 ∨ 5 < x
  · refine ze_brF rfl (by rw [if_neg (fun q => hx.elim q.1 q.2)]; decide) ?_
    refine ze_go1 rfl ?_
    refine ze_rt1 rfl trivial ?_
    unfold zn_grow
    rw [if_pos hx]
    exact ⟨rfl, ⟨hd, hB, h3, h4⟩, zxp_rf _ _⟩
  · have h1 : ¬ x < 1 := fun q => hx (Or.inl q)
    have h5 : ¬ 5 < x := fun q => hx (Or.inr q)
    refine ze_brT rfl (by rw [if_pos ⟨h1, h5⟩]; decide) ?_
    refine ze_go1 rfl ?_
    iterate 2 (refine ze_go2 rfl rfl ?_)
    rw [hB.2.1]
    by_cases hc : S.1.2.1 = 0
    · refine ze_brF rfl (by rw [hc]; decide) ?_
      refine ze_go1 rfl ?_
      refine ze_rt1 rfl trivial ?_
      unfold zn_grow
      rw [if_neg hx, if_pos hc]
      exact ⟨rfl, ⟨hd, hB, h3, h4⟩, zxp_rf _ _⟩
    · refine ze_brT rfl (nI_ne0 (by omega) (by omega)) ?_
      obtain ⟨m, em, hm⟩ := zn_le (n := 5) (by decide) (zn_n0 h1) h5
      have hm1 : 1 ≤ m := by
        subst em
        exact Nat.le_of_not_lt (fun q => h1 (nI_lt q (by decide)))
      unfold zn_grow
      rw [if_neg hx, if_neg hc, em, zcl (by omega)]
      refine ze_go1 rfl ?_
      refine ze_go2 rfl rfl ?_
      refine ze_go1 rfl ?_
      refine ze_ca1 rfl ⟨rfl, rfl⟩ (ze_M_le (e_plant (d := 0) hd hB hm1 hm) (by omega)) (fun v τ q => ?_)
      obtain ⟨rfl, q1, q2⟩ := q
      refine ze_go1 rfl ?_
      iterate 2 (refine ze_go2 rfl rfl ?_)
      rw [zTC_len q2]
      refine ze_rt1 rfl trivial ⟨rfl, ⟨hd, zB_eq hB (q1 0 (by unfold zVS; omega)).1 (q1 1 (by unfold zVS; omega)).1 (q1 2 (by unfold zVS; omega)).1 (q1 28 (by unfold zVS; omega)).1, ?_, by show 1 ≤ S.1.2.1; omega, Nat.le_refl _, q2⟩, zxp_wk q1 (fun k hk => by unfold zVS at hk; omega)⟩
      rw [(q1 26 (by unfold zVS; omega)).1]
      exact h3
theorem e_C_prune {d : Nat} {σ : ze_S} {S : zSt} {x : Int32} (h : zCR σ S) : zM (d + 11) m_C_prune [.ref 27, .int x] σ (zOut σ (zn_prune S x).1 (zn_prune S x).2) := by
  obtain ⟨hd, hB, h3, h4⟩ := h
  have h24 := hd.2.1
  refine zM_in t_C_prune [some (.ref 27), some (.int x)] rfl rfl ?_
  have bad : (x < 0 ∨ 2000 < x) → zE (d + 10) t_C_prune (zOut σ (zn_prune S x).1 (zn_prune S x).2) (11, [some (.ref 27), some (.int x)], [], σ) := by
    intro hb
    refine ze_go1 rfl ?_
    refine ze_rt1 rfl trivial ?_
    unfold zn_prune
    rw [if_pos hb]
    exact ⟨rfl, ⟨hd, hB, h3, h4⟩, zxp_rf _ _⟩
  refine ze_go1 rfl ?_
  refine ze_br1 rfl (fun c => bad (Or.inl c)) (fun c => ?_)
  iterate 2 (refine ze_go1 rfl ?_)
  by_cases c2 : 2000 < x
  · refine ze_brF rfl (fun q => Int32.not_lt.2 q c2) ?_
    exact bad (Or.inr c2)
  · refine ze_brT rfl (Int32.not_lt.1 c2) ?_
    have hx : ¬ (x < 0 ∨ 2000 < x) := fun q => q.elim c c2
    refine ze_go1 rfl ?_
    iterate 2 (refine ze_go2 rfl rfl ?_)
    obtain ⟨m, em, hm⟩ := zn_le (n := 2000) (by decide) c c2
    cases es : S.2.1 with
    | none =>
      rw [es] at h4
      refine ze_brF rfl (by rw [h4]; decide) ?_
      refine ze_go1 rfl ?_
      refine ze_rt1 rfl trivial ?_
      unfold zn_prune
      rw [if_neg hx, es]
      exact ⟨rfl, ⟨hd, hB, h3, by rw [es]; exact h4⟩, zxp_rf _ _⟩
    | some r =>
      rw [es] at h4
      refine ze_brT rfl (zTC_pos hd h4.2.2) ?_
      unfold zn_prune
      rw [if_neg hx, es, em]
      show zE _ _ (zOut σ (nI (zpp S.1 3 [] (zpn S.1 (nI m).toNatClampNeg 3 (zw0 r.1) r.2)).length) (S.1, some (r.1, zpn S.1 (nI m).toNatClampNeg 3 (zw0 r.1) r.2), S.2.2)) _
      rw [zcl (show m < 2 ^ 31 by omega)]
      refine ze_go1 rfl ?_
      refine ze_go2 rfl rfl ?_
      refine ze_go1 rfl ?_
      refine ze_ca1 rfl ⟨rfl, rfl⟩ (ze_M_le (e_pruneAll (d := 0) hd hB h4.2.1 h4.2.2 hm) (by omega)) (fun v τ q => ?_)
      obtain ⟨rfl, q1, q2⟩ := q
      refine ze_go1 rfl ?_
      iterate 2 (refine ze_go2 rfl rfl ?_)
      rw [zTC_len q2]
      refine ze_rt1 rfl trivial ⟨rfl, ⟨hd, zB_eq hB (q1 0 (by unfold zVS; omega)).1 (q1 1 (by unfold zVS; omega)).1 (q1 2 (by unfold zVS; omega)).1 (q1 28 (by unfold zVS; omega)).1, ?_, h4.1, h4.2.1, q2⟩, zxp_wk q1 (fun k hk => by unfold zVS at hk; omega)⟩
      rw [(q1 26 (by unfold zVS; omega)).1]
      exact h3
