def zfit (D : zD) (r : Nat → Int32) : Prop := ∀ a, a < D.1 → -1 ≤ r a ∧ r a < nI (zlim (D.2.2.1 a))
theorem zlim_lt {D : zD} (hd : zdok D) {a : Nat} (ha : a < D.1) : 2 ≤ zlim (D.2.2.1 a) ∧ zlim (D.2.2.1 a) ≤ 1000 := by
  have := hd.2.2.1 a ha
  unfold zlim
  split <;> omega
theorem ztop {x : Int32} {n : Nat} (h1 : 1 ≤ n) (h2 : n < 2 ^ 31) : x ≤ nI n - 1 ↔ x < nI n := by
  have e : nI n - 1 = nI (n - 1) := pk_sub (b := 1) h1
  rw [e, Int32.le_iff_toInt_le, Int32.lt_iff_toInt_lt, nI_toInt (by omega), nI_toInt h2]
  omega
set_option maxRecDepth 20000 in
theorem e_fits {d : Nat} {σ : ze_S} {D : zD} {r : Nat → Int32} (hd : zdok D) (hB : zB σ D) (hr : ∀ a, a < 4 → σ.1 25 a = r a) :
    zM (d + 2) m_Cs_fits [.ref 28, .ref 25] σ (fun v τ => (v = some (.int 1) ∧ zfit D r ∨ v = some (.int 0) ∧ ¬ zfit D r) ∧ τ = σ) := by
  have h4 := hd.1
  refine zM_in t_Cs_fits [some (.ref 28), some (.ref 25), none, none] rfl rfl ?_
  have loop : ∀ m j (o : Option Value), j + m = D.1 → (∀ a, a < j → -1 ≤ r a ∧ r a < nI (zlim (D.2.2.1 a))) → zE (d + 1) t_Cs_fits (fun v τ => (v = some (.int 1) ∧ zfit D r ∨ v = some (.int 0) ∧ ¬ zfit D r) ∧ τ = σ) (2, [some (.ref 28), some (.ref 25), some (.int (nI j)), o], [], σ) := by
    intro m
    induction m with
    | zero =>
      intro j o hj hs
      iterate 2 (refine ze_go1 rfl ?_)
      refine ze_go2 rfl rfl ?_
      refine ze_brT rfl (by rw [hB.1]; exact nI_le (by omega) (by omega)) ?_
      refine ze_go1 rfl ?_
      exact ze_rt1 rfl (Or.inr rfl) ⟨Or.inl ⟨rfl, fun a ha => hs a (by omega)⟩, rfl⟩
    | succ m ih =>
      intro j o hj hs
      have hj1 : j < D.1 := by omega
      have hz := zlim_lt hd hj1
      have e1 : σ.1 25 (nI j).toNatClampNeg = r j := by rw [nI_clamp (by omega), hr j (by omega)]
      have tail : ∀ tp : Int32, (∀ x : Int32, x ≤ tp ↔ x < nI (zlim (D.2.2.1 j))) → zE (d + 1) t_Cs_fits (fun v τ => (v = some (.int 1) ∧ zfit D r ∨ v = some (.int 0) ∧ ¬ zfit D r) ∧ τ = σ) (32, [some (.ref 28), some (.ref 25), some (.int (nI j)), o], [.int tp], σ) := by
        intro tp htp
        iterate 3 (refine ze_go1 rfl ?_)
        refine ze_go2 rfl ⟨rfl, vp_in_nI (N := 4) (by omega) (by omega)⟩ ?_
        refine ze_go1 rfl ?_
        refine ze_br1 rfl (fun c => ?_) (fun c => ?_)
        · refine ze_go1 rfl ?_
          rw [e1] at c
          exact ze_rt1 rfl (Or.inl rfl) ⟨Or.inr ⟨rfl, fun q => Int32.not_le.mpr c (q j hj1).1⟩, rfl⟩
        · rw [e1] at c
          iterate 2 (refine ze_go1 rfl ?_)
          refine ze_go2 rfl ⟨rfl, vp_in_nI (N := 4) (by omega) (by omega)⟩ ?_
          refine ze_go1 rfl ?_
          refine ze_br1 rfl (fun c2 => ?_) (fun c2 => ?_)
          · rw [e1] at c2
            have h := ih (j + 1) (some (.int tp)) (by omega) (fun a ha => by
              by_cases q : a = j
              · subst q
                exact ⟨Int32.not_lt.mp c, (htp _).mp c2⟩
              · exact hs a (by omega))
            rw [← show nI j + 1 = nI (j + 1) from nI_1 _] at h
            iterate 2 (refine ze_go1 rfl ?_)
            exact h
          · rw [e1] at c2
            refine ze_go1 rfl ?_
            exact ze_rt1 rfl (Or.inl rfl) ⟨Or.inr ⟨rfl, fun q => c2 ((htp _).mpr (q j hj1).2)⟩, rfl⟩
      iterate 2 (refine ze_go1 rfl ?_)
      refine ze_go2 rfl rfl ?_
      refine ze_brF rfl (by rw [hB.1]; exact nI_ge (by omega) (by omega)) ?_
      iterate 2 (refine ze_go1 rfl ?_)
      refine ze_ca1 rfl ⟨rfl, rfl⟩ (e_isCont hd hB hj1) (fun v τ h => ?_)
      obtain ⟨rfl, rfl⟩ := h
      by_cases c : D.2.2.1 j = 0
      · refine ze_brF rfl (by rw [if_pos c]; decide) ?_
        iterate 2 (refine ze_go1 rfl ?_)
        refine tail 999 (fun x => ?_)
        rw [show zlim (D.2.2.1 j) = 1000 from if_pos c]
        exact ztop (n := 1000) (by decide) (by decide)
      · refine ze_brT rfl (by rw [if_neg c]) ?_
        refine ze_go1 rfl ?_
        refine ze_go2 rfl rfl ?_
        refine ze_go1 rfl ?_
        refine ze_go2 rfl ⟨rfl, vp_in_nI (N := 4) (by omega) (by omega)⟩ ?_
        iterate 2 (refine ze_go1 rfl ?_)
        refine tail _ (fun x => ?_)
        rw [nI_clamp (by omega), hB.2.2.1 j hj1, show zlim (D.2.2.1 j) = D.2.2.1 j from if_neg c]
        have := hd.2.2.1 j hj1
        exact ztop (by omega) (by omega)
  iterate 2 (refine ze_go1 rfl ?_)
  exact loop D.1 0 none (by omega) (fun a ha => absurd ha (Nat.not_lt_zero _))
def zatt (D : zD) (k : Nat) : zD := (D.1 + 1, D.2.1, (fun a => if a = D.1 then k else D.2.2.1 a), D.2.2.2)
def zadd (D : zD) (t : Nat) (r : Nat → Int32) : zD := (D.1, D.2.1 + 1, D.2.2.1, (fun i => if i = D.2.1 then t else D.2.2.2.1 i), fun i a => if i = D.2.1 then r a else D.2.2.2.2 i a)
theorem e_putAttribute {d : Nat} {σ : ze_S} {D : zD} {k : Nat} (hd : zdok D) (hB : zB σ D) (h3 : D.1 < 4) :
    zM (d + 1) m_Cs_putAttribute [.ref 28, .int (nI k)] σ (fun v τ => v = some (.int (nI D.1)) ∧ zB τ (zatt D k) ∧ zx [0, 28] σ τ) := by
  refine zM_in t_Cs_putAttribute [some (.ref 28), some (.int (nI k))] rfl rfl ?_
  refine ze_go1 rfl ?_
  refine ze_go2 rfl rfl ?_
  refine ze_go1 rfl ?_
  refine ze_go2 rfl rfl ?_
  refine ze_go1 rfl ?_
  refine ze_go2 rfl ⟨rfl, by rw [hB.1]; exact vp_in_nI (N := 4) (by omega) (by omega)⟩ ?_
  refine ze_go1 rfl ?_
  iterate 2 (refine ze_go2 rfl rfl ?_)
  iterate 2 (refine ze_go1 rfl ?_)
  refine ze_go2 rfl rfl ?_
  refine ze_go1 rfl ?_
  refine ze_go2 rfl rfl ?_
  iterate 2 (refine ze_go1 rfl ?_)
  have e0 : (nI D.1).toNatClampNeg = D.1 := nI_clamp (by omega)
  have e28 : (ze_ui σ 0 (σ.1 28 3).toNatClampNeg (nI k)).1 28 = σ.1 28 := zui_o _ _ _ _ (by decide)
  refine ze_rt1 rfl trivial ⟨?_, ?_, ?_⟩
  · rw [zui, e28, hB.1, show nI D.1 + 1 = nI (D.1 + 1) from nI_1 _, nI_pred]
  · refine ⟨?_, ?_, ?_, ?_, ?_⟩
    · rw [zui, e28, hB.1]; exact nI_1 _
    · rw [zui_n _ _ _ _ (by decide), e28]; exact hB.2.1
    · intro a ha
      rw [zui_o _ _ _ _ (by decide), hB.1, e0]
      by_cases q : a = D.1
      · rw [q, zui]
        show _ = nI (if D.1 = D.1 then k else _)
        rw [if_pos rfl]
      · rw [zui_n _ _ _ _ q]
        show _ = nI (if a = D.1 then k else _)
        have ha2 : a < D.1 + 1 := ha
        rw [if_neg q]
        exact hB.2.2.1 a (by omega)
    · intro i hi
      rw [zui_o _ _ _ _ (by decide), zui_o _ _ _ _ (by decide)]
      exact hB.2.2.2.1 i hi
    · intro i hi a ha
      rw [zui_o _ _ _ _ (by decide), zui_o _ _ _ _ (by decide)]
      exact hB.2.2.2.2 i hi a ha
  · exact zx_tr (zx_ui (by decide) _ _ _) (zx_ui (by decide) _ _ _)
set_option maxRecDepth 20000 in
theorem e_putCase {d : Nat} {σ : ze_S} {D : zD} {t : Nat} {r : Nat → Int32} (hd : zdok D) (hB : zB σ D) (h3 : D.2.1 < 24) (hr : ∀ a, a < 4 → σ.1 25 a = r a) :
    zM (d + 1) m_Cs_putCase [.ref 28, .int (nI t), .ref 25] σ (fun v τ => v = some (.int (nI D.2.1)) ∧ zB τ (zadd D t r) ∧ zx [1, 2, 28] σ τ) := by
  have e4 : nI D.2.1 * 4 = nI (4 * D.2.1) := by have := zi4 D.2.1 0; rwa [show nI 0 = 0 from rfl, Int32.add_zero] at this
  have e0 : (nI D.2.1).toNatClampNeg = D.2.1 := nI_clamp (by omega)
  have e44 : (nI (4 * D.2.1)).toNatClampNeg = 4 * D.2.1 := nI_clamp (by omega)
  refine zM_in t_Cs_putCase [some (.ref 28), some (.int (nI t)), some (.ref 25)] rfl rfl ?_
  refine ze_go1 rfl ?_
  refine ze_go2 rfl rfl ?_
  refine ze_go1 rfl ?_
  refine ze_go2 rfl rfl ?_
  refine ze_go1 rfl ?_
  refine ze_go2 rfl ⟨rfl, by rw [hB.2.1]; exact vp_in_nI (N := 24) (by omega) (by omega)⟩ ?_
  have e28 : (ze_ui σ 1 (σ.1 28 4).toNatClampNeg (nI t)).1 28 = σ.1 28 := zui_o _ _ _ _ (by decide)
  iterate 3 (refine ze_go1 rfl ?_)
  refine ze_go2 rfl rfl ?_
  refine ze_go1 rfl ?_
  refine ze_go2 rfl rfl ?_
  iterate 3 (refine ze_go1 rfl ?_)
  refine ze_go2 rfl ⟨by decide, rfl, rfl, by decide, by rw [e28, hB.2.1, e4]; exact nI_pos (by omega), by decide, by decide, by rw [e28, hB.2.1, e4, e44]; show 4 * D.2.1 + 4 ≤ 96; omega⟩ ?_
  rw [e28, hB.2.1, e4, e44]
  refine ze_go1 rfl ?_
  iterate 2 (refine ze_go2 rfl rfl ?_)
  iterate 2 (refine ze_go1 rfl ?_)
  refine ze_go2 rfl rfl ?_
  refine ze_go1 rfl ?_
  refine ze_go2 rfl rfl ?_
  iterate 2 (refine ze_go1 rfl ?_)
  refine ze_rt1 rfl trivial ⟨?_, ?_, ?_⟩
  · rw [zui, zuf_o _ _ _ (by decide), zui_o _ _ _ _ (by decide), hB.2.1, show nI D.2.1 + 1 = nI (D.2.1 + 1) from nI_1 _, nI_pred]
  · refine ⟨?_, ?_, ?_, ?_, ?_⟩
    · rw [zui_n _ _ _ _ (by decide), zuf_o _ _ _ (by decide), zui_o _ _ _ _ (by decide)]; exact hB.1
    · rw [zui, zuf_o _ _ _ (by decide), zui_o _ _ _ _ (by decide), hB.2.1]; exact nI_1 _
    · intro a ha
      rw [zui_o _ _ _ _ (by decide), zuf_o _ _ _ (by decide), zui_o _ _ _ _ (by decide)]
      exact hB.2.2.1 a ha
    · intro i hi
      have hi2 : i < D.2.1 + 1 := hi
      rw [zui_o _ _ _ _ (by decide), zuf_o _ _ _ (by decide), e0]
      show _ = nI (if i = D.2.1 then t else D.2.2.2.1 i)
      by_cases q : i = D.2.1
      · rw [q, zui, if_pos rfl]
      · rw [zui_n _ _ _ _ q, if_neg q]
        exact hB.2.2.2.1 i (by omega)
    · intro i hi a ha
      have hi2 : i < D.2.1 + 1 := hi
      rw [zui_o _ _ _ _ (by decide), zuf]
      show _ = if i = D.2.1 then r a else D.2.2.2.2 i a
      by_cases q : i = D.2.1
      · rw [q, if_pos rfl, pk_cpy_in (by omega) (by show 4 * D.2.1 + a < 4 * D.2.1 + 4; omega), zui_o _ _ _ _ (by decide), ← hr a ha]
        rw [sb_cl0, show 0 + (4 * D.2.1 + a - 4 * D.2.1) = a by omega]
      · rw [if_neg q, pk_cpy_out (Or.inl (by omega)), zui_o _ _ _ _ (by decide)]
        exact hB.2.2.2.2 i (by omega) a ha
  · exact zx_tr (zx_tr (zx_ui (by decide) _ _ _) (zx_uf (by decide) _ _)) (zx_ui (by decide) _ _ _)
theorem e_copyValues {d : Nat} {σ : ze_S} {D : zD} {i : Nat} (hd : zdok D) (hB : zB σ D) (hi : i < D.2.1) :
    zM (d + 1) m_Cs_copyValues [.ref 28, .int (nI i), .ref 25] σ (fun v τ => v = none ∧ zx [25] σ τ ∧ ∀ a, a < 4 → τ.1 25 a = D.2.2.2.2 i a) := by
  have h24 := hd.2.1
  have e4 : nI i * 4 = nI (4 * i) := by have := zi4 i 0; rwa [show nI 0 = 0 from rfl, Int32.add_zero] at this
  have e44 : (nI (4 * i)).toNatClampNeg = 4 * i := nI_clamp (by omega)
  refine zM_in t_Cs_copyValues [some (.ref 28), some (.int (nI i)), some (.ref 25)] rfl rfl ?_
  refine ze_go1 rfl ?_
  refine ze_go2 rfl rfl ?_
  iterate 6 (refine ze_go1 rfl ?_)
  refine ze_go2 rfl ⟨by decide, rfl, rfl, by rw [e4]; exact nI_pos (by omega), by decide, by decide, by rw [e4, e44]; show 4 * i + 4 ≤ 96; omega, by decide⟩ ?_
  refine ze_rt1 rfl trivial ⟨rfl, zx_uf (by decide) _ _, fun a ha => ?_⟩
  rw [zuf, sb_cl0, show (4 : Int32).toNatClampNeg = 4 from rfl, pk_cpy_in (Nat.zero_le _) (by omega), e4, e44]
  exact hB.2.2.2.2 i hi a ha
