def zcat (g : Nat → List Nat) : Nat → List Nat
  | 0 => []
  | j + 1 => zcat g j ++ g j
theorem zcat_in {g : Nat → List Nat} {x : Nat} : ∀ {n : Nat}, x ∈ zcat g n → ∃ b, b < n ∧ x ∈ g b
  | 0, h => by cases h
  | n + 1, h => by
    rcases List.mem_append.mp h with h | h
    · obtain ⟨b, hb, hx⟩ := zcat_in h
      exact ⟨b, Nat.lt_succ_of_lt hb, hx⟩
    · exact ⟨n, Nat.lt_succ_self _, h⟩
theorem zcat_len {g : Nat → List Nat} {c : Nat} : ∀ {n : Nat}, (∀ b, b < n → (g b).length ≤ c) → (zcat g n).length ≤ n * c
  | 0, _ => by simp [zcat]
  | n + 1, h => by
    have ih := zcat_len (n := n) (c := c) (fun b hb => h b (by omega))
    have h2 := h n (by omega)
    show (zcat g n ++ g n).length ≤ _
    rw [List.length_append, Nat.succ_mul]
    omega
theorem zcat_eq {g h : Nat → List Nat} : ∀ {n : Nat}, (∀ b, b < n → g b = h b) → zcat g n = zcat h n
  | 0, _ => rfl
  | n + 1, e => by
    show zcat g n ++ g n = zcat h n ++ h n
    rw [zcat_eq (n := n) (fun b hb => e b (by omega)), e n (by omega)]
/-- the places of a tree in their order -/
def zpre (D : zD) (σ : ze_S) : Nat → Nat → zTr → List Nat
  | 0, pl, _ => [pl]
  | f + 1, pl, T => pl :: (match T.1 [] with
    | none => []
    | some q => zcat (fun b => zpre D σ f (zch σ pl b) (zsub T b)) (zm_nb (D.2.2.1 q.1)))
theorem zpre_P {D : zD} {σ : ze_S} {P : Nat → List Nat} (hd : zdok D) : ∀ {f : Nat} {w : Nat → Nat} {pl : Nat} {p : List Nat} {T : zTr}, zRC D σ P f w pl p T → ∀ x, x ∈ zpre D σ f pl T → p <+: P x ∧ x < 85
  | 0, w, pl, p, T, h, x, hx => by
    have e := List.mem_singleton.mp hx
    subst e
    rw [h.1.2.1]
    exact ⟨List.prefix_rfl, h.1.1⟩
  | f + 1, w, pl, p, T, h, x, hx => by
    rcases List.mem_cons.mp hx with e | hx
    · subst e
      rw [h.1.2.1]
      exact ⟨List.prefix_rfl, h.1.1⟩
    · rcases h.2 with ⟨e, -⟩ | ⟨a, t, e, -, -, -, -, -, -, c8⟩
      · rw [e] at hx; cases hx
      · rw [e] at hx
        obtain ⟨b, hb, hx⟩ := zcat_in hx
        have := zpre_P hd (c8 b hb).2 x hx
        exact ⟨(List.prefix_append p [b]).trans this.1, this.2⟩
theorem zpre_len {D : zD} {σ : ze_S} {P : Nat → List Nat} (hd : zdok D) : ∀ {f : Nat} {w : Nat → Nat} {pl : Nat} {p : List Nat} {T : zTr}, zRC D σ P f w pl p T → (zpre D σ f pl T).length ≤ zN f ∧ 1 ≤ (zpre D σ f pl T).length
  | 0, w, pl, p, T, h => ⟨Nat.le_refl _, Nat.le_refl _⟩
  | f + 1, w, pl, p, T, h => by
    have hN : zN (f + 1) = 1 + 4 * zN f := rfl
    rcases h.2 with ⟨e, -⟩ | ⟨a, t, e, ha, -, -, -, -, -, c8⟩
    · unfold zpre
      rw [e]
      simp
      omega
    · unfold zpre
      rw [e]
      have := zcat_len (g := fun b => zpre D σ f (zch σ pl b) (zsub T b)) (n := zm_nb (D.2.2.1 a)) (c := zN f) (fun b hb => (zpre_len hd (c8 b hb).2).1)
      obtain ⟨-, hn⟩ := znb4 hd ha
      have h2 : zm_nb (D.2.2.1 a) * zN f ≤ 4 * zN f := Nat.mul_le_mul_right _ hn
      simp only [List.length_cons]
      omega
theorem zpre_eq {D : zD} {σ τ : ze_S} (h : τ.1 21 = σ.1 21) : ∀ (f pl : Nat) (T : zTr), zpre D τ f pl T = zpre D σ f pl T
  | 0, _, _ => rfl
  | f + 1, pl, T => by
    unfold zpre
    have e : ∀ b, zch τ pl b = zch σ pl b := fun b => by unfold zch; rw [h]
    cases T.1 [] with
    | none => rfl
    | some q =>
      have : zcat (fun b => zpre D τ f (zch τ pl b) (zsub T b)) (zm_nb (D.2.2.1 q.1)) = zcat (fun b => zpre D σ f (zch σ pl b) (zsub T b)) (zm_nb (D.2.2.1 q.1)) := zcat_eq (fun b _ => by rw [e b]; exact zpre_eq h f _ _)
      simp only [this]
def zNb (τ : ze_S) (s : Nat) (L : List Nat) : Prop := ∀ k x, L[k]? = some x → τ.1 22 (s + k) = nI x ∧ τ.1 23 x = nI (s + k)
def zNQ (D : zD) (σ : ze_S) (P : Nat → List Nat) (f s pl : Nat) (p : List Nat) (T : zTr) (τ : ze_S) : Prop :=
  zx [22, 23, 29] σ τ ∧ τ.1 29 9 = σ.1 29 9 ∧ τ.1 29 11 = σ.1 29 11 ∧ τ.1 29 10 = nI (s + (zpre D σ f pl T).length) ∧ zNb τ s (zpre D σ f pl T) ∧ (∀ i, i < s → τ.1 22 i = σ.1 22 i) ∧ ∀ x, ¬ p <+: P x → τ.1 23 x = σ.1 23 x
theorem zRC_x {D : zD} {σ τ : ze_S} {P : Nat → List Nat} {l : List Nat} {f : Nat} {w : Nat → Nat} {pl : Nat} {p : List Nat} {T : zTr} (hd : zdok D) (h : zRC D σ P f w pl p T) (hx : zx l σ τ) (hl : ∀ k, k ∈ l → k < 15 ∨ 21 < k) : zRC D τ P f w pl p T :=
  zRC_eq hd h (fun q _ => ⟨zsame_x hx (fun z => by have := hl _ z; omega) (fun z => by have := hl _ z; omega) (fun z => by have := hl _ z; omega) (fun z => by have := hl _ z; omega) (fun z => by have := hl _ z; omega) (fun z => by have := hl _ z; omega) (fun z => by have := hl _ z; omega) q, rfl⟩)
set_option maxRecDepth 20000 in
set_option maxHeartbeats 2000000 in
theorem e_number {D : zD} (hd : zdok D) : ∀ (f dp : Nat), dp + f = 3 → ∀ (σ : ze_S) (P : Nat → List Nat) (w : Nat → Nat) (pl : Nat) (p : List Nat) (T : zTr) (s : Nat), zRC D σ P f w pl p T → σ.1 29 10 = nI s → s + zN f ≤ 85 →
    zM (f + 2) m_Tr_numberFrom [.ref 29, .int (nI pl), .int (nI dp)] σ (fun v τ => v = none ∧ zNQ D σ P f s pl p T τ) := by
  intro f
  induction f with
  | zero =>
    intro dp hdf σ P w pl p T s hR hs hsN
    have hN0 : zN 0 = 1 := rfl
    obtain ⟨h85, hPp, -⟩ := hR.1
    refine zM_in t_Tr_numberFrom [some (.ref 29), some (.int (nI pl)), some (.int (nI dp)), none] rfl rfl ?_
    refine ze_go1 rfl ?_
    refine ze_go2 rfl rfl ?_
    refine ze_go1 rfl ?_
    refine ze_go2 rfl rfl ?_
    refine ze_go1 rfl ?_
    refine ze_go2 rfl ⟨rfl, by rw [hs]; exact vp_in_nI (N := 85) (by omega) (by decide)⟩ ?_
    rw [hs, nI_clamp (n := s) (by omega)]
    refine ze_go1 rfl ?_
    refine ze_go2 rfl rfl ?_
    iterate 2 (refine ze_go1 rfl ?_)
    refine ze_go2 rfl rfl ?_
    refine ze_go2 rfl ⟨rfl, vp_in_nI (N := 85) h85 (by decide)⟩ ?_
    rw [nI_clamp (n := pl) (by omega), zui_o _ _ _ _ (show (29 : Nat) ≠ 22 by decide), hs]
    refine ze_go1 rfl ?_
    iterate 2 (refine ze_go2 rfl rfl ?_)
    iterate 2 (refine ze_go1 rfl ?_)
    refine ze_go2 rfl rfl ?_
    iterate 2 (refine ze_go1 rfl ?_)
    refine ze_brF rfl (nI_nlt (b := 3) (by omega) (by omega)) ?_
    refine ze_rt1 rfl trivial ⟨rfl, zx_tr (zx_tr (zx_ui (by simp) _ _ _) (zx_ui (by simp) _ _ _)) (zx_ui (by simp) _ _ _), ?_, ?_, ?_, ?_, ?_, ?_⟩
    · rw [zui_n _ _ _ _ (by decide), zui_o _ _ _ _ (by decide), zui_o _ _ _ _ (by decide)]
    · rw [zui_n _ _ _ _ (by decide), zui_o _ _ _ _ (by decide), zui_o _ _ _ _ (by decide)]
    · rw [zui, zui_o _ _ _ _ (by decide), zui_o _ _ _ _ (by decide), hs]
      exact nI_1 s
    · intro k x hk
      have hk0 : k = 0 ∧ x = pl := by
        cases k with
        | zero => exact ⟨rfl, (Option.some.inj hk).symm⟩
        | succ k => cases hk
      rw [hk0.1, hk0.2]
      refine ⟨?_, ?_⟩
      · rw [zui_o _ _ _ _ (by decide), zui_o _ _ _ _ (by decide)]
        exact zui _ _ _ _
      · rw [zui_o _ _ _ _ (by decide), zui]
        rfl
    · intro i hi
      rw [zui_o _ _ _ _ (by decide), zui_o _ _ _ _ (by decide), zui_n _ _ _ _ (by omega)]
    · intro x hx
      rw [zui_o _ _ _ _ (by decide), zui_n _ _ _ _ (fun z => hx (by rw [z, hPp]; exact List.prefix_rfl)), zui_o _ _ _ _ (by decide)]
  | succ f ih =>
    intro dp hdf σ P w pl p T s hR hs hsN
    have hNs : zN (f + 1) = 1 + 4 * zN f := rfl
    have hNp := zN_pos f
    obtain ⟨h85, hPp, -⟩ := hR.1
    refine zM_in t_Tr_numberFrom [some (.ref 29), some (.int (nI pl)), some (.int (nI dp)), none] rfl rfl ?_
    refine ze_go1 rfl ?_
    refine ze_go2 rfl rfl ?_
    refine ze_go1 rfl ?_
    refine ze_go2 rfl rfl ?_
    refine ze_go1 rfl ?_
    refine ze_go2 rfl ⟨rfl, by rw [hs]; exact vp_in_nI (N := 85) (by omega) (by decide)⟩ ?_
    rw [hs, nI_clamp (n := s) (by omega)]
    refine ze_go1 rfl ?_
    refine ze_go2 rfl rfl ?_
    iterate 2 (refine ze_go1 rfl ?_)
    refine ze_go2 rfl rfl ?_
    refine ze_go2 rfl ⟨rfl, vp_in_nI (N := 85) h85 (by decide)⟩ ?_
    rw [nI_clamp (n := pl) (by omega), zui_o _ _ _ _ (show (29 : Nat) ≠ 22 by decide), hs]
    refine ze_go1 rfl ?_
    iterate 2 (refine ze_go2 rfl rfl ?_)
    iterate 2 (refine ze_go1 rfl ?_)
    refine ze_go2 rfl rfl ?_
    iterate 2 (refine ze_go1 rfl ?_)
    refine ze_brT rfl (nI_lt (b := 3) (by omega) (by decide)) ?_
    generalize hτ0 : ze_ui (ze_ui (ze_ui σ 22 s (nI pl)) 23 pl (nI s)) 29 10 ((ze_ui (ze_ui σ 22 s (nI pl)) 23 pl (nI s)).1 29 10 + 1) = τ0
    have x0 : zx [22, 23, 29] σ τ0 := by
      rw [← hτ0]
      exact zx_tr (zx_tr (zx_ui (by simp) _ _ _) (zx_ui (by simp) _ _ _)) (zx_ui (by simp) _ _ _)
    have a9 : τ0.1 29 9 = σ.1 29 9 ∧ τ0.1 29 11 = σ.1 29 11 ∧ τ0.1 29 10 = nI (s + 1) := by
      refine ⟨?_, ?_, ?_⟩
      · rw [← hτ0, zui_n _ _ _ _ (by decide), zui_o _ _ _ _ (by decide), zui_o _ _ _ _ (by decide)]
      · rw [← hτ0, zui_n _ _ _ _ (by decide), zui_o _ _ _ _ (by decide), zui_o _ _ _ _ (by decide)]
      · rw [← hτ0, zui, zui_o _ _ _ _ (by decide), zui_o _ _ _ _ (by decide), hs]
        exact nI_1 s
    have b0 : τ0.1 22 s = nI pl ∧ (∀ i, i < s → τ0.1 22 i = σ.1 22 i) ∧ τ0.1 23 pl = nI s ∧ ∀ x, x ≠ pl → τ0.1 23 x = σ.1 23 x := by
      refine ⟨?_, fun i hi => ?_, ?_, fun x hx => ?_⟩
      · rw [← hτ0, zui_o _ _ _ _ (by decide), zui_o _ _ _ _ (by decide), zui]
      · rw [← hτ0, zui_o _ _ _ _ (by decide), zui_o _ _ _ _ (by decide), zui_n _ _ _ _ (by omega)]
      · rw [← hτ0, zui_o _ _ _ _ (by decide), zui]
      · rw [← hτ0, zui_o _ _ _ _ (by decide), zui_n _ _ _ _ hx, zui_o _ _ _ _ (by decide)]
    clear hτ0
    iterate 2 (refine ze_go1 rfl ?_)
    -- the branches
    have main : ∀ (nb : Nat) (g : Nat → List Nat), nb ≤ 4 → σ.1 17 pl = nI nb → (∀ b, b < nb → g b = zpre D σ f (zch σ pl b) (zsub T b) ∧ (g b).length ≤ zN f ∧ σ.1 21 (4 * pl + b) = nI (zch σ pl b) ∧ ∃ w', zRC D σ P f w' (zch σ pl b) (p ++ [b]) (zsub T b)) → zpre D σ (f + 1) pl T = pl :: zcat g nb →
        ∀ n j τ, j + n = nb → zx [22, 23, 29] σ τ → τ.1 29 9 = σ.1 29 9 → τ.1 29 11 = σ.1 29 11 → τ.1 29 10 = nI (s + (pl :: zcat g j).length) → zNb τ s (pl :: zcat g j) → (∀ i, i < s → τ.1 22 i = σ.1 22 i) → (∀ x, ¬ p <+: P x → τ.1 23 x = σ.1 23 x) →
        zE (f + 2) t_Tr_numberFrom (fun v τ => v = none ∧ zNQ D σ P (f + 1) s pl p T τ) (38, [some (.ref 29), some (.int (nI pl)), some (.int (nI dp)), some (.int (nI j))], [], τ) := by
      intro nb g hnb h17 hg hpre n
      induction n with
      | zero =>
        intro j τ hj hx h9 h11 h10 hN hi hq
        iterate 2 (refine ze_go1 rfl ?_)
        refine ze_go2 rfl rfl ?_
        refine ze_go1 rfl ?_
        refine ze_go2 rfl ⟨rfl, vp_in_nI (N := 85) h85 (by decide)⟩ ?_
        rw [nI_clamp (n := pl) (by omega), (hx 17 (by simp)).1, h17]
        refine ze_brT rfl (nI_le (by omega) (by omega)) ?_
        have ej : j = nb := by omega
        subst ej
        refine ze_rt1 rfl trivial ⟨rfl, hx, h9, h11, ?_, ?_, hi, hq⟩
        · rw [hpre]; exact h10
        · rw [hpre]; exact hN
      | succ n ihn =>
        intro j τ hj hx h9 h11 h10 hN hi hq
        obtain ⟨hg1, hg2, hg3, w', hg4⟩ := hg j (by omega)
        have hlen : (pl :: zcat g j).length ≤ 1 + 3 * zN f := by
          have h1 := zcat_len (g := g) (n := j) (c := zN f) (fun b hb => (hg b (by omega)).2.1)
          have h2 : j * zN f ≤ 3 * zN f := Nat.mul_le_mul_right _ (by omega)
          simp only [List.length_cons]
          omega
        have hR' : zRC D τ P f w' (zch σ pl j) (p ++ [j]) (zsub T j) := zRC_x hd hg4 hx (by simp)
        iterate 2 (refine ze_go1 rfl ?_)
        refine ze_go2 rfl rfl ?_
        refine ze_go1 rfl ?_
        refine ze_go2 rfl ⟨rfl, vp_in_nI (N := 85) h85 (by decide)⟩ ?_
        rw [nI_clamp (n := pl) (by omega), (hx 17 (by simp)).1, h17]
        refine ze_brF rfl (nI_ge (by omega) (by omega)) ?_
        iterate 4 (refine ze_go1 rfl ?_)
        refine ze_ca1 rfl ⟨rfl, rfl⟩ (ze_M_le (e_below (d := 0) h85 (show j < 4 by omega)) (by omega)) (fun v τ1 h => ?_)
        obtain ⟨rfl, rfl⟩ := h
        rw [(hx 21 (by simp)).1, hg3]
        iterate 3 (refine ze_go1 rfl ?_)
        rw [show nI dp + 1 = nI (dp + 1) from nI_1 _]
        refine ze_ca1 rfl ⟨rfl, rfl⟩ (ih (dp + 1) (by omega) τ1 P w' (zch σ pl j) (p ++ [j]) (zsub T j) (s + (pl :: zcat g j).length) hR' h10 (by omega)) (fun v τ2 h => ?_)
        obtain ⟨rfl, y1, y2, y3, y4, y5, y6, y7⟩ := h
        rw [zpre_eq (hx 21 (by simp)).1, ← hg1] at y4 y5
        iterate 2 (refine ze_go1 rfl ?_)
        rw [show nI j + 1 = nI (j + 1) from nI_1 _]
        have hcat : pl :: zcat g (j + 1) = (pl :: zcat g j) ++ g j := rfl
        refine ihn (j + 1) τ2 (by omega) (zx_tr hx y1) (y2.trans h9) (y3.trans h11) ?_ ?_ (fun i h => (y6 i (by omega)).trans (hi i h)) (fun x h => (y7 x (fun z => h ((List.prefix_append p [j]).trans z))).trans (hq x h))
        · rw [y4, hcat, List.length_append, Nat.add_assoc]
        · intro k x hk
          rw [hcat] at hk
          by_cases ck : k < (pl :: zcat g j).length
          · rw [List.getElem?_append_left ck] at hk
            have h1 := hN k x hk
            have hxm : x ∈ pl :: zcat g j := List.mem_of_getElem? hk
            have hnp : ¬ (p ++ [j]) <+: P x := by
              rcases List.mem_cons.mp hxm with e | hx2
              · rw [e, hPp]; exact zpre3
              · obtain ⟨b, hb, hx3⟩ := zcat_in hx2
                obtain ⟨hb1, -, -, wb, hb4⟩ := hg b (by omega)
                rw [hb1] at hx3
                intro z
                obtain ⟨r1, hr1⟩ := z
                obtain ⟨r2, hr2⟩ := (zpre_P hd hb4 x hx3).1
                rw [← hr2, List.append_assoc, List.append_assoc] at hr1
                have := (List.cons.inj (List.append_cancel_left hr1)).1
                omega
            exact ⟨(y6 (s + k) (by omega)).trans h1.1, (y7 x hnp).trans h1.2⟩
          · rw [List.getElem?_append_right (by omega)] at hk
            have h1 := y5 _ x hk
            rw [show s + (pl :: zcat g j).length + (k - (pl :: zcat g j).length) = s + k by omega] at h1
            exact h1
    have st0 : zNb τ0 s (pl :: zcat (fun _ => ([] : List Nat)) 0) := by
      intro k x hk
      cases k with
      | zero =>
        have e : pl = x := Option.some.inj hk
        subst e
        exact ⟨b0.1, b0.2.2.1⟩
      | succ k => cases hk
    have st1 : ∀ x, ¬ p <+: P x → τ0.1 23 x = σ.1 23 x := fun x hx => b0.2.2.2 x (fun z => hx (by rw [z, hPp]; exact List.prefix_rfl))
    rcases hR.2 with ⟨e, -, -, e17⟩ | ⟨a, t, e, ha, -, -, -, e17, -, c8⟩
    · exact main 0 (fun _ => []) (by decide) e17 (fun b hb => absurd hb (Nat.not_lt_zero _)) (by unfold zpre; rw [e]; rfl) 0 0 τ0 rfl x0 a9.1 a9.2.1 a9.2.2 st0 b0.2.1 st1
    · exact main (zm_nb (D.2.2.1 a)) (fun b => zpre D σ f (zch σ pl b) (zsub T b)) (znb4 hd ha).2 e17 (fun b hb => ⟨rfl, (zpre_len hd (c8 b hb).2).1, (c8 b hb).1, _, (c8 b hb).2⟩) (by rw [show zpre D σ (f + 1) pl T = pl :: (match T.1 [] with | none => [] | some q => zcat (fun b => zpre D σ f (zch σ pl b) (zsub T b)) (zm_nb (D.2.2.1 q.1))) from rfl, e]) (zm_nb (D.2.2.1 a)) 0 τ0 (by omega) x0 a9.1 a9.2.1 a9.2.2 st0 b0.2.1 st1
