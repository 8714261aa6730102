/-! pruning -/
def zle (D : zD) (w : Nat → Nat) (ch : Nat) : Nat := if zm_s (zcw D w) 3 = 0 then 0 else zm_s (zcw D w) 3 - zcw D w (zm_fg (zcw D w) 3) + ch
def zer (D : zD) (ch : Nat) : Nat → (Nat → Nat) → zTr → Nat
  | 0, w, _ => zle D w ch
  | f + 1, w, T => match T.1 [] with
    | none => zle D w ch
    | some q => zm_s (fun b => zer D ch f (zsd D q.1 q.2 w b) (zsub T b)) (zm_nb (D.2.2.1 q.1))
def zrt (D : zD) : Nat → (Nat → Nat) → zTr → zTr
  | 0, w, T => zmk (T.1 []) (zty D w (T.2 [])) (zsub T)
  | f + 1, w, T => match T.1 [] with
    | none => zmk none (zty D w (T.2 [])) (zsub T)
    | some q => zmk (some q) (zty D w (T.2 [])) (fun b => if b < zm_nb (D.2.2.1 q.1) then zrt D f (zsd D q.1 q.2 w b) (zsub T b) else zsub T b)
def zhv (D : zD) (w : Nat → Nat) (a : Nat) (t : Int32) : Nat := zm_fg (fun b => zm_s (zcw D (zsd D a t w b)) 3) (zm_nb (D.2.2.1 a))
/-- a node whose branches are pruned: what becomes of it -/
def zpl (D : zD) (ch f : Nat) (w : Nat → Nat) (ty a : Nat) (t : Int32) (S : Nat → zTr) : zTr :=
  if zle D w ch ≤ zer D ch f w (S (zhv D w a t)) ∧ zle D w ch ≤ zm_s (fun b => zer D ch f (zsd D a t w b) (S b)) (zm_nb (D.2.2.1 a)) then zmk none ty (fun _ => zlf)
  else if zer D ch f w (S (zhv D w a t)) ≤ zm_s (fun b => zer D ch f (zsd D a t w b) (S b)) (zm_nb (D.2.2.1 a)) then zrt D f w (S (zhv D w a t))
  else zmk (some (a, t)) ty S
def zpn (D : zD) (ch : Nat) : Nat → (Nat → Nat) → zTr → zTr
  | 0, _, T => T
  | f + 1, w, T => match T.1 [] with
    | none => T
    | some q => zpl D ch f w (T.2 []) q.1 q.2 (fun b => if b < zm_nb (D.2.2.1 q.1) then zpn D ch f (zsd D q.1 q.2 w b) (zsub T b) else zsub T b)
theorem zle_le {D : zD} (hd : zdok D) {w : Nat → Nat} {ch : Nat} (hw : ∀ i, i < D.2.1 → w i ≤ 720) : zle D w ch ≤ zm_s w D.2.1 + ch := by
  unfold zle
  rw [zcw_sum hd]
  split <;> omega
theorem e_leafErrors {d : Nat} {σ : ze_S} {D : zD} {k a ch : Nat} {w : Nat → Nat} (hd : zdok D) (hw : ∀ i, i < D.2.1 → w i ≤ 720) (hk : ze_isI k = true) (hl : a + 3 ≤ ze_len k) (hf : ∀ c, c < 3 → σ.1 k (a + c) = nI (zcw D w c)) (hch : σ.1 33 2 = nI ch) :
    zM (d + 2) m_Pr_leafErrors [.ref 33, .ref k, .int (nI a)] σ (fun v τ => v = some (.int (nI (zle D w ch))) ∧ τ = σ) := by
  have hb := ze_len_le k
  have hW : zm_s (zcw D w) 3 ≤ 17280 := by rw [zcw_sum hd]; exact zm_w_le hd.2.1 hw
  have hfg : zm_fg (zcw D w) 3 < 3 := zm_fg_lt (zcw D w) 2
  refine zM_in t_Pr_leafErrors [some (.ref 33), some (.ref k), some (.int (nI a)), none] rfl rfl ?_
  iterate 3 (refine ze_go1 rfl ?_)
  refine ze_ca1 rfl rfl (e_sum (n := 3) (f := zcw D w) hk hl hf) (fun v τ h => ?_)
  obtain ⟨rfl, rfl⟩ := h
  iterate 2 (refine ze_go1 rfl ?_)
  unfold zle
  by_cases c : zm_s (zcw D w) 3 = 0
  · refine ze_brF rfl (by rw [c]; exact fun q => q rfl) ?_
    rw [if_pos c]
    refine ze_go1 rfl ?_
    exact ze_rt1 rfl trivial ⟨rfl, rfl⟩
  · refine ze_brT rfl (nI_ne0 (by omega) (by omega)) ?_
    rw [if_neg c]
    iterate 6 (refine ze_go1 rfl ?_)
    refine ze_ca1 rfl rfl (e_fg (n := 3) (f := zcw D w) (by decide) hk hl hf (fun i hi => by have := zm_s_pos (f := zcw D w) hi; omega)) (fun v τ' h => ?_)
    obtain ⟨rfl, rfl⟩ := h
    refine ze_go1 rfl ?_
    rw [nI_add]
    refine ze_go2 rfl ⟨hk, zin (by omega)⟩ ?_
    rw [nI_clamp (n := a + zm_fg (zcw D w) 3) (by omega), hf _ hfg]
    iterate 2 (refine ze_go1 rfl ?_)
    refine ze_go2 rfl rfl ?_
    refine ze_go1 rfl ?_
    rw [hch, pk_sub (zm_s_pos hfg), nI_add]
    exact ze_rt1 rfl trivial ⟨rfl, rfl⟩
set_option maxRecDepth 20000 in
theorem e_heaviest {d : Nat} {σ : ze_S} {D : zD} {P : Nat → List Nat} {f pl a nb : Nat} {p : List Nat} {W : Nat → Nat → Nat} {S : Nat → zTr} (hd : zdok D) (hp : pl < 85) (h17 : σ.1 17 pl = nI nb) (hn : 2 ≤ nb ∧ nb ≤ 4) (hW : ∀ b, b < nb → zm_s (zcw D (W b)) 3 ≤ 17280) (hR : ∀ b, b < nb → σ.1 21 (4 * pl + b) = nI (zch σ pl b) ∧ zRC D σ P f (W b) (zch σ pl b) (p ++ [b]) (S b)) :
    zM (d + 3) m_Tr_heaviestBelow [.ref 29, .int (nI pl)] σ (fun v τ => v = some (.int (nI (zch σ pl (zm_fg (fun b => zm_s (zcw D (W b)) 3) nb)))) ∧ τ = σ) := by
  refine zM_in t_Tr_heaviestBelow [some (.ref 29), some (.int (nI pl)), none, none, none] rfl rfl ?_
  have loop : ∀ m j (o : Option Value), 1 ≤ j → j + m = nb → zE (d + 2) t_Tr_heaviestBelow (fun v τ => v = some (.int (nI (zch σ pl (zm_fg (fun b => zm_s (zcw D (W b)) 3) nb)))) ∧ τ = σ) (9, [some (.ref 29), some (.int (nI pl)), some (.int (nI (zch σ pl (zm_fg (fun b => zm_s (zcw D (W b)) 3) j)))), some (.int (nI j)), o], [], σ) := by
    intro m
    induction m with
    | zero =>
      intro j o h1 hj
      iterate 2 (refine ze_go1 rfl ?_)
      refine ze_go2 rfl rfl ?_
      refine ze_go1 rfl ?_
      refine ze_go2 rfl ⟨rfl, vp_in_nI (N := 85) hp (by decide)⟩ ?_
      rw [nI_clamp (n := pl) (by omega), h17]
      refine ze_brT rfl (nI_le (by omega) (by omega)) ?_
      refine ze_go1 rfl ?_
      refine ze_rt1 rfl trivial ⟨?_, rfl⟩
      rw [show j = nb by omega]
    | succ m ih =>
      intro j o h1 hj
      have hlt : zm_fg (fun b => zm_s (zcw D (W b)) 3) j < j := by
        have := zm_fg_lt (fun b => zm_s (zcw D (W b)) 3) (j - 1)
        rwa [show j - 1 + 1 = j by omega] at this
      obtain ⟨g1, g2⟩ := hR j (by omega)
      obtain ⟨k1, k2⟩ := hR _ (Nat.lt_trans hlt (show j < nb by omega))
      have w1 := hW j (by omega)
      have w2 := hW _ (Nat.lt_trans hlt (show j < nb by omega))
      iterate 2 (refine ze_go1 rfl ?_)
      refine ze_go2 rfl rfl ?_
      refine ze_go1 rfl ?_
      refine ze_go2 rfl ⟨rfl, vp_in_nI (N := 85) hp (by decide)⟩ ?_
      rw [nI_clamp (n := pl) (by omega), h17]
      refine ze_brF rfl (nI_ge (by omega) (by omega)) ?_
      iterate 3 (refine ze_go1 rfl ?_)
      refine ze_ca1 rfl ⟨rfl, rfl⟩ (ze_M_le (e_below (d := 0) hp (show j < 4 by omega)) (by omega)) (fun v τ1 h => ?_)
      obtain ⟨rfl, rfl⟩ := h
      rw [g1]
      iterate 3 (refine ze_go1 rfl ?_)
      refine ze_ca1 rfl ⟨rfl, rfl⟩ (e_total (zRC_hd g2).1 (zRC_hd g2).2.2.2.2.1) (fun v τ2 h => ?_)
      obtain ⟨rfl, rfl⟩ := h
      iterate 2 (refine ze_go1 rfl ?_)
      refine ze_ca1 rfl ⟨rfl, rfl⟩ (e_total (zRC_hd k2).1 (zRC_hd k2).2.2.2.2.1) (fun v τ3 h => ?_)
      obtain ⟨rfl, rfl⟩ := h
      have h := ih (j + 1) (some (.int (nI (zch τ3 pl j)))) (by omega) (by omega)
      rw [show zm_fg (fun b => zm_s (zcw D (W b)) 3) (j + 1) = if zm_s (zcw D (W (zm_fg (fun b => zm_s (zcw D (W b)) 3) j))) 3 < zm_s (zcw D (W j)) 3 then j else zm_fg (fun b => zm_s (zcw D (W b)) 3) j from rfl, ← show nI j + 1 = nI (j + 1) from nI_1 _] at h
      by_cases q : zm_s (zcw D (W (zm_fg (fun b => zm_s (zcw D (W b)) 3) j))) 3 < zm_s (zcw D (W j)) 3
      · refine ze_brF rfl (nI_ge q (by omega)) ?_
        rw [if_pos q] at h
        iterate 4 (refine ze_go1 rfl ?_)
        exact h
      · refine ze_brT rfl (nI_le (by omega) (by omega)) ?_
        rw [if_neg q] at h
        iterate 2 (refine ze_go1 rfl ?_)
        exact h
  iterate 3 (refine ze_go1 rfl ?_)
  refine ze_ca1 rfl ⟨rfl, rfl⟩ (ze_M_le (e_below (d := 0) (b := 0) hp (by decide)) (by omega)) (fun v τ1 h => ?_)
  obtain ⟨rfl, rfl⟩ := h
  have h := loop (nb - 1) 1 none (by omega) (by omega)
  rw [zm_fg_1] at h
  have e0 : τ1.1 21 (4 * pl + 0) = nI (zch τ1 pl 0) := (hR 0 (by omega)).1
  rw [e0]
  iterate 3 (refine ze_go1 rfl ?_)
  exact h
/-- a tree's tests at a place, whatever its weights -/
def zRS (D : zD) (σ : ze_S) (P : Nat → List Nat) : Nat → Nat → List Nat → zTr → Prop
  | 0, pl, p, T => (pl < 85 ∧ P pl = p ∧ σ.1 18 pl = nI (T.2 []) ∧ T.2 [] < 3) ∧ (T.1 [] = none ∧ σ.1 15 pl = -1 ∧ σ.1 16 pl = -1 ∧ σ.1 17 pl = 0)
  | f + 1, pl, p, T => (pl < 85 ∧ P pl = p ∧ σ.1 18 pl = nI (T.2 []) ∧ T.2 [] < 3) ∧ ((T.1 [] = none ∧ σ.1 15 pl = -1 ∧ σ.1 16 pl = -1 ∧ σ.1 17 pl = 0) ∨
    ∃ a t, T.1 [] = some (a, t) ∧ a < D.1 ∧ zth D a t ∧ σ.1 15 pl = nI a ∧ σ.1 16 pl = t ∧ σ.1 17 pl = nI (zm_nb (D.2.2.1 a)) ∧
      ∀ b, b < zm_nb (D.2.2.1 a) → σ.1 21 (4 * pl + b) = nI (zch σ pl b) ∧ zRS D σ P f (zch σ pl b) (p ++ [b]) (zsub T b))
theorem zRC_S {D : zD} {σ : ze_S} {P : Nat → List Nat} : ∀ {f : Nat} {w : Nat → Nat} {pl : Nat} {p : List Nat} {T : zTr}, zRC D σ P f w pl p T → zRS D σ P f pl p T
  | 0, _, _, _, _, h => ⟨⟨h.1.1, h.1.2.1, h.1.2.2.1, h.1.2.2.2.1⟩, h.2⟩
  | f + 1, _, _, _, _, h => by
    refine ⟨⟨h.1.1, h.1.2.1, h.1.2.2.1, h.1.2.2.2.1⟩, ?_⟩
    rcases h.2 with q | ⟨a, t, c1, c2, c3, c4, c5, c6, -, c8⟩
    · exact Or.inl q
    · exact Or.inr ⟨a, t, c1, c2, c3, c4, c5, c6, fun b hb => ⟨(c8 b hb).1, zRC_S (c8 b hb).2⟩⟩
theorem zRS_eq {D : zD} {σ τ : ze_S} {P R : Nat → List Nat} : ∀ {f : Nat} {pl : Nat} {p : List Nat} {T : zTr}, zdok D → zRS D σ P f pl p T → (∀ q, p <+: P q → zsame σ τ q ∧ R q = P q) → zRS D τ R f pl p T
  | 0, pl, p, T, _, h, hs => by
    obtain ⟨⟨a1, a2, a3, a4⟩, b1, b2, b3, b4⟩ := h
    obtain ⟨⟨s15, s16, s17, s18, s19, s20, s21⟩, r⟩ := hs pl (by rw [a2]; exact List.prefix_rfl)
    exact ⟨⟨a1, by rw [r]; exact a2, by rw [s18]; exact a3, a4⟩, b1, by rw [s15]; exact b2, by rw [s16]; exact b3, by rw [s17]; exact b4⟩
  | f + 1, pl, p, T, hd, h, hs => by
    obtain ⟨⟨a1, a2, a3, a4⟩, hb⟩ := h
    obtain ⟨⟨s15, s16, s17, s18, s19, s20, s21⟩, r⟩ := hs pl (by rw [a2]; exact List.prefix_rfl)
    refine ⟨⟨a1, by rw [r]; exact a2, by rw [s18]; exact a3, a4⟩, ?_⟩
    rcases hb with ⟨b1, b2, b3, b4⟩ | ⟨a, t, c1, c2, c3, c4, c5, c6, c8⟩
    · exact Or.inl ⟨b1, by rw [s15]; exact b2, by rw [s16]; exact b3, by rw [s17]; exact b4⟩
    · obtain ⟨-, hnb⟩ := znb4 hd c2
      refine Or.inr ⟨a, t, c1, c2, c3, by rw [s15]; exact c4, by rw [s16]; exact c5, by rw [s17]; exact c6, fun b hb => ?_⟩
      have e : zch τ pl b = zch σ pl b := by
        unfold zch
        rw [s21 b (by omega)]
      rw [e, s21 b (by omega)]
      exact ⟨(c8 b hb).1, zRS_eq hd (c8 b hb).2 (fun q hq => hs q ((List.prefix_append p [b]).trans hq))⟩
theorem zRS_hd {D : zD} {σ : ze_S} {P : Nat → List Nat} {f : Nat} {pl : Nat} {p : List Nat} {T : zTr} (h : zRS D σ P f pl p T) : pl < 85 ∧ P pl = p ∧ σ.1 18 pl = nI (T.2 []) ∧ T.2 [] < 3 := by
  cases f with
  | zero => exact h.1
  | succ f => exact h.1
theorem zle_lt {D : zD} (hd : zdok D) {w : Nat → Nat} {ch : Nat} (hw : ∀ i, i < D.2.1 → w i ≤ 720) (hc : ch ≤ 2000) : zle D w ch ≤ 20000 := by
  have h1 := zle_le (ch := ch) hd hw
  have h2 := zm_w_le hd.2.1 hw
  omega
theorem zer_lt {D : zD} (hd : zdok D) {ch : Nat} (hc : ch ≤ 2000) {σ : ze_S} {P : Nat → List Nat} : ∀ {f : Nat} {w : Nat → Nat} {pl : Nat} {p : List Nat} {T : zTr}, (∀ i, i < D.2.1 → w i ≤ 720) → zRS D σ P f pl p T → zer D ch f w T ≤ 20000 * 4 ^ f
  | 0, w, pl, p, T, hw, _ => by
    have := zle_lt hd hw hc
    show zle D w ch ≤ 20000 * 1
    omega
  | f + 1, w, pl, p, T, hw, h => by
    have h4 : 20000 * 4 ^ (f + 1) = 4 * (20000 * 4 ^ f) := by rw [Nat.pow_succ]; omega
    have hp : 1 ≤ 4 ^ f := Nat.one_le_pow _ _ (by decide)
    unfold zer
    rcases h.2 with ⟨e, -⟩ | ⟨a, t, e, ha, -, -, -, -, c8⟩
    · rw [e]
      have := zle_lt hd hw hc
      show zle D w ch ≤ _
      omega
    · rw [e]
      obtain ⟨-, hn⟩ := znb4 hd ha
      have h1 := zm_s_bd (f := fun b => zer D ch f (zsd D a t w b) (zsub T b)) (n := zm_nb (D.2.2.1 a)) (c := 20000 * 4 ^ f) (fun b hb => zer_lt hd hc (fun i hi => Nat.le_trans zsd_le (hw i hi)) (c8 b hb).2)
      have h2 : 20000 * 4 ^ f * zm_nb (D.2.2.1 a) ≤ 20000 * 4 ^ f * 4 := Nat.mul_le_mul_left _ hn
      show zm_s (fun b => zer D ch f (zsd D a t w b) (zsub T b)) (zm_nb (D.2.2.1 a)) ≤ _
      omega
