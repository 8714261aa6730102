def zSS (dp k : Nat) : Prop := (14 ≤ k ∧ k ≤ 20) ∨ (39 + dp ≤ k ∧ k < 43) ∨ (6 + dp ≤ k ∧ k < 10) ∨ (10 + dp < k ∧ k < 14)
theorem zSS_keep {D : zD} {σ τ : ze_S} {dp : Nat} {w : Nat → Nat} (hdp : dp < 4) (hx : zxp (zSS dp) σ τ) (hB : zB σ D) (hw : zrow σ dp D.2.1 w) : zB τ D ∧ zrow τ dp D.2.1 w ∧ τ.1 33 = σ.1 33 ∧ τ.1 29 = σ.1 29 ∧ τ.1 21 = σ.1 21 := by
  refine ⟨zB_eq hB (hx 0 (by unfold zSS; omega)).1 (hx 1 (by unfold zSS; omega)).1 (hx 2 (by unfold zSS; omega)).1 (hx 28 (by unfold zSS; omega)).1, fun i hi => ?_, (hx 33 (by unfold zSS; omega)).1, (hx 29 (by unfold zSS; omega)).1, (hx 21 (by unfold zSS; omega)).1⟩
  rw [(hx (10 + dp) (by unfold zSS; omega)).1]
  exact hw i hi
/-- what sending down leaves behind -/
def zSP (D : zD) (σ : ze_S) (P : Nat → List Nat) (kp : Bool) (f dp pl : Nat) (p : List Nat) (w : Nat → Nat) (T : zTr) (τ : ze_S) : Prop :=
  zxp (zSS dp) σ τ ∧ (∀ q, (kp = false ∨ ¬ p <+: P q) → zsame σ τ q) ∧ (kp = true → zRC D τ P f w pl p (zrt D f w T))
/-- a node with its weights taken over, or not -/
def zS1 (D : zD) (σ : ze_S) (kp : Bool) (dp pl : Nat) (w : Nat → Nat) (ty : Nat) (υ : ze_S) : Prop :=
  zxp (zSS dp) σ υ ∧ (∀ q, (kp = false ∨ q ≠ pl) → zsame σ υ q) ∧ υ.1 15 = σ.1 15 ∧ υ.1 16 = σ.1 16 ∧ υ.1 17 = σ.1 17 ∧ (kp = true → υ.1 18 pl = nI ty ∧ ∀ c, c < 3 → υ.1 19 (3 * pl + c) = nI (zcw D w c))
set_option maxRecDepth 20000 in
set_option maxHeartbeats 1000000 in
theorem e_spre {e : Nat} {D : zD} {σ : ze_S} {kp : Bool} {dp pl pt : Nat} {w : Nat → Nat} {Q : ze_P} (hd : zdok D) (he : 4 ≤ e) (hB : zB σ D) (hdp : dp < 4) (hw : zrow σ dp D.2.1 w) (hwb : ∀ i, i < D.2.1 → w i ≤ 720) (hp : pl < 85) (h18 : σ.1 18 pl = nI pt)
    (k : ∀ υ, zS1 D σ kp dp pl w (zty D w pt) υ → (∀ c, c < 3 → υ.1 14 c = nI (zcw D w c)) → zE e t_Pr_sendFrom Q (27, [some (.ref 33), some (.int (nI pl)), some (.int (nI dp)), some (.int (bif kp then 1 else 0)), none, none, none], [], υ)) :
    zE e t_Pr_sendFrom Q (0, [some (.ref 33), some (.int (nI pl)), some (.int (nI dp)), some (.int (bif kp then 1 else 0)), none, none, none], [], σ) := by
  have hW : zm_s (zcw D w) 3 ≤ 17280 := by rw [zcw_sum hd]; exact zm_w_le hd.2.1 hwb
  refine ze_go1 rfl ?_
  refine ze_go2 rfl rfl ?_
  refine ze_go1 rfl ?_
  refine ze_ca1 rfl ⟨rfl, rfl⟩ (ze_M_le (e_tallyClasses (d := 0) hd hB hdp hw) (by omega)) (fun v τ h => ?_)
  obtain ⟨rfl, x, f⟩ := h
  have ne : ∀ q, q ≠ 14 → τ.1 q = σ.1 q := fun q hq => (x q (by simp [hq])).1
  refine ze_go1 rfl ?_
  cases kp with
  | false =>
    refine ze_brT rfl rfl ?_
    refine k τ ⟨zxp_of x (fun k hk => by simp at hk; unfold zSS; omega), fun q _ => zsame_x x (by simp) (by simp) (by simp) (by simp) (by simp) (by simp) (by simp) q, ne 15 (by decide), ne 16 (by decide), ne 17 (by decide), fun h => by cases h⟩ f
  | true =>
    refine ze_brF rfl (by decide) ?_
    refine ze_go1 rfl ?_
    refine ze_go2 rfl rfl ?_
    iterate 2 (refine ze_go1 rfl ?_)
    iterate 2 (refine ze_go2 rfl rfl ?_)
    refine ze_ca1 rfl ⟨rfl, rfl⟩ (ze_M_le (e_keepWeights (d := 0) (f := zcw D w) hp f hW) (by omega)) (fun v υ h => ?_)
    obtain ⟨rfl, rfl⟩ := h
    refine k _ ?_ ?_
    · have cp : ∀ q c, q ≠ pl → c < 3 → va_cpy (τ.1 14) (τ.1 19) 0 (3 * pl) 3 (3 * q + c) = σ.1 19 (3 * q + c) := fun q c hq hc => by rw [pk_cpy_out (by omega), ne 19 (by decide)]
      have cp2 : ∀ c, c < 3 → va_cpy (τ.1 14) (τ.1 19) 0 (3 * pl) 3 (3 * pl + c) = nI (zcw D w c) := fun c hc => by rw [pk_cpy_in (by omega) (by omega), show 0 + (3 * pl + c - 3 * pl) = c by omega]; exact f c hc
      have x2 : zx [14, 19] σ (ze_uf τ 19 (va_cpy (τ.1 14) (τ.1 19) 0 (3 * pl) 3)) := zx_tr (zx_wk x (by simp)) (zx_uf (by simp) _ _)
      by_cases c0 : zm_s (zcw D w) 3 = 0
      · rw [if_pos c0]
        have ety : zty D w pt = pt := if_pos c0
        refine ⟨zxp_of x2 (fun k hk => by simp at hk; unfold zSS; omega), fun q hq => ?_, (x2 15 (by simp)).1, (x2 16 (by simp)).1, (x2 17 (by simp)).1, fun _ => ⟨by rw [(x2 18 (by simp)).1, h18, ety], fun c hc => by rw [zuf]; exact cp2 c hc⟩⟩
        have hq2 : q ≠ pl := hq.resolve_left (by decide)
        exact ⟨by rw [(x2 15 (by simp)).1], by rw [(x2 16 (by simp)).1], by rw [(x2 17 (by simp)).1], by rw [(x2 18 (by simp)).1], fun c hc => by rw [zuf]; exact cp q c hq2 hc, fun b hb => by rw [(x2 20 (by simp)).1], fun b hb => by rw [(x2 21 (by simp)).1]⟩
      · rw [if_neg c0]
        have ety : zty D w pt = zm_fg (zcw D w) 3 := if_neg c0
        have x3 : zx [14, 18, 19] σ (ze_ui (ze_uf τ 19 (va_cpy (τ.1 14) (τ.1 19) 0 (3 * pl) 3)) 18 pl (nI (zm_fg (zcw D w) 3))) := zx_tr (zx_wk x2 (by simp)) (zx_ui (by simp) _ _ _)
        refine ⟨zxp_of x3 (fun k hk => by simp at hk; unfold zSS; omega), fun q hq => ?_, (x3 15 (by simp)).1, (x3 16 (by simp)).1, (x3 17 (by simp)).1, fun _ => ⟨by rw [zui, ety], fun c hc => by rw [zui_o _ _ _ _ (by decide), zuf]; exact cp2 c hc⟩⟩
        have hq2 : q ≠ pl := hq.resolve_left (by decide)
        exact ⟨by rw [(x3 15 (by simp)).1], by rw [(x3 16 (by simp)).1], by rw [(x3 17 (by simp)).1], by rw [zui_n _ _ _ _ hq2, (x2 18 (by simp)).1], fun c hc => by rw [zui_o _ _ _ _ (by decide), zuf]; exact cp q c hq2 hc, fun b hb => by rw [(x3 20 (by simp)).1], fun b hb => by rw [(x3 21 (by simp)).1]⟩
    · intro c hc
      split
      · rw [zuf_o _ _ _ (by decide)]; exact f c hc
      · rw [zui_o _ _ _ _ (by decide), zuf_o _ _ _ (by decide)]; exact f c hc
theorem zrt_none {D : zD} {f : Nat} {w : Nat → Nat} {T : zTr} (h : T.1 [] = none) : zrt D f w T = zmk none (zty D w (T.2 [])) (zsub T) := by
  cases f with
  | zero => unfold zrt; rw [h]
  | succ f => unfold zrt; rw [h]
theorem zer_none {D : zD} {ch f : Nat} {w : Nat → Nat} {T : zTr} (h : T.1 [] = none) : zer D ch f w T = zle D w ch := by
  cases f with
  | zero => rfl
  | succ f => unfold zer; rw [h]
/-- the state of sending down before branch j -/
def zSI (D : zD) (σ : ze_S) (P : Nat → List Nat) (kp : Bool) (f dp pl : Nat) (p : List Nat) (w : Nat → Nat) (T : zTr) (a : Nat) (t : Int32) (j : Nat) (τ : ze_S) : Prop :=
  zxp (zSS dp) σ τ ∧ zFk τ dp a t (zm_nb (D.2.2.1 a)) (zpt D a t w) ∧ (τ.1 15 pl = nI a ∧ τ.1 16 pl = t ∧ τ.1 17 pl = nI (zm_nb (D.2.2.1 a))) ∧
  (kp = true → τ.1 18 pl = nI (zty D w (T.2 [])) ∧ (∀ c, c < 3 → τ.1 19 (3 * pl + c) = nI (zcw D w c)) ∧ ∀ b, b < 4 → τ.1 20 (4 * pl + b) = nI (zpt D a t w b)) ∧
  (∀ q, (kp = false ∨ ¬ p <+: P q) → zsame σ τ q) ∧ (∀ b, j ≤ b → b < zm_nb (D.2.2.1 a) → zRS D τ P f (zch σ pl b) (p ++ [b]) (zsub T b)) ∧
  (kp = true → ∀ b, b < j → zRC D τ P f (zsd D a t w b) (zch σ pl b) (p ++ [b]) (zrt D f (zsd D a t w b) (zsub T b)))
theorem zpre4 {p r : List Nat} {b c : Nat} (h1 : (p ++ [b]) <+: r) (h2 : (p ++ [c]) <+: r) : b = c := by
  obtain ⟨s1, e1⟩ := h1
  obtain ⟨s2, e2⟩ := h2
  rw [← e2, List.append_assoc, List.append_assoc] at e1
  exact (List.cons.inj (List.append_cancel_left e1)).1
