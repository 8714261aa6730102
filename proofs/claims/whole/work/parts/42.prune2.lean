theorem zRC_up {D : zD} {σ : ze_S} {P : Nat → List Nat} : ∀ {f : Nat} {w : Nat → Nat} {pl : Nat} {p : List Nat} {T : zTr}, zRC D σ P f w pl p T → zRC D σ P (f + 1) w pl p T
  | 0, _, _, _, _, h => ⟨h.1, Or.inl h.2⟩
  | f + 1, _, _, _, _, h => by
    refine ⟨h.1, ?_⟩
    rcases h.2 with q | ⟨a, t, c1, c2, c3, c4, c5, c6, c7, c8⟩
    · exact Or.inl q
    · exact Or.inr ⟨a, t, c1, c2, c3, c4, c5, c6, c7, fun b hb => ⟨(c8 b hb).1, zRC_up (c8 b hb).2⟩⟩
theorem zm_s_eqf {f g : Nat → Nat} {n : Nat} (h : ∀ i, i < n → f i = g i) : zm_s f n = zm_s g n := zm_s_eq h
theorem zer_rt {D : zD} {ch : Nat} {σ : ze_S} {P : Nat → List Nat} : ∀ {f : Nat} {w : Nat → Nat} {pl : Nat} {p : List Nat} {T : zTr}, zRS D σ P f pl p T → zer D ch (f + 1) w (zrt D f w T) = zer D ch f w T
  | 0, w, pl, p, T, h => by
    rw [zrt_none h.2.1]
    rfl
  | f + 1, w, pl, p, T, h => by
    rcases h.2 with ⟨e, -⟩ | ⟨a, t, e, ha, -, -, -, -, c8⟩
    · rw [zrt_none e, zer_none e]
      rfl
    · have e1 : zrt D (f + 1) w T = zmk (some (a, t)) (zty D w (T.2 [])) (fun b => if b < zm_nb (D.2.2.1 a) then zrt D f (zsd D a t w b) (zsub T b) else zsub T b) := by
        show (match T.1 [] with | none => _ | some q => _) = _
        rw [e]
      have e2 : zer D ch (f + 1) w T = zm_s (fun b => zer D ch f (zsd D a t w b) (zsub T b)) (zm_nb (D.2.2.1 a)) := by
        show (match T.1 [] with | none => _ | some q => _) = _
        rw [e]
      rw [e1, e2]
      show zm_s (fun b => zer D ch (f + 1) (zsd D a t w b) (if b < zm_nb (D.2.2.1 a) then zrt D f (zsd D a t w b) (zsub T b) else zsub T b)) (zm_nb (D.2.2.1 a)) = _
      refine zm_s_eq fun b hb => ?_
      show zer D ch (f + 1) (zsd D a t w b) (if b < zm_nb (D.2.2.1 a) then zrt D f (zsd D a t w b) (zsub T b) else zsub T b) = _
      rw [if_pos hb]
      exact zer_rt (c8 b hb).2
def zrl (p : List Nat) (h : Nat) (r : List Nat) : List Nat := if (p ++ [h]) <+: r then p ++ r.drop (p.length + 1) else r
theorem zrl_in (p : List Nat) (h : Nat) (s : List Nat) : zrl p h (p ++ [h] ++ s) = p ++ s := by
  unfold zrl
  rw [if_pos (List.prefix_append _ _)]
  congr 1
  have : p.length + 1 = (p ++ [h]).length := by simp
  rw [this, List.drop_left]
theorem zrl_out {p : List Nat} {h : Nat} {r : List Nat} (hr : ¬ (p ++ [h]) <+: r) : zrl p h r = r := if_neg hr
theorem zRS_rel {D : zD} {σ τ : ze_S} {P : Nat → List Nat} {p : List Nat} {h : Nat} (hd : zdok D) (hs : ∀ q, (p ++ [h]) <+: P q → zsame σ τ q) : ∀ {f : Nat} {pl : Nat} {s : List Nat} {T : zTr}, zRS D σ P f pl (p ++ [h] ++ s) T → zRS D τ (fun q => zrl p h (P q)) f pl (p ++ s) T
  | 0, pl, s, T, hR => by
    obtain ⟨⟨a1, a2, a3, a4⟩, b1, b2, b3, b4⟩ := hR
    obtain ⟨s15, s16, s17, s18, -, -, -⟩ := hs pl (by rw [a2]; exact List.prefix_append _ _)
    exact ⟨⟨a1, by show zrl p h (P pl) = _; rw [a2, zrl_in], by rw [s18]; exact a3, a4⟩, b1, by rw [s15]; exact b2, by rw [s16]; exact b3, by rw [s17]; exact b4⟩
  | f + 1, pl, s, T, hR => by
    obtain ⟨⟨a1, a2, a3, a4⟩, hb⟩ := hR
    obtain ⟨s15, s16, s17, s18, s19, s20, s21⟩ := hs pl (by rw [a2]; exact List.prefix_append _ _)
    refine ⟨⟨a1, by show zrl p h (P pl) = _; rw [a2, zrl_in], by rw [s18]; exact a3, a4⟩, ?_⟩
    rcases hb with ⟨b1, b2, b3, b4⟩ | ⟨a, t, c1, c2, c3, c4, c5, c6, c8⟩
    · exact Or.inl ⟨b1, by rw [s15]; exact b2, by rw [s16]; exact b3, by rw [s17]; exact b4⟩
    · obtain ⟨-, hnb⟩ := znb4 hd c2
      refine Or.inr ⟨a, t, c1, c2, c3, by rw [s15]; exact c4, by rw [s16]; exact c5, by rw [s17]; exact c6, fun b hb => ?_⟩
      have e : zch τ pl b = zch σ pl b := by
        unfold zch
        rw [s21 b (by omega)]
      rw [e, s21 b (by omega), List.append_assoc]
      refine ⟨(c8 b hb).1, zRS_rel hd hs ?_⟩
      have := (c8 b hb).2
      rw [List.append_assoc (p ++ [h]) s [b]] at this
      exact this
theorem zmv_same {σ : ze_S} {fr to q : Nat} (hq : q ≠ to) : zsame σ (zmv σ fr to) q := by
  unfold zmv
  refine ⟨?_, ?_, ?_, ?_, fun c hc => ?_, fun b hb => ?_, fun b hb => ?_⟩
  · rw [zuf_o _ _ _ (by decide), zuf_o _ _ _ (by decide), zuf_o _ _ _ (by decide), zui_o _ _ _ _ (by decide), zui_o _ _ _ _ (by decide), zui_o _ _ _ _ (by decide), zui_n _ _ _ _ hq]
  · rw [zuf_o _ _ _ (by decide), zuf_o _ _ _ (by decide), zuf_o _ _ _ (by decide), zui_o _ _ _ _ (by decide), zui_o _ _ _ _ (by decide), zui_n _ _ _ _ hq, zui_o _ _ _ _ (by decide)]
  · rw [zuf_o _ _ _ (by decide), zuf_o _ _ _ (by decide), zuf_o _ _ _ (by decide), zui_o _ _ _ _ (by decide), zui_n _ _ _ _ hq, zui_o _ _ _ _ (by decide), zui_o _ _ _ _ (by decide)]
  · rw [zuf_o _ _ _ (by decide), zuf_o _ _ _ (by decide), zuf_o _ _ _ (by decide), zui_n _ _ _ _ hq, zui_o _ _ _ _ (by decide), zui_o _ _ _ _ (by decide), zui_o _ _ _ _ (by decide)]
  · rw [zuf_o _ _ _ (by decide), zuf_o _ _ _ (by decide), zuf, pk_cpy_out (by omega)]
  · rw [zuf_o _ _ _ (by decide), zuf, pk_cpy_out (by omega)]
  · rw [zuf, pk_cpy_out (by omega)]
theorem zmv_at (σ : ze_S) (fr to : Nat) : (zmv σ fr to).1 15 to = σ.1 15 fr ∧ (zmv σ fr to).1 16 to = σ.1 16 fr ∧ (zmv σ fr to).1 17 to = σ.1 17 fr ∧ (zmv σ fr to).1 18 to = σ.1 18 fr ∧ ∀ b, b < 4 → (zmv σ fr to).1 21 (4 * to + b) = σ.1 21 (4 * fr + b) := by
  unfold zmv
  refine ⟨?_, ?_, ?_, ?_, fun b hb => ?_⟩
  · rw [zuf_o _ _ _ (by decide), zuf_o _ _ _ (by decide), zuf_o _ _ _ (by decide), zui_o _ _ _ _ (by decide), zui_o _ _ _ _ (by decide), zui_o _ _ _ _ (by decide), zui]
  · rw [zuf_o _ _ _ (by decide), zuf_o _ _ _ (by decide), zuf_o _ _ _ (by decide), zui_o _ _ _ _ (by decide), zui_o _ _ _ _ (by decide), zui]
  · rw [zuf_o _ _ _ (by decide), zuf_o _ _ _ (by decide), zuf_o _ _ _ (by decide), zui_o _ _ _ _ (by decide), zui]
  · rw [zuf_o _ _ _ (by decide), zuf_o _ _ _ (by decide), zuf_o _ _ _ (by decide), zui]
  · rw [zuf, pk_cpy_in (by omega) (by omega), show 4 * fr + (4 * to + b - 4 * to) = 4 * fr + b by omega]
theorem zmv_x (σ : ze_S) (fr to : Nat) : zx [15, 16, 17, 18, 19, 20, 21] σ (zmv σ fr to) := by
  unfold zmv
  exact zx_tr (zx_tr (zx_tr (zx_tr (zx_tr (zx_tr (zx_ui (by simp) _ _ _) (zx_ui (by simp) _ _ _)) (zx_ui (by simp) _ _ _)) (zx_ui (by simp) _ _ _)) (zx_uf (by simp) _ _)) (zx_uf (by simp) _ _)) (zx_uf (by simp) _ _)
theorem zRS_mv {D : zD} {σ : ze_S} {P : Nat → List Nat} {p : List Nat} {h fr to f : Nat} {T : zTr} (hd : zdok D) (ht : to < 85) (hPt : P to = p) (hR : zRS D σ P f fr (p ++ [h]) T) : zRS D (zmv σ fr to) (fun q => zrl p h (P q)) f to p T := by
  obtain ⟨m15, m16, m17, m18, m21⟩ := zmv_at σ fr to
  have hs : ∀ q, (p ++ [h]) <+: P q → zsame σ (zmv σ fr to) q := fun q hq => zmv_same (fun e => by rw [e, hPt] at hq; exact zpre3 hq)
  have hlab : zrl p h (P to) = p := by rw [hPt, zrl_out zpre3]
  cases f with
  | zero =>
    obtain ⟨⟨a1, a2, a3, a4⟩, b1, b2, b3, b4⟩ := hR
    exact ⟨⟨ht, hlab, by rw [m18]; exact a3, a4⟩, b1, by rw [m15]; exact b2, by rw [m16]; exact b3, by rw [m17]; exact b4⟩
  | succ f =>
    obtain ⟨⟨a1, a2, a3, a4⟩, hb⟩ := hR
    refine ⟨⟨ht, hlab, by rw [m18]; exact a3, a4⟩, ?_⟩
    rcases hb with ⟨b1, b2, b3, b4⟩ | ⟨a, t, c1, c2, c3, c4, c5, c6, c8⟩
    · exact Or.inl ⟨b1, by rw [m15]; exact b2, by rw [m16]; exact b3, by rw [m17]; exact b4⟩
    · obtain ⟨-, hnb⟩ := znb4 hd c2
      refine Or.inr ⟨a, t, c1, c2, c3, by rw [m15]; exact c4, by rw [m16]; exact c5, by rw [m17]; exact c6, fun b hb => ?_⟩
      have e : zch (zmv σ fr to) to b = zch σ fr b := by
        unfold zch
        rw [m21 b (by omega)]
      rw [e, m21 b (by omega)]
      exact ⟨(c8 b hb).1, zRS_rel hd hs (c8 b hb).2⟩
def zPS (dp k : Nat) : Prop := (14 ≤ k ∧ k ≤ 21) ∨ (39 + dp ≤ k ∧ k < 43) ∨ (6 + dp ≤ k ∧ k < 10) ∨ (10 + dp < k ∧ k < 14)
theorem zPS_keep {D : zD} {σ τ : ze_S} {dp : Nat} {w : Nat → Nat} (hdp : dp < 4) (hx : zxp (zPS dp) σ τ) (hB : zB σ D) (hw : zrow σ dp D.2.1 w) : zB τ D ∧ zrow τ dp D.2.1 w ∧ τ.1 33 = σ.1 33 ∧ τ.1 29 = σ.1 29 := by
  refine ⟨zB_eq hB (hx 0 (by unfold zPS; omega)).1 (hx 1 (by unfold zPS; omega)).1 (hx 2 (by unfold zPS; omega)).1 (hx 28 (by unfold zPS; omega)).1, fun i hi => ?_, (hx 33 (by unfold zPS; omega)).1, (hx 29 (by unfold zPS; omega)).1⟩
  rw [(hx (10 + dp) (by unfold zPS; omega)).1]
  exact hw i hi
/-- what pruning leaves behind -/
def zPP (D : zD) (σ : ze_S) (P : Nat → List Nat) (ch f dp pl : Nat) (p : List Nat) (w : Nat → Nat) (T : zTr) (τ : ze_S) : Prop :=
  zxp (zPS dp) σ τ ∧ ∃ R : Nat → List Nat, (∀ q, ¬ p <+: P q → zsame σ τ q ∧ R q = P q) ∧ (∀ q, p <+: P q → p <+: R q) ∧ zRC D τ R f w pl p (zpn D ch f w T)
/-- the state of pruning before branch j -/
def zPI (D : zD) (σ : ze_S) (P : Nat → List Nat) (ch f dp pl : Nat) (p : List Nat) (w : Nat → Nat) (T : zTr) (a : Nat) (t : Int32) (j : Nat) (R : Nat → List Nat) (τ : ze_S) : Prop :=
  zxp (zPS dp) σ τ ∧ zFk τ dp a t (zm_nb (D.2.2.1 a)) (zpt D a t w) ∧ zsame σ τ pl ∧ R pl = p ∧
  (∀ q, ¬ p <+: P q → zsame σ τ q ∧ R q = P q) ∧ (∀ q, p <+: P q → p <+: R q) ∧
  (∀ b, j ≤ b → b < zm_nb (D.2.2.1 a) → zRC D τ R f (zsd D a t w b) (zch σ pl b) (p ++ [b]) (zsub T b)) ∧
  (∀ b, b < j → zRC D τ R f (zsd D a t w b) (zch σ pl b) (p ++ [b]) (zpn D ch f (zsd D a t w b) (zsub T b)))
