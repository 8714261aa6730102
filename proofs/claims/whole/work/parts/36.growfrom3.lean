theorem zGS_keep {D : zD} {σ τ : ze_S} {dp : Nat} {w : Nat → Nat} (hdp : dp < 4) (hx : zxp (zGS dp) σ τ) (hB : zB σ D) (hw : zrow σ dp D.2.1 w) : zB τ D ∧ zrow τ dp D.2.1 w ∧ τ.1 32 = σ.1 32 := by
  refine ⟨zB_eq hB (hx 0 (by unfold zGS; omega)).1 (hx 1 (by unfold zGS; omega)).1 (hx 2 (by unfold zGS; omega)).1 (hx 28 (by unfold zGS; omega)).1, fun i hi => ?_, (hx 32 (by unfold zGS; omega)).1⟩
  rw [(hx (10 + dp) (by unfold zGS; omega)).1]
  exact hw i hi
/-- the state of growing before branch j -/
def zGI (D : zD) (σ : ze_S) (P : Nat → List Nat) (m f dp pl : Nat) (p : List Nat) (w : Nat → Nat) (c ty mk a : Nat) (t : Int32) (j : Nat) (τ : ze_S) : Prop :=
  zxp (zGS dp) σ τ ∧ τ.1 29 10 = σ.1 29 10 ∧ τ.1 29 11 = σ.1 29 11 ∧ zFk τ dp a t (zm_nb (D.2.2.1 a)) (zpt D a t w) ∧
  (τ.1 15 pl = nI a ∧ τ.1 16 pl = t ∧ τ.1 17 pl = nI (zm_nb (D.2.2.1 a)) ∧ τ.1 18 pl = nI ty ∧ (∀ x, x < 3 → τ.1 19 (3 * pl + x) = nI (zcw D w x)) ∧ ∀ b, b < 4 → τ.1 20 (4 * pl + b) = nI (zpt D a t w b)) ∧
  ∃ (mkj : Nat) (R : Nat → List Nat), mk ≤ mkj ∧ mkj ≤ mk + j * zN f ∧ τ.1 29 9 = nI mkj ∧ (∀ q, q < mk → R q = P q) ∧ (∀ q, mkj ≤ q → R q = [99]) ∧ (∀ q, mk ≤ q → q < mkj → ∃ b r, b < j ∧ R q = p ++ b :: r) ∧ (∀ q, q < mk → q ≠ pl → zsame σ τ q) ∧
    ∀ b, b < j → τ.1 21 (4 * pl + b) = nI (zch τ pl b) ∧ zRC D τ R f (zsd D a t w b) (zch τ pl b) (p ++ [b]) (zgw D m f (zsd D a t w b) c ty)
theorem zpre1 {p : List Nat} {b : Nat} (hb : b < 99) : ¬ (p ++ [b]) <+: [99] := by
  rintro ⟨s, hs⟩
  cases p with
  | nil =>
    have h : b = 99 := by
      have := congrArg List.head? hs
      simpa using this
    omega
  | cons a p =>
    have := congrArg List.length hs
    simp at this
theorem zpre2 {p r : List Nat} {b b' : Nat} (h : (p ++ [b]) <+: (p ++ b' :: r)) : b = b' := by
  obtain ⟨s, hs⟩ := h
  rw [List.append_assoc] at hs
  have := List.append_cancel_left hs
  exact (List.cons.inj this).1
theorem zpre3 {p : List Nat} {b : Nat} : ¬ (p ++ [b]) <+: p := by
  intro h
  have := h.length_le
  simp at this
  omega
set_option maxRecDepth 20000 in
set_option maxHeartbeats 2000000 in
theorem e_gbr {e : Nat} {D : zD} {σ : ze_S} {P : Nat → List Nat} {m f dp pl : Nat} {p : List Nat} {w : Nat → Nat} {c ty mk a : Nat} {t cc : Int32} {ce : Nat} {Q : ze_P}
    (hd : zdok D) (he : f + 5 ≤ e) (hdf : dp + (f + 1) = 3) (hB : zB σ D) (hm : σ.1 32 4 = nI m) (hw : zrow σ dp D.2.1 w) (hwb : ∀ i, i < D.2.1 → w i ≤ 720) (hpl : pl < mk) (hmk : mk + zN (f + 1) ≤ 86) (hP : P pl = p) (hP9 : ∀ q, mk ≤ q → P q = [99]) (hp4 : ∀ b, b ∈ p → b < 4) (hty : ty < 3) (ha : a < D.1) (ht : zth D a t) (hc : c < 16)
    (ih : ∀ (σ : ze_S) (pl : Nat) (p : List Nat) (w : Nat → Nat) (c pt mk : Nat) (P : Nat → List Nat), zB σ D → σ.1 32 4 = nI m → zrow σ (dp + 1) D.2.1 w → (∀ i, i < D.2.1 → w i ≤ 720) → pl < mk → mk + zN f ≤ 86 → σ.1 29 9 = nI mk → P pl = p → (∀ q, mk ≤ q → P q = [99]) → (∀ b, b ∈ p → b < 4) → σ.1 18 pl = nI pt → pt < 3 → σ.1 15 pl = -1 → σ.1 16 pl = -1 → σ.1 17 pl = 0 → c < 16 → zM (f + 5) m_Gr_growFrom [.ref 32, .int (nI pl), .int (nI (dp + 1)), .int (nI c)] σ (fun v τ => v = none ∧ zGP D σ P m f (dp + 1) pl p w c pt mk τ))
    (fin : ∀ τ, zGI D σ P m f dp pl p w c ty mk a t (zm_nb (D.2.2.1 a)) τ → Q none τ) :
    ∀ n j (o : Option Value) τ, j + n = zm_nb (D.2.2.1 a) → zGI D σ P m f dp pl p w c ty mk a t j τ → zE e t_Gr_growFrom Q (157, [some (.ref 32), some (.int (nI pl)), some (.int (nI dp)), some (.int cc), some (.int (nI ce)), some (.int (nI c)), some (.int (nI j)), o], [], τ) := by
  obtain ⟨hn2, hn4⟩ := znb4 hd ha
  have hN := zN_pos f
  have hNs : zN (f + 1) = 1 + 4 * zN f := rfl
  have hpl85 : pl < 85 := by omega
  intro n
  induction n with
  | zero =>
    intro j o τ hj hI
    have hI2 := hI
    obtain ⟨-, -, -, -, ⟨-, -, h17, -⟩, -⟩ := hI2
    iterate 2 (refine ze_go1 rfl ?_)
    iterate 2 (refine ze_go2 rfl rfl ?_)
    refine ze_go1 rfl ?_
    refine ze_go2 rfl ⟨rfl, vp_in_nI (N := 85) hpl85 (by decide)⟩ ?_
    rw [nI_clamp (n := pl) (by omega), h17]
    refine ze_brT rfl (nI_le (by omega) (by omega)) ?_
    refine ze_rt1 rfl trivial (fin τ ?_)
    rw [← show j = zm_nb (D.2.2.1 a) by omega]
    exact hI
  | succ n ihn =>
    intro j o τ hj hI
    obtain ⟨hx, h10, h11, hF, ⟨h15, h16, h17, h18, h19, h20⟩, mkj, R, g1, g2, g3, g4, g5, g6, g7, g8⟩ := hI
    obtain ⟨hBt, hwt, e32⟩ := zGS_keep (by omega) hx hB hw
    have hmj : mkj < 85 := by
      have : j * zN f ≤ 3 * zN f := Nat.mul_le_mul_right _ (by omega)
      omega
    have hmj2 : mkj + 1 + zN f ≤ 86 := by
      have : j * zN f ≤ 3 * zN f := Nat.mul_le_mul_right _ (by omega)
      omega
    iterate 2 (refine ze_go1 rfl ?_)
    iterate 2 (refine ze_go2 rfl rfl ?_)
    refine ze_go1 rfl ?_
    refine ze_go2 rfl ⟨rfl, vp_in_nI (N := 85) hpl85 (by decide)⟩ ?_
    rw [nI_clamp (n := pl) (by omega), h17]
    refine ze_brF rfl (nI_ge (by omega) (by omega)) ?_
    refine ze_go1 rfl ?_
    refine ze_go2 rfl rfl ?_
    refine ze_go1 rfl ?_
    iterate 2 (refine ze_go2 rfl rfl ?_)
    refine ze_go1 rfl ?_
    refine ze_go2 rfl ⟨rfl, vp_in_nI (N := 85) hpl85 (by decide)⟩ ?_
    rw [nI_clamp (n := pl) (by omega), h18]
    refine ze_ca1 rfl ⟨rfl, rfl⟩ (ze_M_le (e_makeNode (d := 0) hmj g3) (by omega)) (fun v τa hτ => ?_)
    obtain ⟨rfl, hτa⟩ := hτ
    iterate 2 (refine ze_go1 rfl ?_)
    iterate 2 (refine ze_go2 rfl rfl ?_)
    iterate 6 (refine ze_go1 rfl ?_)
    rw [zi4]
    refine ze_go2 rfl ⟨rfl, vp_in_nI (N := 340) (by omega) (by decide)⟩ ?_
    rw [nI_clamp (n := 4 * pl + j) (by omega)]
    have xa : zx [15, 16, 17, 18, 29] τ τa := by
      rw [hτa]
      exact zx_tr (zx_tr (zx_tr (zx_tr (zx_ui (by simp) _ _ _) (zx_ui (by simp) _ _ _)) (zx_ui (by simp) _ _ _)) (zx_ui (by simp) _ _ _)) (zx_ui (by simp) _ _ _)
    have sa : ∀ q, q ≠ mkj → zsame τ τa q := fun q hq => by
      refine ⟨?_, ?_, ?_, ?_, fun x hx => ?_, fun x hx => ?_, fun x hx => ?_⟩
      · rw [hτa, zui_o _ _ _ _ (by decide), zui_o _ _ _ _ (by decide), zui_n _ _ _ _ hq, zui_o _ _ _ _ (by decide), zui_o _ _ _ _ (by decide)]
      · rw [hτa, zui_o _ _ _ _ (by decide), zui_n _ _ _ _ hq, zui_o _ _ _ _ (by decide), zui_o _ _ _ _ (by decide), zui_o _ _ _ _ (by decide)]
      · rw [hτa, zui_n _ _ _ _ hq, zui_o _ _ _ _ (by decide), zui_o _ _ _ _ (by decide), zui_o _ _ _ _ (by decide), zui_o _ _ _ _ (by decide)]
      · rw [hτa, zui_o _ _ _ _ (by decide), zui_o _ _ _ _ (by decide), zui_o _ _ _ _ (by decide), zui_n _ _ _ _ hq, zui_o _ _ _ _ (by decide)]
      · rw [(xa 19 (by simp)).1]
      · rw [(xa 20 (by simp)).1]
      · rw [(xa 21 (by simp)).1]
    have na : τa.1 15 mkj = -1 ∧ τa.1 16 mkj = -1 ∧ τa.1 17 mkj = 0 ∧ τa.1 18 mkj = nI ty ∧ τa.1 29 9 = nI (mkj + 1) ∧ τa.1 29 10 = τ.1 29 10 ∧ τa.1 29 11 = τ.1 29 11 := by
      refine ⟨?_, ?_, ?_, ?_, ?_, ?_, ?_⟩
      · rw [hτa, zui_o _ _ _ _ (by decide), zui_o _ _ _ _ (by decide), zui]
      · rw [hτa, zui_o _ _ _ _ (by decide), zui]
      · rw [hτa, zui]
      · rw [hτa, zui_o _ _ _ _ (by decide), zui_o _ _ _ _ (by decide), zui_o _ _ _ _ (by decide), zui]
      · rw [hτa, zui_o _ _ _ _ (by decide), zui_o _ _ _ _ (by decide), zui_o _ _ _ _ (by decide), zui_o _ _ _ _ (by decide), zui]
      · rw [hτa, zui_o _ _ _ _ (by decide), zui_o _ _ _ _ (by decide), zui_o _ _ _ _ (by decide), zui_o _ _ _ _ (by decide), zui_n _ _ _ _ (by decide)]
      · rw [hτa, zui_o _ _ _ _ (by decide), zui_o _ _ _ _ (by decide), zui_o _ _ _ _ (by decide), zui_o _ _ _ _ (by decide), zui_n _ _ _ _ (by decide)]
    clear hτa
    generalize hτb : ze_ui τa 21 (4 * pl + j) (nI mkj) = τb
    have xb : zx [21] τa τb := by rw [← hτb]; exact zx_ui (by simp) _ _ _
    have xab : zx [15, 16, 17, 18, 21, 29] τ τb := zx_tr (zx_wk xa (by simp)) (zx_wk xb (by simp))
    have b21 : τb.1 21 (4 * pl + j) = nI mkj := by rw [← hτb, zui]
    have b21n : ∀ x, x ≠ 4 * pl + j → τb.1 21 x = τa.1 21 x := fun x hx => by rw [← hτb, zui_n _ _ _ _ hx]
    have hBb : zB τb D := zB_x hBt xab (by decide)
    have hwb2 : zrow τb dp D.2.1 w := fun i hi => by rw [(xab (10 + dp) (by simp <;> omega)).1]; exact hwt i hi
    have hFb : zFk τb dp a t (zm_nb (D.2.2.1 a)) (zpt D a t w) := zFk_eq hF (xab (39 + dp) (by simp <;> omega)).1 (xab (6 + dp) (by simp <;> omega)).1
    have hK : zm_s (zpt D a t w) 4 ≤ 17280 := by
      have e1 : zm_s (zpt D a t w) 4 = zm_kn (fun i => D.2.2.2.2 i a) w D.2.1 := zm_pu_eq hd ha ht
      have := zm_kn_le (v := fun i => D.2.2.2.2 i a) (w := w) (n := D.2.1)
      have := zm_w_le hd.2.1 hwb
      omega
    refine ze_go1 rfl ?_
    refine ze_go2 rfl rfl ?_
    iterate 2 (refine ze_go1 rfl ?_)
    refine ze_ca1 rfl ⟨rfl, rfl⟩ (ze_M_le (e_goDown (d := 0) (b := j) hd hBb (by omega) ha ht hwb2 hwb hFb hK (by omega)) (by omega)) (fun v τc hτ => ?_)
    obtain ⟨rfl, xc, rc⟩ := hτ
    have esd : (fun i => zm_ps (D.2.2.1 a) t (zpt D a t w) (zm_s (zpt D a t w) 4) (zm_fg (zpt D a t w) 4) (w i) (D.2.2.2.2 i a) j) = zsd D a t w j := by
      funext i
      rw [show zm_s (zpt D a t w) 4 = zm_kn (fun i => D.2.2.2.2 i a) w D.2.1 from zm_pu_eq hd ha ht]
      rfl
    rw [esd] at rc
    iterate 6 (refine ze_go1 rfl ?_)
    rw [show nI dp + 1 = nI (dp + 1) from nI_1 _]
    have xac : zx [15, 16, 17, 18, 21, 29, 10 + (dp + 1)] τ τc := zx_tr (zx_wk xab (fun k hk => by simp at hk ⊢; omega)) (zx_wk xc (by simp))
    have ec : ∀ k, k ≠ 10 + (dp + 1) → τc.1 k = τb.1 k := fun k hk => (xc k (by simp [hk])).1
    have eb : ∀ k, k ≠ 21 → τb.1 k = τa.1 k := fun k hk => (xb k (by simp [hk])).1
    have sc : ∀ q, zsame τb τc q := fun q => zsame_x xc (by simp <;> omega) (by simp <;> omega) (by simp <;> omega) (by simp <;> omega) (by simp <;> omega) (by simp <;> omega) (by simp <;> omega) q
    have hBc : zB τc D := zB_x hBt xac (fun k hk => by simp at hk; omega)
    have IH := ih τc mkj (p ++ [j]) (zsd D a t w j) c ty (mkj + 1) (fun q => if q = mkj then p ++ [j] else R q) hBc
      (by rw [(xac 32 (by simp <;> omega)).1, e32, hm]) rc (fun i hi => Nat.le_trans zsd_le (hwb i hi)) (Nat.lt_succ_self _) hmj2
      (by rw [ec 29 (by omega), eb 29 (by decide)]; exact na.2.2.2.2.1) (if_pos rfl)
      (fun q hq => by rw [if_neg (by omega)]; exact g5 q (by omega))
      (fun b hb => by rcases List.mem_append.mp hb with h | h; exact hp4 b h; have := List.mem_singleton.mp h; omega)
      (by rw [ec 18 (by omega), eb 18 (by decide)]; exact na.2.2.2.1) hty (by rw [ec 15 (by omega), eb 15 (by decide)]; exact na.1) (by rw [ec 16 (by omega), eb 16 (by decide)]; exact na.2.1) (by rw [ec 17 (by omega), eb 17 (by decide)]; exact na.2.2.1) hc
    refine ze_ca1 rfl ⟨rfl, rfl⟩ (ze_M_le IH he) (fun v τd hτ => ?_)
    obtain ⟨rfl, y1, y2, y3, mk', R', z1, z2, z3, z4, z5, z6, z7, z8⟩ := hτ
    have z4 : ∀ q, q < mkj + 1 → R' q = if q = mkj then p ++ [j] else R q := z4
    iterate 2 (refine ze_go1 rfl ?_)
    rw [show nI j + 1 = nI (j + 1) from nI_1 _]
    refine ihn (j + 1) _ τd (by omega) ?_
    -- the state before the next branch
    have sab : ∀ q, q ≠ mkj → q ≠ pl → zsame τ τc q := fun q h1 h2 => by
      refine zsame_tr (zsame_tr (sa q h1) ?_) (sc q)
      exact ⟨by rw [eb 15 (by decide)], by rw [eb 16 (by decide)], by rw [eb 17 (by decide)], by rw [eb 18 (by decide)], fun x _ => by rw [eb 19 (by decide)], fun x _ => by rw [eb 20 (by decide)], fun x hx => b21n _ (by omega)⟩
    have sd : ∀ q, q < mkj → q ≠ pl → zsame τ τd q := fun q h1 h2 => zsame_tr (sab q (by omega) h2) (z7 q (by omega) (by omega))
    have spl : zsame τc τd pl := z7 pl (by omega) (by omega)
    have plc : τc.1 15 pl = nI a ∧ τc.1 16 pl = t ∧ τc.1 17 pl = nI (zm_nb (D.2.2.1 a)) ∧ τc.1 18 pl = nI ty := by
      have s := sa pl (by omega)
      exact ⟨by rw [ec 15 (by omega), eb 15 (by decide), s.1, h15], by rw [ec 16 (by omega), eb 16 (by decide), s.2.1, h16], by rw [ec 17 (by omega), eb 17 (by decide), s.2.2.1, h17], by rw [ec 18 (by omega), eb 18 (by decide), s.2.2.2.1, h18]⟩
    have c21 : ∀ b, b < 4 → τd.1 21 (4 * pl + b) = if b = j then nI mkj else τ.1 21 (4 * pl + b) := fun b hb => by
      rw [spl.2.2.2.2.2.2 b hb, ec 21 (by omega)]
      by_cases q : b = j
      · rw [q, b21, if_pos rfl]
      · rw [if_neg q, b21n _ (by omega), (xa 21 (by simp)).1]
    refine ⟨zxp_tr hx (zxp_tr (zxp_of xac (fun k hk => by simp at hk; unfold zGS; omega)) (zxp_wk y1 (fun k hk => by unfold zGS at hk ⊢; omega))), ?_, ?_, ?_, ⟨?_, ?_, ?_, ?_, ?_, ?_⟩, mk', R', by omega, ?_, z3, ?_, z5, ?_, ?_, ?_⟩
    · rw [y2, ec 29 (by omega), eb 29 (by decide), na.2.2.2.2.2.1, h10]
    · rw [y3, ec 29 (by omega), eb 29 (by decide), na.2.2.2.2.2.2, h11]
    · exact zFk_eq hFb (by rw [(y1 (39 + dp) (by unfold zGS; omega)).1, ec _ (by omega)]) (by rw [(y1 (6 + dp) (by unfold zGS; omega)).1, ec _ (by omega)])
    · rw [spl.1]; exact plc.1
    · rw [spl.2.1]; exact plc.2.1
    · rw [spl.2.2.1]; exact plc.2.2.1
    · rw [spl.2.2.2.1]; exact plc.2.2.2
    · intro x hx
      rw [spl.2.2.2.2.1 x hx, (xac 19 (by simp <;> omega)).1]
      exact h19 x hx
    · intro b hb
      rw [spl.2.2.2.2.2.1 b hb, (xac 20 (by simp <;> omega)).1]
      exact h20 b hb
    · have : (j + 1) * zN f = j * zN f + zN f := Nat.succ_mul _ _
      omega
    · intro q hq
      rw [z4 q (by omega), if_neg (by omega)]
      exact g4 q hq
    · intro q h1 h2
      by_cases q1 : q < mkj
      · obtain ⟨b, r, hb, hr⟩ := g6 q h1 q1
        refine ⟨b, r, by omega, ?_⟩
        rw [z4 q (by omega), if_neg (by omega)]
        exact hr
      · by_cases q2 : q = mkj
        · refine ⟨j, [], Nat.lt_succ_self _, ?_⟩
          rw [z4 q (by omega), if_pos q2]
        · obtain ⟨b, r, hb, hr⟩ := z6 q (by omega) h2
          refine ⟨j, b :: r, Nat.lt_succ_self _, ?_⟩
          rw [hr, List.append_assoc]
          rfl
    · intro q h1 h2
      exact zsame_tr (g7 q h1 h2) (sd q (by omega) h2)
    · intro b hb
      by_cases q : b = j
      · subst q
        have e1 : zch τd pl b = mkj := by
          unfold zch
          rw [c21 b (by omega), if_pos rfl, nI_clamp (by omega)]
        rw [e1, c21 b (by omega), if_pos rfl]
        exact ⟨rfl, z8⟩
      · have e1 : zch τd pl b = zch τ pl b := by
          unfold zch
          rw [c21 b (by omega), if_neg q]
        rw [e1, c21 b (by omega), if_neg q]
        refine ⟨(g8 b (by omega)).1, zRC_eq hd (g8 b (by omega)).2 (fun s hs => ?_)⟩
        have hs1 : s < mkj := by
          by_cases z : s < mkj
          · exact z
          · rw [g5 s (by omega)] at hs
            exact absurd hs (zpre1 (by omega))
        have hs2 : s ≠ pl := by
          intro z
          rw [z, g4 pl hpl, hP] at hs
          exact zpre3 hs
        refine ⟨sd s hs1 hs2, ?_⟩
        rw [z4 s (by omega), if_neg (by omega)]
