/-! the reference grows breadth first: what is known of each place -/
abbrev zGh : Type := Nat → (Nat → Nat) × Nat × Nat × List Nat × Nat × List Nat
def zgW (G : zGh) (q : Nat) : Nat → Nat := (G q).1
def zgC (G : zGh) (q : Nat) : Nat := (G q).2.1
def zgT (G : zGh) (q : Nat) : Nat := (G q).2.2.1
def zgL (G : zGh) (q : Nat) : List Nat := (G q).2.2.2.1
def zgF (G : zGh) (q : Nat) : Nat := (G q).2.2.2.2.1
def zgP (G : zGh) (q : Nat) : List Nat := (G q).2.2.2.2.2
def zanN (σ : ze_S) (n : Nat) : Nat → List Nat → Prop
  | pl, [] => pl = 0
  | pl, a :: l => 0 < pl ∧ pl < 96 ∧ ∃ q, σ.1 52 pl = nI q ∧ q < 96 ∧ q < n ∧ σ.1 49 q = nI a ∧ a < 4 ∧ zanN σ n q l
theorem zanN_an {σ : ze_S} {n : Nat} : ∀ {l : List Nat} {pl : Nat}, zanN σ n pl l → zan σ pl l
  | [], _, h => h
  | _ :: _, _, ⟨g1, g2, q, g3, g4, _, g5, g6, g7⟩ => ⟨g1, g2, q, g3, g4, g5, g6, zanN_an g7⟩
def zsmr (σ τ : ze_S) (q : Nat) : Prop := τ.1 49 q = σ.1 49 q ∧ τ.1 50 q = σ.1 50 q ∧ τ.1 52 q = σ.1 52 q ∧ τ.1 53 q = σ.1 53 q ∧ τ.1 54 q = σ.1 54 q ∧ (∀ b, b < 4 → τ.1 51 (4 * q + b) = σ.1 51 (4 * q + b)) ∧ ∀ i, i < 24 → τ.1 55 (24 * q + i) = σ.1 55 (24 * q + i)
theorem zsmr_rf (σ : ze_S) (q : Nat) : zsmr σ σ q := ⟨rfl, rfl, rfl, rfl, rfl, fun _ _ => rfl, fun _ _ => rfl⟩
theorem zsmr_tr {σ τ υ : ze_S} {q : Nat} (h : zsmr σ τ q) (k : zsmr τ υ q) : zsmr σ υ q :=
  ⟨k.1.trans h.1, k.2.1.trans h.2.1, k.2.2.1.trans h.2.2.1, k.2.2.2.1.trans h.2.2.2.1, k.2.2.2.2.1.trans h.2.2.2.2.1, fun b hb => (k.2.2.2.2.2.1 b hb).trans (h.2.2.2.2.2.1 b hb), fun i hi => (k.2.2.2.2.2.2 i hi).trans (h.2.2.2.2.2.2 i hi)⟩
theorem zsmr_y {l m : List Nat} {σ τ : ze_S} (h : zy l m σ τ) (hl : ∀ k, k ∈ l → k < 49 ∨ 55 < k) (q : Nat) : zsmr σ τ q := by
  have g : ∀ k, 49 ≤ k → k ≤ 55 → τ.1 k = σ.1 k := fun k h1 h2 => (h.1 k (fun z => by have := hl k z; omega) (by omega)).1
  refine ⟨?_, ?_, ?_, ?_, ?_, fun b _ => ?_, fun i _ => ?_⟩
  · rw [g 49 (by omega) (by omega)]
  · rw [g 50 (by omega) (by omega)]
  · rw [g 52 (by omega) (by omega)]
  · rw [g 53 (by omega) (by omega)]
  · rw [g 54 (by omega) (by omega)]
  · rw [g 51 (by omega) (by omega)]
  · rw [g 55 (by omega) (by omega)]
theorem zanN_eq {σ τ : ze_S} {n n' : Nat} (hn : n ≤ n') (hs : ∀ u, u < n → zsmr σ τ u) : ∀ {l : List Nat} {pl : Nat}, τ.1 52 pl = σ.1 52 pl → zanN σ n pl l → zanN τ n' pl l
  | [], _, _, h => h
  | _ :: _, pl, h5, ⟨g1, g2, q, g3, g4, g4', g5, g6, g7⟩ => ⟨g1, g2, q, by rw [h5]; exact g3, g4, by omega, by rw [(hs q g4').1]; exact g5, g6, zanN_eq hn hs (hs q g4').2.2.1 g7⟩
/-- a place that is settled -/
def zSe (D : zD) (m : Nat) (σ : ze_S) (G : zGh) (mk q : Nat) : Prop :=
  σ.1 54 q = nI (zty D (zgW G q) (zgT G q)) ∧ zrw σ q D.2.1 (zgW G q) ∧ zgT G q < 3 ∧
  (((zgF G q = 0 ∨ zgt D (zgW G q) m (zgC G q) = none) ∧ σ.1 49 q = -1) ∨
    ∃ a t f, zgF G q = f + 1 ∧ zgt D (zgW G q) m (zgC G q) = some (a, t) ∧ σ.1 49 q = nI a ∧ σ.1 50 q = t ∧ ∀ b, b < zm_nb (D.2.2.1 a) → ∃ k, σ.1 51 (4 * q + b) = nI k ∧ q < k ∧ k < mk ∧ G k = (zsd D a t (zgW G q) b, zcm D a (zgC G q), zty D (zgW G q) (zgT G q), a :: zgL G q, f, zgP G q ++ [b]))
/-- a place that waits -/
def zPe (D : zD) (σ : ze_S) (G : zGh) (n q : Nat) : Prop :=
  zrw σ q D.2.1 (zgW G q) ∧ (∀ i, i < D.2.1 → zgW G q i ≤ 720) ∧ zgF G q ≤ 3 ∧ σ.1 53 q = nI (3 - zgF G q) ∧ zanN σ n q (zgL G q) ∧ (zgL G q).length = 3 - zgF G q ∧ zmsk D (zgL G q) (zgC G q) ∧ zgT G q < 3 ∧ (q = 0 → 0 < zm_s (zcw D (zgW G q)) 3) ∧ (0 < q → ∃ u, u < n ∧ σ.1 52 q = nI u ∧ σ.1 54 u = nI (zgT G q))
theorem zSe_eq {D : zD} {m : Nat} {σ τ : ze_S} {G G' : zGh} {mk mk' q : Nat} (hd : zdok D) (h : zSe D m σ G mk q) (hs : zsmr σ τ q) (hG : ∀ k, k < mk → G' k = G k) (hq : q < mk) (hm : mk ≤ mk') : zSe D m τ G' mk' q := by
  have h24 := hd.2.1
  obtain ⟨s1, s2, s3, s4, s5, s6, s7⟩ := hs
  have eW : zgW G' q = zgW G q := congrArg (·.1) (hG q hq)
  have eC : zgC G' q = zgC G q := congrArg (·.2.1) (hG q hq)
  have eT : zgT G' q = zgT G q := congrArg (·.2.2.1) (hG q hq)
  have eL : zgL G' q = zgL G q := congrArg (·.2.2.2.1) (hG q hq)
  have eF : zgF G' q = zgF G q := congrArg (·.2.2.2.2.1) (hG q hq)
  have eP : zgP G' q = zgP G q := congrArg (·.2.2.2.2.2) (hG q hq)
  unfold zSe
  rw [eW, eC, eT, eL, eF, eP, s1, s2, s5]
  obtain ⟨h1, h2, h3, h4⟩ := h
  refine ⟨h1, fun i hi => by rw [s7 i (by omega)]; exact h2 i hi, h3, ?_⟩
  rcases h4 with h4 | ⟨a, t, f, g1, g2, g3, g4, g5⟩
  · exact Or.inl h4
  · refine Or.inr ⟨a, t, f, g1, g2, g3, g4, fun b hb => ?_⟩
    obtain ⟨k, k1, k2, k3, k4⟩ := g5 b hb
    have ha : a < D.1 := by
      unfold zgt at g2
      split at g2
      · cases g2
      · exact (zchs_some hd g2).2.1
    have hn := znb4 hd ha
    exact ⟨k, by rw [s6 b (by omega)]; exact k1, k2, by omega, by rw [hG k k3]; exact k4⟩
theorem zPe_eq {D : zD} {σ τ : ze_S} {G G' : zGh} {n n' q : Nat} (hd : zdok D) (h : zPe D σ G n q) (hs : zsmr σ τ q) (hu : ∀ u, u < n → zsmr σ τ u) (hG : G' q = G q) (hn : n ≤ n') : zPe D τ G' n' q := by
  have h24 := hd.2.1
  have eW : zgW G' q = zgW G q := congrArg (·.1) hG
  have eC : zgC G' q = zgC G q := congrArg (·.2.1) hG
  have eT : zgT G' q = zgT G q := congrArg (·.2.2.1) hG
  have eL : zgL G' q = zgL G q := congrArg (·.2.2.2.1) hG
  have eF : zgF G' q = zgF G q := congrArg (·.2.2.2.2.1) hG
  obtain ⟨h1, h2, h3, h4, h5, h6, h7, h8, h8', h9⟩ := h
  unfold zPe
  rw [eW, eC, eT, eL, eF]
  refine ⟨fun i hi => by rw [hs.2.2.2.2.2.2 i (by omega)]; exact h1 i hi, h2, h3, by rw [hs.2.2.2.1]; exact h4, zanN_eq hn hu hs.2.2.1 h5, h6, h7, h8, h8', fun h0 => ?_⟩
  obtain ⟨u, u1, u2, u3⟩ := h9 h0
  exact ⟨u, by omega, by rw [hs.2.2.1]; exact u2, by rw [(hu u u1).2.2.2.2.1]; exact u3⟩
def zgl' : List Nat := [49, 50, 51, 52, 53, 54, 55, 56, 57]
def zgm' : List Nat := [7, 17, 18, 21, 22]
/-- the state of growing before place n -/
def zIG (D : zD) (m : Nat) (σ : ze_S) (G : zGh) (n mk : Nat) : Prop :=
  zBn σ D ∧ σ.1 64 6 = nI D.2.1 ∧ σ.1 64 7 = nI mk ∧ n ≤ mk ∧ (∀ q, q < n → zSe D m σ G mk q) ∧ (∀ q, n ≤ q → q < mk → zPe D σ G n q) ∧ n + zm_s (fun i => zN (zgF G (n + i))) (mk - n) ≤ 85
theorem zm_s_sh (f : Nat → Nat) : ∀ k, zm_s f (k + 1) = f 0 + zm_s (fun i => f (i + 1)) k
  | 0 => by show 0 + f 0 = f 0 + 0; omega
  | k + 1 => by
    show zm_s f (k + 1) + f (k + 1) = f 0 + (zm_s (fun i => f (i + 1)) k + f (k + 1))
    rw [zm_s_sh f k]
    omega
theorem zm_s_app (f : Nat → Nat) (a : Nat) : ∀ k, zm_s f (a + k) = zm_s f a + zm_s (fun i => f (a + i)) k
  | 0 => rfl
  | k + 1 => by
    show zm_s f (a + k) + f (a + k) = zm_s f a + (zm_s (fun i => f (a + i)) k + f (a + k))
    rw [zm_s_app f a k]
    omega
theorem zm_s_ge1 {f : Nat → Nat} (h : ∀ i, 1 ≤ f i) : ∀ k, k ≤ zm_s f k
  | 0 => Nat.le_refl _
  | k + 1 => by
    have := zm_s_ge1 h k
    have := h k
    show k + 1 ≤ zm_s f k + f k
    omega
theorem zIG_mk {D : zD} {m : Nat} {σ : ze_S} {G : zGh} {n mk : Nat} (h : zIG D m σ G n mk) : mk ≤ 85 := by
  obtain ⟨-, -, -, h1, -, -, h2⟩ := h
  have := zm_s_ge1 (f := fun i => zN (zgF G (n + i))) (fun i => zN_pos _) (mk - n)
  omega
/-- a place becomes a leaf -/
theorem zIG_leaf {D : zD} {m : Nat} {σ τ : ze_S} {G : zGh} {n mk : Nat} (hd : zdok D) (h : zIG D m σ G n mk) (hn : n < mk) (hy : zy zgl' zgm' σ τ) (h7 : τ.1 64 7 = nI mk) (hs : ∀ q, q ≠ n → zsmr σ τ q) (h54 : τ.1 54 n = nI (zty D (zgW G n) (zgT G n))) (h49 : τ.1 49 n = -1) (h55 : ∀ i, i < 24 → τ.1 55 (24 * n + i) = σ.1 55 (24 * n + i)) (hl : zgF G n = 0 ∨ zgt D (zgW G n) m (zgC G n) = none) : zIG D m τ G (n + 1) mk := by
  have h24 := hd.2.1
  obtain ⟨g1, g2, g3, g4, g5, g6, g7⟩ := h
  have hp := g6 n (Nat.le_refl _) hn
  refine ⟨zBn_y g1 hy (by unfold zgl'; simp) (by unfold zgm'; simp), by rw [hy.2 6 (by unfold zgm'; simp)]; exact g2, h7, hn, fun q hq => ?_, fun q hq hq2 => ?_, ?_⟩
  · by_cases e : q = n
    · subst e
      exact ⟨h54, fun i hi => by rw [h55 i (by omega)]; exact hp.1 i hi, hp.2.2.2.2.2.2.2.1, Or.inl ⟨hl, h49⟩⟩
    · exact zSe_eq hd (g5 q (by omega)) (hs q e) (fun _ _ => rfl) (by omega) (Nat.le_refl _)
  · exact zPe_eq hd (g6 q (by omega) hq2) (hs q (by omega)) (fun u hu => hs u (by omega)) rfl (Nat.le_succ _)
  · rw [show mk - n = (mk - (n + 1)) + 1 by omega, zm_s_sh] at g7
    have := zN_pos (zgF G (n + 0))
    have e : zm_s (fun i => zN (zgF G (n + 1 + i))) (mk - (n + 1)) = zm_s (fun i => zN (zgF G (n + (i + 1)))) (mk - (n + 1)) := zm_s_eq (fun i _ => by rw [show n + 1 + i = n + (i + 1) by omega])
    rw [e]
    omega
/-- the kids are made: state before branch j -/
def zKI (D : zD) (σ : ze_S) (n mk a F : Nat) (j : Nat) (τ : ze_S) : Prop :=
  zy [49, 51, 52, 53] [7] σ τ ∧ τ.1 64 7 = nI (mk + j) ∧ (∀ q, q < mk → τ.1 49 q = σ.1 49 q ∧ τ.1 52 q = σ.1 52 q ∧ τ.1 53 q = σ.1 53 q) ∧ (∀ q, q ≠ n → ∀ b, b < 4 → τ.1 51 (4 * q + b) = σ.1 51 (4 * q + b)) ∧ ∀ b, b < j → τ.1 51 (4 * n + b) = nI (mk + b) ∧ τ.1 52 (mk + b) = nI n ∧ τ.1 53 (mk + b) = nI (3 - F + 1) ∧ τ.1 49 (mk + b) = -1
set_option maxRecDepth 20000 in
set_option maxHeartbeats 2000000 in
theorem r_kids {e : Nat} {σ : ze_S} {D : zD} {Q : ze_P} {n mk a F : Nat} {x2 x3 : Int32} (he : 1 ≤ e) (hd : zdok D) (hB : zBn σ D) (ha : a < D.1) (hn : n < mk) (hmk : mk + zm_nb (D.2.2.1 a) ≤ 85) (h53 : σ.1 53 n = nI (3 - F))
    (k : ∀ τ, zKI D σ n mk a F (zm_nb (D.2.2.1 a)) τ → zE e t_M_settle Q (197, [some (.ref 64), some (.int (nI n)), some (.int x2), some (.int x3), some (.int (nI a)), some (.int (nI (zm_nb (D.2.2.1 a))))], [], τ)) :
    ∀ m j τ, j + m = zm_nb (D.2.2.1 a) → zKI D σ n mk a F j τ → zE e t_M_settle Q (118, [some (.ref 64), some (.int (nI n)), some (.int x2), some (.int x3), some (.int (nI a)), some (.int (nI j))], [], τ) := by
  have hnb := znb4 hd ha
  intro m
  induction m with
  | zero =>
    intro j τ hj hK
    have ej : j = zm_nb (D.2.2.1 a) := by omega
    subst ej
    have hB2 : zBn τ D := zBn_y hB hK.1 (by simp) (by simp)
    iterate 3 (refine ze_go1 rfl ?_)
    refine ze_ca1 rfl ⟨rfl, rfl⟩ (ze_M_le (r_branches (d := 0) hd hB2 ha) (by omega)) (fun v ρ q => ?_)
    obtain ⟨rfl, rfl⟩ := q
    refine ze_brT rfl (Int32.le_refl _) ?_
    exact k ρ hK
  | succ m ih =>
    intro j τ hj hK
    obtain ⟨y1, k7, ks, k51, kd⟩ := hK
    have hB2 : zBn τ D := zBn_y hB y1 (by simp) (by simp)
    iterate 3 (refine ze_go1 rfl ?_)
    refine ze_ca1 rfl ⟨rfl, rfl⟩ (ze_M_le (r_branches (d := 0) hd hB2 ha) (by omega)) (fun v ρ q => ?_)
    obtain ⟨rfl, rfl⟩ := q
    refine ze_brF rfl (nI_ge (by omega) (by omega)) ?_
    refine ze_go1 rfl ?_
    refine ze_go2 rfl rfl ?_
    iterate 6 (refine ze_go1 rfl ?_)
    refine ze_go2 rfl rfl ?_
    rw [zi4', k7]
    refine ze_go2 rfl ⟨rfl, vp_in_nI (N := 384) (n := 4 * n + j) (by omega) (by omega)⟩ ?_
    rw [nI_clamp (n := 4 * n + j) (by omega)]
    refine ze_go1 rfl ?_
    refine ze_go2 rfl rfl ?_
    refine ze_go1 rfl ?_
    refine ze_go2 rfl rfl ?_
    refine ze_go1 rfl ?_
    rw [zui_o _ _ _ _ (by decide), k7]
    refine ze_go2 rfl ⟨rfl, vp_in_nI (N := 96) (n := mk + j) (by omega) (by omega)⟩ ?_
    rw [nI_clamp (n := mk + j) (by omega)]
    refine ze_go1 rfl ?_
    refine ze_go2 rfl rfl ?_
    refine ze_go1 rfl ?_
    refine ze_go2 rfl rfl ?_
    refine ze_go1 rfl ?_
    refine ze_go2 rfl rfl ?_
    refine ze_go1 rfl ?_
    rw [zui_o _ _ _ _ (by decide), zui_o _ _ _ _ (by decide), k7]
    refine ze_go2 rfl ⟨rfl, vp_in_nI (N := 96) (n := n) (by omega) (by omega)⟩ ?_
    rw [nI_clamp (n := n) (by omega), zui_o _ _ _ _ (by decide), zui_o _ _ _ _ (by decide), (ks n hn).2.2, h53]
    iterate 2 (refine ze_go1 rfl ?_)
    rw [show nI (3 - F) + 1 = nI (3 - F + 1) from nI_1 _]
    refine ze_go2 rfl ⟨rfl, vp_in_nI (N := 96) (n := mk + j) (by omega) (by omega)⟩ ?_
    rw [nI_clamp (n := mk + j) (by omega)]
    refine ze_go1 rfl ?_
    refine ze_go2 rfl rfl ?_
    refine ze_go1 rfl ?_
    refine ze_go2 rfl rfl ?_
    refine ze_go1 rfl ?_
    rw [zui_o _ _ _ _ (by decide), zui_o _ _ _ _ (by decide), zui_o _ _ _ _ (by decide), k7]
    refine ze_go2 rfl ⟨rfl, vp_in_nI (N := 96) (n := mk + j) (by omega) (by omega)⟩ ?_
    rw [nI_clamp (n := mk + j) (by omega)]
    refine ze_go1 rfl ?_
    iterate 2 (refine ze_go2 rfl rfl ?_)
    iterate 2 (refine ze_go1 rfl ?_)
    refine ze_go2 rfl rfl ?_
    iterate 2 (refine ze_go1 rfl ?_)
    rw [zui_o _ _ _ _ (by decide), zui_o _ _ _ _ (by decide), zui_o _ _ _ _ (by decide), zui_o _ _ _ _ (by decide), k7, show nI (mk + j) + 1 = nI (mk + (j + 1)) from nI_1 _]
    have h := ih (j + 1) (ze_ui (ze_ui (ze_ui (ze_ui (ze_ui ρ 51 (4 * n + j) (nI (mk + j))) 52 (mk + j) (nI n)) 53 (mk + j) (nI (3 - F + 1))) 49 (mk + j) (-1)) 64 7 (nI (mk + (j + 1)))) (by omega) ⟨zy_tr y1 (zy_tr (zy_tr (zy_tr (zy_tr (zy_ui (by simp) (by decide) _ _ _) (zy_ui (by simp) (by decide) _ _ _)) (zy_ui (by simp) (by decide) _ _ _)) (zy_ui (by simp) (by decide) _ _ _)) (zy_uo (by simp) _ _)), zui _ _ _ _, fun q hq => ⟨?_, ?_, ?_⟩, fun q hq b hb => ?_, fun b hb => ⟨?_, ?_, ?_, ?_⟩⟩
    · rw [← show nI j + 1 = nI (j + 1) from nI_1 _] at h
      exact h
    · rw [zui_o _ _ _ _ (by decide), zui_n _ _ _ _ (by omega), zui_o _ _ _ _ (by decide), zui_o _ _ _ _ (by decide), zui_o _ _ _ _ (by decide)]; exact (ks q hq).1
    · rw [zui_o _ _ _ _ (by decide), zui_o _ _ _ _ (by decide), zui_o _ _ _ _ (by decide), zui_n _ _ _ _ (by omega), zui_o _ _ _ _ (by decide)]; exact (ks q hq).2.1
    · rw [zui_o _ _ _ _ (by decide), zui_o _ _ _ _ (by decide), zui_n _ _ _ _ (by omega), zui_o _ _ _ _ (by decide), zui_o _ _ _ _ (by decide)]; exact (ks q hq).2.2
    · rw [zui_o _ _ _ _ (by decide), zui_o _ _ _ _ (by decide), zui_o _ _ _ _ (by decide), zui_o _ _ _ _ (by decide), zui_n _ _ _ _ (by omega)]; exact k51 q hq b hb
    · rw [zui_o _ _ _ _ (by decide), zui_o _ _ _ _ (by decide), zui_o _ _ _ _ (by decide), zui_o _ _ _ _ (by decide)]
      by_cases eb : b = j
      · subst eb; exact zui _ _ _ _
      · rw [zui_n _ _ _ _ (by omega)]; exact (kd b (by omega)).1
    · rw [zui_o _ _ _ _ (by decide), zui_o _ _ _ _ (by decide), zui_o _ _ _ _ (by decide)]
      by_cases eb : b = j
      · subst eb; exact zui _ _ _ _
      · rw [zui_n _ _ _ _ (by omega), zui_o _ _ _ _ (by decide)]; exact (kd b (by omega)).2.1
    · rw [zui_o _ _ _ _ (by decide), zui_o _ _ _ _ (by decide)]
      by_cases eb : b = j
      · subst eb; exact zui _ _ _ _
      · rw [zui_n _ _ _ _ (by omega), zui_o _ _ _ _ (by decide), zui_o _ _ _ _ (by decide)]; exact (kd b (by omega)).2.2.1
    · rw [zui_o _ _ _ _ (by decide)]
      by_cases eb : b = j
      · subst eb; exact zui _ _ _ _
      · rw [zui_n _ _ _ _ (by omega), zui_o _ _ _ _ (by decide), zui_o _ _ _ _ (by decide), zui_o _ _ _ _ (by decide)]; exact (kd b (by omega)).2.2.2
