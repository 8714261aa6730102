/-! the reference sends weights down -/
def zsh (k : Nat) (t : Int32) (p : Nat → Nat) (K x : Nat) (y : Int32) (b : Nat) : Nat := if 0 ≤ y then (if zm_br k t y = b then x else 0) else if K = 0 then 0 else x * p b / K
theorem zm_sdiv (p : Nat → Nat) (K x : Nat) : ∀ n, zm_s (fun b => x * p b / K) n ≤ x * zm_s p n / K
  | 0 => Nat.zero_le _
  | n + 1 => by
    have ih := zm_sdiv p K x n
    have e : x * zm_s p (n + 1) = x * zm_s p n + x * p n := Nat.mul_add _ _ _
    rw [e]
    have h2 := zm_dv (x * zm_s p n) (x * p n) K
    show zm_s (fun b => x * p b / K) n + x * p n / K ≤ _
    omega
theorem zm_s_ind (x u : Nat) : ∀ n, zm_s (fun b => if u = b then x else 0) n = if u < n then x else 0
  | 0 => rfl
  | n + 1 => by
    show zm_s (fun b => if u = b then x else 0) n + (if u = n then x else 0) = _
    rw [zm_s_ind x u n]
    by_cases h1 : u < n
    · rw [if_pos h1, if_neg (by omega), if_pos (by omega)]; rfl
    · rw [if_neg h1]
      by_cases h2 : u = n
      · rw [if_pos h2, if_pos (by omega)]; omega
      · rw [if_neg h2, if_neg (by omega)]
theorem zsh_sum {k : Nat} {t : Int32} {p : Nat → Nat} {K x : Nat} {y : Int32} {n : Nat} (hK : zm_s p n ≤ K) : zm_s (zsh k t p K x y) n ≤ x := by
  by_cases h0 : 0 ≤ y
  · rw [show zsh k t p K x y = fun b => if zm_br k t y = b then x else 0 from funext fun b => if_pos h0, zm_s_ind]
    split <;> omega
  · by_cases h1 : K = 0
    · rw [show zsh k t p K x y = fun _ => 0 from funext fun b => by unfold zsh; rw [if_neg h0, if_pos h1], zm_s_c]
      omega
    · rw [show zsh k t p K x y = fun b => x * p b / K from funext fun b => by unfold zsh; rw [if_neg h0, if_neg h1]]
      exact Nat.le_trans (zm_sdiv p K x n) (Nat.div_le_of_le_mul (by rw [Nat.mul_comm]; exact Nat.mul_le_mul hK (Nat.le_refl x)))
theorem zqs_sum (p : Nat → Nat) (K h x : Nat) : ∀ n, zm_s (fun b => x * p b / K) n = zm_qs p K h x n + if h < n then x * p h / K else 0
  | 0 => rfl
  | n + 1 => by
    have ih := zqs_sum p K h x n
    rw [show zm_qs p K h x (n + 1) = if n = h then zm_qs p K h x n else zm_qs p K h x n + x * p n / K from rfl]
    show zm_s (fun b => x * p b / K) n + x * p n / K = _
    rw [ih]
    by_cases e : n = h
    · subst e
      rw [if_pos rfl, if_neg (by omega), if_pos (by omega)]; omega
    · rw [if_neg e]
      by_cases h1 : h < n
      · rw [if_pos h1, if_pos (by omega)]; omega
      · rw [if_neg h1, if_neg (by omega)]; omega
theorem zps_sh {k : Nat} {t : Int32} {p : Nat → Nat} {K h x : Nat} {y : Int32} {b : Nat} (hh : h < zm_nb k) (hK : zm_s p (zm_nb k) ≤ K) :
    zm_ps k t p K h x y b = zsh k t p K x y b + (if ¬ 0 ≤ y ∧ b = (if K = 0 then 0 else h) then x - zm_s (zsh k t p K x y) (zm_nb k) else 0) := by
  unfold zm_ps
  by_cases h0 : 0 ≤ y
  · have e1 : zsh k t p K x y b = if zm_br k t y = b then x else 0 := by unfold zsh; rw [if_pos h0]
    have e2 : (if ¬ 0 ≤ y ∧ b = (if K = 0 then 0 else h) then x - zm_s (zsh k t p K x y) (zm_nb k) else 0) = 0 := if_neg (fun q => q.1 h0)
    rw [if_pos h0, e1, e2]
    exact (Nat.add_zero _).symm
  · rw [if_neg h0]
    by_cases h1 : K = 0
    · have e1 : zsh k t p K x y = fun _ => 0 := funext fun b => by unfold zsh; rw [if_neg h0, if_pos h1]
      have e2 : zm_s (fun _ => 0) (zm_nb k) = 0 := by rw [zm_s_c, Nat.zero_mul]
      rw [e1, e2, if_pos h1, if_pos h1]
      by_cases h2 : b = 0
      · rw [if_pos h2, if_pos ⟨h0, h2⟩, Nat.sub_zero]
        exact (Nat.zero_add _).symm
      · rw [if_neg h2, if_neg (fun q => h2 q.2)]
    · have hs := zsh_sum (k := k) (t := t) (x := x) (y := y) hK
      have es : zsh k t p K x y = fun b => x * p b / K := funext fun b => by unfold zsh; rw [if_neg h0, if_neg h1]
      rw [es] at hs
      have hq := zqs_sum p K h x (zm_nb k)
      rw [if_pos hh] at hq
      rw [es, if_neg h1, if_neg h1]
      generalize zm_s (fun b => x * p b / K) (zm_nb k) = u at hs hq
      by_cases h2 : b = h
      · rw [if_pos h2, if_pos ⟨h0, h2⟩, h2]
        show x - zm_qs p K h x (zm_nb k) = x * p h / K + (x - u)
        generalize x * p h / K = z at hq
        omega
      · rw [if_neg h2, if_neg (fun q => h2 q.2)]
        exact (Nat.add_zero _).symm
theorem zfg_hi {p : Nat → Nat} {n : Nat} (h : ∀ b, n ≤ b → p b = 0) : ∀ m, zm_fg p (n + m) = zm_fg p n
  | 0 => rfl
  | m + 1 => by
    show (if p (zm_fg p (n + m)) < p (n + m) then n + m else zm_fg p (n + m)) = _
    rw [if_neg (by rw [h (n + m) (by omega)]; omega)]
    exact zfg_hi h m
theorem zpt_hi {D : zD} (hd : zdok D) {a : Nat} {t : Int32} {w : Nat → Nat} (ha : a < D.1) : ∀ b, zm_nb (D.2.2.1 a) ≤ b → zpt D a t w b = 0 := fun b hb => zm_pt_hi (fun i hi h0 => by have := zbr_lt (t := t) hd hi ha h0; omega)
theorem zpt_kn {D : zD} (hd : zdok D) {a : Nat} {t : Int32} {w : Nat → Nat} (ha : a < D.1) : zm_s (zpt D a t w) 4 = zkn D a w := by
  rw [zm_s4]
  exact zm_pt_sum (zbr_4 hd ha)
theorem zpt_nb {D : zD} (hd : zdok D) {a : Nat} {t : Int32} {w : Nat → Nat} (ha : a < D.1) : zm_s (zpt D a t w) (zm_nb (D.2.2.1 a)) ≤ zkn D a w := by
  have hn := znb4 hd ha
  rw [← zpt_kn (t := t) hd ha]
  exact zm_s_mono _ hn.2
theorem zpt_fg {D : zD} (hd : zdok D) {a : Nat} {t : Int32} {w : Nat → Nat} (ha : a < D.1) : zm_fg (zpt D a t w) 4 = zm_fg (zpt D a t w) (zm_nb (D.2.2.1 a)) := by
  have hn := znb4 hd ha
  have := zfg_hi (zpt_hi (t := t) (w := w) hd ha) (4 - zm_nb (D.2.2.1 a))
  rw [← this]
  congr 1
  omega
theorem zpt_le {D : zD} (hd : zdok D) {a b : Nat} {t : Int32} {w : Nat → Nat} (ha : a < D.1) (hwb : ∀ i, i < D.2.1 → w i ≤ 720) : zpt D a t w b ≤ 17280 ∧ zpt D a t w b ≤ zkn D a w ∧ zkn D a w ≤ 17280 := by
  have hwl := zm_w_le hd.2.1 hwb
  have hkn := zm_kn_le (v := fun i => D.2.2.2.2 i a) (w := w) (n := D.2.1)
  have : zpt D a t w b ≤ _ := zm_pt_le (k := D.2.2.1 a) (t := t) (v := fun i => D.2.2.2.2 i a) (w := w) (n := D.2.1) (b := b)
  have e : zkn D a w = zm_kn (fun i => D.2.2.2.2 i a) w D.2.1 := rfl
  omega
/-- a test at a place, with the places below it -/
def zKd (D : zD) (σ : ze_S) (pl a : Nat) (t : Int32) (kd : Nat → Nat) : Prop := σ.1 49 pl = nI a ∧ σ.1 50 pl = t ∧ (∀ b, b < zm_nb (D.2.2.1 a) → σ.1 51 (4 * pl + b) = nI (kd b) ∧ kd b < 96 ∧ kd b ≠ pl) ∧ ∀ b b', b < zm_nb (D.2.2.1 a) → b' < zm_nb (D.2.2.1 a) → kd b = kd b' → b = b'
theorem zKd_eq {D : zD} {σ τ : ze_S} {pl a : Nat} {t : Int32} {kd : Nat → Nat} (h : zKd D σ pl a t kd) (h1 : τ.1 49 = σ.1 49) (h2 : τ.1 50 = σ.1 50) (h3 : τ.1 51 = σ.1 51) : zKd D τ pl a t kd := by
  unfold zKd
  rw [h1, h2, h3]
  exact h
/-- sending down: only the rows below differ -/
def zSo (D : zD) (σ : ze_S) (s pl a : Nat) (t : Int32) (kd : Nat → Nat) (w : Nat → Nat) (τ : ze_S) : Prop :=
  zy [55, 56, 57] [17, 18, 21] σ τ ∧ (∀ b, b < zm_nb (D.2.2.1 a) → zrw τ (kd b + s) D.2.1 (zsd D a t w b)) ∧ ∀ q, (∀ b, b < zm_nb (D.2.2.1 a) → q ≠ kd b + s) → ∀ i, i < 24 → τ.1 55 (24 * q + i) = σ.1 55 (24 * q + i)
/-- within a column -/
def zJc (D : zD) (σ0 σ : ze_S) (s a j : Nat) (kd : Nat → Nat) (p : Nat → Nat) (K : Nat) (sh : Nat → Nat) (b : Nat) (τ : ze_S) : Prop :=
  zy [55, 56, 57] [17, 18, 21] σ0 τ ∧ (∀ b, b < 4 → τ.1 56 b = nI (p b)) ∧ τ.1 64 17 = nI K ∧ (∀ b', b' < b → τ.1 55 (24 * (kd b' + s) + j) = nI (sh b')) ∧ ∀ q i, i < 24 → (i = j → ∀ b', b' < b → q ≠ kd b' + s) → τ.1 55 (24 * q + i) = σ.1 55 (24 * q + i)
set_option maxRecDepth 20000 in
set_option maxHeartbeats 2000000 in
theorem r_sd1 {e : Nat} {σ0 σ : ze_S} {D : zD} {Q : ze_P} {s pl a j x h : Nat} {t y : Int32} {kd p : Nat → Nat} {K : Nat} (he : 1 ≤ e) (hd : zdok D) (hB : zBn σ0 D) (ha : a < D.1) (hpl : pl < 96) (hs : s ≤ 96) (hj : j < 24) (hx : x ≤ 720) (hkd : zKd D σ0 pl a t kd) (hp : ∀ b, p b ≤ K) (hK : K ≤ 17280) (hKs : ∀ b, b ≤ zm_nb (D.2.2.1 a) → zm_s p b ≤ K)
    (k : ∀ τ o, zJc D σ0 σ s a j kd p K (zsh (D.2.2.1 a) t p K x y) (zm_nb (D.2.2.1 a)) τ → zE e t_M_sendDown Q (236, [some (.ref 64), some (.int (nI pl)), some (.int (nI s)), some (.int (nI a)), some (.int (nI h)), some (.int (nI j)), some (.int (nI x)), some (.int y), some (.int (nI (x - zm_s (zsh (D.2.2.1 a) t p K x y) (zm_nb (D.2.2.1 a))))), some (.int (nI (zm_nb (D.2.2.1 a)))), o], [], τ)) :
    ∀ n b τ o, b + n = zm_nb (D.2.2.1 a) → zJc D σ0 σ s a j kd p K (zsh (D.2.2.1 a) t p K x y) b τ → zE e t_M_sendDown Q (122, [some (.ref 64), some (.int (nI pl)), some (.int (nI s)), some (.int (nI a)), some (.int (nI h)), some (.int (nI j)), some (.int (nI x)), some (.int y), some (.int (nI (x - zm_s (zsh (D.2.2.1 a) t p K x y) b))), some (.int (nI b)), o], [], τ) := by
  have hn := znb4 hd ha
  intro n
  induction n with
  | zero =>
    intro b τ o hb hJ
    have eb : b = zm_nb (D.2.2.1 a) := by omega
    subst eb
    have hB2 : zBn τ D := zBn_y hB hJ.1 (by simp) (by simp)
    iterate 3 (refine ze_go1 rfl ?_)
    refine ze_ca1 rfl ⟨rfl, rfl⟩ (ze_M_le (r_branches (d := 0) hd hB2 ha) (by omega)) (fun v ρ q => ?_)
    obtain ⟨rfl, rfl⟩ := q
    refine ze_brT rfl (Int32.le_refl _) ?_
    exact k ρ o hJ
  | succ n ih =>
    intro b τ o hb hJ
    obtain ⟨y1, jp, jK, jd, jo⟩ := hJ
    have hB2 : zBn τ D := zBn_y hB y1 (by simp) (by simp)
    obtain ⟨k1, k2, k3, k4⟩ := zKd_eq hkd (y1.1 49 (by simp) (by decide)).1 (y1.1 50 (by simp) (by decide)).1 (y1.1 51 (by simp) (by decide)).1
    obtain ⟨k31, k32, k33⟩ := k3 b (by omega)
    have hS := zsh_sum (k := D.2.2.1 a) (t := t) (x := x) (y := y) (hKs (b + 1) (by omega))
    rw [show zm_s (zsh (D.2.2.1 a) t p K x y) (b + 1) = zm_s (zsh (D.2.2.1 a) t p K x y) b + zsh (D.2.2.1 a) t p K x y b from rfl] at hS
    iterate 3 (refine ze_go1 rfl ?_)
    refine ze_ca1 rfl ⟨rfl, rfl⟩ (ze_M_le (r_branches (d := 0) hd hB2 ha) (by omega)) (fun v ρ q => ?_)
    obtain ⟨rfl, rfl⟩ := q
    refine ze_brF rfl (nI_ge (by omega) (by omega)) ?_
    iterate 2 (refine ze_go1 rfl ?_)
    refine ze_go2 rfl rfl ?_
    iterate 5 (refine ze_go1 rfl ?_)
    rw [zi4']
    refine ze_go2 rfl ⟨rfl, vp_in_nI (N := 384) (n := 4 * pl + b) (by omega) (by omega)⟩ ?_
    rw [nI_clamp (n := 4 * pl + b) (by omega), k31]
    iterate 7 (refine ze_go1 rfl ?_)
    refine ze_go2 rfl rfl ?_
    iterate 2 (refine ze_go1 rfl ?_)
    rw [nI_add, zi24]
    -- the value that goes there
    have st : zE e t_M_sendDown Q (217, [some (.ref 64), some (.int (nI pl)), some (.int (nI s)), some (.int (nI a)), some (.int (nI h)), some (.int (nI j)), some (.int (nI x)), some (.int y), some (.int (nI (x - zm_s (zsh (D.2.2.1 a) t p K x y) b))), some (.int (nI b)), some (.int (nI (24 * (kd b + s) + j)))], [.int (nI (zsh (D.2.2.1 a) t p K x y b)), .int (nI (24 * (kd b + s) + j)), .ref 55], ρ) := by
      refine ze_go2 rfl ⟨rfl, vp_in_nI (N := 4632) (n := 24 * (kd b + s) + j) (by omega) (by omega)⟩ ?_
      rw [nI_clamp (n := 24 * (kd b + s) + j) (by omega)]
      iterate 2 (refine ze_go1 rfl ?_)
      refine ze_go2 rfl rfl ?_
      refine ze_go1 rfl ?_
      refine ze_go2 rfl ⟨rfl, vp_in_nI (N := 4632) (n := 24 * (kd b + s) + j) (by omega) (by omega)⟩ ?_
      rw [nI_clamp (n := 24 * (kd b + s) + j) (by omega), zui]
      have h' := ih (b + 1) (ze_ui ρ 55 (24 * (kd b + s) + j) (nI (zsh (D.2.2.1 a) t p K x y b))) (some (.int (nI (24 * (kd b + s) + j)))) (by omega) ⟨zy_tr y1 (zy_ui (by simp) (by decide) _ _ _), fun b' hb' => by rw [zui_o _ _ _ _ (by decide)]; exact jp b' hb', by rw [zui_o _ _ _ _ (by decide)]; exact jK, fun b' hb' => by
          by_cases e : b' = b
          · subst e; rw [zui]
          · rw [zui_n _ _ _ _ (by have : kd b' ≠ kd b := fun z => e (k4 b' b (by omega) (by omega) z); omega)]; exact jd b' (by omega), fun q i hi hq => by
          have : 24 * q + i ≠ 24 * (kd b + s) + j := fun z => by
            have e1 : i = j := by omega
            exact hq e1 b (by omega) (by omega)
          rw [zui_n _ _ _ _ this]
          exact jo q i hi (fun e b' hb' => hq e b' (by omega))⟩
      rw [← show nI b + 1 = nI (b + 1) from nI_1 _, show x - zm_s (zsh (D.2.2.1 a) t p K x y) (b + 1) = x - zm_s (zsh (D.2.2.1 a) t p K x y) b - zsh (D.2.2.1 a) t p K x y b by rw [show zm_s (zsh (D.2.2.1 a) t p K x y) (b + 1) = zm_s (zsh (D.2.2.1 a) t p K x y) b + zsh (D.2.2.1 a) t p K x y b from rfl]; omega] at h'
      iterate 4 (refine ze_go1 rfl ?_)
      rw [pk_sub (by omega)]
      exact h'
    by_cases h0 : 0 ≤ y
    · refine ze_brF rfl (Int32.not_lt.2 h0) ?_
      iterate 3 (refine ze_go1 rfl ?_)
      refine ze_go2 rfl rfl ?_
      refine ze_go1 rfl ?_
      refine ze_go2 rfl ⟨rfl, vp_in_nI (N := 96) (n := pl) (by omega) (by omega)⟩ ?_
      rw [nI_clamp (n := pl) (by omega), k2]
      refine ze_go1 rfl ?_
      refine ze_ca1 rfl ⟨rfl, rfl⟩ (ze_M_le (r_branch (d := 0) hd hB2 ha (Int32.not_lt.2 h0)) (by omega)) (fun v ρ' q => ?_)
      obtain ⟨rfl, rfl⟩ := q
      unfold zsh at st
      rw [if_pos h0] at st
      refine ze_go1 rfl ?_
      by_cases e : zm_br (D.2.2.1 a) t y = b
      · rw [if_pos e] at st
        refine ze_brF rfl (fun z => z (by rw [e])) ?_
        iterate 2 (refine ze_go1 rfl ?_)
        exact st
      · rw [if_neg e] at st
        have hbr : zm_br (D.2.2.1 a) t y < 2 ^ 31 := by
          unfold zm_br
          split
          · split <;> decide
          · obtain ⟨v, hv, rfl⟩ := nI_of (Int32.not_lt.2 h0)
            rw [zcl hv]
            exact hv
        refine ze_brT rfl (fun z => e ((nI_eq hbr (by omega)).1 z)) ?_
        iterate 2 (refine ze_go1 rfl ?_)
        exact st
    · refine ze_brT rfl (Int32.not_le.1 h0) ?_
      unfold zsh at st
      rw [if_neg h0] at st
      refine ze_go1 rfl ?_
      refine ze_go2 rfl rfl ?_
      rw [jK]
      by_cases e : K = 0
      · rw [if_pos e] at st
        refine ze_brT rfl (by rw [e]; decide) ?_
        refine ze_go1 rfl ?_
        exact st
      · rw [if_neg e] at st
        refine ze_brF rfl (nI_nle (by omega) (by omega)) ?_
        have hpb := hp b
        have hxp : x * p b ≤ 720 * 17280 := Nat.mul_le_mul hx (by omega)
        iterate 2 (refine ze_go1 rfl ?_)
        refine ze_go2 rfl rfl ?_
        refine ze_go1 rfl ?_
        refine ze_go2 rfl ⟨rfl, vp_in_nI (N := 4) (n := b) (by omega) (by omega)⟩ ?_
        rw [nI_clamp (n := b) (by omega), jp b (by omega)]
        iterate 2 (refine ze_go1 rfl ?_)
        refine ze_go2 rfl rfl ?_
        rw [pk_mul, jK]
        refine ze_go2 rfl (nI_ne0 (by omega) (by omega)) ?_
        rw [pk_div (by omega) (by omega) (by omega)]
        refine ze_go1 rfl ?_
        exact st
set_option maxRecDepth 20000 in
set_option maxHeartbeats 2000000 in
theorem r_sendDown {d : Nat} {σ : ze_S} {D : zD} {s pl a : Nat} {t : Int32} {kd : Nat → Nat} {w : Nat → Nat} (hd : zdok D) (hB : zBn σ D) (ha : a < D.1) (hpl : pl < 96) (hs : s ≤ 96) (hkd : zKd D σ pl a t kd) (hw : zrw σ (pl + s) D.2.1 w) (hwb : ∀ i, i < D.2.1 → w i ≤ 720) (h6 : σ.1 64 6 = nI D.2.1) :
    zM (d + 5) m_M_sendDown [.ref 64, .int (nI pl), .int (nI s)] σ (fun v τ => v = none ∧ zSo D σ s pl a t kd w τ) := by
  have hn := znb4 hd ha
  have h24 := hd.2.1
  have h4 := hd.1
  obtain ⟨k1, k2, k3, k4⟩ := hkd
  have hfgn := zm_fg_lt (zpt D a t w) (zm_nb (D.2.2.1 a) - 1)
  rw [show zm_nb (D.2.2.1 a) - 1 + 1 = zm_nb (D.2.2.1 a) by omega] at hfgn
  have hKn := zpt_nb (t := t) (w := w) hd ha
  have hpl17 := fun b => zpt_le (b := b) (t := t) hd ha hwb
  have efg := zpt_fg (t := t) (w := w) hd ha
  refine zM_in t_M_sendDown [some (.ref 64), some (.int (nI pl)), some (.int (nI s)), none, none, none, none, none, none, none, none] rfl rfl ?_
  refine ze_go1 rfl ?_
  refine ze_go2 rfl rfl ?_
  refine ze_go1 rfl ?_
  refine ze_go2 rfl ⟨rfl, vp_in_nI (N := 96) (n := pl) (by omega) (by omega)⟩ ?_
  rw [nI_clamp (n := pl) (by omega), k1]
  iterate 9 (refine ze_go1 rfl ?_)
  refine ze_go2 rfl rfl ?_
  refine ze_go1 rfl ?_
  refine ze_go2 rfl ⟨rfl, vp_in_nI (N := 96) (n := pl) (by omega) (by omega)⟩ ?_
  rw [nI_clamp (n := pl) (by omega), k2, nI_add]
  refine ze_go1 rfl ?_
  refine ze_go2 rfl rfl ?_
  refine ze_go1 rfl ?_
  rw [h6]
  refine ze_ca1 rfl ⟨rfl, rfl⟩ (ze_M_le (r_measure (d := 0) (m := 1) hd hB ha (by omega) hw hwb (by decide)) (by omega)) (fun v τ1 q => ?_)
  obtain ⟨rfl, y1, ms⟩ := q
  have hB1 : zBn τ1 D := zBn_y hB y1 (by simp) (by simp)
  have p1 := ms.1
  have K1 := ms.2.1
  have kd1 : zKd D τ1 pl a t kd := zKd_eq ⟨k1, k2, k3, k4⟩ (y1.1 49 (by simp) (by decide)).1 (y1.1 50 (by simp) (by decide)).1 (y1.1 51 (by simp) (by decide)).1
  have e55 : τ1.1 55 = σ.1 55 := (y1.1 55 (by simp) (by decide)).1
  have h61 : τ1.1 64 6 = nI D.2.1 := by rw [y1.2 6 (by simp)]; exact h6
  -- the columns
  have cols : ∀ n j τ o6 o7 o8 o9 o10, j + n = D.2.1 → zy [55, 56, 57] [17, 18, 21] σ τ → (∀ b, b < 4 → τ.1 56 b = nI (zpt D a t w b)) → τ.1 64 17 = nI (zkn D a w) → (∀ b, b < zm_nb (D.2.2.1 a) → ∀ i, i < j → τ.1 55 (24 * (kd b + s) + i) = nI (zsd D a t w b i)) → (∀ q i, i < 24 → (j ≤ i ∨ ∀ b, b < zm_nb (D.2.2.1 a) → q ≠ kd b + s) → τ.1 55 (24 * q + i) = σ.1 55 (24 * q + i)) →
      zE (d + 4) t_M_sendDown (fun v τ => v = none ∧ zSo D σ s pl a t kd w τ) (77, [some (.ref 64), some (.int (nI pl)), some (.int (nI s)), some (.int (nI a)), some (.int (nI (zm_fg (zpt D a t w) (zm_nb (D.2.2.1 a))))), some (.int (nI j)), o6, o7, o8, o9, o10], [], τ) := by
    intro n
    induction n with
    | zero =>
      intro j τ o6 o7 o8 o9 o10 hj hy hpp hK hdn hot
      have ej : j = D.2.1 := by omega
      subst ej
      iterate 2 (refine ze_go1 rfl ?_)
      refine ze_go2 rfl rfl ?_
      rw [hy.2 6 (by simp), h6]
      refine ze_brT rfl (Int32.le_refl _) ?_
      exact ze_rt1 rfl trivial ⟨rfl, hy, hdn, fun q hq i hi => hot q i hi (Or.inr hq)⟩
    | succ n ih =>
      intro j τ o6 o7 o8 o9 o10 hj hy hpp hK hdn hot
      have hj1 : j < D.2.1 := by omega
      have hB2 : zBn τ D := zBn_y hB hy (by simp) (by simp)
      have hkd2 : zKd D τ pl a t kd := zKd_eq ⟨k1, k2, k3, k4⟩ (hy.1 49 (by simp) (by decide)).1 (hy.1 50 (by simp) (by decide)).1 (hy.1 51 (by simp) (by decide)).1
      have hxj := hwb j hj1
      iterate 2 (refine ze_go1 rfl ?_)
      refine ze_go2 rfl rfl ?_
      rw [hy.2 6 (by simp), h6]
      refine ze_brF rfl (nI_ge (by omega) (by omega)) ?_
      refine ze_go1 rfl ?_
      refine ze_go2 rfl rfl ?_
      iterate 7 (refine ze_go1 rfl ?_)
      rw [nI_add, zi24]
      refine ze_go2 rfl ⟨rfl, vp_in_nI (N := 4632) (n := 24 * (pl + s) + j) (by omega) (by omega)⟩ ?_
      rw [nI_clamp (n := 24 * (pl + s) + j) (by omega), hot (pl + s) j (by omega) (Or.inl (Nat.le_refl _)), hw j hj1]
      iterate 2 (refine ze_go1 rfl ?_)
      refine ze_go2 rfl rfl ?_
      iterate 5 (refine ze_go1 rfl ?_)
      rw [zi4']
      refine ze_go2 rfl ⟨rfl, vp_in_nI (N := 96) (n := 4 * j + a) (by omega) (by omega)⟩ ?_
      rw [nI_clamp (n := 4 * j + a) (by omega), hB2.2.2.2 j hj1 a (by omega)]
      iterate 5 (refine ze_go1 rfl ?_)
      refine r_sd1 (σ := τ) (D := D) (t := t) (p := zpt D a t w) (K := zkn D a w) (x := w j) (y := D.2.2.2.2 j a) (by omega) hd hB2 ha hpl hs (by omega) hxj hkd2 (fun b => (hpl17 b).2.1) (hpl17 0).2.2 (fun b hb => Nat.le_trans (zm_s_mono _ hb) hKn) (fun τ2 o hJ => ?_) (zm_nb (D.2.2.1 a)) 0 τ o10 (by omega) ⟨zy_rf _ _ _, hpp, hK, fun b' hb' => by omega, fun q i hi _ => rfl⟩
      obtain ⟨y2, jp, jK, jd, jo⟩ := hJ
      have hy2 : zy [55, 56, 57] [17, 18, 21] σ τ2 := zy_tr hy y2
      obtain ⟨-, -, k32, -⟩ := zKd_eq hkd2 (y2.1 49 (by simp) (by decide)).1 (y2.1 50 (by simp) (by decide)).1 (y2.1 51 (by simp) (by decide)).1
      have esd : ∀ b, zsd D a t w b j = zsh (D.2.2.1 a) t (zpt D a t w) (zkn D a w) (w j) (D.2.2.2.2 j a) b + (if ¬ 0 ≤ D.2.2.2.2 j a ∧ b = (if zkn D a w = 0 then 0 else zm_fg (zpt D a t w) (zm_nb (D.2.2.1 a))) then w j - zm_s (zsh (D.2.2.1 a) t (zpt D a t w) (zkn D a w) (w j) (D.2.2.2.2 j a)) (zm_nb (D.2.2.1 a)) else 0) := fun b => by
        show zm_ps (D.2.2.1 a) t (zpt D a t w) (zkn D a w) (zm_fg (zpt D a t w) 4) (w j) (D.2.2.2.2 j a) b = _
        rw [efg]
        exact zps_sh hfgn hKn
      generalize hg : zsh (D.2.2.1 a) t (zpt D a t w) (zkn D a w) (w j) (D.2.2.2.2 j a) = sh at esd jd
      -- the rest goes to the heaviest
      have st : ∀ u, u < zm_nb (D.2.2.1 a) → u = (if zkn D a w = 0 then 0 else zm_fg (zpt D a t w) (zm_nb (D.2.2.1 a))) → zE (d + 4) t_M_sendDown (fun v τ => v = none ∧ zSo D σ s pl a t kd w τ) (262, [some (.ref 64), some (.int (nI pl)), some (.int (nI s)), some (.int (nI a)), some (.int (nI (zm_fg (zpt D a t w) (zm_nb (D.2.2.1 a))))), some (.int (nI j)), some (.int (nI (w j))), some (.int (D.2.2.2.2 j a)), some (.int (nI (w j - zm_s sh (zm_nb (D.2.2.1 a))))), some (.int (nI (zm_nb (D.2.2.1 a)))), o], [.int (nI u), .int (nI (4 * pl)), .ref 51, .int 24, .ref 55], τ2) := by
        intro u hu eu
        obtain ⟨e51, hk96, -⟩ := k32 u hu
        refine ze_go1 rfl ?_
        rw [nI_add]
        refine ze_go2 rfl ⟨rfl, vp_in_nI (N := 384) (n := 4 * pl + u) (by omega) (by omega)⟩ ?_
        rw [nI_clamp (n := 4 * pl + u) (by omega), e51]
        iterate 5 (refine ze_go1 rfl ?_)
        refine ze_go2 rfl ⟨rfl, rfl⟩ ?_
        rw [nI_add, zi24]
        refine ze_go2 rfl ⟨rfl, vp_in_nI (N := 4632) (n := 24 * (kd u + s) + j) (by omega) (by omega)⟩ ?_
        rw [nI_clamp (n := 24 * (kd u + s) + j) (by omega), jd u hu]
        have nx : ∀ z : Nat, z = (if ¬ 0 ≤ D.2.2.2.2 j a then w j - zm_s sh (zm_nb (D.2.2.1 a)) else 0) → zE (d + 4) t_M_sendDown (fun v τ => v = none ∧ zSo D σ s pl a t kd w τ) (283, [some (.ref 64), some (.int (nI pl)), some (.int (nI s)), some (.int (nI a)), some (.int (nI (zm_fg (zpt D a t w) (zm_nb (D.2.2.1 a))))), some (.int (nI j)), some (.int (nI (w j))), some (.int (D.2.2.2.2 j a)), some (.int (nI (w j - zm_s sh (zm_nb (D.2.2.1 a))))), some (.int (nI (zm_nb (D.2.2.1 a)))), o], [.int (nI z), .int (nI (sh u)), .int (nI (24 * (kd u + s) + j)), .ref 55], τ2) := by
          intro z ez
          refine ze_go1 rfl ?_
          rw [nI_add]
          refine ze_go2 rfl ⟨rfl, vp_in_nI (N := 4632) (n := 24 * (kd u + s) + j) (by omega) (by omega)⟩ ?_
          rw [nI_clamp (n := 24 * (kd u + s) + j) (by omega)]
          have h' := ih (j + 1) (ze_ui τ2 55 (24 * (kd u + s) + j) (nI (sh u + z))) (some (.int (nI (w j)))) (some (.int (D.2.2.2.2 j a))) (some (.int (nI (w j - zm_s sh (zm_nb (D.2.2.1 a)))))) (some (.int (nI (zm_nb (D.2.2.1 a))))) o (by omega) (zy_tr hy2 (zy_ui (by simp) (by decide) _ _ _)) (fun b hb => by rw [zui_o _ _ _ _ (by decide)]; exact jp b hb) (by rw [zui_o _ _ _ _ (by decide)]; exact jK) (fun b hb i hi => by
              by_cases ei : i = j
              · subst ei
                by_cases eb : b = u
                · subst eb
                  rw [zui, esd b, ez]
                  by_cases h0 : 0 ≤ D.2.2.2.2 i a
                  · rw [if_neg (fun q => q h0), if_neg (fun q => q.1 h0)]
                  · rw [if_pos h0, if_pos ⟨h0, eu⟩]
                · rw [zui_n _ _ _ _ (by have : kd b ≠ kd u := fun z => eb (k4 b u hb hu z); omega), jd b hb, esd b, if_neg (fun q => eb (q.2.trans eu.symm))]
                  rfl
              · rw [zui_n _ _ _ _ (by omega), jo _ i (by omega) (fun z => absurd z ei)]
                exact hdn b hb i (by omega)) (fun q i hi hq => by
              have hne : 24 * q + i ≠ 24 * (kd u + s) + j := fun z => by
                have e1 : i = j := by omega
                rcases hq with hq | hq
                · omega
                · exact hq u hu (by omega)
              rw [zui_n _ _ _ _ hne]
              rcases hq with hq | hq
              · rw [jo q i hi (fun z => by omega)]
                exact hot q i hi (Or.inl (by omega))
              · rw [jo q i hi (fun _ b' hb' => hq b' hb')]
                exact hot q i hi (Or.inr hq))
          rw [← show nI j + 1 = nI (j + 1) from nI_1 _] at h'
          iterate 2 (refine ze_go1 rfl ?_)
          exact h'
        refine ze_go1 rfl ?_
        by_cases h0 : 0 ≤ D.2.2.2.2 j a
        · refine ze_brT rfl h0 ?_
          refine ze_go1 rfl ?_
          exact nx 0 (by rw [if_neg (fun q => q h0)])
        · refine ze_brF rfl h0 ?_
          iterate 2 (refine ze_go1 rfl ?_)
          exact nx _ (by rw [if_pos h0])
      refine ze_go1 rfl ?_
      refine ze_go2 rfl rfl ?_
      iterate 2 (refine ze_go1 rfl ?_)
      refine ze_go2 rfl rfl ?_
      iterate 4 (refine ze_go1 rfl ?_)
      refine ze_go2 rfl rfl ?_
      rw [show (4 : Int32) * nI pl = nI (4 * pl) by rw [show (4 : Int32) = nI 4 from rfl, pk_mul], jK]
      by_cases eK : zkn D a w = 0
      · refine ze_brT rfl (by rw [eK]; decide) ?_
        refine ze_go1 rfl ?_
        exact st 0 (by omega) (by rw [if_pos eK])
      · refine ze_brF rfl (nI_nle (by omega) (by have := (hpl17 0).2.2; omega)) ?_
        iterate 2 (refine ze_go1 rfl ?_)
        exact st _ hfgn (by rw [if_neg eK])
  -- the heaviest part
  have most : ∀ n b o6 o7 o8 o9 o10, b + 1 + n = zm_nb (D.2.2.1 a) → zE (d + 4) t_M_sendDown (fun v τ => v = none ∧ zSo D σ s pl a t kd w τ) (32, [some (.ref 64), some (.int (nI pl)), some (.int (nI s)), some (.int (nI a)), some (.int (nI (zm_fg (zpt D a t w) (b + 1)))), some (.int (nI (b + 1))), o6, o7, o8, o9, o10], [], τ1) := by
    intro n
    induction n with
    | zero =>
      intro b o6 o7 o8 o9 o10 hb
      iterate 3 (refine ze_go1 rfl ?_)
      refine ze_ca1 rfl ⟨rfl, rfl⟩ (ze_M_le (r_branches (d := 0) hd hB1 ha) (by omega)) (fun v ρ q => ?_)
      obtain ⟨rfl, rfl⟩ := q
      refine ze_brT rfl (nI_le (by omega) (by omega)) ?_
      iterate 2 (refine ze_go1 rfl ?_)
      rw [show b + 1 = zm_nb (D.2.2.1 a) by omega]
      exact cols D.2.1 0 ρ o6 o7 o8 o9 o10 (by omega) (zy_wk y1 (by simp) (by simp)) p1 K1 (fun b hb i hi => by omega) (fun q i hi _ => by rw [e55])
    | succ n ih =>
      intro b o6 o7 o8 o9 o10 hb
      have h := ih (b + 1) o6 o7 o8 o9 o10 (by omega)
      rw [← show nI (b + 1) + 1 = nI (b + 1 + 1) from nI_1 _, show zm_fg (zpt D a t w) (b + 1 + 1) = if zpt D a t w (zm_fg (zpt D a t w) (b + 1)) < zpt D a t w (b + 1) then b + 1 else zm_fg (zpt D a t w) (b + 1) from rfl] at h
      have hf := zm_fg_lt (zpt D a t w) b
      have b1 := hpl17 (b + 1)
      have b2 := hpl17 (zm_fg (zpt D a t w) (b + 1))
      iterate 3 (refine ze_go1 rfl ?_)
      refine ze_ca1 rfl ⟨rfl, rfl⟩ (ze_M_le (r_branches (d := 0) hd hB1 ha) (by omega)) (fun v ρ q => ?_)
      obtain ⟨rfl, rfl⟩ := q
      refine ze_brF rfl (nI_ge (by omega) (by omega)) ?_
      refine ze_go1 rfl ?_
      refine ze_go2 rfl rfl ?_
      refine ze_go1 rfl ?_
      refine ze_go2 rfl ⟨rfl, vp_in_nI (N := 4) (n := b + 1) (by omega) (by omega)⟩ ?_
      rw [nI_clamp (n := b + 1) (by omega), p1 (b + 1) (by omega)]
      refine ze_go1 rfl ?_
      refine ze_go2 rfl rfl ?_
      refine ze_go1 rfl ?_
      refine ze_go2 rfl ⟨rfl, vp_in_nI (N := 4) (n := zm_fg (zpt D a t w) (b + 1)) (by omega) (by omega)⟩ ?_
      rw [nI_clamp (n := zm_fg (zpt D a t w) (b + 1)) (by omega), p1 _ (by omega)]
      by_cases e : zpt D a t w (zm_fg (zpt D a t w) (b + 1)) < zpt D a t w (b + 1)
      · refine ze_brF rfl (nI_ge e (by omega)) ?_
        rw [if_pos e] at h
        iterate 5 (refine ze_go1 rfl ?_)
        exact h
      · refine ze_brT rfl (nI_le (by omega) (by omega)) ?_
        rw [if_neg e] at h
        iterate 4 (refine ze_go1 rfl ?_)
        exact h
  iterate 2 (refine ze_go1 rfl ?_)
  have h := most (zm_nb (D.2.2.1 a) - 1) 0 none none none none none (by omega)
  rw [zm_fg_1] at h
  exact h
