set_option maxRecDepth 20000 in
set_option maxHeartbeats 1000000 in
theorem r_arriveL {d : Nat} {σ : ze_S} {D : zD} {pl x ty : Nat} {w g : Nat → Nat} (hd : zdok D) (hB : zBn σ D) (hw : zrw σ pl D.2.1 w) (hwb : ∀ i, i < D.2.1 → w i ≤ 720) (hp : pl < 96) (hx : x ≤ 720) (h49 : σ.1 49 pl = -1) (h54 : σ.1 54 pl = nI ty) (hty : ty < 3) (h60 : σ.1 60 pl = nI x) (h6 : σ.1 64 6 = nI D.2.1) (hg : ∀ c, c < 3 → σ.1 62 c = nI (g c)) :
    zM (d + 5) m_M_arrive [.ref 64, .int (nI pl)] σ (fun v τ => v = none ∧ zy [62] [] σ τ ∧ ∀ c, c < 3 → τ.1 62 c = nI (g c + zgl D w ty x c)) := by
  have hW := zcw_le hd hwb
  refine zM_in t_M_arrive [some (.ref 64), some (.int (nI pl)), none, none, none, none, none, none, none, none] rfl rfl ?_
  refine ze_go1 rfl ?_
  refine ze_go2 rfl rfl ?_
  refine ze_go1 rfl ?_
  refine ze_go2 rfl ⟨rfl, vp_in_nI (N := 96) (n := pl) (by omega) (by omega)⟩ ?_
  rw [nI_clamp (n := pl) (by omega), h49]
  iterate 2 (refine ze_go1 rfl ?_)
  refine ze_go2 rfl rfl ?_
  refine ze_go1 rfl ?_
  refine ze_go2 rfl ⟨rfl, vp_in_nI (N := 96) (n := pl) (by omega) (by omega)⟩ ?_
  rw [nI_clamp (n := pl) (by omega), h60]
  iterate 4 (refine ze_go1 rfl ?_)
  refine ze_go2 rfl rfl ?_
  rw [h6]
  refine ze_ca1 rfl ⟨rfl, rfl⟩ (ze_M_le (r_weightOf (d := 0) hd hB (by omega) hw) (by omega)) (fun v τ' q => ?_)
  obtain ⟨rfl, e0⟩ := q
  rw [e0]
  iterate 2 (refine ze_go1 rfl ?_)
  refine ze_brF rfl (by decide) ?_
  have fin : ∀ τ (o6 o7 : Option Value) (L : Nat), zy [62] [] σ τ → L = x - zm_s (zpo D w x) 3 → (∀ c, c < 3 → τ.1 62 c = nI (g c + zpo D w x c)) → zE (d + 4) t_M_arrive (fun v τ => v = none ∧ zy [62] [] σ τ ∧ ∀ c, c < 3 → τ.1 62 c = nI (g c + zgl D w ty x c)) (93, [some (.ref 64), some (.int (nI pl)), some (.int (-1)), some (.int (nI x)), some (.int (nI (zm_s (zcw D w) 3))), some (.int (nI L)), o6, o7, none, none], [], τ) := by
    intro τ o6 o7 L hz hL hs
    refine ze_go1 rfl ?_
    refine ze_go2 rfl rfl ?_
    refine ze_go1 rfl ?_
    refine ze_go2 rfl rfl ?_
    refine ze_go1 rfl ?_
    refine ze_go2 rfl ⟨rfl, vp_in_nI (N := 96) (n := pl) (by omega) (by omega)⟩ ?_
    rw [nI_clamp (n := pl) (by omega), (hz.1 54 (by simp) (by decide)).1, h54]
    refine ze_go2 rfl ⟨rfl, rfl⟩ ?_
    refine ze_go2 rfl ⟨rfl, vp_in_nI (N := 3) hty (by decide)⟩ ?_
    rw [nI_clamp (n := ty) (by omega), hs ty hty]
    iterate 2 (refine ze_go1 rfl ?_)
    refine ze_go2 rfl ⟨rfl, vp_in_nI (N := 3) hty (by decide)⟩ ?_
    rw [nI_clamp (n := ty) (by omega), nI_add]
    refine ze_rt1 rfl trivial ⟨rfl, zy_tr hz (zy_ui (by simp) (by decide) _ _ _), fun c hc => ?_⟩
    unfold zgl
    by_cases q : c = ty
    · rw [q, zui, if_pos rfl, hL, Nat.add_assoc]
    · rw [zui_n _ _ _ _ q, if_neg q, hs c hc]
      rfl
  have loop : ∀ m j (o : Option Value) τ, j + m = 3 → zy [62] [] σ τ → (∀ c, c < 3 → τ.1 62 c = nI (g c + if c < j then zpo D w x c else 0)) → zE (d + 4) t_M_arrive (fun v τ => v = none ∧ zy [62] [] σ τ ∧ ∀ c, c < 3 → τ.1 62 c = nI (g c + zgl D w ty x c)) (35, [some (.ref 64), some (.int (nI pl)), some (.int (-1)), some (.int (nI x)), some (.int (nI (zm_s (zcw D w) 3))), some (.int (nI (x - zm_s (zpo D w x) j))), some (.int (nI j)), o, none, none], [], τ) := by
    intro m
    induction m with
    | zero =>
      intro j o τ hj hz hs
      have ej : j = 3 := by omega
      subst ej
      iterate 2 (refine ze_go1 rfl ?_)
      refine ze_brT rfl (by decide) ?_
      refine fin τ _ _ _ hz rfl (fun c hc => ?_)
      rw [hs c hc, if_pos hc]
    | succ m ih =>
      intro j o τ hj hz hs
      have hj3 : j < 3 := by omega
      have hcw : zcw D w j ≤ 17280 := Nat.le_trans (zm_s_pos hj3) hW
      have hxc : x * zcw D w j ≤ 12441600 := Nat.le_trans (Nat.mul_le_mul hx hcw) (by decide)
      have hs1 := zpo_sum (D := D) (w := w) (x := x) (j := j + 1) (by omega)
      have hs0 : zm_s (zpo D w x) (j + 1) = zm_s (zpo D w x) j + zpo D w x j := rfl
      have hBt : zBn τ D := zBn_y hB hz (by simp) (by simp)
      have st : zE (d + 4) t_M_arrive (fun v τ => v = none ∧ zy [62] [] σ τ ∧ ∀ c, c < 3 → τ.1 62 c = nI (g c + zgl D w ty x c)) (66, [some (.ref 64), some (.int (nI pl)), some (.int (-1)), some (.int (nI x)), some (.int (nI (zm_s (zcw D w) 3))), some (.int (nI (x - zm_s (zpo D w x) j))), some (.int (nI j)), o, none, none], [.int (nI (zpo D w x j))], τ) := by
        iterate 2 (refine ze_go1 rfl ?_)
        refine ze_go2 rfl rfl ?_
        refine ze_go1 rfl ?_
        refine ze_go2 rfl ⟨rfl, rfl⟩ ?_
        refine ze_go2 rfl ⟨rfl, vp_in_nI (N := 3) hj3 (by decide)⟩ ?_
        rw [nI_clamp (n := j) (by omega), hs j hj3, if_neg (Nat.lt_irrefl j), Nat.add_zero]
        iterate 2 (refine ze_go1 rfl ?_)
        refine ze_go2 rfl ⟨rfl, vp_in_nI (N := 3) hj3 (by decide)⟩ ?_
        rw [nI_clamp (n := j) (by omega), nI_add]
        have h := ih (j + 1) (some (.int (nI (zpo D w x j)))) (ze_ui τ 62 j (nI (g j + zpo D w x j))) (by omega) (zy_tr hz (zy_ui (by simp) (by decide) _ _ _)) (fun c hc => by
          by_cases q : c = j
          · rw [q, zui, if_pos (Nat.lt_succ_self _)]
          · rw [zui_n _ _ _ _ q, hs c hc]
            by_cases q2 : c < j
            · rw [if_pos q2, if_pos (by omega)]
            · rw [if_neg q2, if_neg (by omega)])
        rw [← show nI j + 1 = nI (j + 1) from nI_1 _] at h
        iterate 6 (refine ze_go1 rfl ?_)
        rw [pk_sub (by omega), show x - zm_s (zpo D w x) j - zpo D w x j = x - zm_s (zpo D w x) (j + 1) by omega]
        exact h
      iterate 2 (refine ze_go1 rfl ?_)
      refine ze_brF rfl (nI_ge (b := 3) hj3 (by decide)) ?_
      refine ze_go1 rfl ?_
      by_cases c0 : zm_s (zcw D w) 3 = 0
      · have e : zpo D w x j = 0 := if_pos c0
        refine ze_brF rfl (by rw [c0]; decide) ?_
        iterate 2 (refine ze_go1 rfl ?_)
        rw [e] at st
        exact st
      · have e : zpo D w x j = x * zcw D w j / zm_s (zcw D w) 3 := if_neg c0
        refine ze_brT rfl (nI_ne0 (by omega) (by omega)) ?_
        iterate 5 (refine ze_go1 rfl ?_)
        refine ze_go2 rfl rfl ?_
        rw [hz.2 6 (by simp), h6]
        refine ze_ca1 rfl ⟨rfl, rfl⟩ (ze_M_le (r_classWeight (d := 0) (c := j) (w := w) hd hBt (by omega) hj3 (fun i hi => by rw [(hz.1 55 (by simp) (by decide)).1]; exact hw i hi)) (by omega)) (fun v τ' q => ?_)
        obtain ⟨rfl, e0⟩ := q
        rw [e0]
        iterate 2 (refine ze_go1 rfl ?_)
        rw [pk_mul]
        refine ze_go2 rfl (nI_ne0 (by omega) (by omega)) ?_
        rw [pk_div (by omega) (by omega) (by omega), ← e]
        exact st
  iterate 4 (refine ze_go1 rfl ?_)
  have h := loop 3 0 none σ rfl (zy_rf _ _ _) (fun c hc => by rw [hg c hc, if_neg (Nat.not_lt_zero _)]; rfl)
  rw [show x - zm_s (zpo D w x) 0 = x from Nat.sub_zero x] at h
  exact h
/-- among the branches -/
def zAc (D : zD) (σ : ze_S) (kd p : Nat → Nat) (K : Nat) (sh : Nat → Nat) (b : Nat) (τ : ze_S) : Prop :=
  zy [56, 57, 60] [17, 18, 21] σ τ ∧ (∀ b, b < 4 → τ.1 56 b = nI (p b)) ∧ τ.1 64 17 = nI K ∧ (∀ b', b' < b → τ.1 60 (kd b') = nI (sh b')) ∧ ∀ q, (∀ b', b' < b → q ≠ kd b') → τ.1 60 q = σ.1 60 q
set_option maxRecDepth 20000 in
set_option maxHeartbeats 2000000 in
theorem r_ar1 {e : Nat} {σ : ze_S} {D : zD} {Q : ze_P} {pl a x : Nat} {t y z4 : Int32} {kd p : Nat → Nat} {K : Nat} (he : 1 ≤ e) (hd : zdok D) (hB : zBn σ D) (ha : a < D.1) (hpl : pl < 96) (hx : x ≤ 720) (hkd : zKd D σ pl a t kd) (hp : ∀ b, p b ≤ K) (hK : K ≤ 17280) (hKs : ∀ b, b ≤ zm_nb (D.2.2.1 a) → zm_s p b ≤ K)
    (k : ∀ τ o, zAc D σ kd p K (zsh (D.2.2.1 a) t p K x y) (zm_nb (D.2.2.1 a)) τ → zE e t_M_arrive Q (269, [some (.ref 64), some (.int (nI pl)), some (.int (nI a)), some (.int (nI x)), some (.int z4), some (.int y), some (.int (nI (zm_fg p (zm_nb (D.2.2.1 a))))), some (.int (nI (x - zm_s (zsh (D.2.2.1 a) t p K x y) (zm_nb (D.2.2.1 a))))), some (.int (nI (zm_nb (D.2.2.1 a)))), o], [], τ)) :
    ∀ n b τ o, b + n = zm_nb (D.2.2.1 a) → zAc D σ kd p K (zsh (D.2.2.1 a) t p K x y) b τ → zE e t_M_arrive Q (144, [some (.ref 64), some (.int (nI pl)), some (.int (nI a)), some (.int (nI x)), some (.int z4), some (.int y), some (.int (nI (zm_fg p b))), some (.int (nI (x - zm_s (zsh (D.2.2.1 a) t p K x y) b))), some (.int (nI b)), o], [], τ) := by
  have hn := znb4 hd ha
  intro n
  induction n with
  | zero =>
    intro b τ o hb hJ
    have eb : b = zm_nb (D.2.2.1 a) := by omega
    subst eb
    have hB2 : zBn τ D := zBn_y hB hJ.1 (by simp) (by simp)
    iterate 3 (refine ze_go1 rfl ?_)
    refine ze_ca1 rfl ⟨rfl, rfl⟩ (ze_M_le (r_branches (d := 0) hd hB2 ha) (by omega)) (fun v ρ q => ?_)
    obtain ⟨rfl, rfl⟩ := q
    refine ze_brT rfl (Int32.le_refl _) ?_
    exact k ρ o hJ
  | succ n ih =>
    intro b τ o hb hJ
    obtain ⟨y1, jp, jK, jd, jo⟩ := hJ
    have hB2 : zBn τ D := zBn_y hB y1 (by simp) (by simp)
    obtain ⟨k1, k2, k3, k4⟩ := zKd_eq hkd (y1.1 49 (by simp) (by decide)).1 (y1.1 50 (by simp) (by decide)).1 (y1.1 51 (by simp) (by decide)).1
    obtain ⟨k31, k32, k33⟩ := k3 b (by omega)
    have hS := zsh_sum (k := D.2.2.1 a) (t := t) (x := x) (y := y) (hKs (b + 1) (by omega))
    rw [show zm_s (zsh (D.2.2.1 a) t p K x y) (b + 1) = zm_s (zsh (D.2.2.1 a) t p K x y) b + zsh (D.2.2.1 a) t p K x y b from rfl] at hS
    have hfb : zm_fg p b ≤ b := by
      cases b with
      | zero => exact Nat.le_refl _
      | succ b => have := zm_fg_lt p b; omega
    have hpb := hp b
    have hpf := hp (zm_fg p b)
    iterate 3 (refine ze_go1 rfl ?_)
    refine ze_ca1 rfl ⟨rfl, rfl⟩ (ze_M_le (r_branches (d := 0) hd hB2 ha) (by omega)) (fun v ρ q => ?_)
    obtain ⟨rfl, rfl⟩ := q
    refine ze_brF rfl (nI_ge (by omega) (by omega)) ?_
    refine ze_go1 rfl ?_
    refine ze_go2 rfl rfl ?_
    refine ze_go1 rfl ?_
    refine ze_go2 rfl ⟨rfl, vp_in_nI (N := 4) (n := b) (by omega) (by omega)⟩ ?_
    rw [nI_clamp (n := b) (by omega), jp b (by omega)]
    refine ze_go1 rfl ?_
    refine ze_go2 rfl rfl ?_
    refine ze_go1 rfl ?_
    refine ze_go2 rfl ⟨rfl, vp_in_nI (N := 4) (n := zm_fg p b) (by omega) (by omega)⟩ ?_
    rw [nI_clamp (n := zm_fg p b) (by omega), jp (zm_fg p b) (by omega)]
    -- the share goes there
    have st : zE e t_M_arrive Q (236, [some (.ref 64), some (.int (nI pl)), some (.int (nI a)), some (.int (nI x)), some (.int z4), some (.int y), some (.int (nI (zm_fg p (b + 1)))), some (.int (nI (x - zm_s (zsh (D.2.2.1 a) t p K x y) b))), some (.int (nI b)), o], [.int (nI (zsh (D.2.2.1 a) t p K x y b))], ρ) := by
      iterate 2 (refine ze_go1 rfl ?_)
      refine ze_go2 rfl rfl ?_
      refine ze_go1 rfl ?_
      refine ze_go2 rfl rfl ?_
      iterate 5 (refine ze_go1 rfl ?_)
      rw [zi4']
      refine ze_go2 rfl ⟨rfl, vp_in_nI (N := 384) (n := 4 * pl + b) (by omega) (by omega)⟩ ?_
      rw [nI_clamp (n := 4 * pl + b) (by omega), k31]
      refine ze_go1 rfl ?_
      refine ze_go2 rfl ⟨rfl, vp_in_nI (N := 96) (n := kd b) (by omega) (by omega)⟩ ?_
      rw [nI_clamp (n := kd b) (by omega)]
      have h' := ih (b + 1) (ze_ui ρ 60 (kd b) (nI (zsh (D.2.2.1 a) t p K x y b))) (some (.int (nI (zsh (D.2.2.1 a) t p K x y b)))) (by omega) ⟨zy_tr y1 (zy_ui (by simp) (by decide) _ _ _), fun b' hb' => by rw [zui_o _ _ _ _ (by decide)]; exact jp b' hb', by rw [zui_o _ _ _ _ (by decide)]; exact jK, fun b' hb' => by
          by_cases e : b' = b
          · subst e; rw [zui]
          · rw [zui_n _ _ _ _ (fun z => e (k4 b' b (by omega) (by omega) z))]; exact jd b' (by omega), fun q hq => by
          rw [zui_n _ _ _ _ (hq b (by omega))]
          exact jo q (fun b' hb' => hq b' (by omega))⟩
      rw [← show nI b + 1 = nI (b + 1) from nI_1 _, show x - zm_s (zsh (D.2.2.1 a) t p K x y) (b + 1) = x - zm_s (zsh (D.2.2.1 a) t p K x y) b - zsh (D.2.2.1 a) t p K x y b by rw [show zm_s (zsh (D.2.2.1 a) t p K x y) (b + 1) = zm_s (zsh (D.2.2.1 a) t p K x y) b + zsh (D.2.2.1 a) t p K x y b from rfl]; omega] at h'
      iterate 6 (refine ze_go1 rfl ?_)
      rw [pk_sub (by omega)]
      exact h'
    -- the share
    have st2 : zE e t_M_arrive Q (180, [some (.ref 64), some (.int (nI pl)), some (.int (nI a)), some (.int (nI x)), some (.int z4), some (.int y), some (.int (nI (zm_fg p (b + 1)))), some (.int (nI (x - zm_s (zsh (D.2.2.1 a) t p K x y) b))), some (.int (nI b)), o], [], ρ) := by
      refine ze_go1 rfl ?_
      by_cases h0 : 0 ≤ y
      · refine ze_brF rfl (Int32.not_lt.2 h0) ?_
        iterate 3 (refine ze_go1 rfl ?_)
        refine ze_go2 rfl rfl ?_
        refine ze_go1 rfl ?_
        refine ze_go2 rfl ⟨rfl, vp_in_nI (N := 96) (n := pl) (by omega) (by omega)⟩ ?_
        rw [nI_clamp (n := pl) (by omega), k2]
        refine ze_go1 rfl ?_
        refine ze_ca1 rfl ⟨rfl, rfl⟩ (ze_M_le (r_branch (d := 0) hd hB2 ha (Int32.not_lt.2 h0)) (by omega)) (fun v ρ' q => ?_)
        obtain ⟨rfl, rfl⟩ := q
        unfold zsh at st
        rw [if_pos h0] at st
        refine ze_go1 rfl ?_
        by_cases e : zm_br (D.2.2.1 a) t y = b
        · rw [if_pos e] at st
          refine ze_brF rfl (fun z => z (by rw [e])) ?_
          iterate 2 (refine ze_go1 rfl ?_)
          exact st
        · rw [if_neg e] at st
          have hbr : zm_br (D.2.2.1 a) t y < 2 ^ 31 := by
            unfold zm_br
            split
            · split <;> decide
            · obtain ⟨v, hv, rfl⟩ := nI_of (Int32.not_lt.2 h0)
              rw [zcl hv]
              exact hv
          refine ze_brT rfl (fun z => e ((nI_eq hbr (by omega)).1 z)) ?_
          iterate 2 (refine ze_go1 rfl ?_)
          exact st
      · refine ze_brT rfl (Int32.not_le.1 h0) ?_
        unfold zsh at st
        rw [if_neg h0] at st
        refine ze_go1 rfl ?_
        refine ze_go2 rfl rfl ?_
        rw [jK]
        by_cases e : K = 0
        · rw [if_pos e] at st
          refine ze_brT rfl (by rw [e]; decide) ?_
          refine ze_go1 rfl ?_
          exact st
        · rw [if_neg e] at st
          refine ze_brF rfl (nI_nle (by omega) (by omega)) ?_
          have hxp : x * p b ≤ 720 * 17280 := Nat.mul_le_mul hx (by omega)
          iterate 2 (refine ze_go1 rfl ?_)
          refine ze_go2 rfl rfl ?_
          refine ze_go1 rfl ?_
          refine ze_go2 rfl ⟨rfl, vp_in_nI (N := 4) (n := b) (by omega) (by omega)⟩ ?_
          rw [nI_clamp (n := b) (by omega), jp b (by omega)]
          iterate 2 (refine ze_go1 rfl ?_)
          refine ze_go2 rfl rfl ?_
          rw [pk_mul, jK]
          refine ze_go2 rfl (nI_ne0 (by omega) (by omega)) ?_
          rw [pk_div (by omega) (by omega) (by omega)]
          refine ze_go1 rfl ?_
          exact st
    rw [show zm_fg p (b + 1) = if p (zm_fg p b) < p b then b else zm_fg p b from rfl] at st2
    by_cases e : p (zm_fg p b) < p b
    · rw [if_pos e] at st2
      refine ze_brF rfl (nI_ge e (by omega)) ?_
      iterate 3 (refine ze_go1 rfl ?_)
      exact st2
    · rw [if_neg e] at st2
      refine ze_brT rfl (nI_le (by omega) (by omega)) ?_
      iterate 2 (refine ze_go1 rfl ?_)
      exact st2
/-- what arriving at a test leaves -/
def zAo (D : zD) (σ : ze_S) (a : Nat) (t : Int32) (kd : Nat → Nat) (w : Nat → Nat) (x : Nat) (y : Int32) (τ : ze_S) : Prop :=
  zy [56, 57, 60] [17, 18, 21] σ τ ∧ (∀ b, b < zm_nb (D.2.2.1 a) → τ.1 60 (kd b) = nI (zm_ps (D.2.2.1 a) t (zpt D a t w) (zm_s (zpt D a t w) 4) (zm_fg (zpt D a t w) 4) x y b)) ∧ ∀ q, (∀ b, b < zm_nb (D.2.2.1 a) → q ≠ kd b) → τ.1 60 q = σ.1 60 q
set_option maxRecDepth 20000 in
set_option maxHeartbeats 1000000 in
theorem r_ar2 {e : Nat} {σ τ1 τ2 : ze_S} {D : zD} {pl a x : Nat} {t y z4 : Int32} {kd w : Nat → Nat} {o : Option Value} (hd : zdok D) (ha : a < D.1) (hkd : zKd D σ pl a t kd) (hwb : ∀ i, i < D.2.1 → w i ≤ 720) (hpl : pl < 96) (y1 : zy [56, 57] [17, 18, 21] σ τ1) (hJ : zAc D τ1 kd (zpt D a t w) (zkn D a w) (zsh (D.2.2.1 a) t (zpt D a t w) (zkn D a w) x y) (zm_nb (D.2.2.1 a)) τ2) :
    zE e t_M_arrive (fun v τ => v = none ∧ zAo D σ a t kd w x y τ) (269, [some (.ref 64), some (.int (nI pl)), some (.int (nI a)), some (.int (nI x)), some (.int z4), some (.int y), some (.int (nI (zm_fg (zpt D a t w) (zm_nb (D.2.2.1 a))))), some (.int (nI (x - zm_s (zsh (D.2.2.1 a) t (zpt D a t w) (zkn D a w) x y) (zm_nb (D.2.2.1 a))))), some (.int (nI (zm_nb (D.2.2.1 a)))), o], [], τ2) := by
  have hn := znb4 hd ha
  have h4 := hd.1
  obtain ⟨k1, k2, k3, k4⟩ := hkd
  have hfgn := zm_fg_lt (zpt D a t w) (zm_nb (D.2.2.1 a) - 1)
  rw [show zm_nb (D.2.2.1 a) - 1 + 1 = zm_nb (D.2.2.1 a) by omega] at hfgn
  have hKn := zpt_nb (t := t) (w := w) hd ha
  have hpl17 := fun b => zpt_le (b := b) (t := t) hd ha hwb
  have efg := zpt_fg (t := t) (w := w) hd ha
  have ekn := zpt_kn (t := t) (w := w) hd ha
  have kd1 : zKd D τ1 pl a t kd := zKd_eq ⟨k1, k2, k3, k4⟩ (y1.1 49 (by simp) (by decide)).1 (y1.1 50 (by simp) (by decide)).1 (y1.1 51 (by simp) (by decide)).1
  have e60 : τ1.1 60 = σ.1 60 := (y1.1 60 (by simp) (by decide)).1
  obtain ⟨y2, jp, jK, jd, jo⟩ := hJ
  obtain ⟨-, -, k32, -⟩ := zKd_eq kd1 (y2.1 49 (by simp) (by decide)).1 (y2.1 50 (by simp) (by decide)).1 (y2.1 51 (by simp) (by decide)).1
  have hy2 : zy [56, 57, 60] [17, 18, 21] σ τ2 := zy_tr (zy_wk y1 (by simp) (by simp)) y2
  have esd : ∀ b, zm_ps (D.2.2.1 a) t (zpt D a t w) (zm_s (zpt D a t w) 4) (zm_fg (zpt D a t w) 4) x (y) b = zsh (D.2.2.1 a) t (zpt D a t w) (zkn D a w) x (y) b + (if ¬ 0 ≤ y ∧ b = (if zkn D a w = 0 then 0 else zm_fg (zpt D a t w) (zm_nb (D.2.2.1 a))) then x - zm_s (zsh (D.2.2.1 a) t (zpt D a t w) (zkn D a w) x (y)) (zm_nb (D.2.2.1 a)) else 0) := fun b => by
    rw [efg, ekn]
    exact zps_sh hfgn hKn
  generalize hg : zsh (D.2.2.1 a) t (zpt D a t w) (zkn D a w) x (y) = sh at esd jd
  have hsl : zm_s sh (zm_nb (D.2.2.1 a)) ≤ x := by
    rw [← hg]
    exact zsh_sum hKn
  have st : ∀ u, u < zm_nb (D.2.2.1 a) → u = (if zkn D a w = 0 then 0 else zm_fg (zpt D a t w) (zm_nb (D.2.2.1 a))) → zE e t_M_arrive (fun v τ => v = none ∧ zAo D σ a t kd w x (y) τ) (293, [some (.ref 64), some (.int (nI pl)), some (.int (nI a)), some (.int (nI x)), some (.int z4), some (.int (y)), some (.int (nI (zm_fg (zpt D a t w) (zm_nb (D.2.2.1 a))))), some (.int (nI (x - zm_s sh (zm_nb (D.2.2.1 a))))), some (.int (nI (zm_nb (D.2.2.1 a)))), o], [.int (nI u), .int (nI (4 * pl)), .ref 51, .ref 60], τ2) := by
    intro u hu eu
    obtain ⟨e51, hk96, -⟩ := k32 u hu
    refine ze_go1 rfl ?_
    rw [nI_add]
    refine ze_go2 rfl ⟨rfl, vp_in_nI (N := 384) (n := 4 * pl + u) (by omega) (by omega)⟩ ?_
    rw [nI_clamp (n := 4 * pl + u) (by omega), e51]
    refine ze_go2 rfl ⟨rfl, rfl⟩ ?_
    refine ze_go2 rfl ⟨rfl, vp_in_nI (N := 96) (n := kd u) (by omega) (by omega)⟩ ?_
    rw [nI_clamp (n := kd u) (by omega), jd u hu]
    have nx : ∀ z : Nat, z = (if ¬ 0 ≤ y then x - zm_s sh (zm_nb (D.2.2.1 a)) else 0) → zE e t_M_arrive (fun v τ => v = none ∧ zAo D σ a t kd w x (y) τ) (308, [some (.ref 64), some (.int (nI pl)), some (.int (nI a)), some (.int (nI x)), some (.int z4), some (.int (y)), some (.int (nI (zm_fg (zpt D a t w) (zm_nb (D.2.2.1 a))))), some (.int (nI (x - zm_s sh (zm_nb (D.2.2.1 a))))), some (.int (nI (zm_nb (D.2.2.1 a)))), o], [.int (nI z), .int (nI (sh u)), .int (nI (kd u)), .ref 60], τ2) := by
      intro z ez
      refine ze_go1 rfl ?_
      rw [nI_add]
      refine ze_go2 rfl ⟨rfl, vp_in_nI (N := 96) (n := kd u) (by omega) (by omega)⟩ ?_
      rw [nI_clamp (n := kd u) (by omega)]
      refine ze_rt1 rfl trivial ⟨rfl, zy_tr hy2 (zy_ui (by simp) (by decide) _ _ _), fun b hb => ?_, fun q hq => ?_⟩
      · by_cases eb : b = u
        · subst eb
          rw [zui, esd b, ez]
          by_cases h0 : 0 ≤ y
          · rw [if_neg (fun q => q h0), if_neg (fun q => q.1 h0)]
          · rw [if_pos h0, if_pos ⟨h0, eu⟩]
        · rw [zui_n _ _ _ _ (fun z => eb (k4 b u hb hu z)), jd b hb, esd b, if_neg (fun q => eb (q.2.trans eu.symm))]
          rfl
      · rw [zui_n _ _ _ _ (hq u hu), jo q hq, e60]
    refine ze_go1 rfl ?_
    by_cases h0 : 0 ≤ y
    · refine ze_brT rfl h0 ?_
      refine ze_go1 rfl ?_
      exact nx 0 (by rw [if_neg (fun q => q h0)])
    · refine ze_brF rfl h0 ?_
      iterate 2 (refine ze_go1 rfl ?_)
      exact nx _ (by rw [if_pos h0])
  refine ze_go1 rfl ?_
  refine ze_go2 rfl rfl ?_
  refine ze_go1 rfl ?_
  refine ze_go2 rfl rfl ?_
  iterate 4 (refine ze_go1 rfl ?_)
  refine ze_go2 rfl rfl ?_
  rw [show (4 : Int32) * nI pl = nI (4 * pl) by rw [show (4 : Int32) = nI 4 from rfl, pk_mul], jK]
  by_cases e : zkn D a w = 0
  · refine ze_brT rfl (by rw [e]; decide) ?_
    refine ze_go1 rfl ?_
    exact st 0 (by omega) (by rw [if_pos e])
  · have := (hpl17 0).2.2
    refine ze_brF rfl (nI_nle (by omega) (by omega)) ?_
    iterate 2 (refine ze_go1 rfl ?_)
    exact st _ hfgn (by rw [if_neg e])
set_option maxRecDepth 20000 in
set_option maxHeartbeats 1000000 in
theorem r_arriveN {d : Nat} {σ : ze_S} {D : zD} {pl a x : Nat} {t : Int32} {kd w : Nat → Nat} (hd : zdok D) (hB : zBn σ D) (ha : a < D.1) (hkd : zKd D σ pl a t kd) (hw : zrw σ pl D.2.1 w) (hwb : ∀ i, i < D.2.1 → w i ≤ 720) (hpl : pl < 96) (hx : x ≤ 720) (h60 : σ.1 60 pl = nI x) (h6 : σ.1 64 6 = nI D.2.1) :
    zM (d + 5) m_M_arrive [.ref 64, .int (nI pl)] σ (fun v τ => v = none ∧ zAo D σ a t kd w x (σ.1 61 a) τ) := by
  have hn := znb4 hd ha
  have h4 := hd.1
  obtain ⟨k1, k2, k3, k4⟩ := hkd
  have hfgn := zm_fg_lt (zpt D a t w) (zm_nb (D.2.2.1 a) - 1)
  rw [show zm_nb (D.2.2.1 a) - 1 + 1 = zm_nb (D.2.2.1 a) by omega] at hfgn
  have hKn := zpt_nb (t := t) (w := w) hd ha
  have hpl17 := fun b => zpt_le (b := b) (t := t) hd ha hwb
  have st2 : zE (d + 4) t_M_arrive (fun v τ => v = none ∧ zAo D σ a t kd w x (σ.1 61 a) τ) (124, [some (.ref 64), some (.int (nI pl)), some (.int (nI a)), some (.int (nI x)), some (.int (nI (zm_s (zcw D w) 3))), some (.int (σ.1 61 a)), some (.int 0), some (.int (nI x)), none, none], [], σ) := by
    iterate 4 (refine ze_go1 rfl ?_)
    refine ze_go2 rfl rfl ?_
    refine ze_go1 rfl ?_
    refine ze_go2 rfl ⟨rfl, vp_in_nI (N := 96) (n := pl) (by omega) (by omega)⟩ ?_
    rw [nI_clamp (n := pl) (by omega), k2]
    refine ze_go1 rfl ?_
    refine ze_go2 rfl rfl ?_
    refine ze_go1 rfl ?_
    rw [h6]
    refine ze_ca1 rfl ⟨rfl, rfl⟩ (ze_M_le (r_measure (d := 0) (m := 1) hd hB ha (by omega) hw hwb (by decide)) (by omega)) (fun v τ1 q => ?_)
    obtain ⟨rfl, y1, ms⟩ := q
    have hB1 : zBn τ1 D := zBn_y hB y1 (by simp) (by simp)
    have kd1 : zKd D τ1 pl a t kd := zKd_eq ⟨k1, k2, k3, k4⟩ (y1.1 49 (by simp) (by decide)).1 (y1.1 50 (by simp) (by decide)).1 (y1.1 51 (by simp) (by decide)).1
    iterate 2 (refine ze_go1 rfl ?_)
    have h := r_ar1 (e := d + 4) (x := x) (z4 := nI (zm_s (zcw D w) 3)) (y := σ.1 61 a) (Q := fun v τ => v = none ∧ zAo D σ a t kd w x (σ.1 61 a) τ) (p := zpt D a t w) (K := zkn D a w) (by omega) hd hB1 ha hpl hx kd1 (fun b => (hpl17 b).2.1) (hpl17 0).2.2 (fun b hb => Nat.le_trans (zm_s_mono _ hb) hKn) (fun τ2 o hJ => ?_) (zm_nb (D.2.2.1 a)) 0 τ1 none (by omega) ⟨zy_rf _ _ _, ms.1, ms.2.1, fun b' hb' => by omega, fun q _ => rfl⟩
    · rw [show x - zm_s (zsh (D.2.2.1 a) t (zpt D a t w) (zkn D a w) x (σ.1 61 a)) 0 = x from Nat.sub_zero x, show zm_fg (zpt D a t w) 0 = 0 from rfl] at h
      exact h
    · exact r_ar2 hd ha ⟨k1, k2, k3, k4⟩ hwb hpl y1 hJ
  have st1 : zE (d + 4) t_M_arrive (fun v τ => v = none ∧ zAo D σ a t kd w x (σ.1 61 a) τ) (110, [some (.ref 64), some (.int (nI pl)), some (.int (nI a)), some (.int (nI x)), some (.int (nI (zm_s (zcw D w) 3))), none, none, none, none, none], [], σ) := by
    refine ze_go1 rfl ?_
    refine ze_go2 rfl rfl ?_
    refine ze_go1 rfl ?_
    refine ze_go2 rfl ⟨rfl, vp_in_nI (N := 4) (n := a) (by omega) (by omega)⟩ ?_
    rw [nI_clamp (n := a) (by omega)]
    iterate 5 (refine ze_go1 rfl ?_)
    exact st2
  refine zM_in t_M_arrive [some (.ref 64), some (.int (nI pl)), none, none, none, none, none, none, none, none] rfl rfl ?_
  refine ze_go1 rfl ?_
  refine ze_go2 rfl rfl ?_
  refine ze_go1 rfl ?_
  refine ze_go2 rfl ⟨rfl, vp_in_nI (N := 96) (n := pl) (by omega) (by omega)⟩ ?_
  rw [nI_clamp (n := pl) (by omega), k1]
  iterate 2 (refine ze_go1 rfl ?_)
  refine ze_go2 rfl rfl ?_
  refine ze_go1 rfl ?_
  refine ze_go2 rfl ⟨rfl, vp_in_nI (N := 96) (n := pl) (by omega) (by omega)⟩ ?_
  rw [nI_clamp (n := pl) (by omega), h60]
  iterate 4 (refine ze_go1 rfl ?_)
  refine ze_go2 rfl rfl ?_
  rw [h6]
  refine ze_ca1 rfl ⟨rfl, rfl⟩ (ze_M_le (r_weightOf (d := 0) hd hB (by omega) hw) (by omega)) (fun v τ' q => ?_)
  obtain ⟨rfl, e0⟩ := q
  rw [e0]
  iterate 2 (refine ze_go1 rfl ?_)
  refine ze_brT rfl (nI_pos' (by omega)) ?_
  exact st1
