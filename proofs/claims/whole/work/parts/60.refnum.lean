/-! the reference: LOG, information, weights -/
set_option maxRecDepth 20000 in
theorem r_log {d : Nat} {σ : ze_S} {n : Nat} (h1 : 1 ≤ n) (hn : n < 32768) :
    zM (d + 1) m_M_logOf [.int (nI n)] σ (fun v τ => v = some (.int (nI (zm_log n))) ∧ τ = σ) := by
  refine zM_in t_M_logOf [some (.int (nI n)), none, none, none, none] rfl rfl ?_
  have loop2 : ∀ m j q, j + m = 8 → q.1 < 32768 → (zm_it m q).2 = zm_log n → zE d t_M_logOf (fun v τ => v = some (.int (nI (zm_log n))) ∧ τ = σ) (43, [some (.int (nI n)), some (.int (nI (zm_k n))), some (.int (nI q.1)), some (.int (nI q.2)), some (.int (nI j))], [], σ) := by
    intro m
    induction m with
    | zero =>
      intro j q hj hq he
      iterate 2 (refine ze_go1 rfl ?_)
      refine ze_brT rfl (nI_le (a := 8) (by omega) (by omega)) ?_
      refine ze_go1 rfl ?_
      refine ze_rt1 rfl trivial ⟨?_, rfl⟩
      rw [← he]
      rfl
    | succ m ih =>
      intro j q hj hq he
      obtain ⟨a1, a2, a3⟩ := zm_sq hq
      have hq2 : q.1 * q.1 / 16384 < 65536 := by omega
      have hr := zm_rd_lt hq
      iterate 2 (refine ze_go1 rfl ?_)
      refine ze_brF rfl (nI_ge (b := 8) (by omega) (by omega)) ?_
      iterate 12 (refine ze_go1 rfl ?_)
      have h := ih (j + 1) (zm_rd q) (by omega) hr he
      rw [← show nI j + 1 = nI (j + 1) from nI_1 _] at h
      have e1 : (nI q.1 * nI q.1) >>> (14 &&& 31) = nI (q.1 * q.1 / 16384) := by rw [a1]; exact a3
      have hb := zm_big2 hq2
      by_cases c : 32768 ≤ q.1 * q.1 / 16384
      · refine ze_brF rfl ?_ ?_
        · rw [e1]; exact Int32.not_lt.mpr (hb.mpr c)
        iterate 7 (refine ze_go1 rfl ?_)
        unfold zm_rd at h
        rw [if_pos c] at h
        rw [e1, zm_half hq2, zm_2l, show nI (2 * q.2) + 1 = nI (2 * q.2 + 1) from nI_1 _]
        exact h
      · refine ze_brT rfl ?_ ?_
        · rw [e1]; exact Int32.not_le.mp (fun z => c (hb.mp z))
        iterate 2 (refine ze_go1 rfl ?_)
        unfold zm_rd at h
        rw [if_neg c] at h
        rw [e1, zm_2l]
        exact h
  have hk := zm_k_14 h1 hn
  have loop1 : ∀ m j, j + m = zm_k n → zE d t_M_logOf (fun v τ => v = some (.int (nI (zm_log n))) ∧ τ = σ) (2, [some (.int (nI n)), some (.int (nI j)), none, none, none], [], σ) := by
    intro m
    induction m with
    | zero =>
      intro j hj
      have ej : j = zm_k n := by omega
      subst ej
      have hm := zm_m0 h1 hn
      have hlt := zm_k_lt h1
      iterate 5 (refine ze_go1 rfl ?_)
      rw [show nI (zm_k n) + 1 = nI (zm_k n + 1) from nI_1 _]
      have e1 : nI n >>> (nI (zm_k n + 1) &&& 31) = nI (n / 2 ^ (zm_k n + 1)) := zm_shr (by omega) (by omega)
      rw [e1, Nat.div_eq_of_lt hlt]
      refine ze_brT rfl (Int32.le_refl _) ?_
      iterate 2 (refine ze_go1 rfl ?_)
      refine ze_brF rfl (nI_nlt (b := zm_k n) (a := 14) hk (by omega)) ?_
      iterate 11 (refine ze_go1 rfl ?_)
      have e0 : (14 : Int32) - nI (zm_k n) = nI (14 - zm_k n) := pk_sub (a := 14) hk
      have e2 : nI n <<< (nI (14 - zm_k n) &&& 31) = nI (n * 2 ^ (14 - zm_k n)) := zm_shl (by omega) (by omega)
      have h := loop2 8 0 (n * 2 ^ (14 - zm_k n), zm_k n) rfl hm rfl
      rw [e0, e2]
      exact h
    | succ m ih =>
      intro j hj
      have h := ih (j + 1) (by omega)
      rw [← show nI j + 1 = nI (j + 1) from nI_1 _] at h
      iterate 5 (refine ze_go1 rfl ?_)
      rw [show nI j + 1 = nI (j + 1) from nI_1 _]
      have e1 : nI n >>> (nI (j + 1) &&& 31) = nI (n / 2 ^ (j + 1)) := zm_shr (by omega) (by omega)
      have hd : n / 2 ^ (j + 1) < 2 ^ 31 := Nat.lt_of_le_of_lt (Nat.div_le_self _ _) (by omega)
      have hp : 0 < 2 ^ (j + 1) := Nat.two_pow_pos _
      have hle : 2 ^ (j + 1) ≤ n := Nat.le_trans (Nat.pow_le_pow_right (by decide) (by omega)) (zm_k_le h1)
      rw [e1]
      refine ze_brF rfl (nI_nle (Nat.div_pos hle hp) hd) ?_
      iterate 2 (refine ze_go1 rfl ?_)
      exact h
  iterate 2 (refine ze_go1 rfl ?_)
  exact loop1 (zm_k n) 0 (by omega)
theorem r_term {d : Nat} {σ : ze_S} {f T : Nat} (hf : f ≤ T) (hT : T < 32768) :
    zM (d + 2) m_M_term [.int (nI f), .int (nI T)] σ (fun v τ => v = some (.long (zm_t f T)) ∧ τ = σ) := by
  refine zM_in t_M_term [some (.int (nI f)), some (.int (nI T))] rfl rfl ?_
  refine ze_go1 rfl ?_
  unfold zm_t
  by_cases c : f = 0
  · subst c
    refine ze_brT rfl (by decide) ?_
    refine ze_go1 rfl ?_
    exact ze_rt1 rfl trivial ⟨rfl, rfl⟩
  · refine ze_brF rfl (nI_nle (by omega) (by omega)) ?_
    iterate 3 (refine ze_go1 rfl ?_)
    refine ze_ca1 rfl rfl (ze_M_le (r_log (d := 0) (n := T) (by omega) hT) (by omega)) (fun v τ q => ?_)
    obtain ⟨rfl, rfl⟩ := q
    refine ze_go1 rfl ?_
    refine ze_ca1 rfl rfl (ze_M_le (r_log (d := 0) (n := f) (by omega) (by omega)) (by omega)) (fun v τ q => ?_)
    obtain ⟨rfl, rfl⟩ := q
    iterate 4 (refine ze_go1 rfl ?_)
    refine ze_rt1 rfl trivial ⟨?_, rfl⟩
    rw [if_neg c]
def zi_5 (a b c d e : Nat) : Int64 := zm_t a (a + b + c + d + e) + zm_t b (a + b + c + d + e) + zm_t c (a + b + c + d + e) + zm_t d (a + b + c + d + e) + zm_t e (a + b + c + d + e)
theorem zi_5_5 (f : Nat → Nat) : zi_5 (f 0) (f 1) (f 2) (f 3) (f 4) = zm_info f 5 := by
  show _ = 0 + zm_t (f 0) (zm_s f 5) + zm_t (f 1) (zm_s f 5) + zm_t (f 2) (zm_s f 5) + zm_t (f 3) (zm_s f 5) + zm_t (f 4) (zm_s f 5)
  rw [zm_s5, Int64.zero_add]
  rfl
theorem zi_5_3 (f : Nat → Nat) : zi_5 (f 0) (f 1) (f 2) 0 0 = zm_info f 3 := by
  show _ = 0 + zm_t (f 0) (zm_s f 3) + zm_t (f 1) (zm_s f 3) + zm_t (f 2) (zm_s f 3)
  have h0 : ∀ T, zm_t 0 T = 0 := fun T => if_pos rfl
  rw [zm_s3, Int64.zero_add, zi_5, h0, Int64.add_zero, Int64.add_zero]
  rfl
theorem r_information {d' : Nat} {σ : ze_S} {a b c d e : Nat} (hs : a + b + c + d + e < 32768) :
    zM (d' + 3) m_M_information [.int (nI a), .int (nI b), .int (nI c), .int (nI d), .int (nI e)] σ (fun v τ => v = some (.long (zi_5 a b c d e)) ∧ τ = σ) := by
  refine zM_in t_M_information [some (.int (nI a)), some (.int (nI b)), some (.int (nI c)), some (.int (nI d)), some (.int (nI e)), none] rfl rfl ?_
  iterate 12 (refine ze_go1 rfl ?_)
  rw [nI_add, nI_add, nI_add, nI_add]
  refine ze_ca1 rfl rfl (ze_M_le (r_term (d := 0) (f := a) (T := a + b + c + d + e) (by omega) hs) (by omega)) (fun v τ q => ?_)
  obtain ⟨rfl, rfl⟩ := q
  iterate 2 (refine ze_go1 rfl ?_)
  refine ze_ca1 rfl rfl (ze_M_le (r_term (d := 0) (f := b) (T := a + b + c + d + e) (by omega) hs) (by omega)) (fun v τ q => ?_)
  obtain ⟨rfl, rfl⟩ := q
  iterate 3 (refine ze_go1 rfl ?_)
  refine ze_ca1 rfl rfl (ze_M_le (r_term (d := 0) (f := c) (T := a + b + c + d + e) (by omega) hs) (by omega)) (fun v τ q => ?_)
  obtain ⟨rfl, rfl⟩ := q
  iterate 3 (refine ze_go1 rfl ?_)
  refine ze_ca1 rfl rfl (ze_M_le (r_term (d := 0) (f := d) (T := a + b + c + d + e) (by omega) hs) (by omega)) (fun v τ q => ?_)
  obtain ⟨rfl, rfl⟩ := q
  iterate 3 (refine ze_go1 rfl ?_)
  refine ze_ca1 rfl rfl (ze_M_le (r_term (d := 0) (f := e) (T := a + b + c + d + e) (by omega) hs) (by omega)) (fun v τ q => ?_)
  obtain ⟨rfl, rfl⟩ := q
  refine ze_go1 rfl ?_
  exact ze_rt1 rfl trivial ⟨rfl, rfl⟩
/-- the reference's cases -/
def zBn (σ : ze_S) (D : zD) : Prop := σ.1 64 0 = nI D.1 ∧ (∀ a, a < D.1 → σ.1 46 a = nI (D.2.2.1 a)) ∧ (∀ i, i < D.2.1 → σ.1 47 i = nI (D.2.2.2.1 i)) ∧ ∀ i, i < D.2.1 → ∀ a, a < 4 → σ.1 48 (4 * i + a) = D.2.2.2.2 i a
def zrw (σ : ze_S) (pl n : Nat) (w : Nat → Nat) : Prop := ∀ i, i < n → σ.1 55 (24 * pl + i) = nI (w i)
/-- only the cells of l differ, and of the object only the fields of m -/
def zy (l m : List Nat) (σ τ : ze_S) : Prop := (∀ k, k ∉ l → k ≠ 64 → τ.1 k = σ.1 k ∧ τ.2 k = σ.2 k) ∧ ∀ j, j ∉ m → τ.1 64 j = σ.1 64 j
theorem zy_rf (l m : List Nat) (σ : ze_S) : zy l m σ σ := ⟨fun _ _ _ => ⟨rfl, rfl⟩, fun _ _ => rfl⟩
theorem zy_tr {l m : List Nat} {σ τ υ : ze_S} (h1 : zy l m σ τ) (h2 : zy l m τ υ) : zy l m σ υ :=
  ⟨fun k hk hq => ⟨(h2.1 k hk hq).1.trans (h1.1 k hk hq).1, (h2.1 k hk hq).2.trans (h1.1 k hk hq).2⟩, fun j hj => (h2.2 j hj).trans (h1.2 j hj)⟩
theorem zy_wk {l m l' m' : List Nat} {σ τ : ze_S} (h : zy l m σ τ) (hl : ∀ k, k ∈ l → k ∈ l') (hm : ∀ k, k ∈ m → k ∈ m') : zy l' m' σ τ :=
  ⟨fun k hk hq => h.1 k (fun z => hk (hl k z)) hq, fun j hj => h.2 j (fun z => hj (hm j z))⟩
theorem zy_ui {l m : List Nat} {k : Nat} (hk : k ∈ l) (h64 : k ≠ 64) (σ : ze_S) (j : Nat) (x : Int32) : zy l m σ (ze_ui σ k j x) :=
  ⟨fun q hq _ => by
    have : q ≠ k := fun z => hq (z ▸ hk)
    exact ⟨zui_o σ k j x this, rfl⟩, fun j' _ => by rw [zui_o σ k j x (Ne.symm h64)]⟩
theorem zy_uo {l m : List Nat} {j : Nat} (hj : j ∈ m) (σ : ze_S) (x : Int32) : zy l m σ (ze_ui σ 64 j x) :=
  ⟨fun q _ hq => ⟨zui_o σ 64 j x hq, rfl⟩, fun j' hj' => by
    have : j' ≠ j := fun z => hj' (z ▸ hj)
    exact zui_n σ 64 j x this⟩
theorem zy_ul {l m : List Nat} (σ : ze_S) (j : Nat) (x : Int64) : zy l m σ (ze_ul σ 64 j x) :=
  ⟨fun q _ hq => ⟨rfl, zul_o σ 64 j x hq⟩, fun _ _ => rfl⟩
theorem zBn_y {σ τ : ze_S} {D : zD} {l m : List Nat} (h : zBn σ D) (hy : zy l m σ τ) (hl : ∀ k, k ∈ l → k ≠ 46 ∧ k ≠ 47 ∧ k ≠ 48) (hm : 0 ∉ m) : zBn τ D := by
  unfold zBn
  rw [hy.2 0 hm, (hy.1 46 (fun q => (hl 46 q).1 rfl) (by decide)).1, (hy.1 47 (fun q => (hl 47 q).2.1 rfl) (by decide)).1, (hy.1 48 (fun q => (hl 48 q).2.2 rfl) (by decide)).1]
  exact h
theorem zi24 (pl i : Nat) : 24 * nI pl + nI i = nI (24 * pl + i) := by
  rw [show (24 : Int32) = nI 24 from rfl, pk_mul, nI_add]
theorem zi4' (i a : Nat) : 4 * nI i + nI a = nI (4 * i + a) := by
  rw [show (4 : Int32) = nI 4 from rfl, pk_mul, nI_add]
theorem zi3' (i a : Nat) : 3 * nI i + nI a = nI (3 * i + a) := by
  rw [show (3 : Int32) = nI 3 from rfl, pk_mul, nI_add]
set_option maxRecDepth 20000 in
theorem r_classWeight {d : Nat} {σ : ze_S} {D : zD} {pl c : Nat} {w : Nat → Nat} (hd : zdok D) (hB : zBn σ D) (hp : pl < 193) (hc : c < 3) (hw : zrw σ pl D.2.1 w) :
    zM (d + 1) m_M_classWeight [.ref 64, .int (nI pl), .int (nI c), .int (nI D.2.1)] σ (fun v τ => v = some (.int (nI (zcw D w c))) ∧ τ = σ) := by
  have h24 := hd.2.1
  refine zM_in t_M_classWeight [some (.ref 64), some (.int (nI pl)), some (.int (nI c)), some (.int (nI D.2.1)), none, none] rfl rfl ?_
  have loop : ∀ m j, j + m = D.2.1 → zE d t_M_classWeight (fun v τ => v = some (.int (nI (zcw D w c))) ∧ τ = σ) (6, [some (.ref 64), some (.int (nI pl)), some (.int (nI c)), some (.int (nI D.2.1)), some (.int (nI (zm_cw D.2.2.2.1 w j c))), some (.int (nI j))], [], σ) := by
    intro m
    induction m with
    | zero =>
      intro j hj
      have ej : j = D.2.1 := by omega
      subst ej
      iterate 2 (refine ze_go1 rfl ?_)
      refine ze_brT rfl (Int32.le_refl _) ?_
      refine ze_go1 rfl ?_
      exact ze_rt1 rfl trivial ⟨rfl, rfl⟩
    | succ m ih =>
      intro j hj
      have hj1 : j < D.2.1 := by omega
      have h := ih (j + 1) (by omega)
      rw [← show nI j + 1 = nI (j + 1) from nI_1 _, show zm_cw D.2.2.2.1 w (j + 1) c = zm_cw D.2.2.2.1 w j c + if D.2.2.2.1 j = c then w j else 0 from rfl] at h
      have hty := hd.2.2.2.1 j hj1
      iterate 2 (refine ze_go1 rfl ?_)
      refine ze_brF rfl (nI_ge (by omega) (by omega)) ?_
      refine ze_go1 rfl ?_
      refine ze_go2 rfl rfl ?_
      refine ze_go1 rfl ?_
      refine ze_go2 rfl ⟨rfl, vp_in_nI (N := 24) (by omega) (by omega)⟩ ?_
      rw [nI_clamp (n := j) (by omega), hB.2.2.1 j hj1]
      refine ze_go1 rfl ?_
      by_cases e : D.2.2.2.1 j = c
      · refine ze_brF rfl (fun q => q (by rw [e])) ?_
        rw [if_pos e] at h
        iterate 2 (refine ze_go1 rfl ?_)
        refine ze_go2 rfl rfl ?_
        iterate 5 (refine ze_go1 rfl ?_)
        rw [zi24]
        refine ze_go2 rfl ⟨rfl, vp_in_nI (N := 4632) (by omega) (by omega)⟩ ?_
        rw [nI_clamp (n := 24 * pl + j) (by omega), hw j hj1]
        iterate 5 (refine ze_go1 rfl ?_)
        rw [nI_add]
        exact h
      · refine ze_brT rfl (fun q => e ((nI_eq (by omega) (by omega)).1 q)) ?_
        rw [if_neg e] at h
        iterate 4 (refine ze_go1 rfl ?_)
        exact h
  iterate 4 (refine ze_go1 rfl ?_)
  exact loop D.2.1 0 (by omega)
theorem r_weightOf {d : Nat} {σ : ze_S} {D : zD} {pl : Nat} {w : Nat → Nat} (hd : zdok D) (hB : zBn σ D) (hp : pl < 193) (hw : zrw σ pl D.2.1 w) :
    zM (d + 2) m_M_weightOf [.ref 64, .int (nI pl), .int (nI D.2.1)] σ (fun v τ => v = some (.int (nI (zm_s (zcw D w) 3))) ∧ τ = σ) := by
  refine zM_in t_M_weightOf [some (.ref 64), some (.int (nI pl)), some (.int (nI D.2.1))] rfl rfl ?_
  iterate 4 (refine ze_go1 rfl ?_)
  refine ze_ca1 rfl ⟨rfl, rfl⟩ (ze_M_le (r_classWeight (d := 0) (c := 0) hd hB hp (by decide) hw) (by omega)) (fun v τ q => ?_)
  obtain ⟨rfl, rfl⟩ := q
  iterate 4 (refine ze_go1 rfl ?_)
  refine ze_ca1 rfl ⟨rfl, rfl⟩ (ze_M_le (r_classWeight (d := 0) (c := 1) hd hB hp (by decide) hw) (by omega)) (fun v τ q => ?_)
  obtain ⟨rfl, rfl⟩ := q
  iterate 5 (refine ze_go1 rfl ?_)
  refine ze_ca1 rfl ⟨rfl, rfl⟩ (ze_M_le (r_classWeight (d := 0) (c := 2) hd hB hp (by decide) hw) (by omega)) (fun v τ q => ?_)
  obtain ⟨rfl, rfl⟩ := q
  refine ze_go1 rfl ?_
  rw [nI_add, nI_add, zm_s3]
  exact ze_rt1 rfl trivial ⟨rfl, rfl⟩
theorem zcw_le {D : zD} (hd : zdok D) {w : Nat → Nat} (hw : ∀ i, i < D.2.1 → w i ≤ 720) : zm_s (zcw D w) 3 ≤ 17280 := by
  rw [zcw_sum hd]
  exact zm_w_le hd.2.1 hw
theorem r_heaviest {d : Nat} {σ : ze_S} {D : zD} {pl : Nat} {w : Nat → Nat} (hd : zdok D) (hB : zBn σ D) (hp : pl < 193) (hw : zrw σ pl D.2.1 w) (hwb : ∀ i, i < D.2.1 → w i ≤ 720) :
    zM (d + 2) m_M_heaviest [.ref 64, .int (nI pl), .int (nI D.2.1)] σ (fun v τ => v = some (.int (nI (zm_fg (zcw D w) 3))) ∧ τ = σ) := by
  have hs := zcw_le hd hwb
  refine zM_in t_M_heaviest [some (.ref 64), some (.int (nI pl)), some (.int (nI D.2.1)), none, none] rfl rfl ?_
  have loop : ∀ m j, j + m = 2 → zE (d + 1) t_M_heaviest (fun v τ => v = some (.int (nI (zm_fg (zcw D w) 3))) ∧ τ = σ) (5, [some (.ref 64), some (.int (nI pl)), some (.int (nI D.2.1)), some (.int (nI (zm_fg (zcw D w) (j + 1)))), some (.int (nI (j + 1)))], [], σ) := by
    intro m
    induction m with
    | zero =>
      intro j hj
      have ej : j = 2 := by omega
      subst ej
      iterate 2 (refine ze_go1 rfl ?_)
      refine ze_brT rfl (by decide) ?_
      refine ze_go1 rfl ?_
      exact ze_rt1 rfl trivial ⟨rfl, rfl⟩
    | succ m ih =>
      intro j hj
      have h := ih (j + 1) (by omega)
      rw [← show nI (j + 1) + 1 = nI (j + 1 + 1) from nI_1 _, show zm_fg (zcw D w) (j + 1 + 1) = if zcw D w (zm_fg (zcw D w) (j + 1)) < zcw D w (j + 1) then j + 1 else zm_fg (zcw D w) (j + 1) from rfl] at h
      have hf := zm_fg_lt (zcw D w) j
      have b1 := zm_s_pos (f := zcw D w) (n := 3) (i := j + 1) (by omega)
      have b2 := zm_s_pos (f := zcw D w) (n := 3) (i := zm_fg (zcw D w) (j + 1)) (by omega)
      iterate 2 (refine ze_go1 rfl ?_)
      refine ze_brF rfl (nI_ge (b := 3) (by omega) (by omega)) ?_
      iterate 4 (refine ze_go1 rfl ?_)
      refine ze_ca1 rfl ⟨rfl, rfl⟩ (ze_M_le (r_classWeight (d := 0) (c := j + 1) hd hB hp (by omega) hw) (by omega)) (fun v τ q => ?_)
      obtain ⟨rfl, rfl⟩ := q
      iterate 4 (refine ze_go1 rfl ?_)
      refine ze_ca1 rfl ⟨rfl, rfl⟩ (ze_M_le (r_classWeight (d := 0) (c := zm_fg (zcw D w) (j + 1)) hd hB hp (by omega) hw) (by omega)) (fun v τ q => ?_)
      obtain ⟨rfl, rfl⟩ := q
      by_cases e : zcw D w (zm_fg (zcw D w) (j + 1)) < zcw D w (j + 1)
      · refine ze_brF rfl (nI_ge e (by omega)) ?_
        rw [if_pos e] at h
        iterate 5 (refine ze_go1 rfl ?_)
        exact h
      · refine ze_brT rfl (nI_le (by omega) (by omega)) ?_
        rw [if_neg e] at h
        iterate 4 (refine ze_go1 rfl ?_)
        exact h
  iterate 4 (refine ze_go1 rfl ?_)
  have h := loop 2 0 rfl
  rw [zm_fg_1] at h
  exact h
theorem r_branches {d : Nat} {σ : ze_S} {D : zD} {a : Nat} (hd : zdok D) (hB : zBn σ D) (ha : a < D.1) :
    zM (d + 1) m_M_branches [.ref 64, .int (nI a)] σ (fun v τ => v = some (.int (nI (zm_nb (D.2.2.1 a)))) ∧ τ = σ) := by
  have h4 := hd.1
  have hk := hd.2.2.1 a ha
  refine zM_in t_M_branches [some (.ref 64), some (.int (nI a))] rfl rfl ?_
  refine ze_go1 rfl ?_
  refine ze_go2 rfl rfl ?_
  refine ze_go1 rfl ?_
  refine ze_go2 rfl ⟨rfl, vp_in_nI (N := 4) (by omega) (by omega)⟩ ?_
  rw [nI_clamp (n := a) (by omega), hB.2.1 a ha]
  unfold zm_nb
  by_cases c : D.2.2.1 a = 0
  · refine ze_brF rfl (by rw [c]; decide) ?_
    iterate 2 (refine ze_go1 rfl ?_)
    rw [if_pos c]
    exact ze_rt1 rfl trivial ⟨rfl, rfl⟩
  · refine ze_brT rfl (nI_ne0 (by omega) (by omega)) ?_
    refine ze_go1 rfl ?_
    refine ze_go2 rfl rfl ?_
    refine ze_go1 rfl ?_
    refine ze_go2 rfl ⟨rfl, vp_in_nI (N := 4) (by omega) (by omega)⟩ ?_
    rw [nI_clamp (n := a) (by omega), hB.2.1 a ha, if_neg c]
    exact ze_rt1 rfl trivial ⟨rfl, rfl⟩
theorem r_branch {d : Nat} {σ : ze_S} {D : zD} {a : Nat} {t v : Int32} (hd : zdok D) (hB : zBn σ D) (ha : a < D.1) (h0 : ¬ v < 0) :
    zM (d + 1) m_M_branch [.ref 64, .int (nI a), .int t, .int v] σ (fun r τ => r = some (.int (nI (zm_br (D.2.2.1 a) t v))) ∧ τ = σ) := by
  have h4 := hd.1
  have hk := hd.2.2.1 a ha
  refine zM_in t_M_branch [some (.ref 64), some (.int (nI a)), some (.int t), some (.int v)] rfl rfl ?_
  refine ze_go1 rfl ?_
  refine ze_go2 rfl rfl ?_
  refine ze_go1 rfl ?_
  refine ze_go2 rfl ⟨rfl, vp_in_nI (N := 4) (by omega) (by omega)⟩ ?_
  rw [nI_clamp (n := a) (by omega), hB.2.1 a ha]
  unfold zm_br
  by_cases c : D.2.2.1 a = 0
  · refine ze_brT rfl (by rw [c]; rfl) ?_
    rw [if_pos c]
    iterate 2 (refine ze_go1 rfl ?_)
    by_cases e : v ≤ t
    · refine ze_brF rfl (fun q => Int32.not_lt.2 e q) ?_
      iterate 2 (refine ze_go1 rfl ?_)
      rw [if_pos e]
      exact ze_rt1 rfl trivial ⟨rfl, rfl⟩
    · refine ze_brT rfl (Int32.not_le.1 e) ?_
      refine ze_go1 rfl ?_
      rw [if_neg e]
      exact ze_rt1 rfl trivial ⟨rfl, rfl⟩
  · refine ze_brF rfl (nI_ne0 (by omega) (by omega)) ?_
    iterate 2 (refine ze_go1 rfl ?_)
    rw [if_neg c]
    obtain ⟨k, hk2, rfl⟩ := nI_of h0
    rw [zcl hk2]
    exact ze_rt1 rfl trivial ⟨rfl, rfl⟩
