theorem zTC_m {D : zD} {σ τ : ze_S} {n : Nat} {T : zTr} (hd : zdok D) (h : zTC D σ n T) (hx : zxp (fun k => 46 ≤ k) σ τ) : zTC D τ n T := by
  have q : ∀ k, k < 46 → τ.1 k = σ.1 k := fun k h1 => (hx k (by omega)).1
  obtain ⟨h1, ⟨P, h2⟩, h3, h4⟩ := h
  refine ⟨by rw [q 29 (by omega)]; exact h1, ⟨P, zRC_eq hd h2 (fun x _ => ⟨zsame_xp hx (fun k k1 k2 hs => by omega) x, rfl⟩)⟩, ?_, ?_⟩
  · rw [zpre_eq (q 21 (by omega)), q 29 (by omega)]; exact h3
  · rw [zpre_eq (q 21 (by omega))]
    unfold zNb at h4 ⊢
    rw [q 22 (by omega), q 23 (by omega)]
    exact h4
theorem zCR_m {σ τ : ze_S} {S : zSt} (h : zCR σ S) (hx : zxp (fun k => 46 ≤ k) σ τ) : zCR τ S := by
  have q : ∀ k, k < 46 → τ.1 k = σ.1 k := fun k h1 => (hx k (by omega)).1
  obtain ⟨h1, h2, h3, h4⟩ := h
  refine ⟨h1, zB_eq h2 (q 0 (by omega)) (q 1 (by omega)) (q 2 (by omega)) (q 28 (by omega)), ?_, ?_⟩
  · rw [q 26 (by omega)]; exact h3
  · cases e : S.2.1 with
    | none =>
      rw [e] at h4
      show τ.1 29 10 = nI 0
      rw [q 29 (by omega)]; exact h4
    | some r =>
      rw [e] at h4
      exact ⟨h4.1, h4.2.1, zTC_m h1 h4.2.2 hx⟩
theorem zMR_c {σ τ : ze_S} {S : zSt} (h : zMR σ S) (hx : zxp (fun k => k < 46) σ τ) : zMR τ S := by
  have q : ∀ k, 46 ≤ k → τ.1 k = σ.1 k := fun k h1 => (hx k (by omega)).1
  have hB := h.2.1
  refine zMR_z h ?_ (q 63 (by omega)) (by rw [q 64 (by omega)]) (by rw [q 64 (by omega)]) (by rw [q 64 (by omega)]) (by rw [q 64 (by omega)]) (fun i _ => ⟨by rw [q 49 (by omega)], by rw [q 50 (by omega)], by rw [q 52 (by omega)], by rw [q 53 (by omega)], by rw [q 54 (by omega)], fun _ _ => by rw [q 51 (by omega)], fun _ _ => by rw [q 55 (by omega)]⟩)
  unfold zBn at hB ⊢
  rw [q 64 (by omega), q 46 (by omega), q 47 (by omega), q 48 (by omega)]
  exact hB
theorem zand31 (y : Int32) : ∃ k, k < 32 ∧ y &&& 31 = nI k := by
  have hn : (y &&& 31).toBitVec.toNat ≤ 31 := by
    rw [Int32.toBitVec_and, BitVec.toNat_and]
    exact Nat.and_le_right
  refine ⟨(y &&& 31).toBitVec.toNat, by omega, ?_⟩
  apply Int32.toBitVec_inj.1
  apply BitVec.eq_of_toNat_eq
  show _ = (BitVec.ofNat 32 _).toNat
  rw [BitVec.toNat_ofNat, Nat.mod_eq_of_lt (by omega)]
theorem zlen6 {i N : Nat} (hN : N ≤ 3072) (hi : i ≤ 3072) (h : ¬ nI N - 6 < nI i) : i + 6 ≤ N := by
  by_cases c : 6 ≤ N
  · rw [show nI N - 6 = nI (N - 6) from pk_sub (b := 6) c] at h
    have : i ≤ N - 6 := Nat.le_of_not_lt (fun z => h (nI_lt z (by omega)))
    omega
  · exfalso
    apply h
    have e : ∀ n, n < 6 → nI n - 6 < 0 := by decide
    exact Int32.lt_of_lt_of_le (e N (by omega)) (nI_le (Nat.zero_le i) (by omega))
abbrev zLQ : ze_P := fun v _ => v = some (.int 1)
theorem zlc_eq (x : Int64) : lg_cmp x x = 0 := by
  unfold lg_cmp
  simp
set_option maxRecDepth 20000 in
theorem zL_0 {N i : Nat} {xs : Nat → Int32} {σ : ze_S} {S : zSt} (hN : N ≤ 3072) (hi : i + 6 ≤ N) (hC : zCR σ S) (hM : zMR σ S) (K : ∀ τ S', zCR τ S' → zMR τ S' → zE 12 (t_L N xs) zLQ (663, [some (.ref 99), some (.ref 27), some (.ref 64), some (.int (nI i))], [], τ)) : zE 12 (t_L N xs) zLQ (124, [some (.ref 99), some (.ref 27), some (.ref 64), some (.int (nI i))], [], σ) := by
  have g : ∀ c, 1 ≤ c → c < 6 → vp_in (nI i + nI c) N := fun c _ h => by rw [nI_add]; exact vp_in_nI (by omega) (by omega)
  refine ze_go1 rfl ?_
  refine ze_go1 rfl ?_
  refine ze_go1 rfl ?_
  refine ze_go1 rfl ?_
  refine ze_go1 rfl ?_
  refine ze_go2 rfl ⟨rfl, g 1 (by decide) (by decide)⟩ ?_
  refine ze_ca1 rfl ⟨rfl, rfl⟩ (ze_M_le (e_C_attribute (d := 0) hC) (by decide)) (fun v τ q => ?_)
  obtain ⟨rfl, hC1, x1⟩ := q
  have hM1 := zMR_c hM x1
  refine ze_go1 rfl ?_
  refine ze_go1 rfl ?_
  refine ze_go1 rfl ?_
  refine ze_go1 rfl ?_
  refine ze_go1 rfl ?_
  refine ze_go2 rfl ⟨rfl, g 1 (by decide) (by decide)⟩ ?_
  refine ze_ca1 rfl ⟨rfl, rfl⟩ (ze_M_le (r_attribute (d := 0) hM1) (by decide)) (fun v τ2 q => ?_)
  obtain ⟨rfl, hM2, x2⟩ := q
  have hC2 := zCR_m hC1 x2
  refine ze_brT rfl rfl ?_
  exact K τ2 _ hC2 hM2
set_option maxRecDepth 20000 in
theorem zL_1 {N i : Nat} {xs : Nat → Int32} {σ : ze_S} {S : zSt} (hN : N ≤ 3072) (hi : i + 6 ≤ N) (hC : zCR σ S) (hM : zMR σ S) (K : ∀ τ S', zCR τ S' → zMR τ S' → zE 12 (t_L N xs) zLQ (663, [some (.ref 99), some (.ref 27), some (.ref 64), some (.int (nI i))], [], τ)) : zE 12 (t_L N xs) zLQ (147, [some (.ref 99), some (.ref 27), some (.ref 64), some (.int (nI i))], [], σ) := by
  have g : ∀ c, 1 ≤ c → c < 6 → vp_in (nI i + nI c) N := fun c _ h => by rw [nI_add]; exact vp_in_nI (by omega) (by omega)
  refine ze_go1 rfl ?_
  refine ze_go1 rfl ?_
  refine ze_go1 rfl ?_
  refine ze_go1 rfl ?_
  refine ze_go1 rfl ?_
  refine ze_go2 rfl ⟨rfl, g 1 (by decide) (by decide)⟩ ?_
  refine ze_go1 rfl ?_
  refine ze_go1 rfl ?_
  refine ze_go1 rfl ?_
  refine ze_go1 rfl ?_
  refine ze_go2 rfl ⟨rfl, g 2 (by decide) (by decide)⟩ ?_
  refine ze_go1 rfl ?_
  refine ze_go1 rfl ?_
  refine ze_go1 rfl ?_
  refine ze_go1 rfl ?_
  refine ze_go2 rfl ⟨rfl, g 3 (by decide) (by decide)⟩ ?_
  refine ze_go1 rfl ?_
  refine ze_go1 rfl ?_
  refine ze_go1 rfl ?_
  refine ze_go1 rfl ?_
  refine ze_go2 rfl ⟨rfl, g 4 (by decide) (by decide)⟩ ?_
  refine ze_go1 rfl ?_
  refine ze_go1 rfl ?_
  refine ze_go1 rfl ?_
  refine ze_go1 rfl ?_
  refine ze_go2 rfl ⟨rfl, g 5 (by decide) (by decide)⟩ ?_
  refine ze_ca1 rfl ⟨rfl, rfl⟩ (ze_M_le (e_C_add (e := 0) hC) (by decide)) (fun v τ q => ?_)
  obtain ⟨rfl, hC1, x1⟩ := q
  have hM1 := zMR_c hM x1
  refine ze_go1 rfl ?_
  refine ze_go1 rfl ?_
  refine ze_go1 rfl ?_
  refine ze_go1 rfl ?_
  refine ze_go1 rfl ?_
  refine ze_go2 rfl ⟨rfl, g 1 (by decide) (by decide)⟩ ?_
  refine ze_go1 rfl ?_
  refine ze_go1 rfl ?_
  refine ze_go1 rfl ?_
  refine ze_go1 rfl ?_
  refine ze_go2 rfl ⟨rfl, g 2 (by decide) (by decide)⟩ ?_
  refine ze_go1 rfl ?_
  refine ze_go1 rfl ?_
  refine ze_go1 rfl ?_
  refine ze_go1 rfl ?_
  refine ze_go2 rfl ⟨rfl, g 3 (by decide) (by decide)⟩ ?_
  refine ze_go1 rfl ?_
  refine ze_go1 rfl ?_
  refine ze_go1 rfl ?_
  refine ze_go1 rfl ?_
  refine ze_go2 rfl ⟨rfl, g 4 (by decide) (by decide)⟩ ?_
  refine ze_go1 rfl ?_
  refine ze_go1 rfl ?_
  refine ze_go1 rfl ?_
  refine ze_go1 rfl ?_
  refine ze_go2 rfl ⟨rfl, g 5 (by decide) (by decide)⟩ ?_
  refine ze_ca1 rfl ⟨rfl, rfl⟩ (ze_M_le (r_add (e := 0) hM1) (by decide)) (fun v τ2 q => ?_)
  obtain ⟨rfl, hM2, x2⟩ := q
  have hC2 := zCR_m hC1 x2
  refine ze_brT rfl rfl ?_
  exact K τ2 _ hC2 hM2
set_option maxRecDepth 20000 in
theorem zL_2 {N i : Nat} {xs : Nat → Int32} {σ : ze_S} {S : zSt} (hN : N ≤ 3072) (hi : i + 6 ≤ N) (hC : zCR σ S) (hM : zMR σ S) (K : ∀ τ S', zCR τ S' → zMR τ S' → zE 12 (t_L N xs) zLQ (663, [some (.ref 99), some (.ref 27), some (.ref 64), some (.int (nI i))], [], τ)) : zE 12 (t_L N xs) zLQ (210, [some (.ref 99), some (.ref 27), some (.ref 64), some (.int (nI i))], [], σ) := by
  have g : ∀ c, 1 ≤ c → c < 6 → vp_in (nI i + nI c) N := fun c _ h => by rw [nI_add]; exact vp_in_nI (by omega) (by omega)
  refine ze_go1 rfl ?_
  refine ze_go1 rfl ?_
  refine ze_go1 rfl ?_
  refine ze_go1 rfl ?_
  refine ze_go1 rfl ?_
  refine ze_go2 rfl ⟨rfl, g 1 (by decide) (by decide)⟩ ?_
  refine ze_ca1 rfl ⟨rfl, rfl⟩ (ze_M_le (e_C_grow (d := 0) hC) (by decide)) (fun v τ q => ?_)
  obtain ⟨rfl, hC1, x1⟩ := q
  have hM1 := zMR_c hM x1
  refine ze_go1 rfl ?_
  refine ze_go1 rfl ?_
  refine ze_go1 rfl ?_
  refine ze_go1 rfl ?_
  refine ze_go1 rfl ?_
  refine ze_go2 rfl ⟨rfl, g 1 (by decide) (by decide)⟩ ?_
  refine ze_ca1 rfl ⟨rfl, rfl⟩ (ze_M_le (r_grow (d := 0) hM1) (by decide)) (fun v τ2 q => ?_)
  obtain ⟨rfl, hM2, x2⟩ := q
  have hC2 := zCR_m hC1 x2
  refine ze_brT rfl rfl ?_
  exact K τ2 _ hC2 hM2
set_option maxRecDepth 20000 in
theorem zL_3 {N i : Nat} {xs : Nat → Int32} {σ : ze_S} {S : zSt} (hN : N ≤ 3072) (hi : i + 6 ≤ N) (hC : zCR σ S) (hM : zMR σ S) (K : ∀ τ S', zCR τ S' → zMR τ S' → zE 12 (t_L N xs) zLQ (663, [some (.ref 99), some (.ref 27), some (.ref 64), some (.int (nI i))], [], τ)) : zE 12 (t_L N xs) zLQ (233, [some (.ref 99), some (.ref 27), some (.ref 64), some (.int (nI i))], [], σ) := by
  have g : ∀ c, 1 ≤ c → c < 6 → vp_in (nI i + nI c) N := fun c _ h => by rw [nI_add]; exact vp_in_nI (by omega) (by omega)
  refine ze_go1 rfl ?_
  refine ze_go1 rfl ?_
  refine ze_go1 rfl ?_
  refine ze_go1 rfl ?_
  refine ze_go1 rfl ?_
  refine ze_go2 rfl ⟨rfl, g 1 (by decide) (by decide)⟩ ?_
  refine ze_ca1 rfl ⟨rfl, rfl⟩ (ze_M_le (e_C_prune (d := 0) hC) (by decide)) (fun v τ q => ?_)
  obtain ⟨rfl, hC1, x1⟩ := q
  have hM1 := zMR_c hM x1
  refine ze_go1 rfl ?_
  refine ze_go1 rfl ?_
  refine ze_go1 rfl ?_
  refine ze_go1 rfl ?_
  refine ze_go1 rfl ?_
  refine ze_go2 rfl ⟨rfl, g 1 (by decide) (by decide)⟩ ?_
  refine ze_ca1 rfl ⟨rfl, rfl⟩ (ze_M_le (r_prune (d := 0) hM1) (by decide)) (fun v τ2 q => ?_)
  obtain ⟨rfl, hM2, x2⟩ := q
  have hC2 := zCR_m hC1 x2
  refine ze_brT rfl rfl ?_
  exact K τ2 _ hC2 hM2
set_option maxRecDepth 20000 in
theorem zL_4 {N i : Nat} {xs : Nat → Int32} {σ : ze_S} {S : zSt} (hN : N ≤ 3072) (hi : i + 6 ≤ N) (hC : zCR σ S) (hM : zMR σ S) (K : ∀ τ S', zCR τ S' → zMR τ S' → zE 12 (t_L N xs) zLQ (663, [some (.ref 99), some (.ref 27), some (.ref 64), some (.int (nI i))], [], τ)) : zE 12 (t_L N xs) zLQ (256, [some (.ref 99), some (.ref 27), some (.ref 64), some (.int (nI i))], [], σ) := by
  have g : ∀ c, 1 ≤ c → c < 6 → vp_in (nI i + nI c) N := fun c _ h => by rw [nI_add]; exact vp_in_nI (by omega) (by omega)
  refine ze_go1 rfl ?_
  refine ze_go1 rfl ?_
  refine ze_go1 rfl ?_
  refine ze_go1 rfl ?_
  refine ze_go1 rfl ?_
  refine ze_go2 rfl ⟨rfl, g 1 (by decide) (by decide)⟩ ?_
  refine ze_go1 rfl ?_
  refine ze_go1 rfl ?_
  refine ze_go1 rfl ?_
  refine ze_go1 rfl ?_
  refine ze_go2 rfl ⟨rfl, g 2 (by decide) (by decide)⟩ ?_
  refine ze_go1 rfl ?_
  refine ze_go1 rfl ?_
  refine ze_go1 rfl ?_
  refine ze_go1 rfl ?_
  refine ze_go2 rfl ⟨rfl, g 3 (by decide) (by decide)⟩ ?_
  refine ze_go1 rfl ?_
  refine ze_go1 rfl ?_
  refine ze_go1 rfl ?_
  refine ze_go1 rfl ?_
  refine ze_go2 rfl ⟨rfl, g 4 (by decide) (by decide)⟩ ?_
  refine ze_ca1 rfl ⟨rfl, rfl⟩ (ze_M_le (e_C_classify (e := 0) hC) (by decide)) (fun v τ q => ?_)
  obtain ⟨rfl, hC1, x1⟩ := q
  have hM1 := zMR_c hM x1
  refine ze_go1 rfl ?_
  refine ze_go1 rfl ?_
  refine ze_go1 rfl ?_
  refine ze_go1 rfl ?_
  refine ze_go1 rfl ?_
  refine ze_go2 rfl ⟨rfl, g 1 (by decide) (by decide)⟩ ?_
  refine ze_go1 rfl ?_
  refine ze_go1 rfl ?_
  refine ze_go1 rfl ?_
  refine ze_go1 rfl ?_
  refine ze_go2 rfl ⟨rfl, g 2 (by decide) (by decide)⟩ ?_
  refine ze_go1 rfl ?_
  refine ze_go1 rfl ?_
  refine ze_go1 rfl ?_
  refine ze_go1 rfl ?_
  refine ze_go2 rfl ⟨rfl, g 3 (by decide) (by decide)⟩ ?_
  refine ze_go1 rfl ?_
  refine ze_go1 rfl ?_
  refine ze_go1 rfl ?_
  refine ze_go1 rfl ?_
  refine ze_go2 rfl ⟨rfl, g 4 (by decide) (by decide)⟩ ?_
  refine ze_ca1 rfl ⟨rfl, rfl⟩ (ze_M_le (r_classify (e := 0) hM1) (by decide)) (fun v τ2 q => ?_)
  obtain ⟨rfl, hM2, x2⟩ := q
  have hC2 := zCR_m hC1 x2
  refine ze_brT rfl rfl ?_
  exact K τ2 _ hC2 hM2
set_option maxRecDepth 20000 in
theorem zL_5 {N i : Nat} {xs : Nat → Int32} {σ : ze_S} {S : zSt} (hN : N ≤ 3072) (hi : i + 6 ≤ N) (hC : zCR σ S) (hM : zMR σ S) (K : ∀ τ S', zCR τ S' → zMR τ S' → zE 12 (t_L N xs) zLQ (663, [some (.ref 99), some (.ref 27), some (.ref 64), some (.int (nI i))], [], τ)) : zE 12 (t_L N xs) zLQ (309, [some (.ref 99), some (.ref 27), some (.ref 64), some (.int (nI i))], [], σ) := by
  have g : ∀ c, 1 ≤ c → c < 6 → vp_in (nI i + nI c) N := fun c _ h => by rw [nI_add]; exact vp_in_nI (by omega) (by omega)
  refine ze_go1 rfl ?_
  refine ze_go1 rfl ?_
  refine ze_go1 rfl ?_
  refine ze_go1 rfl ?_
  refine ze_go1 rfl ?_
  refine ze_go2 rfl ⟨rfl, g 1 (by decide) (by decide)⟩ ?_
  refine ze_ca1 rfl ⟨rfl, rfl⟩ (ze_M_le (e_C_share (d := 0) hC) (by decide)) (fun v τ q => ?_)
  obtain ⟨rfl, hC1, x1⟩ := q
  have hM1 := zMR_c hM x1
  refine ze_go1 rfl ?_
  refine ze_go1 rfl ?_
  refine ze_go1 rfl ?_
  refine ze_go1 rfl ?_
  refine ze_go1 rfl ?_
  refine ze_go2 rfl ⟨rfl, g 1 (by decide) (by decide)⟩ ?_
  refine ze_ca1 rfl ⟨rfl, rfl⟩ (ze_M_le (r_share (d := 0) hM1) (by decide)) (fun v τ2 q => ?_)
  obtain ⟨rfl, hM2, x2⟩ := q
  have hC2 := zCR_m hC1 x2
  refine ze_brT rfl rfl ?_
  exact K τ2 _ hC2 hM2
set_option maxRecDepth 20000 in
theorem zL_6 {N i : Nat} {xs : Nat → Int32} {σ : ze_S} {S : zSt} (hN : N ≤ 3072) (hi : i + 6 ≤ N) (hC : zCR σ S) (hM : zMR σ S) (K : ∀ τ S', zCR τ S' → zMR τ S' → zE 12 (t_L N xs) zLQ (663, [some (.ref 99), some (.ref 27), some (.ref 64), some (.int (nI i))], [], τ)) : zE 12 (t_L N xs) zLQ (332, [some (.ref 99), some (.ref 27), some (.ref 64), some (.int (nI i))], [], σ) := by
  have g : ∀ c, 1 ≤ c → c < 6 → vp_in (nI i + nI c) N := fun c _ h => by rw [nI_add]; exact vp_in_nI (by omega) (by omega)
  refine ze_go1 rfl ?_
  refine ze_ca1 rfl ⟨rfl, rfl⟩ (ze_M_le (e_C_wrong (d := 0) hC) (by decide)) (fun v τ q => ?_)
  obtain ⟨rfl, hC1, x1⟩ := q
  have hM1 := zMR_c hM x1
  refine ze_go1 rfl ?_
  refine ze_ca1 rfl ⟨rfl, rfl⟩ (ze_M_le (r_wrong (d := 0) hM1) (by decide)) (fun v τ2 q => ?_)
  obtain ⟨rfl, hM2, x2⟩ := q
  have hC2 := zCR_m hC1 x2
  refine ze_brT rfl rfl ?_
  exact K τ2 _ hC2 hM2
set_option maxRecDepth 20000 in
theorem zL_7 {N i : Nat} {xs : Nat → Int32} {σ : ze_S} {S : zSt} (hN : N ≤ 3072) (hi : i + 6 ≤ N) (hC : zCR σ S) (hM : zMR σ S) (K : ∀ τ S', zCR τ S' → zMR τ S' → zE 12 (t_L N xs) zLQ (663, [some (.ref 99), some (.ref 27), some (.ref 64), some (.int (nI i))], [], τ)) : zE 12 (t_L N xs) zLQ (345, [some (.ref 99), some (.ref 27), some (.ref 64), some (.int (nI i))], [], σ) := by
  have g : ∀ c, 1 ≤ c → c < 6 → vp_in (nI i + nI c) N := fun c _ h => by rw [nI_add]; exact vp_in_nI (by omega) (by omega)
  refine ze_go1 rfl ?_
  refine ze_go1 rfl ?_
  refine ze_go1 rfl ?_
  refine ze_go1 rfl ?_
  refine ze_go1 rfl ?_
  refine ze_go2 rfl ⟨rfl, g 1 (by decide) (by decide)⟩ ?_
  refine ze_go1 rfl ?_
  refine ze_go1 rfl ?_
  refine ze_go1 rfl ?_
  refine ze_go1 rfl ?_
  refine ze_go2 rfl ⟨rfl, g 2 (by decide) (by decide)⟩ ?_
  refine ze_ca1 rfl ⟨rfl, rfl⟩ (ze_M_le (e_C_gain (d := 0) hC) (by decide)) (fun v τ q => ?_)
  obtain ⟨rfl, hC1, x1⟩ := q
  have hM1 := zMR_c hM x1
  refine ze_go1 rfl ?_
  refine ze_go1 rfl ?_
  refine ze_go1 rfl ?_
  refine ze_go1 rfl ?_
  refine ze_go1 rfl ?_
  refine ze_go2 rfl ⟨rfl, g 1 (by decide) (by decide)⟩ ?_
  refine ze_go1 rfl ?_
  refine ze_go1 rfl ?_
  refine ze_go1 rfl ?_
  refine ze_go1 rfl ?_
  refine ze_go2 rfl ⟨rfl, g 2 (by decide) (by decide)⟩ ?_
  refine ze_ca1 rfl ⟨rfl, rfl⟩ (ze_M_le (r_gain (d := 0) hM1) (by decide)) (fun v τ2 q => ?_)
  obtain ⟨rfl, hM2, x2⟩ := q
  have hC2 := zCR_m hC1 x2
  refine ze_go1 rfl ?_
  refine ze_brT rfl (zlc_eq _) ?_
  exact K τ2 _ hC2 hM2
set_option maxRecDepth 20000 in
theorem zL_8 {N i : Nat} {xs : Nat → Int32} {σ : ze_S} {S : zSt} (hN : N ≤ 3072) (hi : i + 6 ≤ N) (hC : zCR σ S) (hM : zMR σ S) (K : ∀ τ S', zCR τ S' → zMR τ S' → zE 12 (t_L N xs) zLQ (663, [some (.ref 99), some (.ref 27), some (.ref 64), some (.int (nI i))], [], τ)) : zE 12 (t_L N xs) zLQ (379, [some (.ref 99), some (.ref 27), some (.ref 64), some (.int (nI i))], [], σ) := by
  have g : ∀ c, 1 ≤ c → c < 6 → vp_in (nI i + nI c) N := fun c _ h => by rw [nI_add]; exact vp_in_nI (by omega) (by omega)
  refine ze_go1 rfl ?_
  refine ze_go1 rfl ?_
  refine ze_go1 rfl ?_
  refine ze_go1 rfl ?_
  refine ze_go1 rfl ?_
  refine ze_go2 rfl ⟨rfl, g 1 (by decide) (by decide)⟩ ?_
  refine ze_go1 rfl ?_
  refine ze_go1 rfl ?_
  refine ze_go1 rfl ?_
  refine ze_go1 rfl ?_
  refine ze_go2 rfl ⟨rfl, g 2 (by decide) (by decide)⟩ ?_
  refine ze_ca1 rfl ⟨rfl, rfl⟩ (ze_M_le (e_C_split (d := 0) hC) (by decide)) (fun v τ q => ?_)
  obtain ⟨rfl, hC1, x1⟩ := q
  have hM1 := zMR_c hM x1
  refine ze_go1 rfl ?_
  refine ze_go1 rfl ?_
  refine ze_go1 rfl ?_
  refine ze_go1 rfl ?_
  refine ze_go1 rfl ?_
  refine ze_go2 rfl ⟨rfl, g 1 (by decide) (by decide)⟩ ?_
  refine ze_go1 rfl ?_
  refine ze_go1 rfl ?_
  refine ze_go1 rfl ?_
  refine ze_go1 rfl ?_
  refine ze_go2 rfl ⟨rfl, g 2 (by decide) (by decide)⟩ ?_
  refine ze_ca1 rfl ⟨rfl, rfl⟩ (ze_M_le (r_split (d := 0) hM1) (by decide)) (fun v τ2 q => ?_)
  obtain ⟨rfl, hM2, x2⟩ := q
  have hC2 := zCR_m hC1 x2
  refine ze_go1 rfl ?_
  refine ze_brT rfl (zlc_eq _) ?_
  exact K τ2 _ hC2 hM2
set_option maxRecDepth 20000 in
theorem zL_9 {N i : Nat} {xs : Nat → Int32} {σ : ze_S} {S : zSt} (hN : N ≤ 3072) (hi : i + 6 ≤ N) (hC : zCR σ S) (hM : zMR σ S) (K : ∀ τ S', zCR τ S' → zMR τ S' → zE 12 (t_L N xs) zLQ (663, [some (.ref 99), some (.ref 27), some (.ref 64), some (.int (nI i))], [], τ)) : zE 12 (t_L N xs) zLQ (413, [some (.ref 99), some (.ref 27), some (.ref 64), some (.int (nI i))], [], σ) := by
  have g : ∀ c, 1 ≤ c → c < 6 → vp_in (nI i + nI c) N := fun c _ h => by rw [nI_add]; exact vp_in_nI (by omega) (by omega)
  refine ze_go1 rfl ?_
  refine ze_go1 rfl ?_
  refine ze_go1 rfl ?_
  refine ze_go1 rfl ?_
  refine ze_go1 rfl ?_
  refine ze_go2 rfl ⟨rfl, g 1 (by decide) (by decide)⟩ ?_
  refine ze_go1 rfl ?_
  refine ze_go1 rfl ?_
  refine ze_go1 rfl ?_
  refine ze_go1 rfl ?_
  refine ze_go2 rfl ⟨rfl, g 2 (by decide) (by decide)⟩ ?_
  refine ze_ca1 rfl ⟨rfl, rfl⟩ (ze_M_le (e_C_cut (d := 0) hC) (by decide)) (fun v τ q => ?_)
  obtain ⟨rfl, hC1, x1⟩ := q
  have hM1 := zMR_c hM x1
  refine ze_go1 rfl ?_
  refine ze_go1 rfl ?_
  refine ze_go1 rfl ?_
  refine ze_go1 rfl ?_
  refine ze_go1 rfl ?_
  refine ze_go2 rfl ⟨rfl, g 1 (by decide) (by decide)⟩ ?_
  refine ze_go1 rfl ?_
  refine ze_go1 rfl ?_
  refine ze_go1 rfl ?_
  refine ze_go1 rfl ?_
  refine ze_go2 rfl ⟨rfl, g 2 (by decide) (by decide)⟩ ?_
  refine ze_ca1 rfl ⟨rfl, rfl⟩ (ze_M_le (r_cut (d := 0) hM1) (by decide)) (fun v τ2 q => ?_)
  obtain ⟨rfl, hM2, x2⟩ := q
  have hC2 := zCR_m hC1 x2
  refine ze_brT rfl rfl ?_
  exact K τ2 _ hC2 hM2
set_option maxRecDepth 20000 in
theorem zL_10 {N i : Nat} {xs : Nat → Int32} {σ : ze_S} {S : zSt} (hN : N ≤ 3072) (hi : i + 6 ≤ N) (hC : zCR σ S) (hM : zMR σ S) (K : ∀ τ S', zCR τ S' → zMR τ S' → zE 12 (t_L N xs) zLQ (663, [some (.ref 99), some (.ref 27), some (.ref 64), some (.int (nI i))], [], τ)) : zE 12 (t_L N xs) zLQ (446, [some (.ref 99), some (.ref 27), some (.ref 64), some (.int (nI i))], [], σ) := by
  have g : ∀ c, 1 ≤ c → c < 6 → vp_in (nI i + nI c) N := fun c _ h => by rw [nI_add]; exact vp_in_nI (by omega) (by omega)
  refine ze_go1 rfl ?_
  refine ze_ca1 rfl ⟨rfl, rfl⟩ (ze_M_le (e_C_cases (d := 0) hC) (by decide)) (fun v τ q => ?_)
  obtain ⟨rfl, hC1, x1⟩ := q
  have hM1 := zMR_c hM x1
  refine ze_go1 rfl ?_
  refine ze_ca1 rfl ⟨rfl, rfl⟩ (ze_M_le (r_cases (d := 0) hM1) (by decide)) (fun v τ2 q => ?_)
  obtain ⟨rfl, hM2, x2⟩ := q
  have hC2 := zCR_m hC1 x2
  refine ze_brT rfl rfl ?_
  exact K τ2 _ hC2 hM2
set_option maxRecDepth 20000 in
theorem zL_11 {N i : Nat} {xs : Nat → Int32} {σ : ze_S} {S : zSt} (hN : N ≤ 3072) (hi : i + 6 ≤ N) (hC : zCR σ S) (hM : zMR σ S) (K : ∀ τ S', zCR τ S' → zMR τ S' → zE 12 (t_L N xs) zLQ (663, [some (.ref 99), some (.ref 27), some (.ref 64), some (.int (nI i))], [], τ)) : zE 12 (t_L N xs) zLQ (459, [some (.ref 99), some (.ref 27), some (.ref 64), some (.int (nI i))], [], σ) := by
  have g : ∀ c, 1 ≤ c → c < 6 → vp_in (nI i + nI c) N := fun c _ h => by rw [nI_add]; exact vp_in_nI (by omega) (by omega)
  refine ze_go1 rfl ?_
  refine ze_ca1 rfl ⟨rfl, rfl⟩ (ze_M_le (e_C_nodes (d := 0) hC) (by decide)) (fun v τ q => ?_)
  obtain ⟨rfl, hC1, x1⟩ := q
  have hM1 := zMR_c hM x1
  refine ze_go1 rfl ?_
  refine ze_ca1 rfl ⟨rfl, rfl⟩ (ze_M_le (r_nodesM (d := 0) hM1) (by decide)) (fun v τ2 q => ?_)
  obtain ⟨rfl, hM2, x2⟩ := q
  have hC2 := zCR_m hC1 x2
  refine ze_brT rfl rfl ?_
  exact K τ2 _ hC2 hM2
set_option maxRecDepth 20000 in
theorem zL_12 {N i : Nat} {xs : Nat → Int32} {σ : ze_S} {S : zSt} (hN : N ≤ 3072) (hi : i + 6 ≤ N) (hC : zCR σ S) (hM : zMR σ S) (K : ∀ τ S', zCR τ S' → zMR τ S' → zE 12 (t_L N xs) zLQ (663, [some (.ref 99), some (.ref 27), some (.ref 64), some (.int (nI i))], [], τ)) : zE 12 (t_L N xs) zLQ (472, [some (.ref 99), some (.ref 27), some (.ref 64), some (.int (nI i))], [], σ) := by
  have g : ∀ c, 1 ≤ c → c < 6 → vp_in (nI i + nI c) N := fun c _ h => by rw [nI_add]; exact vp_in_nI (by omega) (by omega)
  refine ze_go1 rfl ?_
  refine ze_go1 rfl ?_
  refine ze_go1 rfl ?_
  refine ze_go1 rfl ?_
  refine ze_go1 rfl ?_
  refine ze_go2 rfl ⟨rfl, g 1 (by decide) (by decide)⟩ ?_
  refine ze_ca1 rfl ⟨rfl, rfl⟩ (ze_M_le (e_C_tested (d := 0) hC) (by decide)) (fun v τ q => ?_)
  obtain ⟨rfl, hC1, x1⟩ := q
  have hM1 := zMR_c hM x1
  refine ze_go1 rfl ?_
  refine ze_go1 rfl ?_
  refine ze_go1 rfl ?_
  refine ze_go1 rfl ?_
  refine ze_go1 rfl ?_
  refine ze_go2 rfl ⟨rfl, g 1 (by decide) (by decide)⟩ ?_
  refine ze_ca1 rfl ⟨rfl, rfl⟩ (ze_M_le (r_tested (d := 0) hM1) (by decide)) (fun v τ2 q => ?_)
  obtain ⟨rfl, hM2, x2⟩ := q
  have hC2 := zCR_m hC1 x2
  refine ze_brT rfl rfl ?_
  exact K τ2 _ hC2 hM2
set_option maxRecDepth 20000 in
theorem zL_13 {N i : Nat} {xs : Nat → Int32} {σ : ze_S} {S : zSt} (hN : N ≤ 3072) (hi : i + 6 ≤ N) (hC : zCR σ S) (hM : zMR σ S) (K : ∀ τ S', zCR τ S' → zMR τ S' → zE 12 (t_L N xs) zLQ (663, [some (.ref 99), some (.ref 27), some (.ref 64), some (.int (nI i))], [], τ)) : zE 12 (t_L N xs) zLQ (495, [some (.ref 99), some (.ref 27), some (.ref 64), some (.int (nI i))], [], σ) := by
  have g : ∀ c, 1 ≤ c → c < 6 → vp_in (nI i + nI c) N := fun c _ h => by rw [nI_add]; exact vp_in_nI (by omega) (by omega)
  refine ze_go1 rfl ?_
  refine ze_go1 rfl ?_
  refine ze_go1 rfl ?_
  refine ze_go1 rfl ?_
  refine ze_go1 rfl ?_
  refine ze_go2 rfl ⟨rfl, g 1 (by decide) (by decide)⟩ ?_
  refine ze_ca1 rfl ⟨rfl, rfl⟩ (ze_M_le (e_C_threshold (d := 0) hC) (by decide)) (fun v τ q => ?_)
  obtain ⟨rfl, hC1, x1⟩ := q
  have hM1 := zMR_c hM x1
  refine ze_go1 rfl ?_
  refine ze_go1 rfl ?_
  refine ze_go1 rfl ?_
  refine ze_go1 rfl ?_
  refine ze_go1 rfl ?_
  refine ze_go2 rfl ⟨rfl, g 1 (by decide) (by decide)⟩ ?_
  refine ze_ca1 rfl ⟨rfl, rfl⟩ (ze_M_le (r_threshold (d := 0) hM1) (by decide)) (fun v τ2 q => ?_)
  obtain ⟨rfl, hM2, x2⟩ := q
  have hC2 := zCR_m hC1 x2
  refine ze_brT rfl rfl ?_
  exact K τ2 _ hC2 hM2
set_option maxRecDepth 20000 in
theorem zL_14 {N i : Nat} {xs : Nat → Int32} {σ : ze_S} {S : zSt} (hN : N ≤ 3072) (hi : i + 6 ≤ N) (hC : zCR σ S) (hM : zMR σ S) (K : ∀ τ S', zCR τ S' → zMR τ S' → zE 12 (t_L N xs) zLQ (663, [some (.ref 99), some (.ref 27), some (.ref 64), some (.int (nI i))], [], τ)) : zE 12 (t_L N xs) zLQ (518, [some (.ref 99), some (.ref 27), some (.ref 64), some (.int (nI i))], [], σ) := by
  have g : ∀ c, 1 ≤ c → c < 6 → vp_in (nI i + nI c) N := fun c _ h => by rw [nI_add]; exact vp_in_nI (by omega) (by omega)
  refine ze_go1 rfl ?_
  refine ze_go1 rfl ?_
  refine ze_go1 rfl ?_
  refine ze_go1 rfl ?_
  refine ze_go1 rfl ?_
  refine ze_go2 rfl ⟨rfl, g 1 (by decide) (by decide)⟩ ?_
  refine ze_go1 rfl ?_
  refine ze_go1 rfl ?_
  refine ze_go1 rfl ?_
  refine ze_go1 rfl ?_
  refine ze_go2 rfl ⟨rfl, g 2 (by decide) (by decide)⟩ ?_
  refine ze_ca1 rfl ⟨rfl, rfl⟩ (ze_M_le (e_C_child (d := 0) hC) (by decide)) (fun v τ q => ?_)
  obtain ⟨rfl, hC1, x1⟩ := q
  have hM1 := zMR_c hM x1
  refine ze_go1 rfl ?_
  refine ze_go1 rfl ?_
  refine ze_go1 rfl ?_
  refine ze_go1 rfl ?_
  refine ze_go1 rfl ?_
  refine ze_go2 rfl ⟨rfl, g 1 (by decide) (by decide)⟩ ?_
  refine ze_go1 rfl ?_
  refine ze_go1 rfl ?_
  refine ze_go1 rfl ?_
  refine ze_go1 rfl ?_
  refine ze_go2 rfl ⟨rfl, g 2 (by decide) (by decide)⟩ ?_
  refine ze_ca1 rfl ⟨rfl, rfl⟩ (ze_M_le (r_child (d := 0) hM1) (by decide)) (fun v τ2 q => ?_)
  obtain ⟨rfl, hM2, x2⟩ := q
  have hC2 := zCR_m hC1 x2
  refine ze_brT rfl rfl ?_
  exact K τ2 _ hC2 hM2
set_option maxRecDepth 20000 in
theorem zL_15 {N i : Nat} {xs : Nat → Int32} {σ : ze_S} {S : zSt} (hN : N ≤ 3072) (hi : i + 6 ≤ N) (hC : zCR σ S) (hM : zMR σ S) (K : ∀ τ S', zCR τ S' → zMR τ S' → zE 12 (t_L N xs) zLQ (663, [some (.ref 99), some (.ref 27), some (.ref 64), some (.int (nI i))], [], τ)) : zE 12 (t_L N xs) zLQ (551, [some (.ref 99), some (.ref 27), some (.ref 64), some (.int (nI i))], [], σ) := by
  have g : ∀ c, 1 ≤ c → c < 6 → vp_in (nI i + nI c) N := fun c _ h => by rw [nI_add]; exact vp_in_nI (by omega) (by omega)
  refine ze_go1 rfl ?_
  refine ze_go1 rfl ?_
  refine ze_go1 rfl ?_
  refine ze_go1 rfl ?_
  refine ze_go1 rfl ?_
  refine ze_go2 rfl ⟨rfl, g 1 (by decide) (by decide)⟩ ?_
  refine ze_ca1 rfl ⟨rfl, rfl⟩ (ze_M_le (e_C_classOf (d := 0) hC) (by decide)) (fun v τ q => ?_)
  obtain ⟨rfl, hC1, x1⟩ := q
  have hM1 := zMR_c hM x1
  refine ze_go1 rfl ?_
  refine ze_go1 rfl ?_
  refine ze_go1 rfl ?_
  refine ze_go1 rfl ?_
  refine ze_go1 rfl ?_
  refine ze_go2 rfl ⟨rfl, g 1 (by decide) (by decide)⟩ ?_
  refine ze_ca1 rfl ⟨rfl, rfl⟩ (ze_M_le (r_classOf (d := 0) hM1) (by decide)) (fun v τ2 q => ?_)
  obtain ⟨rfl, hM2, x2⟩ := q
  have hC2 := zCR_m hC1 x2
  refine ze_brT rfl rfl ?_
  exact K τ2 _ hC2 hM2
set_option maxRecDepth 20000 in
theorem zL_16 {N i : Nat} {xs : Nat → Int32} {σ : ze_S} {S : zSt} (hN : N ≤ 3072) (hi : i + 6 ≤ N) (hC : zCR σ S) (hM : zMR σ S) (K : ∀ τ S', zCR τ S' → zMR τ S' → zE 12 (t_L N xs) zLQ (663, [some (.ref 99), some (.ref 27), some (.ref 64), some (.int (nI i))], [], τ)) : zE 12 (t_L N xs) zLQ (574, [some (.ref 99), some (.ref 27), some (.ref 64), some (.int (nI i))], [], σ) := by
  have g : ∀ c, 1 ≤ c → c < 6 → vp_in (nI i + nI c) N := fun c _ h => by rw [nI_add]; exact vp_in_nI (by omega) (by omega)
  refine ze_go1 rfl ?_
  refine ze_go1 rfl ?_
  refine ze_go1 rfl ?_
  refine ze_go1 rfl ?_
  refine ze_go1 rfl ?_
  refine ze_go2 rfl ⟨rfl, g 1 (by decide) (by decide)⟩ ?_
  refine ze_go1 rfl ?_
  refine ze_go1 rfl ?_
  refine ze_go1 rfl ?_
  refine ze_go1 rfl ?_
  refine ze_go2 rfl ⟨rfl, g 2 (by decide) (by decide)⟩ ?_
  refine ze_ca1 rfl ⟨rfl, rfl⟩ (ze_M_le (e_C_weight (d := 0) hC) (by decide)) (fun v τ q => ?_)
  obtain ⟨rfl, hC1, x1⟩ := q
  have hM1 := zMR_c hM x1
  refine ze_go1 rfl ?_
  refine ze_go1 rfl ?_
  refine ze_go1 rfl ?_
  refine ze_go1 rfl ?_
  refine ze_go1 rfl ?_
  refine ze_go2 rfl ⟨rfl, g 1 (by decide) (by decide)⟩ ?_
  refine ze_go1 rfl ?_
  refine ze_go1 rfl ?_
  refine ze_go1 rfl ?_
  refine ze_go1 rfl ?_
  refine ze_go2 rfl ⟨rfl, g 2 (by decide) (by decide)⟩ ?_
  refine ze_ca1 rfl ⟨rfl, rfl⟩ (ze_M_le (r_weight (d := 0) hM1) (by decide)) (fun v τ2 q => ?_)
  obtain ⟨rfl, hM2, x2⟩ := q
  have hC2 := zCR_m hC1 x2
  refine ze_brT rfl rfl ?_
  exact K τ2 _ hC2 hM2
set_option maxRecDepth 20000 in
theorem zL_17 {N i : Nat} {xs : Nat → Int32} {σ : ze_S} {S : zSt} (hN : N ≤ 3072) (hi : i + 6 ≤ N) (hC : zCR σ S) (hM : zMR σ S) (K : ∀ τ S', zCR τ S' → zMR τ S' → zE 12 (t_L N xs) zLQ (663, [some (.ref 99), some (.ref 27), some (.ref 64), some (.int (nI i))], [], τ)) : zE 12 (t_L N xs) zLQ (607, [some (.ref 99), some (.ref 27), some (.ref 64), some (.int (nI i))], [], σ) := by
  have g : ∀ c, 1 ≤ c → c < 6 → vp_in (nI i + nI c) N := fun c _ h => by rw [nI_add]; exact vp_in_nI (by omega) (by omega)
  refine ze_go1 rfl ?_
  refine ze_go1 rfl ?_
  refine ze_go1 rfl ?_
  refine ze_go1 rfl ?_
  refine ze_go1 rfl ?_
  refine ze_go2 rfl ⟨rfl, g 1 (by decide) (by decide)⟩ ?_
  refine ze_go1 rfl ?_
  refine ze_go1 rfl ?_
  refine ze_go1 rfl ?_
  refine ze_go1 rfl ?_
  refine ze_go2 rfl ⟨rfl, g 2 (by decide) (by decide)⟩ ?_
  refine ze_ca1 rfl ⟨rfl, rfl⟩ (ze_M_le (e_C_part (d := 0) hC) (by decide)) (fun v τ q => ?_)
  obtain ⟨rfl, hC1, x1⟩ := q
  have hM1 := zMR_c hM x1
  refine ze_go1 rfl ?_
  refine ze_go1 rfl ?_
  refine ze_go1 rfl ?_
  refine ze_go1 rfl ?_
  refine ze_go1 rfl ?_
  refine ze_go2 rfl ⟨rfl, g 1 (by decide) (by decide)⟩ ?_
  refine ze_go1 rfl ?_
  refine ze_go1 rfl ?_
  refine ze_go1 rfl ?_
  refine ze_go1 rfl ?_
  refine ze_go2 rfl ⟨rfl, g 2 (by decide) (by decide)⟩ ?_
  refine ze_ca1 rfl ⟨rfl, rfl⟩ (ze_M_le (r_part (d := 0) hM1) (by decide)) (fun v τ2 q => ?_)
  obtain ⟨rfl, hM2, x2⟩ := q
  have hC2 := zCR_m hC1 x2
  refine ze_brT rfl rfl ?_
  exact K τ2 _ hC2 hM2
set_option maxRecDepth 20000 in
theorem zL_18 {N i : Nat} {xs : Nat → Int32} {σ : ze_S} {S : zSt} (hN : N ≤ 3072) (hi : i + 6 ≤ N) (hC : zCR σ S) (hM : zMR σ S) (K : ∀ τ S', zCR τ S' → zMR τ S' → zE 12 (t_L N xs) zLQ (663, [some (.ref 99), some (.ref 27), some (.ref 64), some (.int (nI i))], [], τ)) : zE 12 (t_L N xs) zLQ (640, [some (.ref 99), some (.ref 27), some (.ref 64), some (.int (nI i))], [], σ) := by
  have g : ∀ c, 1 ≤ c → c < 6 → vp_in (nI i + nI c) N := fun c _ h => by rw [nI_add]; exact vp_in_nI (by omega) (by omega)
  refine ze_go1 rfl ?_
  refine ze_go1 rfl ?_
  refine ze_go1 rfl ?_
  refine ze_go1 rfl ?_
  refine ze_go1 rfl ?_
  refine ze_go2 rfl ⟨rfl, g 1 (by decide) (by decide)⟩ ?_
  refine ze_ca1 rfl ⟨rfl, rfl⟩ (ze_M_le (e_C_log (d := 0) hC) (by decide)) (fun v τ q => ?_)
  obtain ⟨rfl, hC1, x1⟩ := q
  have hM1 := zMR_c hM x1
  refine ze_go1 rfl ?_
  refine ze_go1 rfl ?_
  refine ze_go1 rfl ?_
  refine ze_go1 rfl ?_
  refine ze_go1 rfl ?_
  refine ze_go2 rfl ⟨rfl, g 1 (by decide) (by decide)⟩ ?_
  refine ze_ca1 rfl ⟨rfl, rfl⟩ (ze_M_le (r_logM (d := 0) hM1) (by decide)) (fun v τ2 q => ?_)
  obtain ⟨rfl, hM2, x2⟩ := q
  have hC2 := zCR_m hC1 x2
  refine ze_brT rfl rfl ?_
  exact K τ2 _ hC2 hM2
set_option maxRecDepth 20000 in
theorem zL_loop {N : Nat} {xs : Nat → Int32} (hN : N ≤ 3072) : ∀ (n i : Nat) (σ : ze_S) (S : zSt), N ≤ i + n → i ≤ 3072 → zCR σ S → zMR σ S → zE 12 (t_L N xs) zLQ (18, [some (.ref 99), some (.ref 27), some (.ref 64), some (.int (nI i))], [], σ) := by
  intro n
  induction n with
  | zero =>
    intro i σ S hn hi hC hM
    iterate 2 (refine ze_go1 rfl ?_)
    refine ze_go2 rfl rfl ?_
    iterate 2 (refine ze_go1 rfl ?_)
    refine ze_br1 rfl (fun c => ?_) (fun c => absurd (zlen6 hN hi c) (by omega))
    refine ze_go1 rfl ?_
    exact ze_rt1 rfl (Or.inr rfl) rfl
  | succ n ih =>
    intro i σ S hn hi hC hM
    iterate 2 (refine ze_go1 rfl ?_)
    refine ze_go2 rfl rfl ?_
    iterate 2 (refine ze_go1 rfl ?_)
    refine ze_br1 rfl (fun c => ?_) (fun c => ?_)
    · refine ze_go1 rfl ?_
      exact ze_rt1 rfl (Or.inr rfl) rfl
    · have h6 := zlen6 hN hi c
      have K : ∀ τ S', zCR τ S' → zMR τ S' → zE 12 (t_L N xs) zLQ (663, [some (.ref 99), some (.ref 27), some (.ref 64), some (.int (nI i))], [], τ) := by
        intro τ S' h1 h2
        iterate 2 (refine ze_go1 rfl ?_)
        rw [show nI i + 6 = nI (i + 6) from nI_add i 6]
        exact ih (i + 6) τ S' (by omega) (by omega) h1 h2
      iterate 2 (refine ze_go1 rfl ?_)
      refine ze_go2 rfl ⟨rfl, vp_in_nI (N := N) (n := i) (by omega) (by omega)⟩ ?_
      iterate 2 (refine ze_go1 rfl ?_)
      obtain ⟨k, hk, ek⟩ := zand31 (xs (nI i).toNatClampNeg)
      refine ze_go1 (f' := (zsw (xs (nI i).toNatClampNeg &&& 31), [some (.ref 99), some (.ref 27), some (.ref 64), some (.int (nI i))], [], σ)) rfl ?_
      rw [ek]
      have cs : k = 0 ∨ k = 1 ∨ k = 2 ∨ k = 3 ∨ k = 4 ∨ k = 5 ∨ k = 6 ∨ k = 7 ∨ k = 8 ∨ k = 9 ∨ k = 10 ∨ k = 11 ∨ k = 12 ∨ k = 13 ∨ k = 14 ∨ k = 15 ∨ k = 16 ∨ k = 17 ∨ k = 18 ∨ 19 ≤ k := by omega
      rcases cs with rfl | rfl | rfl | rfl | rfl | rfl | rfl | rfl | rfl | rfl | rfl | rfl | rfl | rfl | rfl | rfl | rfl | rfl | rfl | hk2
      · exact zL_0 hN h6 hC hM K
      · exact zL_1 hN h6 hC hM K
      · exact zL_2 hN h6 hC hM K
      · exact zL_3 hN h6 hC hM K
      · exact zL_4 hN h6 hC hM K
      · exact zL_5 hN h6 hC hM K
      · exact zL_6 hN h6 hC hM K
      · exact zL_7 hN h6 hC hM K
      · exact zL_8 hN h6 hC hM K
      · exact zL_9 hN h6 hC hM K
      · exact zL_10 hN h6 hC hM K
      · exact zL_11 hN h6 hC hM K
      · exact zL_12 hN h6 hC hM K
      · exact zL_13 hN h6 hC hM K
      · exact zL_14 hN h6 hC hM K
      · exact zL_15 hN h6 hC hM K
      · exact zL_16 hN h6 hC hM K
      · exact zL_17 hN h6 hC hM K
      · exact zL_18 hN h6 hC hM K
      · have e : ∀ k, k < 32 → 19 ≤ k → zsw (nI k) = 663 := by decide +kernel
        rw [e k hk hk2]
        exact K σ S hC hM
