def zGS (dp k : Nat) : Prop := (3 ≤ k ∧ k ≤ 5) ∨ (14 ≤ k ∧ k ≤ 21) ∨ k = 29 ∨ (35 ≤ k ∧ k ≤ 38) ∨ (39 + dp ≤ k ∧ k < 43) ∨ (6 + dp ≤ k ∧ k < 10) ∨ (10 + dp < k ∧ k < 14)
def zN : Nat → Nat
  | 0 => 1
  | f + 1 => 1 + 4 * zN f
theorem zN_pos : ∀ f, 1 ≤ zN f
  | 0 => Nat.le_refl _
  | f + 1 => by
    unfold zN
    omega
theorem zor : ∀ c, c < 16 → ∀ x, x < 16 → nI c ||| nI x = nI (c ||| x) := by decide +kernel
theorem zbit {c a : Nat} (hc : c < 16) (ha : a < 4) : (nI c >>> (nI a &&& 31)) &&& 1 = nI (bif c.testBit a then 1 else 0) := by
  have h : ∀ c, c < 16 → ∀ a, a < 4 → (nI c >>> (nI a &&& 31)) &&& 1 = nI (bif c.testBit a then 1 else 0) := by decide +kernel
  exact h c hc a ha
theorem zcm_lt {D : zD} {a c : Nat} (hc : c < 16) (ha : a < 4) : zcm D a c < 16 := by
  unfold zcm
  split
  · exact hc
  · have h : ∀ c, c < 16 → ∀ a, a < 4 → c ||| 2 ^ a < 16 := by decide +kernel
    exact h c hc a ha
theorem zty_id (D : zD) (w : Nat → Nat) (pt : Nat) : zty D w pt = zty D w (zty D w pt) := by
  unfold zty
  by_cases h : zm_s (zcw D w) 3 = 0
  · rw [if_pos h, if_pos h]
  · rw [if_neg h, if_neg h]
theorem zty_lt (D : zD) (w : Nat → Nat) {pt : Nat} (h : pt < 3) : zty D w pt < 3 := by
  unfold zty
  split
  · exact h
  · exact zm_fg_lt _ 2
/-- a node with its weights, still a leaf -/
def zH2 (D : zD) (σ : ze_S) (m dp pl : Nat) (w : Nat → Nat) (ty : Nat) (υ : ze_S) : Prop :=
  zxp (zGS dp) σ υ ∧ υ.1 29 = σ.1 29 ∧ (∀ q, q ≠ pl → zsame σ υ q) ∧ υ.1 18 pl = nI ty ∧ (∀ c, c < 3 → υ.1 19 (3 * pl + c) = nI (zcw D w c)) ∧ (υ.1 15 pl = -1 ∧ υ.1 16 pl = -1 ∧ υ.1 17 pl = 0) ∧ zB υ D ∧ zrow υ dp D.2.1 w ∧ υ.1 32 4 = nI m
theorem zH2_x {D : zD} {σ : ze_S} {m dp pl : Nat} {w : Nat → Nat} {ty : Nat} {υ υ' : ze_S} {l : List Nat} (h : zH2 D σ m dp pl w ty υ) (hdp : dp < 4) (hx : zx l υ υ') (hl : ∀ k, k ∈ l → (3 ≤ k ∧ k ≤ 5) ∨ k = 14 ∨ (35 ≤ k ∧ k ≤ 38)) : zH2 D σ m dp pl w ty υ' := by
  obtain ⟨h1, h2, h3, h4, h5, h6, h7, h8, h9⟩ := h
  have nl : ∀ k, ¬ ((3 ≤ k ∧ k ≤ 5) ∨ k = 14 ∨ (35 ≤ k ∧ k ≤ 38)) → k ∉ l := fun k hk q => hk (hl k q)
  have e : ∀ k, ¬ ((3 ≤ k ∧ k ≤ 5) ∨ k = 14 ∨ (35 ≤ k ∧ k ≤ 38)) → υ'.1 k = υ.1 k := fun k hk => (hx k (nl k hk)).1
  refine ⟨zxp_tr h1 (zxp_of hx (fun k hk => by have := hl k hk; unfold zGS; omega)), by rw [e 29 (by omega), h2], fun q hq => zsame_tr (h3 q hq) (zsame_x hx (nl _ (by omega)) (nl _ (by omega)) (nl _ (by omega)) (nl _ (by omega)) (nl _ (by omega)) (nl _ (by omega)) (nl _ (by omega)) q), by rw [e 18 (by omega), h4], fun c hc => by rw [e 19 (by omega), h5 c hc], ?_, zB_x h7 hx (fun k hk => by have := hl k hk; omega), fun i hi => by rw [e (10 + dp) (by omega)]; exact h8 i hi, by rw [e 32 (by omega), h9]⟩
  rw [e 15 (by omega), e 16 (by omega), e 17 (by omega)]
  exact h6
/-- what growing leaves behind -/
def zGP (D : zD) (σ : ze_S) (P : Nat → List Nat) (m f dp pl : Nat) (p : List Nat) (w : Nat → Nat) (c pt mk : Nat) (τ : ze_S) : Prop :=
  zxp (zGS dp) σ τ ∧ τ.1 29 10 = σ.1 29 10 ∧ τ.1 29 11 = σ.1 29 11 ∧ ∃ (mk' : Nat) (R : Nat → List Nat), mk ≤ mk' ∧ mk' + 1 ≤ mk + zN f ∧ τ.1 29 9 = nI mk' ∧ (∀ q, q < mk → R q = P q) ∧ (∀ q, mk' ≤ q → R q = [99]) ∧ (∀ q, mk ≤ q → q < mk' → ∃ b r, b < 4 ∧ R q = p ++ b :: r) ∧ (∀ q, q < mk → q ≠ pl → zsame σ τ q) ∧ zRC D τ R f w pl p (zgw D m f w c pt)
theorem zGP_leaf {D : zD} {σ υ : ze_S} {P : Nat → List Nat} {m f dp pl : Nat} {p : List Nat} {w : Nat → Nat} {c pt mk : Nat} (h : zH2 D σ m dp pl w (zty D w pt) υ) (hpl : pl < mk) (h85 : pl < 85) (hmk : σ.1 29 9 = nI mk) (hP : P pl = p) (hP9 : ∀ q, mk ≤ q → P q = [99]) (hpt : pt < 3) (hg : zgw D m f w c pt = zmk none (zty D w pt) (fun _ => zlf)) : zGP D σ P m f dp pl p w c pt mk υ := by
  obtain ⟨h1, h2, h3, h4, h5, h6, h7, h8, h9⟩ := h
  refine ⟨h1, by rw [h2], by rw [h2], mk, P, Nat.le_refl _, by have := zN_pos f; omega, by rw [h2, hmk], fun _ _ => rfl, hP9, fun q a b => by omega, fun q _ hq => h3 q hq, ?_⟩
  rw [hg]
  have hd : pl < 85 ∧ P pl = p ∧ υ.1 18 pl = nI ((zmk none (zty D w pt) (fun _ => zlf)).2 []) ∧ (zmk none (zty D w pt) (fun _ => zlf)).2 [] < 3 ∧ (∀ c, c < 3 → υ.1 19 (3 * pl + c) = nI (zcw D w c)) ∧ (zmk none (zty D w pt) (fun _ => zlf)).2 [] = zty D w ((zmk none (zty D w pt) (fun _ => zlf)).2 []) := ⟨h85, hP, h4, zty_lt D w hpt, h5, zty_id D w pt⟩
  cases f with
  | zero => exact ⟨hd, rfl, h6⟩
  | succ f => exact ⟨hd, Or.inl ⟨rfl, h6⟩⟩
