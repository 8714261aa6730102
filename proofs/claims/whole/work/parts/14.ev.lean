theorem ze_len_all : ∀ k, k < 65 → ze_len k ≤ 4632 := by decide +kernel
theorem ze_lens_len : ze_lens.length = 65 := rfl
theorem ze_len_le (k : Nat) : ze_len k ≤ 4632 := by
  by_cases q : k < 65
  · exact ze_len_all k q
  · have e : ze_len k = 0 := by
      unfold ze_len
      rw [List.getD_eq_getElem?_getD, List.getElem?_eq_none (by rw [ze_lens_len]; omega)]
      rfl
    omega
theorem zin {n k : Nat} (h : n < ze_len k) : vp_in (nI n) (ze_len k) := vp_in_nI h (by have := ze_len_le k; omega)
theorem zcl {n : Nat} (h : n < 2 ^ 31) : (nI n).toNatClampNeg = n := nI_clamp h
/-- only the cells of l differ -/
def zx (l : List Nat) (σ τ : ze_S) : Prop := ∀ k, k ∉ l → τ.1 k = σ.1 k ∧ τ.2 k = σ.2 k
theorem zx_rf (l : List Nat) (σ : ze_S) : zx l σ σ := fun _ _ => ⟨rfl, rfl⟩
theorem zx_tr {l : List Nat} {σ τ υ : ze_S} (h1 : zx l σ τ) (h2 : zx l τ υ) : zx l σ υ := fun k hk => ⟨(h2 k hk).1.trans (h1 k hk).1, (h2 k hk).2.trans (h1 k hk).2⟩
theorem zx_wk {l m : List Nat} {σ τ : ze_S} (h : zx l σ τ) (hs : ∀ k, k ∈ l → k ∈ m) : zx m σ τ := fun k hk => h k (fun q => hk (hs k q))
theorem zx_ui {l : List Nat} {k : Nat} (hk : k ∈ l) (σ : ze_S) (j : Nat) (x : Int32) : zx l σ (ze_ui σ k j x) := fun q hq => ze_ui_o q (fun e => hq (e ▸ hk))
theorem zx_ul {l : List Nat} {k : Nat} (hk : k ∈ l) (σ : ze_S) (j : Nat) (x : Int64) : zx l σ (ze_ul σ k j x) := fun q hq => ze_ul_o q (fun e => hq (e ▸ hk))
theorem zx_uf {l : List Nat} {k : Nat} (hk : k ∈ l) (σ : ze_S) (f : Nat → Int32) : zx l σ (ze_uf σ k f) := fun q hq => ⟨ze_up_ne _ _ (fun e => hq (e ▸ hk)), rfl⟩
theorem zui (σ : ze_S) (k j : Nat) (x : Int32) : (ze_ui σ k j x).1 k j = x := by rw [ze_ui_at]; exact pk_us
theorem zui_n (σ : ze_S) (k j : Nat) (x : Int32) {i : Nat} (h : i ≠ j) : (ze_ui σ k j x).1 k i = σ.1 k i := by rw [ze_ui_at]; exact pk_un h
theorem zui_o (σ : ze_S) (k j : Nat) (x : Int32) {q : Nat} (h : q ≠ k) : (ze_ui σ k j x).1 q = σ.1 q := (ze_ui_o q h).1
theorem zul (σ : ze_S) (k j : Nat) (x : Int64) : (ze_ul σ k j x).2 k j = x := by rw [ze_ul_at]; exact pk_uLs
theorem zul_n (σ : ze_S) (k j : Nat) (x : Int64) {i : Nat} (h : i ≠ j) : (ze_ul σ k j x).2 k i = σ.2 k i := by rw [ze_ul_at]; exact pk_uLn h
theorem zul_o (σ : ze_S) (k j : Nat) (x : Int64) {q : Nat} (h : q ≠ k) : (ze_ul σ k j x).2 q = σ.2 q := (ze_ul_o q h).2
theorem zuf (σ : ze_S) (k : Nat) (f : Nat → Int32) : (ze_uf σ k f).1 k = f := ze_up_at _ _ _
theorem zuf_o (σ : ze_S) (k : Nat) (f : Nat → Int32) {q : Nat} (h : q ≠ k) : (ze_uf σ k f).1 q = σ.1 q := ze_up_ne _ _ h
