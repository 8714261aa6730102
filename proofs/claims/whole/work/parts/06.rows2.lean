/-! fields, arrays, calls, answers -/
section ZeSnd2
variable {I : Nat → ze_I} {Ex : ze_G → State → Prop} {i : ze_I} {pc : Nat}
theorem ze_E_o (G : ze_G) (σ : ze_S) {k ci : Nat} (h : ze_cl k = ci) (hci : ci < 90) : ze_E G σ k = .inr (ci, (List.range (ze_nf ci)).map (ze_fv G.2.1 σ k ci)) := by
  subst h
  have h1 : ze_isI k = false := ze_cl_I hci
  have h2 : ze_isQ k = false := ze_cl_Q hci
  unfold ze_E
  rw [h1, h2]
  rfl
theorem ze_fs_at {ad : Nat → Nat} {σ : ze_S} {k ci j N : Nat} (hN : ze_nf ci = N) (hj : j < N) : ((List.range (ze_nf ci)).map (ze_fv ad σ k ci))[j]? = some (ze_fv ad σ k ci j) := by
  rw [hN, List.getElem?_map, List.getElem?_range hj]
  rfl
theorem ze_fs_set {ad : Nat → Nat} {σ σ' : ze_S} {k ci j : Nat} {v : Value} (hv : ze_fv ad σ' k ci j = v) (ho : ∀ x, x ≠ j → ze_fv ad σ' k ci x = ze_fv ad σ k ci x) : ((List.range (ze_nf ci)).map (ze_fv ad σ k ci)).set j v = (List.range (ze_nf ci)).map (ze_fv ad σ' k ci) := by
  apply List.ext_getElem?
  intro x
  rw [List.getElem?_set]
  by_cases hx : x < ze_nf ci
  · rw [List.getElem?_map, List.getElem?_range hx, List.getElem?_map, List.getElem?_range hx]
    by_cases h : j = x
    · subst h
      simp [hx, hv]
    · rw [if_neg h]
      simp [ho x (Ne.symm h)]
  · have a2 : ((List.range (ze_nf ci)).map (ze_fv ad σ' k ci))[x]? = none := List.getElem?_eq_none (by simpa using hx)
    have a1 : ((List.range (ze_nf ci)).map (ze_fv ad σ k ci))[x]? = none := List.getElem?_eq_none (by simpa using hx)
    rw [a1, a2]
    by_cases h : j = x
    · subst h
      simp [hx]
    · rw [if_neg h]
theorem ze_get {ci j N x : Nat} {C ref nm ds : String} {T : u_T} (hci : ci < 90) (hc : vwCl[ci]? = some (C, T, N)) (hN : ze_nf ci = N) (hj : j < N) (hin : ∀ w ∈ u_ws C T N, w ∈ ze_ws i) (hT : (T j).1 = ref ∧ (T j).2.1 = nm ∧ (T j).2.2.1 = ds) (hw : Cond.fieldLink i.1.cls x ref nm ds ∈ ze_ws i) (hd : decode i.2.1 pc = .ok (.getfield x, 3))
    {M : Nat → List Value → ze_S → ze_P → Prop} {l : Launch} {d : Nat} {G : ze_G} {R : Room} {cs sl : Nat} {p : Program} {e : Env} {s : State} {m : MethodId} {args : Array Value} {below : List Frame} {meth : Method} {c : Code} {Q0 : ze_P} {Qc : Array Value → State → Outcome → State → Prop} {free : Addr → Prop} {Q : State → Prop} (hcx : ze_Cx I Ex M l d i G R cs sl p s m args meth c Q0 Qc free) {σ : ze_S} {H : Heap} (hP : va_P G.1 vwCl (ze_w G σ) H)
    {k : Nat} (hk : ze_cl k = ci) {v : Value} (hv : ze_fv G.2.1 σ k ci j = v) {locs : List Loc} {ls : Array Slot} {rest : List Value} {cells slots : Nat}
    (kk : W p l e R s m args below meth c H locs cells slots Q (F0 m (pc + 3) ls (v :: rest))) : W p l e R s m args below meth c H locs cells slots Q (F0 m pc ls (.ref (G.2.1 k) :: rest)) := by
  obtain ⟨hx, hb, -, hown, hts, hK, -⟩ := hcx
  obtain ⟨rfl, rfl, rfl⟩ := hT
  exact va_get (D := G.1) (ci := ci) (v := v) (C := C) (T := T) (N := N) hx hb hts hin hown hK.1 hP k (by rw [ze_w_at G σ (ze_cl_N hk hci), ze_E_o G σ hk hci]) hc j hj (hts _ hw) (fun _ q => q) (by rw [ze_fs_at hN hj, hv]) hd kk
theorem ze_fv_i {ad : Nat → Nat} {σ : ze_S} {k ci j : Nat} (h : ze_kd ci j = 0) : ze_fv ad σ k ci j = .int (σ.1 k j) := by
  unfold ze_fv
  simp only [h]
theorem ze_fv_l {ad : Nat → Nat} {σ : ze_S} {k ci j : Nat} (h : ze_kd ci j = 1) : ze_fv ad σ k ci j = .long (σ.2 k j) := by
  unfold ze_fv
  simp only [h]
theorem ze_fv_r {ad : Nat → Nat} {σ : ze_S} {k ci j : Nat} (h : ze_kd ci j = 2) : ze_fv ad σ k ci j = .ref (ad (ze_tg ci j k)) := by
  unfold ze_fv
  simp only [h]
theorem zs_gi {ci j N x : Nat} {C ref nm ds : String} {T : u_T} (hci : ci < 90) (hc : vwCl[ci]? = some (C, T, N)) (hN : ze_nf ci = N) (hj : j < N) (hin : ∀ w ∈ u_ws C T N, w ∈ ze_ws i) (hT : (T j).1 = ref ∧ (T j).2.1 = nm ∧ (T j).2.2.1 = ds) (hw : Cond.fieldLink i.1.cls x ref nm ds ∈ ze_ws i) (hkd : ze_kd ci j = 0) (hd : decode i.2.1 pc = .ok (.getfield x, 3)) : ze_snd I Ex i pc (zo_gi ci j) := by
  intro M l d G R cs sl p e s m args below meth c Q Qc free hcx L st σ h H locs ls hP hS hL
  obtain ⟨k, r_1, rfl, h_1⟩ := ze_pr_pre (st := st) h
  exact ze_get hci hc hN hj hin hT hw hd hcx hP (And.left h_1) (ze_fv_i hkd) (And.right h_1 H locs ls hP hS hL)
theorem zs_gl {ci j N x : Nat} {C ref nm ds : String} {T : u_T} (hci : ci < 90) (hc : vwCl[ci]? = some (C, T, N)) (hN : ze_nf ci = N) (hj : j < N) (hin : ∀ w ∈ u_ws C T N, w ∈ ze_ws i) (hT : (T j).1 = ref ∧ (T j).2.1 = nm ∧ (T j).2.2.1 = ds) (hw : Cond.fieldLink i.1.cls x ref nm ds ∈ ze_ws i) (hkd : ze_kd ci j = 1) (hd : decode i.2.1 pc = .ok (.getfield x, 3)) : ze_snd I Ex i pc (zo_gl ci j) := by
  intro M l d G R cs sl p e s m args below meth c Q Qc free hcx L st σ h H locs ls hP hS hL
  obtain ⟨k, r_1, rfl, h_1⟩ := ze_pr_pre (st := st) h
  exact ze_get hci hc hN hj hin hT hw hd hcx hP (And.left h_1) (ze_fv_l hkd) (And.right h_1 H locs ls hP hS hL)
theorem zs_gr {ci j N x : Nat} {C ref nm ds : String} {T : u_T} (hci : ci < 90) (hc : vwCl[ci]? = some (C, T, N)) (hN : ze_nf ci = N) (hj : j < N) (hin : ∀ w ∈ u_ws C T N, w ∈ ze_ws i) (hT : (T j).1 = ref ∧ (T j).2.1 = nm ∧ (T j).2.2.1 = ds) (hw : Cond.fieldLink i.1.cls x ref nm ds ∈ ze_ws i) (hkd : ze_kd ci j = 2) (hd : decode i.2.1 pc = .ok (.getfield x, 3)) : ze_snd I Ex i pc (zo_gr ci j) := by
  intro M l d G R cs sl p e s m args below meth c Q Qc free hcx L st σ h H locs ls hP hS hL
  obtain ⟨k, r_1, rfl, h_1⟩ := ze_pr_pre (st := st) h
  exact ze_get hci hc hN hj hin hT hw hd hcx hP (And.left h_1) (ze_fv_r hkd) (And.right h_1 H locs ls hP hS hL)
theorem zs_gc {ci j N x t : Nat} {C ref nm ds : String} {T : u_T} (hci : ci < 90) (hc : vwCl[ci]? = some (C, T, N)) (hN : ze_nf ci = N) (hj : j < N) (hin : ∀ w ∈ u_ws C T N, w ∈ ze_ws i) (hT : (T j).1 = ref ∧ (T j).2.1 = nm ∧ (T j).2.2.1 = ds) (hw : Cond.fieldLink i.1.cls x ref nm ds ∈ ze_ws i) (hkd : ze_kd ci j = 2) (ht : ∀ k, ze_tg ci j k = t) (hd : decode i.2.1 pc = .ok (.getfield x, 3)) : ze_snd I Ex i pc (zo_gc ci t) := by
  intro M l d G R cs sl p e s m args below meth c Q Qc free hcx L st σ h H locs ls hP hS hL
  obtain ⟨k, r_1, rfl, h_1⟩ := ze_pr_pre (st := st) h
  exact ze_get hci hc hN hj hin hT hw hd hcx hP (And.left h_1) (by rw [ze_fv_r hkd, ht]; rfl) (And.right h_1 H locs ls hP hS hL)
theorem zs_gf {ci j N x : Nat} {C ref nm ds : String} {T : u_T} (hci : ci < 90) (hc : vwCl[ci]? = some (C, T, N)) (hN : ze_nf ci = N) (hj : j < N) (hin : ∀ w ∈ u_ws C T N, w ∈ ze_ws i) (hT : (T j).1 = ref ∧ (T j).2.1 = nm ∧ (T j).2.2.1 = ds) (hw : Cond.fieldLink i.1.cls x ref nm ds ∈ ze_ws i) (hkd : ze_kd ci j = 2) (ht : ∀ k, ze_tg ci j k = k - 33) (hd : decode i.2.1 pc = .ok (.getfield x, 3)) : ze_snd I Ex i pc (zo_gf ci) := by
  intro M l d G R cs sl p e s m args below meth c Q Qc free hcx L st σ h H locs ls hP hS hL
  obtain ⟨k, r_1, rfl, h_1⟩ := ze_pr_pre (st := st) h
  exact ze_get hci hc hN hj hin hT hw hd hcx hP (And.left h_1) (by rw [ze_fv_r hkd, ht]; rfl) (And.right h_1 H locs ls hP hS hL)
theorem ze_put {ci j N x : Nat} {C ref nm ds : String} {T : u_T} {ty0 : Nat → FieldType} {ty : FieldType} (hci : ci < 90) (hc : vwCl[ci]? = some (C, T, N)) (hN : ze_nf ci = N) (hj : j < N) (hin : ∀ w ∈ u_ws C T N, w ∈ ze_ws i) (hty : ∀ k, k < N → parseFieldDescriptor (T k).2.2.1 = some (ty0 k)) (hnm : ∀ a, a < N → ∀ b, b < N → a ≠ b → (T a).2.1 ≠ (T b).2.1) (hT : (T j).1 = ref ∧ (T j).2.1 = nm ∧ (T j).2.2.1 = ds ∧ (T j).2.2.2 = false) (hpd : parseFieldDescriptor ds = some ty) (hw : Cond.fieldLink i.1.cls x ref nm ds ∈ ze_ws i) (hd : decode i.2.1 pc = .ok (.putfield x, 3))
    {M : Nat → List Value → ze_S → ze_P → Prop} {l : Launch} {d : Nat} {G : ze_G} {R : Room} {cs sl : Nat} {p : Program} {e : Env} {s : State} {m : MethodId} {args : Array Value} {below : List Frame} {meth : Method} {c : Code} {Q0 : ze_P} {Qc : Array Value → State → Outcome → State → Prop} {free : Addr → Prop} {Q : State → Prop} (hcx : ze_Cx I Ex M l d i G R cs sl p s m args meth c Q0 Qc free) {σ σ' : ze_S} {H : Heap} (hP : va_P G.1 vwCl (ze_w G σ) H)
    {k : Nat} (hk : ze_cl k = ci) {v : Value} (hn : narrow ty v = v) (hf : fits ty v = true) (hv : ze_fv G.2.1 σ' k ci j = v) (ho : ∀ x, x ≠ j → ze_fv G.2.1 σ' k ci x = ze_fv G.2.1 σ k ci x) (hoo : ∀ q, q ≠ k → σ'.1 q = σ.1 q ∧ σ'.2 q = σ.2 q) {locs : List Loc} (hS : va_S (ze_A G) s.heap H locs) {ls : Array Slot} {rest : List Value} {cells slots : Nat}
    (kk : ∀ (H1 : Heap) (locs1 : List Loc), va_P G.1 vwCl (ze_w G σ') H1 → va_S (ze_A G) s.heap H1 locs1 → W p l e R s m args below meth c H1 locs1 cells slots Q (F0 m (pc + 3) ls rest)) : W p l e R s m args below meth c H locs cells slots Q (F0 m pc ls (v :: .ref (G.2.1 k) :: rest)) := by
  obtain ⟨hx, hb, -, hown, hts, hK, hi, -⟩ := hcx
  obtain ⟨rfl, rfl, rfl, hfin⟩ := hT
  have hkN := ze_cl_N hk hci
  refine va_put (D := G.1) (ci := ci) (v := v) (ty := ty) (C := C) (T := T) (N := N) hx hb hts hin ty0 hty hnm hown hK.1 hP (ze_w_D hi σ) hS k (by rw [ze_w_at G σ hkN, ze_E_o G σ hk hci]) hc j hj (hts _ hw) (fun _ q => q) hfin hpd hn hf (by simpa [hN] using hj) hd (fun H1 locs1 h1 h2 h3 => ?_)
  rw [ze_fs_set hv ho, ze_w_set (σ' := σ') hkN (ze_E_o G σ' hk hci) hoo] at h1
  exact kk H1 locs1 h1 h3
theorem ze_ui_o {σ : ze_S} {k j : Nat} {x : Int32} : ∀ q, q ≠ k → (ze_ui σ k j x).1 q = σ.1 q ∧ (ze_ui σ k j x).2 q = σ.2 q := fun _ h => ⟨ze_up_ne _ _ h, rfl⟩
theorem ze_ul_o {σ : ze_S} {k j : Nat} {x : Int64} : ∀ q, q ≠ k → (ze_ul σ k j x).1 q = σ.1 q ∧ (ze_ul σ k j x).2 q = σ.2 q := fun _ h => ⟨rfl, ze_up_ne _ _ h⟩
theorem ze_ui_at (σ : ze_S) (k j : Nat) (x : Int32) : (ze_ui σ k j x).1 k = upd (σ.1 k) j x := ze_up_at _ _ _
theorem ze_ul_at (σ : ze_S) (k j : Nat) (x : Int64) : (ze_ul σ k j x).2 k = vp_updL (σ.2 k) j x := ze_up_at _ _ _
theorem ze_fv_ui {ad : Nat → Nat} {σ : ze_S} {k ci j : Nat} {x : Int32} : ∀ y, y ≠ j → ze_fv ad (ze_ui σ k j x) k ci y = ze_fv ad σ k ci y := by
  intro y hy
  unfold ze_fv
  rw [ze_ui_at, pk_un hy]
  rfl
theorem ze_fv_ul {ad : Nat → Nat} {σ : ze_S} {k ci j : Nat} {x : Int64} : ∀ y, y ≠ j → ze_fv ad (ze_ul σ k j x) k ci y = ze_fv ad σ k ci y := by
  intro y hy
  unfold ze_fv
  rw [ze_ul_at, pk_uLn hy]
  rfl
theorem zs_pi {ci j N x : Nat} {C ref nm ds : String} {T : u_T} {ty0 : Nat → FieldType} (hci : ci < 90) (hc : vwCl[ci]? = some (C, T, N)) (hN : ze_nf ci = N) (hj : j < N) (hin : ∀ w ∈ u_ws C T N, w ∈ ze_ws i) (hty : ∀ k, k < N → parseFieldDescriptor (T k).2.2.1 = some (ty0 k)) (hnm : ∀ a, a < N → ∀ b, b < N → a ≠ b → (T a).2.1 ≠ (T b).2.1) (hT : (T j).1 = ref ∧ (T j).2.1 = nm ∧ (T j).2.2.1 = ds ∧ (T j).2.2.2 = false) (hpd : parseFieldDescriptor ds = some .int) (hw : Cond.fieldLink i.1.cls x ref nm ds ∈ ze_ws i) (hkd : ze_kd ci j = 0) (hd : decode i.2.1 pc = .ok (.putfield x, 3)) : ze_snd I Ex i pc (zo_pi ci j) := by
  intro M l d G R cs sl p e s m args below meth c Q Qc free hcx L st σ h H locs ls hP hS hL
  obtain ⟨v, r_1, rfl, h_1⟩ := ze_pi_pre (st := st) h
  obtain ⟨k, r_2, rfl, h_2⟩ := ze_pr_pre (st := r_1) h_1
  exact ze_put hci hc hN hj hin hty hnm hT hpd hw hd hcx hP (And.left h_2) (v := .int v) rfl rfl (by rw [ze_fv_i hkd, ze_ui_at, pk_us]) ze_fv_ui ze_ui_o hS (fun H1 locs1 h1 h2 => And.right h_2 H1 locs1 ls h1 h2 hL)
theorem zs_pz {ci j N x : Nat} {C ref nm ds : String} {T : u_T} {ty0 : Nat → FieldType} (hci : ci < 90) (hc : vwCl[ci]? = some (C, T, N)) (hN : ze_nf ci = N) (hj : j < N) (hin : ∀ w ∈ u_ws C T N, w ∈ ze_ws i) (hty : ∀ k, k < N → parseFieldDescriptor (T k).2.2.1 = some (ty0 k)) (hnm : ∀ a, a < N → ∀ b, b < N → a ≠ b → (T a).2.1 ≠ (T b).2.1) (hT : (T j).1 = ref ∧ (T j).2.1 = nm ∧ (T j).2.2.1 = ds ∧ (T j).2.2.2 = false) (hpd : parseFieldDescriptor ds = some .boolean) (hw : Cond.fieldLink i.1.cls x ref nm ds ∈ ze_ws i) (hkd : ze_kd ci j = 0) (hd : decode i.2.1 pc = .ok (.putfield x, 3)) : ze_snd I Ex i pc (zo_pz ci j) := by
  intro M l d G R cs sl p e s m args below meth c Q Qc free hcx L st σ h H locs ls hP hS hL
  obtain ⟨v, r_1, rfl, h_1⟩ := ze_pi_pre (st := st) h
  obtain ⟨k, r_2, rfl, h_2⟩ := ze_pr_pre (st := r_1) h_1
  have hv := (And.left h_2).2
  exact ze_put hci hc hN hj hin hty hnm hT hpd hw hd hcx hP (And.left h_2).1 (v := .int v) (by rcases hv with rfl | rfl <;> rfl) (by rcases hv with rfl | rfl <;> rfl) (by rw [ze_fv_i hkd, ze_ui_at, pk_us]) ze_fv_ui ze_ui_o hS (fun H1 locs1 h1 h2 => And.right h_2 H1 locs1 ls h1 h2 hL)
theorem zs_pl {ci j N x : Nat} {C ref nm ds : String} {T : u_T} {ty0 : Nat → FieldType} (hci : ci < 90) (hc : vwCl[ci]? = some (C, T, N)) (hN : ze_nf ci = N) (hj : j < N) (hin : ∀ w ∈ u_ws C T N, w ∈ ze_ws i) (hty : ∀ k, k < N → parseFieldDescriptor (T k).2.2.1 = some (ty0 k)) (hnm : ∀ a, a < N → ∀ b, b < N → a ≠ b → (T a).2.1 ≠ (T b).2.1) (hT : (T j).1 = ref ∧ (T j).2.1 = nm ∧ (T j).2.2.1 = ds ∧ (T j).2.2.2 = false) (hpd : parseFieldDescriptor ds = some .long) (hw : Cond.fieldLink i.1.cls x ref nm ds ∈ ze_ws i) (hkd : ze_kd ci j = 1) (hd : decode i.2.1 pc = .ok (.putfield x, 3)) : ze_snd I Ex i pc (zo_pl ci j) := by
  intro M l d G R cs sl p e s m args below meth c Q Qc free hcx L st σ h H locs ls hP hS hL
  obtain ⟨v, r_1, rfl, h_1⟩ := ze_pl_pre (st := st) h
  obtain ⟨k, r_2, rfl, h_2⟩ := ze_pr_pre (st := r_1) h_1
  exact ze_put hci hc hN hj hin hty hnm hT hpd hw hd hcx hP (And.left h_2) (v := .long v) rfl rfl (by rw [ze_fv_l hkd, ze_ul_at, pk_uLs]) ze_fv_ul ze_ul_o hS (fun H1 locs1 h1 h2 => And.right h_2 H1 locs1 ls h1 h2 hL)
theorem ze_ty_at (G : ze_G) {t : Nat} (h : t < 4) : (ze_ty G)[t]? = some (G.2.2 t, ze_at t) := by
  simp [ze_ty, List.getElem?_map, List.getElem?_range h]
theorem zs_ia (hd : decode i.2.1 pc = .ok (.iaload, 1)) : ze_snd I Ex i pc zo_ia := by
  intro M l d G R cs sl p e s m args below meth c Q Qc free hcx L st σ h H locs ls hP hS hL
  obtain ⟨hx, hb, -, hown, hts, hK, hi, -⟩ := hcx
  obtain ⟨j, r_1, rfl, h_1⟩ := ze_pi_pre (st := st) h
  obtain ⟨k, r_2, rfl, h_2⟩ := ze_pr_pre (st := r_1) h_1
  have hk := (And.left h_2).1
  exact va_iald hx hb hK.1 hP k 0 (by rw [ze_w_at G σ (ze_isI_N hk), ze_E_i G σ hk]) (ze_ty_at G (by decide)) (And.left h_2).2 hd (And.right h_2 H locs ls hP hS hL)
theorem zs_ias (hd : decode i.2.1 pc = .ok (.iastore, 1)) : ze_snd I Ex i pc zo_ias := by
  intro M l d G R cs sl p e s m args below meth c Q Qc free hcx L st σ h H locs ls hP hS hL
  obtain ⟨hx, hb, -, hown, hts, hK, hi, -⟩ := hcx
  obtain ⟨x, r_1, rfl, h_1⟩ := ze_pi_pre (st := st) h
  obtain ⟨j, r_2, rfl, h_2⟩ := ze_pi_pre (st := r_1) h_1
  obtain ⟨k, r_3, rfl, h_3⟩ := ze_pr_pre (st := r_2) h_2
  have hk := (And.left h_3).1
  refine va_iast hx hb hK.1 hP (ze_w_D hi σ) hS k 0 (by rw [ze_w_at G σ (ze_isI_N hk), ze_E_i G σ hk]) (ze_ty_at G (by decide)) (And.left h_3).2 hd (fun H1 locs1 h1 h2 h3 => ?_)
  rw [ze_w_set (σ' := ze_ui σ k j.toNatClampNeg x) (ze_isI_N hk) (by rw [ze_E_i G _ hk, ze_ui_at]) ze_ui_o] at h1
  exact And.right h_3 H1 locs1 ls h1 h3 hL
theorem zs_len (hd : decode i.2.1 pc = .ok (.arraylength, 1)) : ze_snd I Ex i pc zo_len := by
  intro M l d G R cs sl p e s m args below meth c Q Qc free hcx L st σ h H locs ls hP hS hL
  obtain ⟨hx, hb, -, hown, hts, hK, hi, -⟩ := hcx
  obtain ⟨k, r_1, rfl, h_1⟩ := ze_pr_pre (st := st) h
  have hk := And.left h_1
  exact va_alen (x := (ze_len k, .inl (σ.1 k))) (v := nI (ze_len k)) hx hb hK.1 hP k 0 (by rw [ze_w_at G σ (ze_isI_N hk), ze_E_i G σ hk]) (ze_ty_at G (by decide)) rfl hd (And.right h_1 H locs ls hP hS hL)
theorem zs_aa (hd : decode i.2.1 pc = .ok (.aaload, 1)) : ze_snd I Ex i pc zo_aa := by
  intro M l d G R cs sl p e s m args below meth c Q Qc free hcx L st σ h H locs ls hP hS hL
  obtain ⟨hx, hb, -, hown, hts, hK, hi, -⟩ := hcx
  obtain ⟨j, r_1, rfl, h_1⟩ := ze_pi_pre (st := st) h
  obtain ⟨k, r_2, rfl, h_2⟩ := ze_pr_pre (st := r_1) h_1
  have hk := (And.left h_2).1
  have hin := (And.left h_2).2
  have hlt : j.toNatClampNeg < 4 := Nat.not_le.mp fun q => hin (Or.inr q)
  obtain ⟨hkN, hkI, hqt, href⟩ := ze_isQ_N hk
  have ha : (ze_w G σ)[k]? = some (G.2.1 k, .inl (G.2.2 (ze_qt k), 4, .inr (.inr (.inr (.inr (fun j => some (G.2.1 (ze_qb k + j)))))))) := by
    rw [ze_w_at G σ hkN]
    unfold ze_E
    rw [hkI, hk]
    rfl
  exact W.aald (v := .ref (G.2.1 (ze_qb k + j.toNatClampNeg))) (ty := ze_at (ze_qt k)) hx hb (hP k _ ha) ((hK.1.2 (ze_qt k) _ (ze_ty_at G hqt)).1 4 (fun j => va_rf (some (G.2.1 (ze_qb k + j))))) href (fun q => by cases q) (by show ¬ (j < 0 ∨ (arrV _ _ _).slots.size ≤ _); rw [arrV_size]; exact hin) (by show (arrV _ _ _).slots[_]? = _; rw [arrV_read _ _ hlt]; rfl) rfl rfl hd (And.right h_2 H locs ls hP hS hL)
theorem zs_aq {q b : Nat} (hq : ze_isQ q = true) (hb0 : ze_qb q = b) (hd : decode i.2.1 pc = .ok (.aaload, 1)) : ze_snd I Ex i pc (zo_aq q b) := by
  intro M l d G R cs sl p e s m args below meth c Q Qc free hcx L st σ h H locs ls hP hS hL
  obtain ⟨hx, hb, -, hown, hts, hK, hi, -⟩ := hcx
  obtain ⟨j, r_1, rfl, h_1⟩ := ze_pi_pre (st := st) h
  obtain ⟨k, r_2, rfl, h_2⟩ := ze_pr_pre (st := r_1) h_1
  have hkq := (And.left h_2).1
  have hk : ze_isQ k = true := by rw [hkq]; exact hq
  have hbk : ze_qb k = b := by rw [hkq]; exact hb0
  have hin := (And.left h_2).2
  have hlt : j.toNatClampNeg < 4 := Nat.not_le.mp fun q => hin (Or.inr q)
  obtain ⟨hkN, hkI, hqt, href⟩ := ze_isQ_N hk
  have ha : (ze_w G σ)[k]? = some (G.2.1 k, .inl (G.2.2 (ze_qt k), 4, .inr (.inr (.inr (.inr (fun j => some (G.2.1 (ze_qb k + j)))))))) := by
    rw [ze_w_at G σ hkN]
    unfold ze_E
    rw [hkI, hk]
    rfl
  rw [← hbk] at h_2
  exact W.aald (v := .ref (G.2.1 (ze_qb k + j.toNatClampNeg))) (ty := ze_at (ze_qt k)) hx hb (hP k _ ha) ((hK.1.2 (ze_qt k) _ (ze_ty_at G hqt)).1 4 (fun j => va_rf (some (G.2.1 (ze_qb k + j))))) href (fun q => by cases q) (by show ¬ (j < 0 ∨ (arrV _ _ _).slots.size ≤ _); rw [arrV_size]; exact hin) (by show (arrV _ _ _).slots[_]? = _; rw [arrV_read _ _ hlt]; rfl) rfl rfl hd (And.right h_2 H locs ls hP hS hL)
theorem ze_cpyR {a r d : Nat} (h : a ≤ 8) (hr : 60 * (d + 2) ≤ r) : a + (nativeFrameWords "java/lang/System" "arraycopy" 5 + 11) ≤ r := by
  have e : nativeFrameWords "java/lang/System" "arraycopy" 5 = 7 := by decide +kernel
  rw [e]
  omega
theorem zs_cpy {x : Nat} (hw : Cond.methodLink i.1.cls x arraycopyName ∈ ze_ws i) (hw1 : Cond.native arraycopyName ∈ ze_ws i) (hw2 : Cond.static arraycopyName ∈ ze_ws i) (hw3 : Cond.initialized "java/lang/System" ∈ ze_ws i) (hd : decode i.2.1 pc = .ok (.invokestatic x, 3)) : ze_snd I Ex i pc zo_cpy := by
  intro M l d G R cs sl p e s m args below meth c Q Qc free hcx L st σ h H locs ls hP hS hL
  obtain ⟨hx, hb, hml, hown, hts, hK, hi, -, -, -, hR, -⟩ := hcx
  obtain ⟨n, r_1, rfl, h_1⟩ := ze_pi_pre (st := st) h
  obtain ⟨dp, r_2, rfl, h_2⟩ := ze_pi_pre (st := r_1) h_1
  obtain ⟨k1, r_3, rfl, h_3⟩ := ze_pr_pre (st := r_2) h_2
  obtain ⟨sp, r_4, rfl, h_4⟩ := ze_pi_pre (st := r_3) h_3
  obtain ⟨k0, r_5, rfl, h_5⟩ := ze_pr_pre (st := r_4) h_4
  obtain ⟨hr, hk0, hk1, h1, h2, h3, h4, h5⟩ := And.left h_5
  have hcat : ((r_5.map (ze_c G.2.1)).map fun v => v.category).sum ≤ 8 := by
    have : ((r_5.map (ze_c G.2.1)).map fun v => v.category) = r_5.map fun v => v.category := by
      rw [List.map_map]
      exact List.map_congr_left fun v _ => ze_c_cat _ v
    rw [this]
    exact hr
  refine va_copyi hx hb (by rw [hml]; exact hL.1.symm) hown (hts _ hw) (hts _ hw1) (hts _ hw2) (hts _ hw3) hK.1 hP (ze_w_D hi σ) hS k0 k1 0 0 (by rw [ze_w_at G σ (ze_isI_N hk0), ze_E_i G σ hk0]) (by rw [ze_w_at G σ (ze_isI_N hk1), ze_E_i G σ hk1]) (ze_ty_at G (by decide)) (ze_ty_at G (by decide)) rfl h1 h2 h3 h4 h5 (fun _ _ => rfl) (by omega) (ze_cpyR hcat hR.2.1) hd (fun H1 locs1 g1 g2 g3 => ?_)
  rw [ze_w_set (σ' := ze_uf σ k1 (va_cpy (σ.1 k0) (σ.1 k1) sp.toNatClampNeg dp.toNatClampNeg n.toNatClampNeg)) (ze_isI_N hk1) (by rw [ze_E_i G _ hk1]; show Sum.inl (_, _, Sum.inl (va_up σ.1 k1 _ k1)) = _; rw [ze_up_at]) (fun q hq => ⟨ze_up_ne _ _ hq, rfl⟩)] at g1
  exact And.right h_5 H1 locs1 ls g1 g3 hL
end ZeSnd2
