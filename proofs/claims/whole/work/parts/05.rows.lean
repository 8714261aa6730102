/-! a row an instruction -/
section ZeSnd
variable {I : Nat → ze_I} {Ex : ze_G → State → Prop} {i : ze_I} {pc : Nat}
theorem zs_iconst {n : Int} {v : Int32} (hd : decode i.2.1 pc = .ok (.iconst n, 1)) (hv : Int32.ofInt n = v) : ze_snd I Ex i pc (zo_k (.int v) 1) := by
  intro M l d G R cs sl p e s m args below meth c Q Qc free hc L st σ h H locs ls hP hS hL
  obtain ⟨hx, hb, -⟩ := hc
  exact lv_iconst hx hb hd hv (And.right h H locs ls hP hS hL)
theorem zs_bipush {n : Int} {v : Int32} (hd : decode i.2.1 pc = .ok (.bipush n, 2)) (hv : (Int8.ofInt n).toInt32 = v) : ze_snd I Ex i pc (zo_k (.int v) 2) := by
  intro M l d G R cs sl p e s m args below meth c Q Qc free hc L st σ h H locs ls hP hS hL
  obtain ⟨hx, hb, -⟩ := hc
  exact lv_bipush hx hb hd hv (And.right h H locs ls hP hS hL)
theorem zs_sipush {n : Int} {v : Int32} (hd : decode i.2.1 pc = .ok (.sipush n, 3)) (hv : (Int16.ofInt n).toInt32 = v) : ze_snd I Ex i pc (zo_k (.int v) 3) := by
  intro M l d G R cs sl p e s m args below meth c Q Qc free hc L st σ h H locs ls hP hS hL
  obtain ⟨hx, hb, -⟩ := hc
  exact lv_sipush hx hb hd hv (And.right h H locs ls hP hS hL)
theorem zs_lconst {n : Fin 2} {v : Int64} (hd : decode i.2.1 pc = .ok (.lconst n, 1)) (hv : Int64.ofNat (n : Nat) = v) : ze_snd I Ex i pc (zo_k (.long v) 1) := by
  intro M l d G R cs sl p e s m args below meth c Q Qc free hc L st σ h H locs ls hP hS hL
  obtain ⟨hx, hb, -⟩ := hc
  exact lv_lconst hx hb hd hv (And.right h H locs ls hP hS hL)
theorem zs_ldc {x : Nat} {v : Int32} (hw : Cond.constant i.1.cls x v ∈ ze_ws i) (hd : decode i.2.1 pc = .ok (.ldc x, 2)) : ze_snd I Ex i pc (zo_k (.int v) 2) := by
  intro M l d G R cs sl p e s m args below meth c Q Qc free hc L st σ h H locs ls hP hS hL
  obtain ⟨hx, hb, -, hown, hts, -⟩ := hc
  exact lv_ldc hx hb hown (hts _ hw) hd (And.right h H locs ls hP hS hL)
theorem zs_ldc2 {x : Nat} {v : Int64} (hw : Cond.constantLong i.1.cls x v ∈ ze_ws i) (hd : decode i.2.1 pc = .ok (.ldc2_w x, 3)) : ze_snd I Ex i pc (zo_k (.long v) 3) := by
  intro M l d G R cs sl p e s m args below meth c Q Qc free hc L st σ h H locs ls hP hS hL
  obtain ⟨hx, hb, -, hown, hts, -⟩ := hc
  exact lv_ldc2 hx hb hown (hts _ hw) hd (And.right h H locs ls hP hS hL)
theorem zs_iload_n {k : Fin 4} {x : Nat} (hd : decode i.2.1 pc = .ok (.iload_n k, 1)) (hk : (k : Nat) = x) : ze_snd I Ex i pc (zo_il x 1) := by
  intro M l d G R cs sl p e s m args below meth c Q Qc free hc L st σ h H locs ls hP hS hL
  obtain ⟨hx, hb, -⟩ := hc
  obtain ⟨v, e_, h_1⟩ := ze_wi_pre (o := ze_g L x) h
  exact lv_iload_n hx hb hd hk (hL.2.2 x _ e_) (And.right h_1 H locs ls hP hS hL)
theorem zs_iload {x : Nat} (hd : decode i.2.1 pc = .ok (.iload x, 2)) : ze_snd I Ex i pc (zo_il x 2) := by
  intro M l d G R cs sl p e s m args below meth c Q Qc free hc L st σ h H locs ls hP hS hL
  obtain ⟨hx, hb, -⟩ := hc
  obtain ⟨v, e_, h_1⟩ := ze_wi_pre (o := ze_g L x) h
  exact lv_iload hx hb hd (hL.2.2 x _ e_) (And.right h_1 H locs ls hP hS hL)
theorem zs_lload_n {k : Fin 4} {x : Nat} (hd : decode i.2.1 pc = .ok (.lload_n k, 1)) (hk : (k : Nat) = x) : ze_snd I Ex i pc (zo_ll x 1) := by
  intro M l d G R cs sl p e s m args below meth c Q Qc free hc L st σ h H locs ls hP hS hL
  obtain ⟨hx, hb, -⟩ := hc
  obtain ⟨v, e_, h_1⟩ := ze_wl_pre (o := ze_g L x) h
  exact lv_lload_n hx hb hd hk (hL.2.2 x _ e_) (And.right h_1 H locs ls hP hS hL)
theorem zs_lload {x : Nat} (hd : decode i.2.1 pc = .ok (.lload x, 2)) : ze_snd I Ex i pc (zo_ll x 2) := by
  intro M l d G R cs sl p e s m args below meth c Q Qc free hc L st σ h H locs ls hP hS hL
  obtain ⟨hx, hb, -⟩ := hc
  obtain ⟨v, e_, h_1⟩ := ze_wl_pre (o := ze_g L x) h
  exact lv_lload hx hb hd (hL.2.2 x _ e_) (And.right h_1 H locs ls hP hS hL)
theorem zs_aload_n {k : Fin 4} {x : Nat} (hd : decode i.2.1 pc = .ok (.aload_n k, 1)) (hk : (k : Nat) = x) : ze_snd I Ex i pc (zo_al x 1) := by
  intro M l d G R cs sl p e s m args below meth c Q Qc free hc L st σ h H locs ls hP hS hL
  obtain ⟨hx, hb, -⟩ := hc
  obtain ⟨v, e_, h_1⟩ := ze_wr_pre (o := ze_g L x) h
  exact lv_aload_n hx hb hd hk (hL.2.2 x _ e_) (And.right h_1 H locs ls hP hS hL)
theorem zs_aload {x : Nat} (hd : decode i.2.1 pc = .ok (.aload x, 2)) : ze_snd I Ex i pc (zo_al x 2) := by
  intro M l d G R cs sl p e s m args below meth c Q Qc free hc L st σ h H locs ls hP hS hL
  obtain ⟨hx, hb, -⟩ := hc
  obtain ⟨v, e_, h_1⟩ := ze_wr_pre (o := ze_g L x) h
  exact lv_aload hx hb hd (hL.2.2 x _ e_) (And.right h_1 H locs ls hP hS hL)
theorem zs_istore_n {k : Fin 4} {x : Nat} (hd : decode i.2.1 pc = .ok (.istore_n k, 1)) (hk : (k : Nat) = x) (hn : x < i.2.2.1) : ze_snd I Ex i pc (zo_is x 1) := by
  intro M l d G R cs sl p e s m args below meth c Q Qc free hc L st σ h H locs ls hP hS hL
  obtain ⟨hx, hb, -⟩ := hc
  obtain ⟨v, r_1, rfl, h_1⟩ := ze_pi_pre (st := st) h
  exact lv_istore_n hx hb hd hk (ze_lo_has hL) hn rfl (fun ls' hl' => And.right h_1 H locs ls' hP hS (ze_lo_1 (v := .int v) hl'))
theorem zs_istore {x : Nat} (hd : decode i.2.1 pc = .ok (.istore x, 2)) (hn : x < i.2.2.1) : ze_snd I Ex i pc (zo_is x 2) := by
  intro M l d G R cs sl p e s m args below meth c Q Qc free hc L st σ h H locs ls hP hS hL
  obtain ⟨hx, hb, -⟩ := hc
  obtain ⟨v, r_1, rfl, h_1⟩ := ze_pi_pre (st := st) h
  exact lv_istore hx hb hd (ze_lo_has hL) hn rfl (fun ls' hl' => And.right h_1 H locs ls' hP hS (ze_lo_1 (v := .int v) hl'))
theorem zs_lstore_n {k : Fin 4} {x : Nat} (hd : decode i.2.1 pc = .ok (.lstore_n k, 1)) (hk : (k : Nat) = x) (hn : x + 1 < i.2.2.1) : ze_snd I Ex i pc (zo_ls x 1) := by
  intro M l d G R cs sl p e s m args below meth c Q Qc free hc L st σ h H locs ls hP hS hL
  obtain ⟨hx, hb, -⟩ := hc
  obtain ⟨v, r_1, rfl, h_1⟩ := ze_pl_pre (st := st) h
  exact lv_lstore_n hx hb hd hk (ze_lo_has hL) hn rfl (fun ls' hl' => And.right h_1 H locs ls' hP hS (ze_lo_2 (v := .long v) hl'))
theorem zs_lstore {x : Nat} (hd : decode i.2.1 pc = .ok (.lstore x, 2)) (hn : x + 1 < i.2.2.1) : ze_snd I Ex i pc (zo_ls x 2) := by
  intro M l d G R cs sl p e s m args below meth c Q Qc free hc L st σ h H locs ls hP hS hL
  obtain ⟨hx, hb, -⟩ := hc
  obtain ⟨v, r_1, rfl, h_1⟩ := ze_pl_pre (st := st) h
  exact lv_lstore hx hb hd (ze_lo_has hL) hn rfl (fun ls' hl' => And.right h_1 H locs ls' hP hS (ze_lo_2 (v := .long v) hl'))
theorem zs_astore_n {k : Fin 4} {x : Nat} (hd : decode i.2.1 pc = .ok (.astore_n k, 1)) (hk : (k : Nat) = x) (hn : x < i.2.2.1) : ze_snd I Ex i pc (zo_as x 1) := by
  intro M l d G R cs sl p e s m args below meth c Q Qc free hc L st σ h H locs ls hP hS hL
  obtain ⟨hx, hb, -⟩ := hc
  obtain ⟨v, r_1, rfl, h_1⟩ := ze_pr_pre (st := st) h
  exact lv_astore_n hx hb hd hk (ze_lo_has hL) hn rfl (fun ls' hl' => And.right h_1 H locs ls' hP hS (ze_lo_1 (v := .ref v) hl'))
theorem zs_astore {x : Nat} (hd : decode i.2.1 pc = .ok (.astore x, 2)) (hn : x < i.2.2.1) : ze_snd I Ex i pc (zo_as x 2) := by
  intro M l d G R cs sl p e s m args below meth c Q Qc free hc L st σ h H locs ls hP hS hL
  obtain ⟨hx, hb, -⟩ := hc
  obtain ⟨v, r_1, rfl, h_1⟩ := ze_pr_pre (st := st) h
  exact lv_astore hx hb hd (ze_lo_has hL) hn rfl (fun ls' hl' => And.right h_1 H locs ls' hP hS (ze_lo_1 (v := .ref v) hl'))
theorem zs_iinc {x : Nat} {n : Int} {v : Int32} (hd : decode i.2.1 pc = .ok (.iinc x n, 3)) (hv : Int32.ofInt n = v) (hn : x < i.2.2.1) : ze_snd I Ex i pc (zo_inc x v) := by
  intro M l d G R cs sl p e s m args below meth c Q Qc free hc L st σ h H locs ls hP hS hL
  obtain ⟨hx, hb, -⟩ := hc
  obtain ⟨y, e_, h_1⟩ := ze_wi_pre (o := ze_g L x) h
  subst hv
  have hm := ze_al_in (ad := G.2.1) e_
  obtain ⟨k, hk⟩ := List.getElem?_of_mem hm
  exact lv_iinc hx hb hd (ze_lo_has hL) (k := k) hk rfl hn rfl (fun ls' hl' => And.right h_1 H locs ls' hP hS (ze_lo_1 (v := .int (y + Int32.ofInt n)) hl'))
theorem zs_iadd (hd : decode i.2.1 pc = .ok (.iadd, 1)) : ze_snd I Ex i pc (zo_iadd) := by
  intro M l d G R cs sl p e s m args below meth c Q Qc free hc L st σ h H locs ls hP hS hL
  obtain ⟨hx, hb, -⟩ := hc
  obtain ⟨y, r_1, rfl, h_1⟩ := ze_pi_pre (st := st) h
  obtain ⟨x, r_2, rfl, h_2⟩ := ze_pi_pre (st := r_1) h_1
  exact lv_iadd hx hb hd (And.right h_2 H locs ls hP hS hL)
theorem zs_isub (hd : decode i.2.1 pc = .ok (.isub, 1)) : ze_snd I Ex i pc (zo_isub) := by
  intro M l d G R cs sl p e s m args below meth c Q Qc free hc L st σ h H locs ls hP hS hL
  obtain ⟨hx, hb, -⟩ := hc
  obtain ⟨y, r_1, rfl, h_1⟩ := ze_pi_pre (st := st) h
  obtain ⟨x, r_2, rfl, h_2⟩ := ze_pi_pre (st := r_1) h_1
  exact lv_isub hx hb hd (And.right h_2 H locs ls hP hS hL)
theorem zs_imul (hd : decode i.2.1 pc = .ok (.imul, 1)) : ze_snd I Ex i pc (zo_imul) := by
  intro M l d G R cs sl p e s m args below meth c Q Qc free hc L st σ h H locs ls hP hS hL
  obtain ⟨hx, hb, -⟩ := hc
  obtain ⟨y, r_1, rfl, h_1⟩ := ze_pi_pre (st := st) h
  obtain ⟨x, r_2, rfl, h_2⟩ := ze_pi_pre (st := r_1) h_1
  exact lv_imul hx hb hd (And.right h_2 H locs ls hP hS hL)
theorem zs_iand (hd : decode i.2.1 pc = .ok (.iand, 1)) : ze_snd I Ex i pc (zo_iand) := by
  intro M l d G R cs sl p e s m args below meth c Q Qc free hc L st σ h H locs ls hP hS hL
  obtain ⟨hx, hb, -⟩ := hc
  obtain ⟨y, r_1, rfl, h_1⟩ := ze_pi_pre (st := st) h
  obtain ⟨x, r_2, rfl, h_2⟩ := ze_pi_pre (st := r_1) h_1
  exact lv_iand hx hb hd (And.right h_2 H locs ls hP hS hL)
theorem zs_ior (hd : decode i.2.1 pc = .ok (.ior, 1)) : ze_snd I Ex i pc (zo_ior) := by
  intro M l d G R cs sl p e s m args below meth c Q Qc free hc L st σ h H locs ls hP hS hL
  obtain ⟨hx, hb, -⟩ := hc
  obtain ⟨y, r_1, rfl, h_1⟩ := ze_pi_pre (st := st) h
  obtain ⟨x, r_2, rfl, h_2⟩ := ze_pi_pre (st := r_1) h_1
  exact lv_ior hx hb hd (And.right h_2 H locs ls hP hS hL)
theorem zs_ishl (hd : decode i.2.1 pc = .ok (.ishl, 1)) : ze_snd I Ex i pc (zo_ishl) := by
  intro M l d G R cs sl p e s m args below meth c Q Qc free hc L st σ h H locs ls hP hS hL
  obtain ⟨hx, hb, -⟩ := hc
  obtain ⟨y, r_1, rfl, h_1⟩ := ze_pi_pre (st := st) h
  obtain ⟨x, r_2, rfl, h_2⟩ := ze_pi_pre (st := r_1) h_1
  exact lv_ishl hx hb hd (And.right h_2 H locs ls hP hS hL)
theorem zs_ishr (hd : decode i.2.1 pc = .ok (.ishr, 1)) : ze_snd I Ex i pc (zo_ishr) := by
  intro M l d G R cs sl p e s m args below meth c Q Qc free hc L st σ h H locs ls hP hS hL
  obtain ⟨hx, hb, -⟩ := hc
  obtain ⟨y, r_1, rfl, h_1⟩ := ze_pi_pre (st := st) h
  obtain ⟨x, r_2, rfl, h_2⟩ := ze_pi_pre (st := r_1) h_1
  exact lv_ishr hx hb hd (And.right h_2 H locs ls hP hS hL)
theorem zs_idiv (hd : decode i.2.1 pc = .ok (.idiv, 1)) : ze_snd I Ex i pc (zo_idiv) := by
  intro M l d G R cs sl p e s m args below meth c Q Qc free hc L st σ h H locs ls hP hS hL
  obtain ⟨hx, hb, -⟩ := hc
  obtain ⟨y, r_1, rfl, h_1⟩ := ze_pi_pre (st := st) h
  obtain ⟨x, r_2, rfl, h_2⟩ := ze_pi_pre (st := r_1) h_1
  exact lv_idiv hx hb hd (And.left h_2) (And.right h_2 H locs ls hP hS hL)
theorem zs_i2l (hd : decode i.2.1 pc = .ok (.i2l, 1)) : ze_snd I Ex i pc (zo_i2l) := by
  intro M l d G R cs sl p e s m args below meth c Q Qc free hc L st σ h H locs ls hP hS hL
  obtain ⟨hx, hb, -⟩ := hc
  obtain ⟨x, r_1, rfl, h_1⟩ := ze_pi_pre (st := st) h
  exact lv_i2l hx hb hd rfl (And.right h_1 H locs ls hP hS hL)
theorem zs_ladd (hd : decode i.2.1 pc = .ok (.ladd, 1)) : ze_snd I Ex i pc (zo_ladd) := by
  intro M l d G R cs sl p e s m args below meth c Q Qc free hc L st σ h H locs ls hP hS hL
  obtain ⟨hx, hb, -⟩ := hc
  obtain ⟨y, r_1, rfl, h_1⟩ := ze_pl_pre (st := st) h
  obtain ⟨x, r_2, rfl, h_2⟩ := ze_pl_pre (st := r_1) h_1
  exact lv_ladd hx hb hd (And.right h_2 H locs ls hP hS hL)
theorem zs_lsub (hd : decode i.2.1 pc = .ok (.lsub, 1)) : ze_snd I Ex i pc (zo_lsub) := by
  intro M l d G R cs sl p e s m args below meth c Q Qc free hc L st σ h H locs ls hP hS hL
  obtain ⟨hx, hb, -⟩ := hc
  obtain ⟨y, r_1, rfl, h_1⟩ := ze_pl_pre (st := st) h
  obtain ⟨x, r_2, rfl, h_2⟩ := ze_pl_pre (st := r_1) h_1
  exact lv_lsub hx hb hd (And.right h_2 H locs ls hP hS hL)
theorem zs_lmul (hd : decode i.2.1 pc = .ok (.lmul, 1)) : ze_snd I Ex i pc (zo_lmul) := by
  intro M l d G R cs sl p e s m args below meth c Q Qc free hc L st σ h H locs ls hP hS hL
  obtain ⟨hx, hb, -⟩ := hc
  obtain ⟨y, r_1, rfl, h_1⟩ := ze_pl_pre (st := st) h
  obtain ⟨x, r_2, rfl, h_2⟩ := ze_pl_pre (st := r_1) h_1
  exact lv_lmul hx hb hd (And.right h_2 H locs ls hP hS hL)
theorem zs_lcmp (hd : decode i.2.1 pc = .ok (.lcmp, 1)) : ze_snd I Ex i pc (zo_lcmp) := by
  intro M l d G R cs sl p e s m args below meth c Q Qc free hc L st σ h H locs ls hP hS hL
  obtain ⟨hx, hb, -⟩ := hc
  obtain ⟨y, r_1, rfl, h_1⟩ := ze_pl_pre (st := st) h
  obtain ⟨x, r_2, rfl, h_2⟩ := ze_pl_pre (st := r_1) h_1
  exact W.lcmp hx hb hd (And.right h_2 H locs ls hP hS hL)
theorem zs_dup (hd : decode i.2.1 pc = .ok (.dup, 1)) : ze_snd I Ex i pc (zo_dup) := by
  intro M l d G R cs sl p e s m args below meth c Q Qc free hc L st σ h H locs ls hP hS hL
  obtain ⟨hx, hb, -⟩ := hc
  obtain ⟨v, r_1, rfl, h_1⟩ := ze_pv_pre (st := st) h
  exact lv_dup hx hb hd (by rw [ze_c_cat]; exact And.left h_1) (And.right h_1 H locs ls hP hS hL)
theorem zs_pop (hd : decode i.2.1 pc = .ok (.pop, 1)) : ze_snd I Ex i pc (zo_pop) := by
  intro M l d G R cs sl p e s m args below meth c Q Qc free hc L st σ h H locs ls hP hS hL
  obtain ⟨hx, hb, -⟩ := hc
  obtain ⟨v, r_1, rfl, h_1⟩ := ze_pv_pre (st := st) h
  exact lv_pop hx hb hd (by rw [ze_c_cat]; exact And.left h_1) (And.right h_1 H locs ls hP hS hL)
theorem zs_dupx1 (hd : decode i.2.1 pc = .ok (.dup_x1, 1)) : ze_snd I Ex i pc (zo_dupx1) := by
  intro M l d G R cs sl p e s m args below meth c Q Qc free hc L st σ h H locs ls hP hS hL
  obtain ⟨hx, hb, -⟩ := hc
  obtain ⟨v, r_1, rfl, h_1⟩ := ze_pv_pre (st := st) h
  obtain ⟨w, r_2, rfl, h_2⟩ := ze_pv_pre (st := r_1) h_1
  exact lv_dup_x1 hx hb hd (by rw [ze_c_cat]; exact (And.left h_2).1) (by rw [ze_c_cat]; exact (And.left h_2).2) (And.right h_2 H locs ls hP hS hL)
theorem zs_dup2 (hd : decode i.2.1 pc = .ok (.dup2, 1)) : ze_snd I Ex i pc (zo_dup2) := by
  intro M l d G R cs sl p e s m args below meth c Q Qc free hc L st σ h H locs ls hP hS hL
  obtain ⟨hx, hb, -⟩ := hc
  obtain ⟨v, r_1, rfl, h_1⟩ := ze_pv_pre (st := st) h
  obtain ⟨w, r_2, rfl, h_2⟩ := ze_pv_pre (st := r_1) h_1
  exact lv_dup2_11 hx hb hd (by rw [ze_c_cat]; exact (And.left h_2).1) (by rw [ze_c_cat]; exact (And.left h_2).2) (And.right h_2 H locs ls hP hS hL)
theorem zs_dupx2 (hd : decode i.2.1 pc = .ok (.dup_x2, 1)) : ze_snd I Ex i pc (zo_dupx2) := by
  intro M l d G R cs sl p e s m args below meth c Q Qc free hc L st σ h H locs ls hP hS hL
  obtain ⟨hx, hb, -⟩ := hc
  obtain ⟨v, r_1, rfl, h_1⟩ := ze_pv_pre (st := st) h
  obtain ⟨w, r_2, rfl, h_2⟩ := ze_pv_pre (st := r_1) h_1
  obtain ⟨u, r_3, rfl, h_3⟩ := ze_pv_pre (st := r_2) h_2
  exact lv_dup_x2 hx hb hd (by rw [ze_c_cat]; exact (And.left h_3).1) (by rw [ze_c_cat]; exact (And.left h_3).2.1) (by rw [ze_c_cat]; exact (And.left h_3).2.2) (And.right h_3 H locs ls hP hS hL)
theorem zs_goto {off : Int} {t : Nat} (hd : decode i.2.1 pc = .ok (.goto off, 3)) (ht : (pc : Int) + off = (t : Int)) : ze_snd I Ex i pc (zo_goto t) := by
  intro M l d G R cs sl p e s m args below meth c Q Qc free hc L st σ h H locs ls hP hS hL
  obtain ⟨hx, hb, -⟩ := hc
  exact lv_goto hx hb hd ht (And.right h H locs ls hP hS hL)
theorem zs_ifeq {off : Int} {t : Nat} (hd : decode i.2.1 pc = .ok (.ifCond .eq off, 3)) (ht : (pc : Int) + off = (t : Int)) : ze_snd I Ex i pc (zo_ifeq t) := by
  intro M l d G R cs sl p e s m args below meth c Q Qc free hc L st σ h H locs ls hP hS hL
  obtain ⟨hx, hb, -⟩ := hc
  obtain ⟨x, r_1, rfl, h_1⟩ := ze_pi_pre (st := st) h
  exact lv_if_eq hx hb hd ht (fun q => And.left h_1 q H locs ls hP hS hL) (fun q => And.right h_1 q H locs ls hP hS hL)
theorem zs_ceq {off : Int} {t : Nat} (hd : decode i.2.1 pc = .ok (.if_icmp .eq off, 3)) (ht : (pc : Int) + off = (t : Int)) : ze_snd I Ex i pc (zo_ceq t) := by
  intro M l d G R cs sl p e s m args below meth c Q Qc free hc L st σ h H locs ls hP hS hL
  obtain ⟨hx, hb, -⟩ := hc
  obtain ⟨y, r_1, rfl, h_1⟩ := ze_pi_pre (st := st) h
  obtain ⟨x, r_2, rfl, h_2⟩ := ze_pi_pre (st := r_1) h_1
  exact lv_icmp_eq hx hb hd ht (fun q => And.left h_2 q H locs ls hP hS hL) (fun q => And.right h_2 q H locs ls hP hS hL)
theorem zs_ifne {off : Int} {t : Nat} (hd : decode i.2.1 pc = .ok (.ifCond .ne off, 3)) (ht : (pc : Int) + off = (t : Int)) : ze_snd I Ex i pc (zo_ifne t) := by
  intro M l d G R cs sl p e s m args below meth c Q Qc free hc L st σ h H locs ls hP hS hL
  obtain ⟨hx, hb, -⟩ := hc
  obtain ⟨x, r_1, rfl, h_1⟩ := ze_pi_pre (st := st) h
  exact lv_if_ne hx hb hd ht (fun q => And.left h_1 q H locs ls hP hS hL) (fun q => And.right h_1 (fun z => z q) H locs ls hP hS hL)
theorem zs_cne {off : Int} {t : Nat} (hd : decode i.2.1 pc = .ok (.if_icmp .ne off, 3)) (ht : (pc : Int) + off = (t : Int)) : ze_snd I Ex i pc (zo_cne t) := by
  intro M l d G R cs sl p e s m args below meth c Q Qc free hc L st σ h H locs ls hP hS hL
  obtain ⟨hx, hb, -⟩ := hc
  obtain ⟨y, r_1, rfl, h_1⟩ := ze_pi_pre (st := st) h
  obtain ⟨x, r_2, rfl, h_2⟩ := ze_pi_pre (st := r_1) h_1
  exact lv_icmp_ne hx hb hd ht (fun q => And.left h_2 q H locs ls hP hS hL) (fun q => And.right h_2 (fun z => z q) H locs ls hP hS hL)
theorem zs_iflt {off : Int} {t : Nat} (hd : decode i.2.1 pc = .ok (.ifCond .lt off, 3)) (ht : (pc : Int) + off = (t : Int)) : ze_snd I Ex i pc (zo_iflt t) := by
  intro M l d G R cs sl p e s m args below meth c Q Qc free hc L st σ h H locs ls hP hS hL
  obtain ⟨hx, hb, -⟩ := hc
  obtain ⟨x, r_1, rfl, h_1⟩ := ze_pi_pre (st := st) h
  exact lv_if_lt hx hb hd ht (fun q => And.left h_1 q H locs ls hP hS hL) (fun q => And.right h_1 q H locs ls hP hS hL)
theorem zs_clt {off : Int} {t : Nat} (hd : decode i.2.1 pc = .ok (.if_icmp .lt off, 3)) (ht : (pc : Int) + off = (t : Int)) : ze_snd I Ex i pc (zo_clt t) := by
  intro M l d G R cs sl p e s m args below meth c Q Qc free hc L st σ h H locs ls hP hS hL
  obtain ⟨hx, hb, -⟩ := hc
  obtain ⟨y, r_1, rfl, h_1⟩ := ze_pi_pre (st := st) h
  obtain ⟨x, r_2, rfl, h_2⟩ := ze_pi_pre (st := r_1) h_1
  exact lv_icmp_lt hx hb hd ht (fun q => And.left h_2 q H locs ls hP hS hL) (fun q => And.right h_2 q H locs ls hP hS hL)
theorem zs_ifge {off : Int} {t : Nat} (hd : decode i.2.1 pc = .ok (.ifCond .ge off, 3)) (ht : (pc : Int) + off = (t : Int)) : ze_snd I Ex i pc (zo_ifge t) := by
  intro M l d G R cs sl p e s m args below meth c Q Qc free hc L st σ h H locs ls hP hS hL
  obtain ⟨hx, hb, -⟩ := hc
  obtain ⟨x, r_1, rfl, h_1⟩ := ze_pi_pre (st := st) h
  exact lv_if_ge hx hb hd ht (fun q => And.left h_1 q H locs ls hP hS hL) (fun q => And.right h_1 q H locs ls hP hS hL)
theorem zs_cge {off : Int} {t : Nat} (hd : decode i.2.1 pc = .ok (.if_icmp .ge off, 3)) (ht : (pc : Int) + off = (t : Int)) : ze_snd I Ex i pc (zo_cge t) := by
  intro M l d G R cs sl p e s m args below meth c Q Qc free hc L st σ h H locs ls hP hS hL
  obtain ⟨hx, hb, -⟩ := hc
  obtain ⟨y, r_1, rfl, h_1⟩ := ze_pi_pre (st := st) h
  obtain ⟨x, r_2, rfl, h_2⟩ := ze_pi_pre (st := r_1) h_1
  exact lv_icmp_ge hx hb hd ht (fun q => And.left h_2 q H locs ls hP hS hL) (fun q => And.right h_2 q H locs ls hP hS hL)
theorem zs_ifgt {off : Int} {t : Nat} (hd : decode i.2.1 pc = .ok (.ifCond .gt off, 3)) (ht : (pc : Int) + off = (t : Int)) : ze_snd I Ex i pc (zo_ifgt t) := by
  intro M l d G R cs sl p e s m args below meth c Q Qc free hc L st σ h H locs ls hP hS hL
  obtain ⟨hx, hb, -⟩ := hc
  obtain ⟨x, r_1, rfl, h_1⟩ := ze_pi_pre (st := st) h
  exact lv_if_gt hx hb hd ht (fun q => And.left h_1 q H locs ls hP hS hL) (fun q => And.right h_1 q H locs ls hP hS hL)
theorem zs_cgt {off : Int} {t : Nat} (hd : decode i.2.1 pc = .ok (.if_icmp .gt off, 3)) (ht : (pc : Int) + off = (t : Int)) : ze_snd I Ex i pc (zo_cgt t) := by
  intro M l d G R cs sl p e s m args below meth c Q Qc free hc L st σ h H locs ls hP hS hL
  obtain ⟨hx, hb, -⟩ := hc
  obtain ⟨y, r_1, rfl, h_1⟩ := ze_pi_pre (st := st) h
  obtain ⟨x, r_2, rfl, h_2⟩ := ze_pi_pre (st := r_1) h_1
  exact lv_icmp_gt hx hb hd ht (fun q => And.left h_2 q H locs ls hP hS hL) (fun q => And.right h_2 q H locs ls hP hS hL)
theorem zs_ifle {off : Int} {t : Nat} (hd : decode i.2.1 pc = .ok (.ifCond .le off, 3)) (ht : (pc : Int) + off = (t : Int)) : ze_snd I Ex i pc (zo_ifle t) := by
  intro M l d G R cs sl p e s m args below meth c Q Qc free hc L st σ h H locs ls hP hS hL
  obtain ⟨hx, hb, -⟩ := hc
  obtain ⟨x, r_1, rfl, h_1⟩ := ze_pi_pre (st := st) h
  exact lv_if_le hx hb hd ht (fun q => And.left h_1 q H locs ls hP hS hL) (fun q => And.right h_1 q H locs ls hP hS hL)
theorem zs_cle {off : Int} {t : Nat} (hd : decode i.2.1 pc = .ok (.if_icmp .le off, 3)) (ht : (pc : Int) + off = (t : Int)) : ze_snd I Ex i pc (zo_cle t) := by
  intro M l d G R cs sl p e s m args below meth c Q Qc free hc L st σ h H locs ls hP hS hL
  obtain ⟨hx, hb, -⟩ := hc
  obtain ⟨y, r_1, rfl, h_1⟩ := ze_pi_pre (st := st) h
  obtain ⟨x, r_2, rfl, h_2⟩ := ze_pi_pre (st := r_1) h_1
  exact lv_icmp_le hx hb hd ht (fun q => And.left h_2 q H locs ls hP hS hL) (fun q => And.right h_2 q H locs ls hP hS hL)
end ZeSnd
