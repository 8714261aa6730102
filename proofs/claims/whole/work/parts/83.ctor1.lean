theorem zc_Fi_init : Cond.code ⟨"CaseTree$Finding", "<init>", "()V"⟩ prog_3_method_1_code 1 none ∈ zb := zb_in 235 (by decide +kernel) (by decide +kernel)
theorem zw_ml_Fi_3 : Cond.methodLink "CaseTree$Finding" 3 ⟨"java/lang/Object", "<init>", "()V"⟩ ∈ zb := zb_in 236 (by decide +kernel) (by decide +kernel)
theorem zw_im_O : Cond.instanceMethod ⟨"java/lang/Object", "<init>", "()V"⟩ ∈ zb := zb_in 63 (by decide +kernel) (by decide +kernel)
theorem zw_c_O : Cond.code ⟨"java/lang/Object", "<init>", "()V"⟩ object_method_1_code 1 none ∈ zb := zb_in 64 (by decide +kernel) (by decide +kernel)
theorem zf_Fi_15 : Cond.fieldLink "CaseTree$Finding" 15 "CaseTree$Finding" "threshold" "I" ∈ zb := zb_in 241 (by decide +kernel) (by decide +kernel)
theorem zc_Fo_init : Cond.code ⟨"CaseTree$Fork", "<init>", "()V"⟩ prog_4_method_1_code 1 none ∈ zb := zb_in 174 (by decide +kernel) (by decide +kernel)
theorem zw_ml_Fo_3 : Cond.methodLink "CaseTree$Fork" 3 ⟨"java/lang/Object", "<init>", "()V"⟩ ∈ zb := zb_in 175 (by decide +kernel) (by decide +kernel)
theorem zw_arrI : Cond.arrayClass FieldType.int ∈ zb := zb_in 97 (by decide +kernel) (by decide +kernel)
theorem zc_Cs_init : Cond.code ⟨"CaseTree$Cases", "<init>", "()V"⟩ prog_2_method_1_code 1 none ∈ zb := zb_in 69 (by decide +kernel) (by decide +kernel)
theorem zw_ml_Cs_3 : Cond.methodLink "CaseTree$Cases" 3 ⟨"java/lang/Object", "<init>", "()V"⟩ ∈ zb := zb_in 70 (by decide +kernel) (by decide +kernel)
theorem zc_Tr_init : Cond.code ⟨"CaseTree$Tree", "<init>", "()V"⟩ prog_10_method_1_code 1 none ∈ zb := zb_in 102 (by decide +kernel) (by decide +kernel)
theorem zw_ml_Tr_3 : Cond.methodLink "CaseTree$Tree" 3 ⟨"java/lang/Object", "<init>", "()V"⟩ ∈ zb := zb_in 103 (by decide +kernel) (by decide +kernel)
theorem zf_Tr_46 : Cond.fieldLink "CaseTree$Tree" 46 "CaseTree$Tree" "count" "I" ∈ zb := zb_in 133 (by decide +kernel) (by decide +kernel)
theorem zc_Gr_init : Cond.code ⟨"CaseTree$Grower", "<init>", "(LCaseTree$Cases;LCaseTree$Tree;LCaseTree$Path;LCaseTree$Tester;)V"⟩ prog_5_method_1_code 5 none ∈ zb := zb_in 282 (by decide +kernel) (by decide +kernel)
theorem zw_ml_Gr_3 : Cond.methodLink "CaseTree$Grower" 3 ⟨"java/lang/Object", "<init>", "()V"⟩ ∈ zb := zb_in 283 (by decide +kernel) (by decide +kernel)
theorem zc_Pr_init : Cond.code ⟨"CaseTree$Pruner", "<init>", "(LCaseTree$Tree;LCaseTree$Path;)V"⟩ prog_8_method_1_code 3 none ∈ zb := zb_in 304 (by decide +kernel) (by decide +kernel)
theorem zw_ml_Pr_3 : Cond.methodLink "CaseTree$Pruner" 3 ⟨"java/lang/Object", "<init>", "()V"⟩ ∈ zb := zb_in 305 (by decide +kernel) (by decide +kernel)
theorem zc_Ju_init : Cond.code ⟨"CaseTree$Judge", "<init>", "(LCaseTree$Tree;LCaseTree$Path;)V"⟩ prog_6_method_1_code 3 none ∈ zb := zb_in 320 (by decide +kernel) (by decide +kernel)
theorem zw_ml_Ju_3 : Cond.methodLink "CaseTree$Judge" 3 ⟨"java/lang/Object", "<init>", "()V"⟩ ∈ zb := zb_in 321 (by decide +kernel) (by decide +kernel)
theorem zc_Pa_init : Cond.code ⟨"CaseTree$Path", "<init>", "(LCaseTree$Cases;)V"⟩ prog_7_method_1_code 3 none ∈ zb := zb_in 165 (by decide +kernel) (by decide +kernel)
theorem zw_ml_Pa_3 : Cond.methodLink "CaseTree$Path" 3 ⟨"java/lang/Object", "<init>", "()V"⟩ ∈ zb := zb_in 166 (by decide +kernel) (by decide +kernel)
theorem zw_cl_Pa_9 : Cond.classLink "CaseTree$Path" 9 "[[I" ∈ zb := zb_in 167 (by decide +kernel) (by decide +kernel)
theorem zw_cl_Pa_16 : Cond.classLink "CaseTree$Path" 16 "CaseTree$Fork" ∈ zb := zb_in 169 (by decide +kernel) (by decide +kernel)
theorem zw_in_Fo : Cond.instantiable "CaseTree$Fork" 6 ∈ zb := zb_in 171 (by decide +kernel) (by decide +kernel)
theorem zim_Fo_init : Cond.instanceMethod ⟨"CaseTree$Fork", "<init>", "()V"⟩ ∈ zb := zb_in 173 (by decide +kernel) (by decide +kernel)
theorem zc_Te_init : Cond.code ⟨"CaseTree$Tester", "<init>", "(LCaseTree$Cases;)V"⟩ prog_9_method_1_code 3 none ∈ zb := zb_in 228 (by decide +kernel) (by decide +kernel)
theorem zw_ml_Te_3 : Cond.methodLink "CaseTree$Tester" 3 ⟨"java/lang/Object", "<init>", "()V"⟩ ∈ zb := zb_in 229 (by decide +kernel) (by decide +kernel)
theorem zw_cl_Te_9 : Cond.classLink "CaseTree$Tester" 9 "CaseTree$Finding" ∈ zb := zb_in 230 (by decide +kernel) (by decide +kernel)
theorem zw_in_Fi : Cond.instantiable "CaseTree$Finding" 4 ∈ zb := zb_in 232 (by decide +kernel) (by decide +kernel)
theorem zim_Fi_init : Cond.instanceMethod ⟨"CaseTree$Finding", "<init>", "()V"⟩ ∈ zb := zb_in 234 (by decide +kernel) (by decide +kernel)
theorem zc_M_init : Cond.code ⟨"CaseTreeModel", "<init>", "()V"⟩ prog_12_method_1_code 1 none ∈ zb := zb_in 711 (by decide +kernel) (by decide +kernel)
theorem zw_ml_M_1 : Cond.methodLink "CaseTreeModel" 1 ⟨"java/lang/Object", "<init>", "()V"⟩ ∈ zb := zb_in 712 (by decide +kernel) (by decide +kernel)
theorem zc_C_init : Cond.code ⟨"CaseTree", "<init>", "()V"⟩ prog_1_method_1_code 1 none ∈ zb := zb_in 61 (by decide +kernel) (by decide +kernel)
theorem zw_ml_C_1 : Cond.methodLink "CaseTree" 1 ⟨"java/lang/Object", "<init>", "()V"⟩ ∈ zb := zb_in 62 (by decide +kernel) (by decide +kernel)
theorem zw_cl_C_7 : Cond.classLink "CaseTree" 7 "CaseTree$Cases" ∈ zb := zb_in 65 (by decide +kernel) (by decide +kernel)
theorem zw_in_Cs : Cond.instantiable "CaseTree$Cases" 5 ∈ zb := zb_in 66 (by decide +kernel) (by decide +kernel)
theorem zim_Cs_init : Cond.instanceMethod ⟨"CaseTree$Cases", "<init>", "()V"⟩ ∈ zb := zb_in 68 (by decide +kernel) (by decide +kernel)
theorem zw_cl_C_16 : Cond.classLink "CaseTree" 16 "CaseTree$Tree" ∈ zb := zb_in 98 (by decide +kernel) (by decide +kernel)
theorem zw_in_Tr : Cond.instantiable "CaseTree$Tree" 12 ∈ zb := zb_in 99 (by decide +kernel) (by decide +kernel)
theorem zim_Tr_init : Cond.instanceMethod ⟨"CaseTree$Tree", "<init>", "()V"⟩ ∈ zb := zb_in 101 (by decide +kernel) (by decide +kernel)
theorem zw_cl_C_23 : Cond.classLink "CaseTree" 23 "CaseTree$Path" ∈ zb := zb_in 161 (by decide +kernel) (by decide +kernel)
theorem zw_in_Pa : Cond.instantiable "CaseTree$Path" 4 ∈ zb := zb_in 162 (by decide +kernel) (by decide +kernel)
theorem zim_Pa_init : Cond.instanceMethod ⟨"CaseTree$Path", "<init>", "(LCaseTree$Cases;)V"⟩ ∈ zb := zb_in 164 (by decide +kernel) (by decide +kernel)
theorem zw_ml_C_25 : Cond.methodLink "CaseTree" 25 ⟨"CaseTree$Path", "<init>", "(LCaseTree$Cases;)V"⟩ ∈ zb := zb_in 163 (by decide +kernel) (by decide +kernel)
theorem zw_cl_C_32 : Cond.classLink "CaseTree" 32 "CaseTree$Tester" ∈ zb := zb_in 224 (by decide +kernel) (by decide +kernel)
theorem zw_in_Te : Cond.instantiable "CaseTree$Tester" 5 ∈ zb := zb_in 225 (by decide +kernel) (by decide +kernel)
theorem zim_Te_init : Cond.instanceMethod ⟨"CaseTree$Tester", "<init>", "(LCaseTree$Cases;)V"⟩ ∈ zb := zb_in 227 (by decide +kernel) (by decide +kernel)
theorem zw_ml_C_34 : Cond.methodLink "CaseTree" 34 ⟨"CaseTree$Tester", "<init>", "(LCaseTree$Cases;)V"⟩ ∈ zb := zb_in 226 (by decide +kernel) (by decide +kernel)
theorem zw_cl_C_39 : Cond.classLink "CaseTree" 39 "CaseTree$Grower" ∈ zb := zb_in 278 (by decide +kernel) (by decide +kernel)
theorem zw_in_Gr : Cond.instantiable "CaseTree$Grower" 5 ∈ zb := zb_in 279 (by decide +kernel) (by decide +kernel)
theorem zim_Gr_init : Cond.instanceMethod ⟨"CaseTree$Grower", "<init>", "(LCaseTree$Cases;LCaseTree$Tree;LCaseTree$Path;LCaseTree$Tester;)V"⟩ ∈ zb := zb_in 281 (by decide +kernel) (by decide +kernel)
theorem zw_ml_C_41 : Cond.methodLink "CaseTree" 41 ⟨"CaseTree$Grower", "<init>", "(LCaseTree$Cases;LCaseTree$Tree;LCaseTree$Path;LCaseTree$Tester;)V"⟩ ∈ zb := zb_in 280 (by decide +kernel) (by decide +kernel)
theorem zw_cl_C_48 : Cond.classLink "CaseTree" 48 "CaseTree$Pruner" ∈ zb := zb_in 300 (by decide +kernel) (by decide +kernel)
theorem zw_in_Pr : Cond.instantiable "CaseTree$Pruner" 3 ∈ zb := zb_in 301 (by decide +kernel) (by decide +kernel)
theorem zim_Pr_init : Cond.instanceMethod ⟨"CaseTree$Pruner", "<init>", "(LCaseTree$Tree;LCaseTree$Path;)V"⟩ ∈ zb := zb_in 303 (by decide +kernel) (by decide +kernel)
theorem zw_ml_C_50 : Cond.methodLink "CaseTree" 50 ⟨"CaseTree$Pruner", "<init>", "(LCaseTree$Tree;LCaseTree$Path;)V"⟩ ∈ zb := zb_in 302 (by decide +kernel) (by decide +kernel)
theorem zw_cl_C_57 : Cond.classLink "CaseTree" 57 "CaseTree$Judge" ∈ zb := zb_in 316 (by decide +kernel) (by decide +kernel)
theorem zw_in_Ju : Cond.instantiable "CaseTree$Judge" 3 ∈ zb := zb_in 317 (by decide +kernel) (by decide +kernel)
theorem zim_Ju_init : Cond.instanceMethod ⟨"CaseTree$Judge", "<init>", "(LCaseTree$Tree;LCaseTree$Path;)V"⟩ ∈ zb := zb_in 319 (by decide +kernel) (by decide +kernel)
theorem zw_ml_C_59 : Cond.methodLink "CaseTree" 59 ⟨"CaseTree$Judge", "<init>", "(LCaseTree$Tree;LCaseTree$Path;)V"⟩ ∈ zb := zb_in 318 (by decide +kernel) (by decide +kernel)
theorem zd_Fi_init_0 : decode prog_3_method_1_code 0 = .ok (.aload_n 0, 1) := by decide +kernel
theorem zd_Fi_init_1 : decode prog_3_method_1_code 1 = .ok (.invokespecial 3, 3) := by decide +kernel
theorem zd_Fi_init_4 : decode prog_3_method_1_code 4 = .ok (.aload_n 0, 1) := by decide +kernel
theorem zd_Fi_init_5 : decode prog_3_method_1_code 5 = .ok (.iconst 0, 1) := by decide +kernel
theorem zd_Fi_init_6 : decode prog_3_method_1_code 6 = .ok (.putfield 9, 3) := by decide +kernel
theorem zd_Fi_init_9 : decode prog_3_method_1_code 9 = .ok (.aload_n 0, 1) := by decide +kernel
theorem zd_Fi_init_10 : decode prog_3_method_1_code 10 = .ok (.iconst (-1), 1) := by decide +kernel
theorem zd_Fi_init_11 : decode prog_3_method_1_code 11 = .ok (.putfield 15, 3) := by decide +kernel
theorem zd_Fi_init_14 : decode prog_3_method_1_code 14 = .ok (.aload_n 0, 1) := by decide +kernel
theorem zd_Fi_init_15 : decode prog_3_method_1_code 15 = .ok (.lconst 0, 1) := by decide +kernel
theorem zd_Fi_init_16 : decode prog_3_method_1_code 16 = .ok (.putfield 19, 3) := by decide +kernel
theorem zd_Fi_init_19 : decode prog_3_method_1_code 19 = .ok (.aload_n 0, 1) := by decide +kernel
theorem zd_Fi_init_20 : decode prog_3_method_1_code 20 = .ok (.lconst 0, 1) := by decide +kernel
theorem zd_Fi_init_21 : decode prog_3_method_1_code 21 = .ok (.putfield 23, 3) := by decide +kernel
theorem zd_Fi_init_24 : decode prog_3_method_1_code 24 = .ok (.return_, 1) := by decide +kernel
abbrev wc_Fi (ac : Nat → ClassId) (a : Nat) (u : Nat → Nat) : va_W := [(a, .inr (2, [.int 0, .int (-1), .long 0, .long 0]))]
set_option maxHeartbeats 8000000 in
set_option maxRecDepth 100000 in
theorem k_Fi (l : Launch) (D : va_G) (ac : Nat → ClassId) (a : Nat) (sz : Nat) : Met l ⟨"CaseTree$Finding", "<init>", "()V"⟩ (Cond.code ⟨"CaseTree$Finding", "<init>", "()V"⟩ prog_3_method_1_code 1 none :: zb) ({ frames := 1, cells := 0, slots := 0, locals := 40 }) (va_Pc [.ref a] (zkB D ac sz [(a, .inr (2, [.int 0, .int 0, .long 0, .long 0]))])) (va_Qv (fun _ : Nat → Nat => True) (fun u t => zkE D (va_A [(a, .inr (2, [.int 0, .int 0, .long 0, .long 0]))] sz) (wc_Fi ac a u) t) (va_A [(a, .inr (2, [.int 0, .int 0, .long 0, .long 0]))] sz)) 0 0 (va_A [(a, .inr (2, [.int 0, .int 0, .long 0, .long 0]))] sz) := by
  refine Met.ofW (cc := prog_3_method_1_code) (maxL := 1) (ret := none) (by decide) rfl ?_
  intro p e s m args below meth c s₁ B hml hv
  obtain ⟨rfl, hsz, hP, hK, hD0⟩ := hv
  have hx := B.exec
  have hb := B.bytes
  have hr := B.returns
  have hts := atoms_spec (ws := (Cond.code ⟨"CaseTree$Finding", "<init>", "()V"⟩ prog_3_method_1_code 1 none :: zb)) B.pre
  have hown : s.vm.findClass "CaseTree$Finding" = some m.cls := findClass_of_methodNamed B.named
  have hlocks := B.notSynchronized
  have hin : meth.name = "<init>" := (name_of_methodNamed B.named B.method).1
  subst hsz
  have hD := hD0.self (sz := s.heap.size)
  generalize hAe : va_A [(a, .inr (2, [.int 0, .int 0, .long 0, .long 0]))] s.heap.size = A at hD ⊢
  have hA : ∀ q : Nat, s.heap.size ≤ q → A q := fun q h => by rw [← hAe]; exact Or.inr h
  have hS : va_S A s.heap s.heap [] := va_S.rf
  have hl := lv_entry ([.ref a]) (n := 1) (Nat.le_of_ble_eq_true rfl)
  rw [lg_entry_eq]
  generalize (lg_sl ([.ref a]) ++ List.replicate (1 - (lg_sl ([.ref a])).length) Slot.unset).toArray = ls at hl ⊢
  have hl : lv_has ls 1 [(0, .ref a)] := hl
  refine lv_aload_n hx hb zd_Fi_init_0 rfl (lv_at hl 0 rfl) ?_
  refine W.objInit hx hb hown (hts _ (List.mem_cons_of_mem _ zw_ml_Fi_3)) (hts _ (List.mem_cons_of_mem _ zw_im_O)) (hts _ (List.mem_cons_of_mem _ zw_c_O)) rfl (by rw [hml]; exact hl.1) rfl zd_Fi_init_1 (Nat.le_of_ble_eq_true rfl) (Nat.le_of_ble_eq_true rfl) ?_
  refine W.eq (g2 := F0 m 4 ls []) rfl ?_
  refine lv_aload_n hx hb zd_Fi_init_4 rfl (lv_at hl 0 rfl) ?_
  refine lv_iconst (v := 0) hx hb zd_Fi_init_5 (by decide) ?_
  refine va_put (D := D) (ci := 2) (v := .int 0) (ty := .boolean) (C := "CaseTree$Finding") (T := zT_Fi) (N := 4) hx hb hts (fun w h => List.mem_cons_of_mem _ (zu_Fi w h)) zy_Fi zy_Fi_ok zn_Fi hown hK.1 hP hD hS 0 rfl rfl 0 (by decide) (hts _ (List.mem_cons_of_mem _ zf_Fi_9)) (fun _ h9 => h9) rfl (by decide +kernel) rfl rfl (Nat.le_of_ble_eq_true rfl) zd_Fi_init_6 (fun H locs hP hD hS => ?_)
  have hP : va_P D vwCl [(a, .inr (2, [.int 0, .int 0, .long 0, .long 0]))] H := hP
  have hD : va_D A [(a, .inr (2, [.int 0, .int 0, .long 0, .long 0]))] := hD
  refine lv_aload_n hx hb zd_Fi_init_9 rfl (lv_at hl 0 rfl) ?_
  refine lv_iconst (v := (-1)) hx hb zd_Fi_init_10 (by decide) ?_
  refine va_put (D := D) (ci := 2) (v := .int (-1)) (ty := .int) (C := "CaseTree$Finding") (T := zT_Fi) (N := 4) hx hb hts (fun w h => List.mem_cons_of_mem _ (zu_Fi w h)) zy_Fi zy_Fi_ok zn_Fi hown hK.1 hP hD hS 0 rfl rfl 1 (by decide) (hts _ (List.mem_cons_of_mem _ zf_Fi_15)) (fun _ h9 => h9) rfl (by decide +kernel) rfl rfl (Nat.le_of_ble_eq_true rfl) zd_Fi_init_11 (fun H locs hP hD hS => ?_)
  have hP : va_P D vwCl [(a, .inr (2, [.int 0, .int (-1), .long 0, .long 0]))] H := hP
  have hD : va_D A [(a, .inr (2, [.int 0, .int (-1), .long 0, .long 0]))] := hD
  refine lv_aload_n hx hb zd_Fi_init_14 rfl (lv_at hl 0 rfl) ?_
  refine lv_lconst (v := 0) hx hb zd_Fi_init_15 (by decide) ?_
  refine va_put (D := D) (ci := 2) (v := .long 0) (ty := .long) (C := "CaseTree$Finding") (T := zT_Fi) (N := 4) hx hb hts (fun w h => List.mem_cons_of_mem _ (zu_Fi w h)) zy_Fi zy_Fi_ok zn_Fi hown hK.1 hP hD hS 0 rfl rfl 2 (by decide) (hts _ (List.mem_cons_of_mem _ zf_Fi_19)) (fun _ h9 => h9) rfl (by decide +kernel) rfl rfl (Nat.le_of_ble_eq_true rfl) zd_Fi_init_16 (fun H locs hP hD hS => ?_)
  have hP : va_P D vwCl [(a, .inr (2, [.int 0, .int (-1), .long 0, .long 0]))] H := hP
  have hD : va_D A [(a, .inr (2, [.int 0, .int (-1), .long 0, .long 0]))] := hD
  refine lv_aload_n hx hb zd_Fi_init_19 rfl (lv_at hl 0 rfl) ?_
  refine lv_lconst (v := 0) hx hb zd_Fi_init_20 (by decide) ?_
  refine va_put (D := D) (ci := 2) (v := .long 0) (ty := .long) (C := "CaseTree$Finding") (T := zT_Fi) (N := 4) hx hb hts (fun w h => List.mem_cons_of_mem _ (zu_Fi w h)) zy_Fi zy_Fi_ok zn_Fi hown hK.1 hP hD hS 0 rfl rfl 3 (by decide) (hts _ (List.mem_cons_of_mem _ zf_Fi_23)) (fun _ h9 => h9) rfl (by decide +kernel) rfl rfl (Nat.le_of_ble_eq_true rfl) zd_Fi_init_21 (fun H locs hP hD hS => ?_)
  have hP : va_P D vwCl [(a, .inr (2, [.int 0, .int (-1), .long 0, .long 0]))] H := hP
  have hD : va_D A [(a, .inr (2, [.int 0, .int (-1), .long 0, .long 0]))] := hD
  exact W.vret hx hb hr (fun t ht hW => ⟨⟨fun i => ([] : List Nat).getD i 0, rfl, trivial, by rw [ht]; exact hP, hD⟩, hS.F ht⟩) hS.2.2 zd_Fi_init_24
theorem zd_Fo_init_0 : decode prog_4_method_1_code 0 = .ok (.aload_n 0, 1) := by decide +kernel
theorem zd_Fo_init_1 : decode prog_4_method_1_code 1 = .ok (.invokespecial 3, 3) := by decide +kernel
theorem zd_Fo_init_4 : decode prog_4_method_1_code 4 = .ok (.aload_n 0, 1) := by decide +kernel
theorem zd_Fo_init_5 : decode prog_4_method_1_code 5 = .ok (.iconst 4, 1) := by decide +kernel
theorem zd_Fo_init_6 : decode prog_4_method_1_code 6 = .ok (.newarray .int, 2) := by decide +kernel
theorem zd_Fo_init_8 : decode prog_4_method_1_code 8 = .ok (.putfield 9, 3) := by decide +kernel
theorem zd_Fo_init_11 : decode prog_4_method_1_code 11 = .ok (.aload_n 0, 1) := by decide +kernel
theorem zd_Fo_init_12 : decode prog_4_method_1_code 12 = .ok (.iconst 0, 1) := by decide +kernel
theorem zd_Fo_init_13 : decode prog_4_method_1_code 13 = .ok (.putfield 15, 3) := by decide +kernel
theorem zd_Fo_init_16 : decode prog_4_method_1_code 16 = .ok (.aload_n 0, 1) := by decide +kernel
theorem zd_Fo_init_17 : decode prog_4_method_1_code 17 = .ok (.iconst (-1), 1) := by decide +kernel
theorem zd_Fo_init_18 : decode prog_4_method_1_code 18 = .ok (.putfield 19, 3) := by decide +kernel
theorem zd_Fo_init_21 : decode prog_4_method_1_code 21 = .ok (.aload_n 0, 1) := by decide +kernel
theorem zd_Fo_init_22 : decode prog_4_method_1_code 22 = .ok (.iconst 0, 1) := by decide +kernel
theorem zd_Fo_init_23 : decode prog_4_method_1_code 23 = .ok (.putfield 22, 3) := by decide +kernel
theorem zd_Fo_init_26 : decode prog_4_method_1_code 26 = .ok (.aload_n 0, 1) := by decide +kernel
theorem zd_Fo_init_27 : decode prog_4_method_1_code 27 = .ok (.iconst 0, 1) := by decide +kernel
theorem zd_Fo_init_28 : decode prog_4_method_1_code 28 = .ok (.putfield 25, 3) := by decide +kernel
theorem zd_Fo_init_31 : decode prog_4_method_1_code 31 = .ok (.aload_n 0, 1) := by decide +kernel
theorem zd_Fo_init_32 : decode prog_4_method_1_code 32 = .ok (.iconst 0, 1) := by decide +kernel
theorem zd_Fo_init_33 : decode prog_4_method_1_code 33 = .ok (.putfield 28, 3) := by decide +kernel
theorem zd_Fo_init_36 : decode prog_4_method_1_code 36 = .ok (.return_, 1) := by decide +kernel
abbrev wc_Fo (ac : Nat → ClassId) (a : Nat) (u : Nat → Nat) : va_W := [(a, .inr (3, [.ref (u 0), .int 0, .int (-1), .int 0, .int 0, .int 0])), ((u 0), zIa (ac 0) 4)]
set_option maxHeartbeats 8000000 in
set_option maxRecDepth 100000 in
theorem k_Fo (l : Launch) (D : va_G) (ac : Nat → ClassId) (a : Nat) (sz : Nat) : Met l ⟨"CaseTree$Fork", "<init>", "()V"⟩ (Cond.code ⟨"CaseTree$Fork", "<init>", "()V"⟩ prog_4_method_1_code 1 none :: zb) ({ frames := 1, cells := 1, slots := 4, locals := 40 }) (va_Pc [.ref a] (zkB D ac sz [(a, .inr (3, [.null, .int 0, .int 0, .int 0, .int 0, .int 0]))])) (va_Qv (fun _ : Nat → Nat => True) (fun u t => zkE D (va_A [(a, .inr (3, [.null, .int 0, .int 0, .int 0, .int 0, .int 0]))] sz) (wc_Fo ac a u) t) (va_A [(a, .inr (3, [.null, .int 0, .int 0, .int 0, .int 0, .int 0]))] sz)) 1 4 (va_A [(a, .inr (3, [.null, .int 0, .int 0, .int 0, .int 0, .int 0]))] sz) := by
  refine Met.ofW (cc := prog_4_method_1_code) (maxL := 1) (ret := none) (by decide) rfl ?_
  intro p e s m args below meth c s₁ B hml hv
  obtain ⟨rfl, hsz, hP, hK, hD0⟩ := hv
  have hx := B.exec
  have hb := B.bytes
  have hr := B.returns
  have hts := atoms_spec (ws := (Cond.code ⟨"CaseTree$Fork", "<init>", "()V"⟩ prog_4_method_1_code 1 none :: zb)) B.pre
  have hown : s.vm.findClass "CaseTree$Fork" = some m.cls := findClass_of_methodNamed B.named
  have hlocks := B.notSynchronized
  have hin : meth.name = "<init>" := (name_of_methodNamed B.named B.method).1
  subst hsz
  have hD := hD0.self (sz := s.heap.size)
  generalize hAe : va_A [(a, .inr (3, [.null, .int 0, .int 0, .int 0, .int 0, .int 0]))] s.heap.size = A at hD ⊢
  have hA : ∀ q : Nat, s.heap.size ≤ q → A q := fun q h => by rw [← hAe]; exact Or.inr h
  have hS : va_S A s.heap s.heap [] := va_S.rf
  have hl := lv_entry ([.ref a]) (n := 1) (Nat.le_of_ble_eq_true rfl)
  rw [lg_entry_eq]
  generalize (lg_sl ([.ref a]) ++ List.replicate (1 - (lg_sl ([.ref a])).length) Slot.unset).toArray = ls at hl ⊢
  have hl : lv_has ls 1 [(0, .ref a)] := hl
  refine lv_aload_n hx hb zd_Fo_init_0 rfl (lv_at hl 0 rfl) ?_
  refine W.objInit hx hb hown (hts _ (List.mem_cons_of_mem _ zw_ml_Fo_3)) (hts _ (List.mem_cons_of_mem _ zw_im_O)) (hts _ (List.mem_cons_of_mem _ zw_c_O)) rfl (by rw [hml]; exact hl.1) rfl zd_Fo_init_1 (Nat.le_of_ble_eq_true rfl) (Nat.le_of_ble_eq_true rfl) ?_
  refine W.eq (g2 := F0 m 4 ls []) rfl ?_
  refine lv_aload_n hx hb zd_Fo_init_4 rfl (lv_at hl 0 rfl) ?_
  refine lv_iconst (v := 4) hx hb zd_Fo_init_5 (by decide) ?_
  refine zc_newa (N' := 4) hx hb (hts _ (List.mem_cons_of_mem _ zw_arrI)) hK hP hD hS hA (by decide) rfl (by decide) (Nat.le_of_ble_eq_true rfl) (Nat.le_of_ble_eq_true rfl) zd_Fo_init_6 (fun q0 H hP hD hS => ?_)
  have hP : va_P D vwCl [(a, .inr (3, [.null, .int 0, .int 0, .int 0, .int 0, .int 0])), (q0, zIa (ac 0) 4)] H := hP
  have hD : va_D A [(a, .inr (3, [.null, .int 0, .int 0, .int 0, .int 0, .int 0])), (q0, zIa (ac 0) 4)] := hD
  refine W.widen (k := 1) (n := 4) (Nat.le_refl _) (Nat.le_refl _) ?_
  refine va_putF (D := D) (ci := 3) (v := .ref q0) (ty := (.array .int)) (C := "CaseTree$Fork") (T := zT_Fo) (N := 6) hx hb hts (fun w h => List.mem_cons_of_mem _ (zu_Fo w h)) zy_Fo zy_Fo_ok zn_Fo hown hK.1 hP hD hS 0 rfl rfl 0 (by decide) (hts _ (List.mem_cons_of_mem _ zf_Fo_9)) (fun _ h9 => h9) rfl hin rfl (by decide +kernel) rfl rfl (Nat.le_of_ble_eq_true rfl) zd_Fo_init_8 (fun H locs hP hD hS => ?_)
  have hP : va_P D vwCl [(a, .inr (3, [.ref q0, .int 0, .int 0, .int 0, .int 0, .int 0])), (q0, zIa (ac 0) 4)] H := hP
  have hD : va_D A [(a, .inr (3, [.ref q0, .int 0, .int 0, .int 0, .int 0, .int 0])), (q0, zIa (ac 0) 4)] := hD
  refine lv_aload_n hx hb zd_Fo_init_11 rfl (lv_at hl 0 rfl) ?_
  refine lv_iconst (v := 0) hx hb zd_Fo_init_12 (by decide) ?_
  refine va_put (D := D) (ci := 3) (v := .int 0) (ty := .int) (C := "CaseTree$Fork") (T := zT_Fo) (N := 6) hx hb hts (fun w h => List.mem_cons_of_mem _ (zu_Fo w h)) zy_Fo zy_Fo_ok zn_Fo hown hK.1 hP hD hS 0 rfl rfl 1 (by decide) (hts _ (List.mem_cons_of_mem _ zf_Fo_15)) (fun _ h9 => h9) rfl (by decide +kernel) rfl rfl (Nat.le_of_ble_eq_true rfl) zd_Fo_init_13 (fun H locs hP hD hS => ?_)
  have hP : va_P D vwCl [(a, .inr (3, [.ref q0, .int 0, .int 0, .int 0, .int 0, .int 0])), (q0, zIa (ac 0) 4)] H := hP
  have hD : va_D A [(a, .inr (3, [.ref q0, .int 0, .int 0, .int 0, .int 0, .int 0])), (q0, zIa (ac 0) 4)] := hD
  refine lv_aload_n hx hb zd_Fo_init_16 rfl (lv_at hl 0 rfl) ?_
  refine lv_iconst (v := (-1)) hx hb zd_Fo_init_17 (by decide) ?_
  refine va_put (D := D) (ci := 3) (v := .int (-1)) (ty := .int) (C := "CaseTree$Fork") (T := zT_Fo) (N := 6) hx hb hts (fun w h => List.mem_cons_of_mem _ (zu_Fo w h)) zy_Fo zy_Fo_ok zn_Fo hown hK.1 hP hD hS 0 rfl rfl 2 (by decide) (hts _ (List.mem_cons_of_mem _ zf_Fo_19)) (fun _ h9 => h9) rfl (by decide +kernel) rfl rfl (Nat.le_of_ble_eq_true rfl) zd_Fo_init_18 (fun H locs hP hD hS => ?_)
  have hP : va_P D vwCl [(a, .inr (3, [.ref q0, .int 0, .int (-1), .int 0, .int 0, .int 0])), (q0, zIa (ac 0) 4)] H := hP
  have hD : va_D A [(a, .inr (3, [.ref q0, .int 0, .int (-1), .int 0, .int 0, .int 0])), (q0, zIa (ac 0) 4)] := hD
  refine lv_aload_n hx hb zd_Fo_init_21 rfl (lv_at hl 0 rfl) ?_
  refine lv_iconst (v := 0) hx hb zd_Fo_init_22 (by decide) ?_
  refine va_put (D := D) (ci := 3) (v := .int 0) (ty := .int) (C := "CaseTree$Fork") (T := zT_Fo) (N := 6) hx hb hts (fun w h => List.mem_cons_of_mem _ (zu_Fo w h)) zy_Fo zy_Fo_ok zn_Fo hown hK.1 hP hD hS 0 rfl rfl 3 (by decide) (hts _ (List.mem_cons_of_mem _ zf_Fo_22)) (fun _ h9 => h9) rfl (by decide +kernel) rfl rfl (Nat.le_of_ble_eq_true rfl) zd_Fo_init_23 (fun H locs hP hD hS => ?_)
  have hP : va_P D vwCl [(a, .inr (3, [.ref q0, .int 0, .int (-1), .int 0, .int 0, .int 0])), (q0, zIa (ac 0) 4)] H := hP
  have hD : va_D A [(a, .inr (3, [.ref q0, .int 0, .int (-1), .int 0, .int 0, .int 0])), (q0, zIa (ac 0) 4)] := hD
  refine lv_aload_n hx hb zd_Fo_init_26 rfl (lv_at hl 0 rfl) ?_
  refine lv_iconst (v := 0) hx hb zd_Fo_init_27 (by decide) ?_
  refine va_put (D := D) (ci := 3) (v := .int 0) (ty := .int) (C := "CaseTree$Fork") (T := zT_Fo) (N := 6) hx hb hts (fun w h => List.mem_cons_of_mem _ (zu_Fo w h)) zy_Fo zy_Fo_ok zn_Fo hown hK.1 hP hD hS 0 rfl rfl 4 (by decide) (hts _ (List.mem_cons_of_mem _ zf_Fo_25)) (fun _ h9 => h9) rfl (by decide +kernel) rfl rfl (Nat.le_of_ble_eq_true rfl) zd_Fo_init_28 (fun H locs hP hD hS => ?_)
  have hP : va_P D vwCl [(a, .inr (3, [.ref q0, .int 0, .int (-1), .int 0, .int 0, .int 0])), (q0, zIa (ac 0) 4)] H := hP
  have hD : va_D A [(a, .inr (3, [.ref q0, .int 0, .int (-1), .int 0, .int 0, .int 0])), (q0, zIa (ac 0) 4)] := hD
  refine lv_aload_n hx hb zd_Fo_init_31 rfl (lv_at hl 0 rfl) ?_
  refine lv_iconst (v := 0) hx hb zd_Fo_init_32 (by decide) ?_
  refine va_put (D := D) (ci := 3) (v := .int 0) (ty := .int) (C := "CaseTree$Fork") (T := zT_Fo) (N := 6) hx hb hts (fun w h => List.mem_cons_of_mem _ (zu_Fo w h)) zy_Fo zy_Fo_ok zn_Fo hown hK.1 hP hD hS 0 rfl rfl 5 (by decide) (hts _ (List.mem_cons_of_mem _ zf_Fo_28)) (fun _ h9 => h9) rfl (by decide +kernel) rfl rfl (Nat.le_of_ble_eq_true rfl) zd_Fo_init_33 (fun H locs hP hD hS => ?_)
  have hP : va_P D vwCl [(a, .inr (3, [.ref q0, .int 0, .int (-1), .int 0, .int 0, .int 0])), (q0, zIa (ac 0) 4)] H := hP
  have hD : va_D A [(a, .inr (3, [.ref q0, .int 0, .int (-1), .int 0, .int 0, .int 0])), (q0, zIa (ac 0) 4)] := hD
  exact W.vret hx hb hr (fun t ht hW => ⟨⟨fun i => ([q0] : List Nat).getD i 0, rfl, trivial, by rw [ht]; exact hP, hD⟩, hS.F ht⟩) hS.2.2 zd_Fo_init_36
theorem zd_Cs_init_0 : decode prog_2_method_1_code 0 = .ok (.aload_n 0, 1) := by decide +kernel
theorem zd_Cs_init_1 : decode prog_2_method_1_code 1 = .ok (.invokespecial 3, 3) := by decide +kernel
theorem zd_Cs_init_4 : decode prog_2_method_1_code 4 = .ok (.aload_n 0, 1) := by decide +kernel
theorem zd_Cs_init_5 : decode prog_2_method_1_code 5 = .ok (.iconst 4, 1) := by decide +kernel
theorem zd_Cs_init_6 : decode prog_2_method_1_code 6 = .ok (.newarray .int, 2) := by decide +kernel
theorem zd_Cs_init_8 : decode prog_2_method_1_code 8 = .ok (.putfield 9, 3) := by decide +kernel
theorem zd_Cs_init_11 : decode prog_2_method_1_code 11 = .ok (.aload_n 0, 1) := by decide +kernel
theorem zd_Cs_init_12 : decode prog_2_method_1_code 12 = .ok (.bipush 24, 2) := by decide +kernel
theorem zd_Cs_init_14 : decode prog_2_method_1_code 14 = .ok (.newarray .int, 2) := by decide +kernel
theorem zd_Cs_init_16 : decode prog_2_method_1_code 16 = .ok (.putfield 15, 3) := by decide +kernel
theorem zd_Cs_init_19 : decode prog_2_method_1_code 19 = .ok (.aload_n 0, 1) := by decide +kernel
theorem zd_Cs_init_20 : decode prog_2_method_1_code 20 = .ok (.bipush 96, 2) := by decide +kernel
theorem zd_Cs_init_22 : decode prog_2_method_1_code 22 = .ok (.newarray .int, 2) := by decide +kernel
theorem zd_Cs_init_24 : decode prog_2_method_1_code 24 = .ok (.putfield 18, 3) := by decide +kernel
theorem zd_Cs_init_27 : decode prog_2_method_1_code 27 = .ok (.aload_n 0, 1) := by decide +kernel
theorem zd_Cs_init_28 : decode prog_2_method_1_code 28 = .ok (.iconst 0, 1) := by decide +kernel
theorem zd_Cs_init_29 : decode prog_2_method_1_code 29 = .ok (.putfield 21, 3) := by decide +kernel
theorem zd_Cs_init_32 : decode prog_2_method_1_code 32 = .ok (.aload_n 0, 1) := by decide +kernel
theorem zd_Cs_init_33 : decode prog_2_method_1_code 33 = .ok (.iconst 0, 1) := by decide +kernel
theorem zd_Cs_init_34 : decode prog_2_method_1_code 34 = .ok (.putfield 25, 3) := by decide +kernel
theorem zd_Cs_init_37 : decode prog_2_method_1_code 37 = .ok (.return_, 1) := by decide +kernel
abbrev wc_Cs (ac : Nat → ClassId) (a : Nat) (u : Nat → Nat) : va_W := [(a, .inr (1, [.ref (u 0), .ref (u 1), .ref (u 2), .int 0, .int 0])), ((u 0), zIa (ac 0) 4), ((u 1), zIa (ac 0) 24), ((u 2), zIa (ac 0) 96)]
set_option maxHeartbeats 8000000 in
set_option maxRecDepth 100000 in
theorem k_Cs (l : Launch) (D : va_G) (ac : Nat → ClassId) (a : Nat) (sz : Nat) : Met l ⟨"CaseTree$Cases", "<init>", "()V"⟩ (Cond.code ⟨"CaseTree$Cases", "<init>", "()V"⟩ prog_2_method_1_code 1 none :: zb) ({ frames := 1, cells := 3, slots := 124, locals := 40 }) (va_Pc [.ref a] (zkB D ac sz [(a, .inr (1, [.null, .null, .null, .int 0, .int 0]))])) (va_Qv (fun _ : Nat → Nat => True) (fun u t => zkE D (va_A [(a, .inr (1, [.null, .null, .null, .int 0, .int 0]))] sz) (wc_Cs ac a u) t) (va_A [(a, .inr (1, [.null, .null, .null, .int 0, .int 0]))] sz)) 3 124 (va_A [(a, .inr (1, [.null, .null, .null, .int 0, .int 0]))] sz) := by
  refine Met.ofW (cc := prog_2_method_1_code) (maxL := 1) (ret := none) (by decide) rfl ?_
  intro p e s m args below meth c s₁ B hml hv
  obtain ⟨rfl, hsz, hP, hK, hD0⟩ := hv
  have hx := B.exec
  have hb := B.bytes
  have hr := B.returns
  have hts := atoms_spec (ws := (Cond.code ⟨"CaseTree$Cases", "<init>", "()V"⟩ prog_2_method_1_code 1 none :: zb)) B.pre
  have hown : s.vm.findClass "CaseTree$Cases" = some m.cls := findClass_of_methodNamed B.named
  have hlocks := B.notSynchronized
  have hin : meth.name = "<init>" := (name_of_methodNamed B.named B.method).1
  subst hsz
  have hD := hD0.self (sz := s.heap.size)
  generalize hAe : va_A [(a, .inr (1, [.null, .null, .null, .int 0, .int 0]))] s.heap.size = A at hD ⊢
  have hA : ∀ q : Nat, s.heap.size ≤ q → A q := fun q h => by rw [← hAe]; exact Or.inr h
  have hS : va_S A s.heap s.heap [] := va_S.rf
  have hl := lv_entry ([.ref a]) (n := 1) (Nat.le_of_ble_eq_true rfl)
  rw [lg_entry_eq]
  generalize (lg_sl ([.ref a]) ++ List.replicate (1 - (lg_sl ([.ref a])).length) Slot.unset).toArray = ls at hl ⊢
  have hl : lv_has ls 1 [(0, .ref a)] := hl
  refine lv_aload_n hx hb zd_Cs_init_0 rfl (lv_at hl 0 rfl) ?_
  refine W.objInit hx hb hown (hts _ (List.mem_cons_of_mem _ zw_ml_Cs_3)) (hts _ (List.mem_cons_of_mem _ zw_im_O)) (hts _ (List.mem_cons_of_mem _ zw_c_O)) rfl (by rw [hml]; exact hl.1) rfl zd_Cs_init_1 (Nat.le_of_ble_eq_true rfl) (Nat.le_of_ble_eq_true rfl) ?_
  refine W.eq (g2 := F0 m 4 ls []) rfl ?_
  refine lv_aload_n hx hb zd_Cs_init_4 rfl (lv_at hl 0 rfl) ?_
  refine lv_iconst (v := 4) hx hb zd_Cs_init_5 (by decide) ?_
  refine zc_newa (N' := 4) hx hb (hts _ (List.mem_cons_of_mem _ zw_arrI)) hK hP hD hS hA (by decide) rfl (by decide) (Nat.le_of_ble_eq_true rfl) (Nat.le_of_ble_eq_true rfl) zd_Cs_init_6 (fun q0 H hP hD hS => ?_)
  have hP : va_P D vwCl [(a, .inr (1, [.null, .null, .null, .int 0, .int 0])), (q0, zIa (ac 0) 4)] H := hP
  have hD : va_D A [(a, .inr (1, [.null, .null, .null, .int 0, .int 0])), (q0, zIa (ac 0) 4)] := hD
  refine W.widen (k := 1) (n := 4) (Nat.le_refl _) (Nat.le_refl _) ?_
  refine va_putF (D := D) (ci := 1) (v := .ref q0) (ty := (.array .int)) (C := "CaseTree$Cases") (T := zT_Cs) (N := 5) hx hb hts (fun w h => List.mem_cons_of_mem _ (zu_Cs w h)) zy_Cs zy_Cs_ok zn_Cs hown hK.1 hP hD hS 0 rfl rfl 0 (by decide) (hts _ (List.mem_cons_of_mem _ zf_Cs_9)) (fun _ h9 => h9) rfl hin rfl (by decide +kernel) rfl rfl (Nat.le_of_ble_eq_true rfl) zd_Cs_init_8 (fun H locs hP hD hS => ?_)
  have hP : va_P D vwCl [(a, .inr (1, [.ref q0, .null, .null, .int 0, .int 0])), (q0, zIa (ac 0) 4)] H := hP
  have hD : va_D A [(a, .inr (1, [.ref q0, .null, .null, .int 0, .int 0])), (q0, zIa (ac 0) 4)] := hD
  refine lv_aload_n hx hb zd_Cs_init_11 rfl (lv_at hl 0 rfl) ?_
  refine lv_bipush (v := 24) hx hb zd_Cs_init_12 (by decide) ?_
  refine zc_newa (N' := 24) hx hb (hts _ (List.mem_cons_of_mem _ zw_arrI)) hK hP hD hS hA (by decide) rfl (by decide) (Nat.le_of_ble_eq_true rfl) (Nat.le_of_ble_eq_true rfl) zd_Cs_init_14 (fun q1 H hP hD hS => ?_)
  have hP : va_P D vwCl [(a, .inr (1, [.ref q0, .null, .null, .int 0, .int 0])), (q0, zIa (ac 0) 4), (q1, zIa (ac 0) 24)] H := hP
  have hD : va_D A [(a, .inr (1, [.ref q0, .null, .null, .int 0, .int 0])), (q0, zIa (ac 0) 4), (q1, zIa (ac 0) 24)] := hD
  refine W.widen (k := 2) (n := 28) (Nat.le_refl _) (Nat.le_refl _) ?_
  refine va_putF (D := D) (ci := 1) (v := .ref q1) (ty := (.array .int)) (C := "CaseTree$Cases") (T := zT_Cs) (N := 5) hx hb hts (fun w h => List.mem_cons_of_mem _ (zu_Cs w h)) zy_Cs zy_Cs_ok zn_Cs hown hK.1 hP hD hS 0 rfl rfl 1 (by decide) (hts _ (List.mem_cons_of_mem _ zf_Cs_15)) (fun _ h9 => h9) rfl hin rfl (by decide +kernel) rfl rfl (Nat.le_of_ble_eq_true rfl) zd_Cs_init_16 (fun H locs hP hD hS => ?_)
  have hP : va_P D vwCl [(a, .inr (1, [.ref q0, .ref q1, .null, .int 0, .int 0])), (q0, zIa (ac 0) 4), (q1, zIa (ac 0) 24)] H := hP
  have hD : va_D A [(a, .inr (1, [.ref q0, .ref q1, .null, .int 0, .int 0])), (q0, zIa (ac 0) 4), (q1, zIa (ac 0) 24)] := hD
  refine lv_aload_n hx hb zd_Cs_init_19 rfl (lv_at hl 0 rfl) ?_
  refine lv_bipush (v := 96) hx hb zd_Cs_init_20 (by decide) ?_
  refine zc_newa (N' := 96) hx hb (hts _ (List.mem_cons_of_mem _ zw_arrI)) hK hP hD hS hA (by decide) rfl (by decide) (Nat.le_of_ble_eq_true rfl) (Nat.le_of_ble_eq_true rfl) zd_Cs_init_22 (fun q2 H hP hD hS => ?_)
  have hP : va_P D vwCl [(a, .inr (1, [.ref q0, .ref q1, .null, .int 0, .int 0])), (q0, zIa (ac 0) 4), (q1, zIa (ac 0) 24), (q2, zIa (ac 0) 96)] H := hP
  have hD : va_D A [(a, .inr (1, [.ref q0, .ref q1, .null, .int 0, .int 0])), (q0, zIa (ac 0) 4), (q1, zIa (ac 0) 24), (q2, zIa (ac 0) 96)] := hD
  refine W.widen (k := 3) (n := 124) (Nat.le_refl _) (Nat.le_refl _) ?_
  refine va_putF (D := D) (ci := 1) (v := .ref q2) (ty := (.array .int)) (C := "CaseTree$Cases") (T := zT_Cs) (N := 5) hx hb hts (fun w h => List.mem_cons_of_mem _ (zu_Cs w h)) zy_Cs zy_Cs_ok zn_Cs hown hK.1 hP hD hS 0 rfl rfl 2 (by decide) (hts _ (List.mem_cons_of_mem _ zf_Cs_18)) (fun _ h9 => h9) rfl hin rfl (by decide +kernel) rfl rfl (Nat.le_of_ble_eq_true rfl) zd_Cs_init_24 (fun H locs hP hD hS => ?_)
  have hP : va_P D vwCl [(a, .inr (1, [.ref q0, .ref q1, .ref q2, .int 0, .int 0])), (q0, zIa (ac 0) 4), (q1, zIa (ac 0) 24), (q2, zIa (ac 0) 96)] H := hP
  have hD : va_D A [(a, .inr (1, [.ref q0, .ref q1, .ref q2, .int 0, .int 0])), (q0, zIa (ac 0) 4), (q1, zIa (ac 0) 24), (q2, zIa (ac 0) 96)] := hD
  refine lv_aload_n hx hb zd_Cs_init_27 rfl (lv_at hl 0 rfl) ?_
  refine lv_iconst (v := 0) hx hb zd_Cs_init_28 (by decide) ?_
  refine va_put (D := D) (ci := 1) (v := .int 0) (ty := .int) (C := "CaseTree$Cases") (T := zT_Cs) (N := 5) hx hb hts (fun w h => List.mem_cons_of_mem _ (zu_Cs w h)) zy_Cs zy_Cs_ok zn_Cs hown hK.1 hP hD hS 0 rfl rfl 3 (by decide) (hts _ (List.mem_cons_of_mem _ zf_Cs_21)) (fun _ h9 => h9) rfl (by decide +kernel) rfl rfl (Nat.le_of_ble_eq_true rfl) zd_Cs_init_29 (fun H locs hP hD hS => ?_)
  have hP : va_P D vwCl [(a, .inr (1, [.ref q0, .ref q1, .ref q2, .int 0, .int 0])), (q0, zIa (ac 0) 4), (q1, zIa (ac 0) 24), (q2, zIa (ac 0) 96)] H := hP
  have hD : va_D A [(a, .inr (1, [.ref q0, .ref q1, .ref q2, .int 0, .int 0])), (q0, zIa (ac 0) 4), (q1, zIa (ac 0) 24), (q2, zIa (ac 0) 96)] := hD
  refine lv_aload_n hx hb zd_Cs_init_32 rfl (lv_at hl 0 rfl) ?_
  refine lv_iconst (v := 0) hx hb zd_Cs_init_33 (by decide) ?_
  refine va_put (D := D) (ci := 1) (v := .int 0) (ty := .int) (C := "CaseTree$Cases") (T := zT_Cs) (N := 5) hx hb hts (fun w h => List.mem_cons_of_mem _ (zu_Cs w h)) zy_Cs zy_Cs_ok zn_Cs hown hK.1 hP hD hS 0 rfl rfl 4 (by decide) (hts _ (List.mem_cons_of_mem _ zf_Cs_25)) (fun _ h9 => h9) rfl (by decide +kernel) rfl rfl (Nat.le_of_ble_eq_true rfl) zd_Cs_init_34 (fun H locs hP hD hS => ?_)
  have hP : va_P D vwCl [(a, .inr (1, [.ref q0, .ref q1, .ref q2, .int 0, .int 0])), (q0, zIa (ac 0) 4), (q1, zIa (ac 0) 24), (q2, zIa (ac 0) 96)] H := hP
  have hD : va_D A [(a, .inr (1, [.ref q0, .ref q1, .ref q2, .int 0, .int 0])), (q0, zIa (ac 0) 4), (q1, zIa (ac 0) 24), (q2, zIa (ac 0) 96)] := hD
  exact W.vret hx hb hr (fun t ht hW => ⟨⟨fun i => ([q0, q1, q2] : List Nat).getD i 0, rfl, trivial, by rw [ht]; exact hP, hD⟩, hS.F ht⟩) hS.2.2 zd_Cs_init_37
theorem zd_Tr_init_0 : decode prog_10_method_1_code 0 = .ok (.aload_n 0, 1) := by decide +kernel
theorem zd_Tr_init_1 : decode prog_10_method_1_code 1 = .ok (.invokespecial 3, 3) := by decide +kernel
theorem zd_Tr_init_4 : decode prog_10_method_1_code 4 = .ok (.aload_n 0, 1) := by decide +kernel
theorem zd_Tr_init_5 : decode prog_10_method_1_code 5 = .ok (.bipush 85, 2) := by decide +kernel
theorem zd_Tr_init_7 : decode prog_10_method_1_code 7 = .ok (.newarray .int, 2) := by decide +kernel
theorem zd_Tr_init_9 : decode prog_10_method_1_code 9 = .ok (.putfield 9, 3) := by decide +kernel
theorem zd_Tr_init_12 : decode prog_10_method_1_code 12 = .ok (.aload_n 0, 1) := by decide +kernel
theorem zd_Tr_init_13 : decode prog_10_method_1_code 13 = .ok (.bipush 85, 2) := by decide +kernel
theorem zd_Tr_init_15 : decode prog_10_method_1_code 15 = .ok (.newarray .int, 2) := by decide +kernel
theorem zd_Tr_init_17 : decode prog_10_method_1_code 17 = .ok (.putfield 15, 3) := by decide +kernel
theorem zd_Tr_init_20 : decode prog_10_method_1_code 20 = .ok (.aload_n 0, 1) := by decide +kernel
theorem zd_Tr_init_21 : decode prog_10_method_1_code 21 = .ok (.bipush 85, 2) := by decide +kernel
theorem zd_Tr_init_23 : decode prog_10_method_1_code 23 = .ok (.newarray .int, 2) := by decide +kernel
theorem zd_Tr_init_25 : decode prog_10_method_1_code 25 = .ok (.putfield 18, 3) := by decide +kernel
theorem zd_Tr_init_28 : decode prog_10_method_1_code 28 = .ok (.aload_n 0, 1) := by decide +kernel
theorem zd_Tr_init_29 : decode prog_10_method_1_code 29 = .ok (.bipush 85, 2) := by decide +kernel
theorem zd_Tr_init_31 : decode prog_10_method_1_code 31 = .ok (.newarray .int, 2) := by decide +kernel
theorem zd_Tr_init_33 : decode prog_10_method_1_code 33 = .ok (.putfield 21, 3) := by decide +kernel
theorem zd_Tr_init_36 : decode prog_10_method_1_code 36 = .ok (.aload_n 0, 1) := by decide +kernel
theorem zd_Tr_init_37 : decode prog_10_method_1_code 37 = .ok (.sipush 255, 3) := by decide +kernel
theorem zd_Tr_init_40 : decode prog_10_method_1_code 40 = .ok (.newarray .int, 2) := by decide +kernel
theorem zd_Tr_init_42 : decode prog_10_method_1_code 42 = .ok (.putfield 24, 3) := by decide +kernel
theorem zd_Tr_init_45 : decode prog_10_method_1_code 45 = .ok (.aload_n 0, 1) := by decide +kernel
theorem zd_Tr_init_46 : decode prog_10_method_1_code 46 = .ok (.sipush 340, 3) := by decide +kernel
theorem zd_Tr_init_49 : decode prog_10_method_1_code 49 = .ok (.newarray .int, 2) := by decide +kernel
theorem zd_Tr_init_51 : decode prog_10_method_1_code 51 = .ok (.putfield 27, 3) := by decide +kernel
theorem zd_Tr_init_54 : decode prog_10_method_1_code 54 = .ok (.aload_n 0, 1) := by decide +kernel
theorem zd_Tr_init_55 : decode prog_10_method_1_code 55 = .ok (.sipush 340, 3) := by decide +kernel
theorem zd_Tr_init_58 : decode prog_10_method_1_code 58 = .ok (.newarray .int, 2) := by decide +kernel
theorem zd_Tr_init_60 : decode prog_10_method_1_code 60 = .ok (.putfield 30, 3) := by decide +kernel
theorem zd_Tr_init_63 : decode prog_10_method_1_code 63 = .ok (.aload_n 0, 1) := by decide +kernel
theorem zd_Tr_init_64 : decode prog_10_method_1_code 64 = .ok (.bipush 85, 2) := by decide +kernel
theorem zd_Tr_init_66 : decode prog_10_method_1_code 66 = .ok (.newarray .int, 2) := by decide +kernel
theorem zd_Tr_init_68 : decode prog_10_method_1_code 68 = .ok (.putfield 33, 3) := by decide +kernel
theorem zd_Tr_init_71 : decode prog_10_method_1_code 71 = .ok (.aload_n 0, 1) := by decide +kernel
theorem zd_Tr_init_72 : decode prog_10_method_1_code 72 = .ok (.bipush 85, 2) := by decide +kernel
theorem zd_Tr_init_74 : decode prog_10_method_1_code 74 = .ok (.newarray .int, 2) := by decide +kernel
theorem zd_Tr_init_76 : decode prog_10_method_1_code 76 = .ok (.putfield 36, 3) := by decide +kernel
theorem zd_Tr_init_79 : decode prog_10_method_1_code 79 = .ok (.aload_n 0, 1) := by decide +kernel
theorem zd_Tr_init_80 : decode prog_10_method_1_code 80 = .ok (.iconst 0, 1) := by decide +kernel
theorem zd_Tr_init_81 : decode prog_10_method_1_code 81 = .ok (.putfield 39, 3) := by decide +kernel
theorem zd_Tr_init_84 : decode prog_10_method_1_code 84 = .ok (.aload_n 0, 1) := by decide +kernel
theorem zd_Tr_init_85 : decode prog_10_method_1_code 85 = .ok (.iconst 0, 1) := by decide +kernel
theorem zd_Tr_init_86 : decode prog_10_method_1_code 86 = .ok (.putfield 43, 3) := by decide +kernel
theorem zd_Tr_init_89 : decode prog_10_method_1_code 89 = .ok (.aload_n 0, 1) := by decide +kernel
theorem zd_Tr_init_90 : decode prog_10_method_1_code 90 = .ok (.iconst 0, 1) := by decide +kernel
theorem zd_Tr_init_91 : decode prog_10_method_1_code 91 = .ok (.putfield 46, 3) := by decide +kernel
theorem zd_Tr_init_94 : decode prog_10_method_1_code 94 = .ok (.return_, 1) := by decide +kernel
abbrev wc_Tr (ac : Nat → ClassId) (a : Nat) (u : Nat → Nat) : va_W := [(a, .inr (9, [.ref (u 0), .ref (u 1), .ref (u 2), .ref (u 3), .ref (u 4), .ref (u 5), .ref (u 6), .ref (u 7), .ref (u 8), .int 0, .int 0, .int 0])), ((u 0), zIa (ac 0) 85), ((u 1), zIa (ac 0) 85), ((u 2), zIa (ac 0) 85), ((u 3), zIa (ac 0) 85), ((u 4), zIa (ac 0) 255), ((u 5), zIa (ac 0) 340), ((u 6), zIa (ac 0) 340), ((u 7), zIa (ac 0) 85), ((u 8), zIa (ac 0) 85)]
set_option maxHeartbeats 8000000 in
set_option maxRecDepth 100000 in
theorem k_Tr (l : Launch) (D : va_G) (ac : Nat → ClassId) (a : Nat) (sz : Nat) : Met l ⟨"CaseTree$Tree", "<init>", "()V"⟩ (Cond.code ⟨"CaseTree$Tree", "<init>", "()V"⟩ prog_10_method_1_code 1 none :: zb) ({ frames := 1, cells := 9, slots := 1445, locals := 40 }) (va_Pc [.ref a] (zkB D ac sz [(a, .inr (9, [.null, .null, .null, .null, .null, .null, .null, .null, .null, .int 0, .int 0, .int 0]))])) (va_Qv (fun _ : Nat → Nat => True) (fun u t => zkE D (va_A [(a, .inr (9, [.null, .null, .null, .null, .null, .null, .null, .null, .null, .int 0, .int 0, .int 0]))] sz) (wc_Tr ac a u) t) (va_A [(a, .inr (9, [.null, .null, .null, .null, .null, .null, .null, .null, .null, .int 0, .int 0, .int 0]))] sz)) 9 1445 (va_A [(a, .inr (9, [.null, .null, .null, .null, .null, .null, .null, .null, .null, .int 0, .int 0, .int 0]))] sz) := by
  refine Met.ofW (cc := prog_10_method_1_code) (maxL := 1) (ret := none) (by decide) rfl ?_
  intro p e s m args below meth c s₁ B hml hv
  obtain ⟨rfl, hsz, hP, hK, hD0⟩ := hv
  have hx := B.exec
  have hb := B.bytes
  have hr := B.returns
  have hts := atoms_spec (ws := (Cond.code ⟨"CaseTree$Tree", "<init>", "()V"⟩ prog_10_method_1_code 1 none :: zb)) B.pre
  have hown : s.vm.findClass "CaseTree$Tree" = some m.cls := findClass_of_methodNamed B.named
  have hlocks := B.notSynchronized
  have hin : meth.name = "<init>" := (name_of_methodNamed B.named B.method).1
  subst hsz
  have hD := hD0.self (sz := s.heap.size)
  generalize hAe : va_A [(a, .inr (9, [.null, .null, .null, .null, .null, .null, .null, .null, .null, .int 0, .int 0, .int 0]))] s.heap.size = A at hD ⊢
  have hA : ∀ q : Nat, s.heap.size ≤ q → A q := fun q h => by rw [← hAe]; exact Or.inr h
  have hS : va_S A s.heap s.heap [] := va_S.rf
  have hl := lv_entry ([.ref a]) (n := 1) (Nat.le_of_ble_eq_true rfl)
  rw [lg_entry_eq]
  generalize (lg_sl ([.ref a]) ++ List.replicate (1 - (lg_sl ([.ref a])).length) Slot.unset).toArray = ls at hl ⊢
  have hl : lv_has ls 1 [(0, .ref a)] := hl
  refine lv_aload_n hx hb zd_Tr_init_0 rfl (lv_at hl 0 rfl) ?_
  refine W.objInit hx hb hown (hts _ (List.mem_cons_of_mem _ zw_ml_Tr_3)) (hts _ (List.mem_cons_of_mem _ zw_im_O)) (hts _ (List.mem_cons_of_mem _ zw_c_O)) rfl (by rw [hml]; exact hl.1) rfl zd_Tr_init_1 (Nat.le_of_ble_eq_true rfl) (Nat.le_of_ble_eq_true rfl) ?_
  refine W.eq (g2 := F0 m 4 ls []) rfl ?_
  refine lv_aload_n hx hb zd_Tr_init_4 rfl (lv_at hl 0 rfl) ?_
  refine lv_bipush (v := 85) hx hb zd_Tr_init_5 (by decide) ?_
  refine zc_newa (N' := 85) hx hb (hts _ (List.mem_cons_of_mem _ zw_arrI)) hK hP hD hS hA (by decide) rfl (by decide) (Nat.le_of_ble_eq_true rfl) (Nat.le_of_ble_eq_true rfl) zd_Tr_init_7 (fun q0 H hP hD hS => ?_)
  have hP : va_P D vwCl [(a, .inr (9, [.null, .null, .null, .null, .null, .null, .null, .null, .null, .int 0, .int 0, .int 0])), (q0, zIa (ac 0) 85)] H := hP
  have hD : va_D A [(a, .inr (9, [.null, .null, .null, .null, .null, .null, .null, .null, .null, .int 0, .int 0, .int 0])), (q0, zIa (ac 0) 85)] := hD
  refine W.widen (k := 1) (n := 85) (Nat.le_refl _) (Nat.le_refl _) ?_
  refine va_putF (D := D) (ci := 9) (v := .ref q0) (ty := (.array .int)) (C := "CaseTree$Tree") (T := zT_Tr) (N := 12) hx hb hts (fun w h => List.mem_cons_of_mem _ (zu_Tr w h)) zy_Tr zy_Tr_ok zn_Tr hown hK.1 hP hD hS 0 rfl rfl 0 (by decide) (hts _ (List.mem_cons_of_mem _ zf_Tr_9)) (fun _ h9 => h9) rfl hin rfl (by decide +kernel) rfl rfl (Nat.le_of_ble_eq_true rfl) zd_Tr_init_9 (fun H locs hP hD hS => ?_)
  have hP : va_P D vwCl [(a, .inr (9, [.ref q0, .null, .null, .null, .null, .null, .null, .null, .null, .int 0, .int 0, .int 0])), (q0, zIa (ac 0) 85)] H := hP
  have hD : va_D A [(a, .inr (9, [.ref q0, .null, .null, .null, .null, .null, .null, .null, .null, .int 0, .int 0, .int 0])), (q0, zIa (ac 0) 85)] := hD
  refine lv_aload_n hx hb zd_Tr_init_12 rfl (lv_at hl 0 rfl) ?_
  refine lv_bipush (v := 85) hx hb zd_Tr_init_13 (by decide) ?_
  refine zc_newa (N' := 85) hx hb (hts _ (List.mem_cons_of_mem _ zw_arrI)) hK hP hD hS hA (by decide) rfl (by decide) (Nat.le_of_ble_eq_true rfl) (Nat.le_of_ble_eq_true rfl) zd_Tr_init_15 (fun q1 H hP hD hS => ?_)
  have hP : va_P D vwCl [(a, .inr (9, [.ref q0, .null, .null, .null, .null, .null, .null, .null, .null, .int 0, .int 0, .int 0])), (q0, zIa (ac 0) 85), (q1, zIa (ac 0) 85)] H := hP
  have hD : va_D A [(a, .inr (9, [.ref q0, .null, .null, .null, .null, .null, .null, .null, .null, .int 0, .int 0, .int 0])), (q0, zIa (ac 0) 85), (q1, zIa (ac 0) 85)] := hD
  refine W.widen (k := 2) (n := 170) (Nat.le_refl _) (Nat.le_refl _) ?_
  refine va_putF (D := D) (ci := 9) (v := .ref q1) (ty := (.array .int)) (C := "CaseTree$Tree") (T := zT_Tr) (N := 12) hx hb hts (fun w h => List.mem_cons_of_mem _ (zu_Tr w h)) zy_Tr zy_Tr_ok zn_Tr hown hK.1 hP hD hS 0 rfl rfl 1 (by decide) (hts _ (List.mem_cons_of_mem _ zf_Tr_15)) (fun _ h9 => h9) rfl hin rfl (by decide +kernel) rfl rfl (Nat.le_of_ble_eq_true rfl) zd_Tr_init_17 (fun H locs hP hD hS => ?_)
  have hP : va_P D vwCl [(a, .inr (9, [.ref q0, .ref q1, .null, .null, .null, .null, .null, .null, .null, .int 0, .int 0, .int 0])), (q0, zIa (ac 0) 85), (q1, zIa (ac 0) 85)] H := hP
  have hD : va_D A [(a, .inr (9, [.ref q0, .ref q1, .null, .null, .null, .null, .null, .null, .null, .int 0, .int 0, .int 0])), (q0, zIa (ac 0) 85), (q1, zIa (ac 0) 85)] := hD
  refine lv_aload_n hx hb zd_Tr_init_20 rfl (lv_at hl 0 rfl) ?_
  refine lv_bipush (v := 85) hx hb zd_Tr_init_21 (by decide) ?_
  refine zc_newa (N' := 85) hx hb (hts _ (List.mem_cons_of_mem _ zw_arrI)) hK hP hD hS hA (by decide) rfl (by decide) (Nat.le_of_ble_eq_true rfl) (Nat.le_of_ble_eq_true rfl) zd_Tr_init_23 (fun q2 H hP hD hS => ?_)
  have hP : va_P D vwCl [(a, .inr (9, [.ref q0, .ref q1, .null, .null, .null, .null, .null, .null, .null, .int 0, .int 0, .int 0])), (q0, zIa (ac 0) 85), (q1, zIa (ac 0) 85), (q2, zIa (ac 0) 85)] H := hP
  have hD : va_D A [(a, .inr (9, [.ref q0, .ref q1, .null, .null, .null, .null, .null, .null, .null, .int 0, .int 0, .int 0])), (q0, zIa (ac 0) 85), (q1, zIa (ac 0) 85), (q2, zIa (ac 0) 85)] := hD
  refine W.widen (k := 3) (n := 255) (Nat.le_refl _) (Nat.le_refl _) ?_
  refine va_putF (D := D) (ci := 9) (v := .ref q2) (ty := (.array .int)) (C := "CaseTree$Tree") (T := zT_Tr) (N := 12) hx hb hts (fun w h => List.mem_cons_of_mem _ (zu_Tr w h)) zy_Tr zy_Tr_ok zn_Tr hown hK.1 hP hD hS 0 rfl rfl 2 (by decide) (hts _ (List.mem_cons_of_mem _ zf_Tr_18)) (fun _ h9 => h9) rfl hin rfl (by decide +kernel) rfl rfl (Nat.le_of_ble_eq_true rfl) zd_Tr_init_25 (fun H locs hP hD hS => ?_)
  have hP : va_P D vwCl [(a, .inr (9, [.ref q0, .ref q1, .ref q2, .null, .null, .null, .null, .null, .null, .int 0, .int 0, .int 0])), (q0, zIa (ac 0) 85), (q1, zIa (ac 0) 85), (q2, zIa (ac 0) 85)] H := hP
  have hD : va_D A [(a, .inr (9, [.ref q0, .ref q1, .ref q2, .null, .null, .null, .null, .null, .null, .int 0, .int 0, .int 0])), (q0, zIa (ac 0) 85), (q1, zIa (ac 0) 85), (q2, zIa (ac 0) 85)] := hD
  refine lv_aload_n hx hb zd_Tr_init_28 rfl (lv_at hl 0 rfl) ?_
  refine lv_bipush (v := 85) hx hb zd_Tr_init_29 (by decide) ?_
  refine zc_newa (N' := 85) hx hb (hts _ (List.mem_cons_of_mem _ zw_arrI)) hK hP hD hS hA (by decide) rfl (by decide) (Nat.le_of_ble_eq_true rfl) (Nat.le_of_ble_eq_true rfl) zd_Tr_init_31 (fun q3 H hP hD hS => ?_)
  have hP : va_P D vwCl [(a, .inr (9, [.ref q0, .ref q1, .ref q2, .null, .null, .null, .null, .null, .null, .int 0, .int 0, .int 0])), (q0, zIa (ac 0) 85), (q1, zIa (ac 0) 85), (q2, zIa (ac 0) 85), (q3, zIa (ac 0) 85)] H := hP
  have hD : va_D A [(a, .inr (9, [.ref q0, .ref q1, .ref q2, .null, .null, .null, .null, .null, .null, .int 0, .int 0, .int 0])), (q0, zIa (ac 0) 85), (q1, zIa (ac 0) 85), (q2, zIa (ac 0) 85), (q3, zIa (ac 0) 85)] := hD
  refine W.widen (k := 4) (n := 340) (Nat.le_refl _) (Nat.le_refl _) ?_
  refine va_putF (D := D) (ci := 9) (v := .ref q3) (ty := (.array .int)) (C := "CaseTree$Tree") (T := zT_Tr) (N := 12) hx hb hts (fun w h => List.mem_cons_of_mem _ (zu_Tr w h)) zy_Tr zy_Tr_ok zn_Tr hown hK.1 hP hD hS 0 rfl rfl 3 (by decide) (hts _ (List.mem_cons_of_mem _ zf_Tr_21)) (fun _ h9 => h9) rfl hin rfl (by decide +kernel) rfl rfl (Nat.le_of_ble_eq_true rfl) zd_Tr_init_33 (fun H locs hP hD hS => ?_)
  have hP : va_P D vwCl [(a, .inr (9, [.ref q0, .ref q1, .ref q2, .ref q3, .null, .null, .null, .null, .null, .int 0, .int 0, .int 0])), (q0, zIa (ac 0) 85), (q1, zIa (ac 0) 85), (q2, zIa (ac 0) 85), (q3, zIa (ac 0) 85)] H := hP
  have hD : va_D A [(a, .inr (9, [.ref q0, .ref q1, .ref q2, .ref q3, .null, .null, .null, .null, .null, .int 0, .int 0, .int 0])), (q0, zIa (ac 0) 85), (q1, zIa (ac 0) 85), (q2, zIa (ac 0) 85), (q3, zIa (ac 0) 85)] := hD
  refine lv_aload_n hx hb zd_Tr_init_36 rfl (lv_at hl 0 rfl) ?_
  refine lv_sipush (v := 255) hx hb zd_Tr_init_37 (by decide) ?_
  refine zc_newa (N' := 255) hx hb (hts _ (List.mem_cons_of_mem _ zw_arrI)) hK hP hD hS hA (by decide) rfl (by decide) (Nat.le_of_ble_eq_true rfl) (Nat.le_of_ble_eq_true rfl) zd_Tr_init_40 (fun q4 H hP hD hS => ?_)
  have hP : va_P D vwCl [(a, .inr (9, [.ref q0, .ref q1, .ref q2, .ref q3, .null, .null, .null, .null, .null, .int 0, .int 0, .int 0])), (q0, zIa (ac 0) 85), (q1, zIa (ac 0) 85), (q2, zIa (ac 0) 85), (q3, zIa (ac 0) 85), (q4, zIa (ac 0) 255)] H := hP
  have hD : va_D A [(a, .inr (9, [.ref q0, .ref q1, .ref q2, .ref q3, .null, .null, .null, .null, .null, .int 0, .int 0, .int 0])), (q0, zIa (ac 0) 85), (q1, zIa (ac 0) 85), (q2, zIa (ac 0) 85), (q3, zIa (ac 0) 85), (q4, zIa (ac 0) 255)] := hD
  refine W.widen (k := 5) (n := 595) (Nat.le_refl _) (Nat.le_refl _) ?_
  refine va_putF (D := D) (ci := 9) (v := .ref q4) (ty := (.array .int)) (C := "CaseTree$Tree") (T := zT_Tr) (N := 12) hx hb hts (fun w h => List.mem_cons_of_mem _ (zu_Tr w h)) zy_Tr zy_Tr_ok zn_Tr hown hK.1 hP hD hS 0 rfl rfl 4 (by decide) (hts _ (List.mem_cons_of_mem _ zf_Tr_24)) (fun _ h9 => h9) rfl hin rfl (by decide +kernel) rfl rfl (Nat.le_of_ble_eq_true rfl) zd_Tr_init_42 (fun H locs hP hD hS => ?_)
  have hP : va_P D vwCl [(a, .inr (9, [.ref q0, .ref q1, .ref q2, .ref q3, .ref q4, .null, .null, .null, .null, .int 0, .int 0, .int 0])), (q0, zIa (ac 0) 85), (q1, zIa (ac 0) 85), (q2, zIa (ac 0) 85), (q3, zIa (ac 0) 85), (q4, zIa (ac 0) 255)] H := hP
  have hD : va_D A [(a, .inr (9, [.ref q0, .ref q1, .ref q2, .ref q3, .ref q4, .null, .null, .null, .null, .int 0, .int 0, .int 0])), (q0, zIa (ac 0) 85), (q1, zIa (ac 0) 85), (q2, zIa (ac 0) 85), (q3, zIa (ac 0) 85), (q4, zIa (ac 0) 255)] := hD
  refine lv_aload_n hx hb zd_Tr_init_45 rfl (lv_at hl 0 rfl) ?_
  refine lv_sipush (v := 340) hx hb zd_Tr_init_46 (by decide) ?_
  refine zc_newa (N' := 340) hx hb (hts _ (List.mem_cons_of_mem _ zw_arrI)) hK hP hD hS hA (by decide) rfl (by decide) (Nat.le_of_ble_eq_true rfl) (Nat.le_of_ble_eq_true rfl) zd_Tr_init_49 (fun q5 H hP hD hS => ?_)
  have hP : va_P D vwCl [(a, .inr (9, [.ref q0, .ref q1, .ref q2, .ref q3, .ref q4, .null, .null, .null, .null, .int 0, .int 0, .int 0])), (q0, zIa (ac 0) 85), (q1, zIa (ac 0) 85), (q2, zIa (ac 0) 85), (q3, zIa (ac 0) 85), (q4, zIa (ac 0) 255), (q5, zIa (ac 0) 340)] H := hP
  have hD : va_D A [(a, .inr (9, [.ref q0, .ref q1, .ref q2, .ref q3, .ref q4, .null, .null, .null, .null, .int 0, .int 0, .int 0])), (q0, zIa (ac 0) 85), (q1, zIa (ac 0) 85), (q2, zIa (ac 0) 85), (q3, zIa (ac 0) 85), (q4, zIa (ac 0) 255), (q5, zIa (ac 0) 340)] := hD
  refine W.widen (k := 6) (n := 935) (Nat.le_refl _) (Nat.le_refl _) ?_
  refine va_putF (D := D) (ci := 9) (v := .ref q5) (ty := (.array .int)) (C := "CaseTree$Tree") (T := zT_Tr) (N := 12) hx hb hts (fun w h => List.mem_cons_of_mem _ (zu_Tr w h)) zy_Tr zy_Tr_ok zn_Tr hown hK.1 hP hD hS 0 rfl rfl 5 (by decide) (hts _ (List.mem_cons_of_mem _ zf_Tr_27)) (fun _ h9 => h9) rfl hin rfl (by decide +kernel) rfl rfl (Nat.le_of_ble_eq_true rfl) zd_Tr_init_51 (fun H locs hP hD hS => ?_)
  have hP : va_P D vwCl [(a, .inr (9, [.ref q0, .ref q1, .ref q2, .ref q3, .ref q4, .ref q5, .null, .null, .null, .int 0, .int 0, .int 0])), (q0, zIa (ac 0) 85), (q1, zIa (ac 0) 85), (q2, zIa (ac 0) 85), (q3, zIa (ac 0) 85), (q4, zIa (ac 0) 255), (q5, zIa (ac 0) 340)] H := hP
  have hD : va_D A [(a, .inr (9, [.ref q0, .ref q1, .ref q2, .ref q3, .ref q4, .ref q5, .null, .null, .null, .int 0, .int 0, .int 0])), (q0, zIa (ac 0) 85), (q1, zIa (ac 0) 85), (q2, zIa (ac 0) 85), (q3, zIa (ac 0) 85), (q4, zIa (ac 0) 255), (q5, zIa (ac 0) 340)] := hD
  refine lv_aload_n hx hb zd_Tr_init_54 rfl (lv_at hl 0 rfl) ?_
  refine lv_sipush (v := 340) hx hb zd_Tr_init_55 (by decide) ?_
  refine zc_newa (N' := 340) hx hb (hts _ (List.mem_cons_of_mem _ zw_arrI)) hK hP hD hS hA (by decide) rfl (by decide) (Nat.le_of_ble_eq_true rfl) (Nat.le_of_ble_eq_true rfl) zd_Tr_init_58 (fun q6 H hP hD hS => ?_)
  have hP : va_P D vwCl [(a, .inr (9, [.ref q0, .ref q1, .ref q2, .ref q3, .ref q4, .ref q5, .null, .null, .null, .int 0, .int 0, .int 0])), (q0, zIa (ac 0) 85), (q1, zIa (ac 0) 85), (q2, zIa (ac 0) 85), (q3, zIa (ac 0) 85), (q4, zIa (ac 0) 255), (q5, zIa (ac 0) 340), (q6, zIa (ac 0) 340)] H := hP
  have hD : va_D A [(a, .inr (9, [.ref q0, .ref q1, .ref q2, .ref q3, .ref q4, .ref q5, .null, .null, .null, .int 0, .int 0, .int 0])), (q0, zIa (ac 0) 85), (q1, zIa (ac 0) 85), (q2, zIa (ac 0) 85), (q3, zIa (ac 0) 85), (q4, zIa (ac 0) 255), (q5, zIa (ac 0) 340), (q6, zIa (ac 0) 340)] := hD
  refine W.widen (k := 7) (n := 1275) (Nat.le_refl _) (Nat.le_refl _) ?_
  refine va_putF (D := D) (ci := 9) (v := .ref q6) (ty := (.array .int)) (C := "CaseTree$Tree") (T := zT_Tr) (N := 12) hx hb hts (fun w h => List.mem_cons_of_mem _ (zu_Tr w h)) zy_Tr zy_Tr_ok zn_Tr hown hK.1 hP hD hS 0 rfl rfl 6 (by decide) (hts _ (List.mem_cons_of_mem _ zf_Tr_30)) (fun _ h9 => h9) rfl hin rfl (by decide +kernel) rfl rfl (Nat.le_of_ble_eq_true rfl) zd_Tr_init_60 (fun H locs hP hD hS => ?_)
  have hP : va_P D vwCl [(a, .inr (9, [.ref q0, .ref q1, .ref q2, .ref q3, .ref q4, .ref q5, .ref q6, .null, .null, .int 0, .int 0, .int 0])), (q0, zIa (ac 0) 85), (q1, zIa (ac 0) 85), (q2, zIa (ac 0) 85), (q3, zIa (ac 0) 85), (q4, zIa (ac 0) 255), (q5, zIa (ac 0) 340), (q6, zIa (ac 0) 340)] H := hP
  have hD : va_D A [(a, .inr (9, [.ref q0, .ref q1, .ref q2, .ref q3, .ref q4, .ref q5, .ref q6, .null, .null, .int 0, .int 0, .int 0])), (q0, zIa (ac 0) 85), (q1, zIa (ac 0) 85), (q2, zIa (ac 0) 85), (q3, zIa (ac 0) 85), (q4, zIa (ac 0) 255), (q5, zIa (ac 0) 340), (q6, zIa (ac 0) 340)] := hD
  refine lv_aload_n hx hb zd_Tr_init_63 rfl (lv_at hl 0 rfl) ?_
  refine lv_bipush (v := 85) hx hb zd_Tr_init_64 (by decide) ?_
  refine zc_newa (N' := 85) hx hb (hts _ (List.mem_cons_of_mem _ zw_arrI)) hK hP hD hS hA (by decide) rfl (by decide) (Nat.le_of_ble_eq_true rfl) (Nat.le_of_ble_eq_true rfl) zd_Tr_init_66 (fun q7 H hP hD hS => ?_)
  have hP : va_P D vwCl [(a, .inr (9, [.ref q0, .ref q1, .ref q2, .ref q3, .ref q4, .ref q5, .ref q6, .null, .null, .int 0, .int 0, .int 0])), (q0, zIa (ac 0) 85), (q1, zIa (ac 0) 85), (q2, zIa (ac 0) 85), (q3, zIa (ac 0) 85), (q4, zIa (ac 0) 255), (q5, zIa (ac 0) 340), (q6, zIa (ac 0) 340), (q7, zIa (ac 0) 85)] H := hP
  have hD : va_D A [(a, .inr (9, [.ref q0, .ref q1, .ref q2, .ref q3, .ref q4, .ref q5, .ref q6, .null, .null, .int 0, .int 0, .int 0])), (q0, zIa (ac 0) 85), (q1, zIa (ac 0) 85), (q2, zIa (ac 0) 85), (q3, zIa (ac 0) 85), (q4, zIa (ac 0) 255), (q5, zIa (ac 0) 340), (q6, zIa (ac 0) 340), (q7, zIa (ac 0) 85)] := hD
  refine W.widen (k := 8) (n := 1360) (Nat.le_refl _) (Nat.le_refl _) ?_
  refine va_putF (D := D) (ci := 9) (v := .ref q7) (ty := (.array .int)) (C := "CaseTree$Tree") (T := zT_Tr) (N := 12) hx hb hts (fun w h => List.mem_cons_of_mem _ (zu_Tr w h)) zy_Tr zy_Tr_ok zn_Tr hown hK.1 hP hD hS 0 rfl rfl 7 (by decide) (hts _ (List.mem_cons_of_mem _ zf_Tr_33)) (fun _ h9 => h9) rfl hin rfl (by decide +kernel) rfl rfl (Nat.le_of_ble_eq_true rfl) zd_Tr_init_68 (fun H locs hP hD hS => ?_)
  have hP : va_P D vwCl [(a, .inr (9, [.ref q0, .ref q1, .ref q2, .ref q3, .ref q4, .ref q5, .ref q6, .ref q7, .null, .int 0, .int 0, .int 0])), (q0, zIa (ac 0) 85), (q1, zIa (ac 0) 85), (q2, zIa (ac 0) 85), (q3, zIa (ac 0) 85), (q4, zIa (ac 0) 255), (q5, zIa (ac 0) 340), (q6, zIa (ac 0) 340), (q7, zIa (ac 0) 85)] H := hP
  have hD : va_D A [(a, .inr (9, [.ref q0, .ref q1, .ref q2, .ref q3, .ref q4, .ref q5, .ref q6, .ref q7, .null, .int 0, .int 0, .int 0])), (q0, zIa (ac 0) 85), (q1, zIa (ac 0) 85), (q2, zIa (ac 0) 85), (q3, zIa (ac 0) 85), (q4, zIa (ac 0) 255), (q5, zIa (ac 0) 340), (q6, zIa (ac 0) 340), (q7, zIa (ac 0) 85)] := hD
  refine lv_aload_n hx hb zd_Tr_init_71 rfl (lv_at hl 0 rfl) ?_
  refine lv_bipush (v := 85) hx hb zd_Tr_init_72 (by decide) ?_
  refine zc_newa (N' := 85) hx hb (hts _ (List.mem_cons_of_mem _ zw_arrI)) hK hP hD hS hA (by decide) rfl (by decide) (Nat.le_of_ble_eq_true rfl) (Nat.le_of_ble_eq_true rfl) zd_Tr_init_74 (fun q8 H hP hD hS => ?_)
  have hP : va_P D vwCl [(a, .inr (9, [.ref q0, .ref q1, .ref q2, .ref q3, .ref q4, .ref q5, .ref q6, .ref q7, .null, .int 0, .int 0, .int 0])), (q0, zIa (ac 0) 85), (q1, zIa (ac 0) 85), (q2, zIa (ac 0) 85), (q3, zIa (ac 0) 85), (q4, zIa (ac 0) 255), (q5, zIa (ac 0) 340), (q6, zIa (ac 0) 340), (q7, zIa (ac 0) 85), (q8, zIa (ac 0) 85)] H := hP
  have hD : va_D A [(a, .inr (9, [.ref q0, .ref q1, .ref q2, .ref q3, .ref q4, .ref q5, .ref q6, .ref q7, .null, .int 0, .int 0, .int 0])), (q0, zIa (ac 0) 85), (q1, zIa (ac 0) 85), (q2, zIa (ac 0) 85), (q3, zIa (ac 0) 85), (q4, zIa (ac 0) 255), (q5, zIa (ac 0) 340), (q6, zIa (ac 0) 340), (q7, zIa (ac 0) 85), (q8, zIa (ac 0) 85)] := hD
  refine W.widen (k := 9) (n := 1445) (Nat.le_refl _) (Nat.le_refl _) ?_
  refine va_putF (D := D) (ci := 9) (v := .ref q8) (ty := (.array .int)) (C := "CaseTree$Tree") (T := zT_Tr) (N := 12) hx hb hts (fun w h => List.mem_cons_of_mem _ (zu_Tr w h)) zy_Tr zy_Tr_ok zn_Tr hown hK.1 hP hD hS 0 rfl rfl 8 (by decide) (hts _ (List.mem_cons_of_mem _ zf_Tr_36)) (fun _ h9 => h9) rfl hin rfl (by decide +kernel) rfl rfl (Nat.le_of_ble_eq_true rfl) zd_Tr_init_76 (fun H locs hP hD hS => ?_)
  have hP : va_P D vwCl [(a, .inr (9, [.ref q0, .ref q1, .ref q2, .ref q3, .ref q4, .ref q5, .ref q6, .ref q7, .ref q8, .int 0, .int 0, .int 0])), (q0, zIa (ac 0) 85), (q1, zIa (ac 0) 85), (q2, zIa (ac 0) 85), (q3, zIa (ac 0) 85), (q4, zIa (ac 0) 255), (q5, zIa (ac 0) 340), (q6, zIa (ac 0) 340), (q7, zIa (ac 0) 85), (q8, zIa (ac 0) 85)] H := hP
  have hD : va_D A [(a, .inr (9, [.ref q0, .ref q1, .ref q2, .ref q3, .ref q4, .ref q5, .ref q6, .ref q7, .ref q8, .int 0, .int 0, .int 0])), (q0, zIa (ac 0) 85), (q1, zIa (ac 0) 85), (q2, zIa (ac 0) 85), (q3, zIa (ac 0) 85), (q4, zIa (ac 0) 255), (q5, zIa (ac 0) 340), (q6, zIa (ac 0) 340), (q7, zIa (ac 0) 85), (q8, zIa (ac 0) 85)] := hD
  refine lv_aload_n hx hb zd_Tr_init_79 rfl (lv_at hl 0 rfl) ?_
  refine lv_iconst (v := 0) hx hb zd_Tr_init_80 (by decide) ?_
  refine va_put (D := D) (ci := 9) (v := .int 0) (ty := .int) (C := "CaseTree$Tree") (T := zT_Tr) (N := 12) hx hb hts (fun w h => List.mem_cons_of_mem _ (zu_Tr w h)) zy_Tr zy_Tr_ok zn_Tr hown hK.1 hP hD hS 0 rfl rfl 9 (by decide) (hts _ (List.mem_cons_of_mem _ zf_Tr_39)) (fun _ h9 => h9) rfl (by decide +kernel) rfl rfl (Nat.le_of_ble_eq_true rfl) zd_Tr_init_81 (fun H locs hP hD hS => ?_)
  have hP : va_P D vwCl [(a, .inr (9, [.ref q0, .ref q1, .ref q2, .ref q3, .ref q4, .ref q5, .ref q6, .ref q7, .ref q8, .int 0, .int 0, .int 0])), (q0, zIa (ac 0) 85), (q1, zIa (ac 0) 85), (q2, zIa (ac 0) 85), (q3, zIa (ac 0) 85), (q4, zIa (ac 0) 255), (q5, zIa (ac 0) 340), (q6, zIa (ac 0) 340), (q7, zIa (ac 0) 85), (q8, zIa (ac 0) 85)] H := hP
  have hD : va_D A [(a, .inr (9, [.ref q0, .ref q1, .ref q2, .ref q3, .ref q4, .ref q5, .ref q6, .ref q7, .ref q8, .int 0, .int 0, .int 0])), (q0, zIa (ac 0) 85), (q1, zIa (ac 0) 85), (q2, zIa (ac 0) 85), (q3, zIa (ac 0) 85), (q4, zIa (ac 0) 255), (q5, zIa (ac 0) 340), (q6, zIa (ac 0) 340), (q7, zIa (ac 0) 85), (q8, zIa (ac 0) 85)] := hD
  refine lv_aload_n hx hb zd_Tr_init_84 rfl (lv_at hl 0 rfl) ?_
  refine lv_iconst (v := 0) hx hb zd_Tr_init_85 (by decide) ?_
  refine va_put (D := D) (ci := 9) (v := .int 0) (ty := .int) (C := "CaseTree$Tree") (T := zT_Tr) (N := 12) hx hb hts (fun w h => List.mem_cons_of_mem _ (zu_Tr w h)) zy_Tr zy_Tr_ok zn_Tr hown hK.1 hP hD hS 0 rfl rfl 10 (by decide) (hts _ (List.mem_cons_of_mem _ zf_Tr_43)) (fun _ h9 => h9) rfl (by decide +kernel) rfl rfl (Nat.le_of_ble_eq_true rfl) zd_Tr_init_86 (fun H locs hP hD hS => ?_)
  have hP : va_P D vwCl [(a, .inr (9, [.ref q0, .ref q1, .ref q2, .ref q3, .ref q4, .ref q5, .ref q6, .ref q7, .ref q8, .int 0, .int 0, .int 0])), (q0, zIa (ac 0) 85), (q1, zIa (ac 0) 85), (q2, zIa (ac 0) 85), (q3, zIa (ac 0) 85), (q4, zIa (ac 0) 255), (q5, zIa (ac 0) 340), (q6, zIa (ac 0) 340), (q7, zIa (ac 0) 85), (q8, zIa (ac 0) 85)] H := hP
  have hD : va_D A [(a, .inr (9, [.ref q0, .ref q1, .ref q2, .ref q3, .ref q4, .ref q5, .ref q6, .ref q7, .ref q8, .int 0, .int 0, .int 0])), (q0, zIa (ac 0) 85), (q1, zIa (ac 0) 85), (q2, zIa (ac 0) 85), (q3, zIa (ac 0) 85), (q4, zIa (ac 0) 255), (q5, zIa (ac 0) 340), (q6, zIa (ac 0) 340), (q7, zIa (ac 0) 85), (q8, zIa (ac 0) 85)] := hD
  refine lv_aload_n hx hb zd_Tr_init_89 rfl (lv_at hl 0 rfl) ?_
  refine lv_iconst (v := 0) hx hb zd_Tr_init_90 (by decide) ?_
  refine va_put (D := D) (ci := 9) (v := .int 0) (ty := .int) (C := "CaseTree$Tree") (T := zT_Tr) (N := 12) hx hb hts (fun w h => List.mem_cons_of_mem _ (zu_Tr w h)) zy_Tr zy_Tr_ok zn_Tr hown hK.1 hP hD hS 0 rfl rfl 11 (by decide) (hts _ (List.mem_cons_of_mem _ zf_Tr_46)) (fun _ h9 => h9) rfl (by decide +kernel) rfl rfl (Nat.le_of_ble_eq_true rfl) zd_Tr_init_91 (fun H locs hP hD hS => ?_)
  have hP : va_P D vwCl [(a, .inr (9, [.ref q0, .ref q1, .ref q2, .ref q3, .ref q4, .ref q5, .ref q6, .ref q7, .ref q8, .int 0, .int 0, .int 0])), (q0, zIa (ac 0) 85), (q1, zIa (ac 0) 85), (q2, zIa (ac 0) 85), (q3, zIa (ac 0) 85), (q4, zIa (ac 0) 255), (q5, zIa (ac 0) 340), (q6, zIa (ac 0) 340), (q7, zIa (ac 0) 85), (q8, zIa (ac 0) 85)] H := hP
  have hD : va_D A [(a, .inr (9, [.ref q0, .ref q1, .ref q2, .ref q3, .ref q4, .ref q5, .ref q6, .ref q7, .ref q8, .int 0, .int 0, .int 0])), (q0, zIa (ac 0) 85), (q1, zIa (ac 0) 85), (q2, zIa (ac 0) 85), (q3, zIa (ac 0) 85), (q4, zIa (ac 0) 255), (q5, zIa (ac 0) 340), (q6, zIa (ac 0) 340), (q7, zIa (ac 0) 85), (q8, zIa (ac 0) 85)] := hD
  exact W.vret hx hb hr (fun t ht hW => ⟨⟨fun i => ([q0, q1, q2, q3, q4, q5, q6, q7, q8] : List Nat).getD i 0, rfl, trivial, by rw [ht]; exact hP, hD⟩, hS.F ht⟩) hS.2.2 zd_Tr_init_94
theorem zd_Gr_init_0 : decode prog_5_method_1_code 0 = .ok (.aload_n 0, 1) := by decide +kernel
theorem zd_Gr_init_1 : decode prog_5_method_1_code 1 = .ok (.invokespecial 3, 3) := by decide +kernel
theorem zd_Gr_init_4 : decode prog_5_method_1_code 4 = .ok (.aload_n 0, 1) := by decide +kernel
theorem zd_Gr_init_5 : decode prog_5_method_1_code 5 = .ok (.iconst 1, 1) := by decide +kernel
theorem zd_Gr_init_6 : decode prog_5_method_1_code 6 = .ok (.putfield 9, 3) := by decide +kernel
theorem zd_Gr_init_9 : decode prog_5_method_1_code 9 = .ok (.aload_n 0, 1) := by decide +kernel
theorem zd_Gr_init_10 : decode prog_5_method_1_code 10 = .ok (.aload_n 1, 1) := by decide +kernel
theorem zd_Gr_init_11 : decode prog_5_method_1_code 11 = .ok (.putfield 15, 3) := by decide +kernel
theorem zd_Gr_init_14 : decode prog_5_method_1_code 14 = .ok (.aload_n 0, 1) := by decide +kernel
theorem zd_Gr_init_15 : decode prog_5_method_1_code 15 = .ok (.aload_n 2, 1) := by decide +kernel
theorem zd_Gr_init_16 : decode prog_5_method_1_code 16 = .ok (.putfield 19, 3) := by decide +kernel
theorem zd_Gr_init_19 : decode prog_5_method_1_code 19 = .ok (.aload_n 0, 1) := by decide +kernel
theorem zd_Gr_init_20 : decode prog_5_method_1_code 20 = .ok (.aload_n 3, 1) := by decide +kernel
theorem zd_Gr_init_21 : decode prog_5_method_1_code 21 = .ok (.putfield 23, 3) := by decide +kernel
theorem zd_Gr_init_24 : decode prog_5_method_1_code 24 = .ok (.aload_n 0, 1) := by decide +kernel
theorem zd_Gr_init_25 : decode prog_5_method_1_code 25 = .ok (.aload 4, 2) := by decide +kernel
theorem zd_Gr_init_27 : decode prog_5_method_1_code 27 = .ok (.putfield 27, 3) := by decide +kernel
theorem zd_Gr_init_30 : decode prog_5_method_1_code 30 = .ok (.return_, 1) := by decide +kernel
abbrev wc_Gr (ac : Nat → ClassId) (a : Nat) (b1 : Nat) (b2 : Nat) (b3 : Nat) (b4 : Nat) (u : Nat → Nat) : va_W := [(a, .inr (4, [.ref b1, .ref b2, .ref b3, .ref b4, .int 1]))]
set_option maxHeartbeats 8000000 in
set_option maxRecDepth 100000 in
theorem k_Gr (l : Launch) (D : va_G) (ac : Nat → ClassId) (a : Nat) (b1 : Nat) (b2 : Nat) (b3 : Nat) (b4 : Nat) (sz : Nat) : Met l ⟨"CaseTree$Grower", "<init>", "(LCaseTree$Cases;LCaseTree$Tree;LCaseTree$Path;LCaseTree$Tester;)V"⟩ (Cond.code ⟨"CaseTree$Grower", "<init>", "(LCaseTree$Cases;LCaseTree$Tree;LCaseTree$Path;LCaseTree$Tester;)V"⟩ prog_5_method_1_code 5 none :: zb) ({ frames := 1, cells := 0, slots := 0, locals := 40 }) (va_Pc [.ref a, .ref b1, .ref b2, .ref b3, .ref b4] (zkB D ac sz [(a, .inr (4, [.null, .null, .null, .null, .int 0]))])) (va_Qv (fun _ : Nat → Nat => True) (fun u t => zkE D (va_A [(a, .inr (4, [.null, .null, .null, .null, .int 0]))] sz) (wc_Gr ac a b1 b2 b3 b4 u) t) (va_A [(a, .inr (4, [.null, .null, .null, .null, .int 0]))] sz)) 0 0 (va_A [(a, .inr (4, [.null, .null, .null, .null, .int 0]))] sz) := by
  refine Met.ofW (cc := prog_5_method_1_code) (maxL := 5) (ret := none) (by decide) rfl ?_
  intro p e s m args below meth c s₁ B hml hv
  obtain ⟨rfl, hsz, hP, hK, hD0⟩ := hv
  have hx := B.exec
  have hb := B.bytes
  have hr := B.returns
  have hts := atoms_spec (ws := (Cond.code ⟨"CaseTree$Grower", "<init>", "(LCaseTree$Cases;LCaseTree$Tree;LCaseTree$Path;LCaseTree$Tester;)V"⟩ prog_5_method_1_code 5 none :: zb)) B.pre
  have hown : s.vm.findClass "CaseTree$Grower" = some m.cls := findClass_of_methodNamed B.named
  have hlocks := B.notSynchronized
  have hin : meth.name = "<init>" := (name_of_methodNamed B.named B.method).1
  subst hsz
  have hD := hD0.self (sz := s.heap.size)
  generalize hAe : va_A [(a, .inr (4, [.null, .null, .null, .null, .int 0]))] s.heap.size = A at hD ⊢
  have hA : ∀ q : Nat, s.heap.size ≤ q → A q := fun q h => by rw [← hAe]; exact Or.inr h
  have hS : va_S A s.heap s.heap [] := va_S.rf
  have hl := lv_entry ([.ref a, .ref b1, .ref b2, .ref b3, .ref b4]) (n := 5) (Nat.le_of_ble_eq_true rfl)
  rw [lg_entry_eq]
  generalize (lg_sl ([.ref a, .ref b1, .ref b2, .ref b3, .ref b4]) ++ List.replicate (5 - (lg_sl ([.ref a, .ref b1, .ref b2, .ref b3, .ref b4])).length) Slot.unset).toArray = ls at hl ⊢
  have hl : lv_has ls 5 [(0, .ref a), (1, .ref b1), (2, .ref b2), (3, .ref b3), (4, .ref b4)] := hl
  refine lv_aload_n hx hb zd_Gr_init_0 rfl (lv_at hl 0 rfl) ?_
  refine W.objInit hx hb hown (hts _ (List.mem_cons_of_mem _ zw_ml_Gr_3)) (hts _ (List.mem_cons_of_mem _ zw_im_O)) (hts _ (List.mem_cons_of_mem _ zw_c_O)) rfl (by rw [hml]; exact hl.1) rfl zd_Gr_init_1 (Nat.le_of_ble_eq_true rfl) (Nat.le_of_ble_eq_true rfl) ?_
  refine W.eq (g2 := F0 m 4 ls []) rfl ?_
  refine lv_aload_n hx hb zd_Gr_init_4 rfl (lv_at hl 0 rfl) ?_
  refine lv_iconst (v := 1) hx hb zd_Gr_init_5 (by decide) ?_
  refine va_put (D := D) (ci := 4) (v := .int 1) (ty := .int) (C := "CaseTree$Grower") (T := zT_Gr) (N := 5) hx hb hts (fun w h => List.mem_cons_of_mem _ (zu_Gr w h)) zy_Gr zy_Gr_ok zn_Gr hown hK.1 hP hD hS 0 rfl rfl 4 (by decide) (hts _ (List.mem_cons_of_mem _ zf_Gr_9)) (fun _ h9 => h9) rfl (by decide +kernel) rfl rfl (Nat.le_of_ble_eq_true rfl) zd_Gr_init_6 (fun H locs hP hD hS => ?_)
  have hP : va_P D vwCl [(a, .inr (4, [.null, .null, .null, .null, .int 1]))] H := hP
  have hD : va_D A [(a, .inr (4, [.null, .null, .null, .null, .int 1]))] := hD
  refine lv_aload_n hx hb zd_Gr_init_9 rfl (lv_at hl 0 rfl) ?_
  refine lv_aload_n hx hb zd_Gr_init_10 rfl (lv_at hl 1 rfl) ?_
  refine va_putF (D := D) (ci := 4) (v := .ref b1) (ty := (.object "CaseTree$Cases")) (C := "CaseTree$Grower") (T := zT_Gr) (N := 5) hx hb hts (fun w h => List.mem_cons_of_mem _ (zu_Gr w h)) zy_Gr zy_Gr_ok zn_Gr hown hK.1 hP hD hS 0 rfl rfl 0 (by decide) (hts _ (List.mem_cons_of_mem _ zf_Gr_15)) (fun _ h9 => h9) rfl hin rfl (by decide +kernel) rfl rfl (Nat.le_of_ble_eq_true rfl) zd_Gr_init_11 (fun H locs hP hD hS => ?_)
  have hP : va_P D vwCl [(a, .inr (4, [.ref b1, .null, .null, .null, .int 1]))] H := hP
  have hD : va_D A [(a, .inr (4, [.ref b1, .null, .null, .null, .int 1]))] := hD
  refine lv_aload_n hx hb zd_Gr_init_14 rfl (lv_at hl 0 rfl) ?_
  refine lv_aload_n hx hb zd_Gr_init_15 rfl (lv_at hl 2 rfl) ?_
  refine va_putF (D := D) (ci := 4) (v := .ref b2) (ty := (.object "CaseTree$Tree")) (C := "CaseTree$Grower") (T := zT_Gr) (N := 5) hx hb hts (fun w h => List.mem_cons_of_mem _ (zu_Gr w h)) zy_Gr zy_Gr_ok zn_Gr hown hK.1 hP hD hS 0 rfl rfl 1 (by decide) (hts _ (List.mem_cons_of_mem _ zf_Gr_19)) (fun _ h9 => h9) rfl hin rfl (by decide +kernel) rfl rfl (Nat.le_of_ble_eq_true rfl) zd_Gr_init_16 (fun H locs hP hD hS => ?_)
  have hP : va_P D vwCl [(a, .inr (4, [.ref b1, .ref b2, .null, .null, .int 1]))] H := hP
  have hD : va_D A [(a, .inr (4, [.ref b1, .ref b2, .null, .null, .int 1]))] := hD
  refine lv_aload_n hx hb zd_Gr_init_19 rfl (lv_at hl 0 rfl) ?_
  refine lv_aload_n hx hb zd_Gr_init_20 rfl (lv_at hl 3 rfl) ?_
  refine va_putF (D := D) (ci := 4) (v := .ref b3) (ty := (.object "CaseTree$Path")) (C := "CaseTree$Grower") (T := zT_Gr) (N := 5) hx hb hts (fun w h => List.mem_cons_of_mem _ (zu_Gr w h)) zy_Gr zy_Gr_ok zn_Gr hown hK.1 hP hD hS 0 rfl rfl 2 (by decide) (hts _ (List.mem_cons_of_mem _ zf_Gr_23)) (fun _ h9 => h9) rfl hin rfl (by decide +kernel) rfl rfl (Nat.le_of_ble_eq_true rfl) zd_Gr_init_21 (fun H locs hP hD hS => ?_)
  have hP : va_P D vwCl [(a, .inr (4, [.ref b1, .ref b2, .ref b3, .null, .int 1]))] H := hP
  have hD : va_D A [(a, .inr (4, [.ref b1, .ref b2, .ref b3, .null, .int 1]))] := hD
  refine lv_aload_n hx hb zd_Gr_init_24 rfl (lv_at hl 0 rfl) ?_
  refine lv_aload hx hb zd_Gr_init_25 (lv_at hl 4 rfl) ?_
  refine va_putF (D := D) (ci := 4) (v := .ref b4) (ty := (.object "CaseTree$Tester")) (C := "CaseTree$Grower") (T := zT_Gr) (N := 5) hx hb hts (fun w h => List.mem_cons_of_mem _ (zu_Gr w h)) zy_Gr zy_Gr_ok zn_Gr hown hK.1 hP hD hS 0 rfl rfl 3 (by decide) (hts _ (List.mem_cons_of_mem _ zf_Gr_27)) (fun _ h9 => h9) rfl hin rfl (by decide +kernel) rfl rfl (Nat.le_of_ble_eq_true rfl) zd_Gr_init_27 (fun H locs hP hD hS => ?_)
  have hP : va_P D vwCl [(a, .inr (4, [.ref b1, .ref b2, .ref b3, .ref b4, .int 1]))] H := hP
  have hD : va_D A [(a, .inr (4, [.ref b1, .ref b2, .ref b3, .ref b4, .int 1]))] := hD
  exact W.vret hx hb hr (fun t ht hW => ⟨⟨fun i => ([] : List Nat).getD i 0, rfl, trivial, by rw [ht]; exact hP, hD⟩, hS.F ht⟩) hS.2.2 zd_Gr_init_30
theorem zd_Pr_init_0 : decode prog_8_method_1_code 0 = .ok (.aload_n 0, 1) := by decide +kernel
theorem zd_Pr_init_1 : decode prog_8_method_1_code 1 = .ok (.invokespecial 3, 3) := by decide +kernel
theorem zd_Pr_init_4 : decode prog_8_method_1_code 4 = .ok (.aload_n 0, 1) := by decide +kernel
theorem zd_Pr_init_5 : decode prog_8_method_1_code 5 = .ok (.iconst 0, 1) := by decide +kernel
theorem zd_Pr_init_6 : decode prog_8_method_1_code 6 = .ok (.putfield 9, 3) := by decide +kernel
theorem zd_Pr_init_9 : decode prog_8_method_1_code 9 = .ok (.aload_n 0, 1) := by decide +kernel
theorem zd_Pr_init_10 : decode prog_8_method_1_code 10 = .ok (.aload_n 1, 1) := by decide +kernel
theorem zd_Pr_init_11 : decode prog_8_method_1_code 11 = .ok (.putfield 15, 3) := by decide +kernel
theorem zd_Pr_init_14 : decode prog_8_method_1_code 14 = .ok (.aload_n 0, 1) := by decide +kernel
theorem zd_Pr_init_15 : decode prog_8_method_1_code 15 = .ok (.aload_n 2, 1) := by decide +kernel
theorem zd_Pr_init_16 : decode prog_8_method_1_code 16 = .ok (.putfield 19, 3) := by decide +kernel
theorem zd_Pr_init_19 : decode prog_8_method_1_code 19 = .ok (.return_, 1) := by decide +kernel
abbrev wc_Pr (ac : Nat → ClassId) (a : Nat) (b1 : Nat) (b2 : Nat) (u : Nat → Nat) : va_W := [(a, .inr (7, [.ref b1, .ref b2, .int 0]))]
set_option maxHeartbeats 8000000 in
set_option maxRecDepth 100000 in
theorem k_Pr (l : Launch) (D : va_G) (ac : Nat → ClassId) (a : Nat) (b1 : Nat) (b2 : Nat) (sz : Nat) : Met l ⟨"CaseTree$Pruner", "<init>", "(LCaseTree$Tree;LCaseTree$Path;)V"⟩ (Cond.code ⟨"CaseTree$Pruner", "<init>", "(LCaseTree$Tree;LCaseTree$Path;)V"⟩ prog_8_method_1_code 3 none :: zb) ({ frames := 1, cells := 0, slots := 0, locals := 40 }) (va_Pc [.ref a, .ref b1, .ref b2] (zkB D ac sz [(a, .inr (7, [.null, .null, .int 0]))])) (va_Qv (fun _ : Nat → Nat => True) (fun u t => zkE D (va_A [(a, .inr (7, [.null, .null, .int 0]))] sz) (wc_Pr ac a b1 b2 u) t) (va_A [(a, .inr (7, [.null, .null, .int 0]))] sz)) 0 0 (va_A [(a, .inr (7, [.null, .null, .int 0]))] sz) := by
  refine Met.ofW (cc := prog_8_method_1_code) (maxL := 3) (ret := none) (by decide) rfl ?_
  intro p e s m args below meth c s₁ B hml hv
  obtain ⟨rfl, hsz, hP, hK, hD0⟩ := hv
  have hx := B.exec
  have hb := B.bytes
  have hr := B.returns
  have hts := atoms_spec (ws := (Cond.code ⟨"CaseTree$Pruner", "<init>", "(LCaseTree$Tree;LCaseTree$Path;)V"⟩ prog_8_method_1_code 3 none :: zb)) B.pre
  have hown : s.vm.findClass "CaseTree$Pruner" = some m.cls := findClass_of_methodNamed B.named
  have hlocks := B.notSynchronized
  have hin : meth.name = "<init>" := (name_of_methodNamed B.named B.method).1
  subst hsz
  have hD := hD0.self (sz := s.heap.size)
  generalize hAe : va_A [(a, .inr (7, [.null, .null, .int 0]))] s.heap.size = A at hD ⊢
  have hA : ∀ q : Nat, s.heap.size ≤ q → A q := fun q h => by rw [← hAe]; exact Or.inr h
  have hS : va_S A s.heap s.heap [] := va_S.rf
  have hl := lv_entry ([.ref a, .ref b1, .ref b2]) (n := 3) (Nat.le_of_ble_eq_true rfl)
  rw [lg_entry_eq]
  generalize (lg_sl ([.ref a, .ref b1, .ref b2]) ++ List.replicate (3 - (lg_sl ([.ref a, .ref b1, .ref b2])).length) Slot.unset).toArray = ls at hl ⊢
  have hl : lv_has ls 3 [(0, .ref a), (1, .ref b1), (2, .ref b2)] := hl
  refine lv_aload_n hx hb zd_Pr_init_0 rfl (lv_at hl 0 rfl) ?_
  refine W.objInit hx hb hown (hts _ (List.mem_cons_of_mem _ zw_ml_Pr_3)) (hts _ (List.mem_cons_of_mem _ zw_im_O)) (hts _ (List.mem_cons_of_mem _ zw_c_O)) rfl (by rw [hml]; exact hl.1) rfl zd_Pr_init_1 (Nat.le_of_ble_eq_true rfl) (Nat.le_of_ble_eq_true rfl) ?_
  refine W.eq (g2 := F0 m 4 ls []) rfl ?_
  refine lv_aload_n hx hb zd_Pr_init_4 rfl (lv_at hl 0 rfl) ?_
  refine lv_iconst (v := 0) hx hb zd_Pr_init_5 (by decide) ?_
  refine va_put (D := D) (ci := 7) (v := .int 0) (ty := .int) (C := "CaseTree$Pruner") (T := zT_Pr) (N := 3) hx hb hts (fun w h => List.mem_cons_of_mem _ (zu_Pr w h)) zy_Pr zy_Pr_ok zn_Pr hown hK.1 hP hD hS 0 rfl rfl 2 (by decide) (hts _ (List.mem_cons_of_mem _ zf_Pr_9)) (fun _ h9 => h9) rfl (by decide +kernel) rfl rfl (Nat.le_of_ble_eq_true rfl) zd_Pr_init_6 (fun H locs hP hD hS => ?_)
  have hP : va_P D vwCl [(a, .inr (7, [.null, .null, .int 0]))] H := hP
  have hD : va_D A [(a, .inr (7, [.null, .null, .int 0]))] := hD
  refine lv_aload_n hx hb zd_Pr_init_9 rfl (lv_at hl 0 rfl) ?_
  refine lv_aload_n hx hb zd_Pr_init_10 rfl (lv_at hl 1 rfl) ?_
  refine va_putF (D := D) (ci := 7) (v := .ref b1) (ty := (.object "CaseTree$Tree")) (C := "CaseTree$Pruner") (T := zT_Pr) (N := 3) hx hb hts (fun w h => List.mem_cons_of_mem _ (zu_Pr w h)) zy_Pr zy_Pr_ok zn_Pr hown hK.1 hP hD hS 0 rfl rfl 0 (by decide) (hts _ (List.mem_cons_of_mem _ zf_Pr_15)) (fun _ h9 => h9) rfl hin rfl (by decide +kernel) rfl rfl (Nat.le_of_ble_eq_true rfl) zd_Pr_init_11 (fun H locs hP hD hS => ?_)
  have hP : va_P D vwCl [(a, .inr (7, [.ref b1, .null, .int 0]))] H := hP
  have hD : va_D A [(a, .inr (7, [.ref b1, .null, .int 0]))] := hD
  refine lv_aload_n hx hb zd_Pr_init_14 rfl (lv_at hl 0 rfl) ?_
  refine lv_aload_n hx hb zd_Pr_init_15 rfl (lv_at hl 2 rfl) ?_
  refine va_putF (D := D) (ci := 7) (v := .ref b2) (ty := (.object "CaseTree$Path")) (C := "CaseTree$Pruner") (T := zT_Pr) (N := 3) hx hb hts (fun w h => List.mem_cons_of_mem _ (zu_Pr w h)) zy_Pr zy_Pr_ok zn_Pr hown hK.1 hP hD hS 0 rfl rfl 1 (by decide) (hts _ (List.mem_cons_of_mem _ zf_Pr_19)) (fun _ h9 => h9) rfl hin rfl (by decide +kernel) rfl rfl (Nat.le_of_ble_eq_true rfl) zd_Pr_init_16 (fun H locs hP hD hS => ?_)
  have hP : va_P D vwCl [(a, .inr (7, [.ref b1, .ref b2, .int 0]))] H := hP
  have hD : va_D A [(a, .inr (7, [.ref b1, .ref b2, .int 0]))] := hD
  exact W.vret hx hb hr (fun t ht hW => ⟨⟨fun i => ([] : List Nat).getD i 0, rfl, trivial, by rw [ht]; exact hP, hD⟩, hS.F ht⟩) hS.2.2 zd_Pr_init_19
theorem zd_Ju_init_0 : decode prog_6_method_1_code 0 = .ok (.aload_n 0, 1) := by decide +kernel
theorem zd_Ju_init_1 : decode prog_6_method_1_code 1 = .ok (.invokespecial 3, 3) := by decide +kernel
theorem zd_Ju_init_4 : decode prog_6_method_1_code 4 = .ok (.aload_n 0, 1) := by decide +kernel
theorem zd_Ju_init_5 : decode prog_6_method_1_code 5 = .ok (.iconst 3, 1) := by decide +kernel
theorem zd_Ju_init_6 : decode prog_6_method_1_code 6 = .ok (.newarray .int, 2) := by decide +kernel
theorem zd_Ju_init_8 : decode prog_6_method_1_code 8 = .ok (.putfield 9, 3) := by decide +kernel
theorem zd_Ju_init_11 : decode prog_6_method_1_code 11 = .ok (.aload_n 0, 1) := by decide +kernel
theorem zd_Ju_init_12 : decode prog_6_method_1_code 12 = .ok (.aload_n 1, 1) := by decide +kernel
theorem zd_Ju_init_13 : decode prog_6_method_1_code 13 = .ok (.putfield 15, 3) := by decide +kernel
theorem zd_Ju_init_16 : decode prog_6_method_1_code 16 = .ok (.aload_n 0, 1) := by decide +kernel
theorem zd_Ju_init_17 : decode prog_6_method_1_code 17 = .ok (.aload_n 2, 1) := by decide +kernel
theorem zd_Ju_init_18 : decode prog_6_method_1_code 18 = .ok (.putfield 19, 3) := by decide +kernel
theorem zd_Ju_init_21 : decode prog_6_method_1_code 21 = .ok (.return_, 1) := by decide +kernel
abbrev wc_Ju (ac : Nat → ClassId) (a : Nat) (b1 : Nat) (b2 : Nat) (u : Nat → Nat) : va_W := [(a, .inr (5, [.ref b1, .ref b2, .ref (u 0)])), ((u 0), zIa (ac 0) 3)]
set_option maxHeartbeats 8000000 in
set_option maxRecDepth 100000 in
theorem k_Ju (l : Launch) (D : va_G) (ac : Nat → ClassId) (a : Nat) (b1 : Nat) (b2 : Nat) (sz : Nat) : Met l ⟨"CaseTree$Judge", "<init>", "(LCaseTree$Tree;LCaseTree$Path;)V"⟩ (Cond.code ⟨"CaseTree$Judge", "<init>", "(LCaseTree$Tree;LCaseTree$Path;)V"⟩ prog_6_method_1_code 3 none :: zb) ({ frames := 1, cells := 1, slots := 3, locals := 40 }) (va_Pc [.ref a, .ref b1, .ref b2] (zkB D ac sz [(a, .inr (5, [.null, .null, .null]))])) (va_Qv (fun _ : Nat → Nat => True) (fun u t => zkE D (va_A [(a, .inr (5, [.null, .null, .null]))] sz) (wc_Ju ac a b1 b2 u) t) (va_A [(a, .inr (5, [.null, .null, .null]))] sz)) 1 3 (va_A [(a, .inr (5, [.null, .null, .null]))] sz) := by
  refine Met.ofW (cc := prog_6_method_1_code) (maxL := 3) (ret := none) (by decide) rfl ?_
  intro p e s m args below meth c s₁ B hml hv
  obtain ⟨rfl, hsz, hP, hK, hD0⟩ := hv
  have hx := B.exec
  have hb := B.bytes
  have hr := B.returns
  have hts := atoms_spec (ws := (Cond.code ⟨"CaseTree$Judge", "<init>", "(LCaseTree$Tree;LCaseTree$Path;)V"⟩ prog_6_method_1_code 3 none :: zb)) B.pre
  have hown : s.vm.findClass "CaseTree$Judge" = some m.cls := findClass_of_methodNamed B.named
  have hlocks := B.notSynchronized
  have hin : meth.name = "<init>" := (name_of_methodNamed B.named B.method).1
  subst hsz
  have hD := hD0.self (sz := s.heap.size)
  generalize hAe : va_A [(a, .inr (5, [.null, .null, .null]))] s.heap.size = A at hD ⊢
  have hA : ∀ q : Nat, s.heap.size ≤ q → A q := fun q h => by rw [← hAe]; exact Or.inr h
  have hS : va_S A s.heap s.heap [] := va_S.rf
  have hl := lv_entry ([.ref a, .ref b1, .ref b2]) (n := 3) (Nat.le_of_ble_eq_true rfl)
  rw [lg_entry_eq]
  generalize (lg_sl ([.ref a, .ref b1, .ref b2]) ++ List.replicate (3 - (lg_sl ([.ref a, .ref b1, .ref b2])).length) Slot.unset).toArray = ls at hl ⊢
  have hl : lv_has ls 3 [(0, .ref a), (1, .ref b1), (2, .ref b2)] := hl
  refine lv_aload_n hx hb zd_Ju_init_0 rfl (lv_at hl 0 rfl) ?_
  refine W.objInit hx hb hown (hts _ (List.mem_cons_of_mem _ zw_ml_Ju_3)) (hts _ (List.mem_cons_of_mem _ zw_im_O)) (hts _ (List.mem_cons_of_mem _ zw_c_O)) rfl (by rw [hml]; exact hl.1) rfl zd_Ju_init_1 (Nat.le_of_ble_eq_true rfl) (Nat.le_of_ble_eq_true rfl) ?_
  refine W.eq (g2 := F0 m 4 ls []) rfl ?_
  refine lv_aload_n hx hb zd_Ju_init_4 rfl (lv_at hl 0 rfl) ?_
  refine lv_iconst (v := 3) hx hb zd_Ju_init_5 (by decide) ?_
  refine zc_newa (N' := 3) hx hb (hts _ (List.mem_cons_of_mem _ zw_arrI)) hK hP hD hS hA (by decide) rfl (by decide) (Nat.le_of_ble_eq_true rfl) (Nat.le_of_ble_eq_true rfl) zd_Ju_init_6 (fun q0 H hP hD hS => ?_)
  have hP : va_P D vwCl [(a, .inr (5, [.null, .null, .null])), (q0, zIa (ac 0) 3)] H := hP
  have hD : va_D A [(a, .inr (5, [.null, .null, .null])), (q0, zIa (ac 0) 3)] := hD
  refine W.widen (k := 1) (n := 3) (Nat.le_refl _) (Nat.le_refl _) ?_
  refine va_putF (D := D) (ci := 5) (v := .ref q0) (ty := (.array .int)) (C := "CaseTree$Judge") (T := zT_Ju) (N := 3) hx hb hts (fun w h => List.mem_cons_of_mem _ (zu_Ju w h)) zy_Ju zy_Ju_ok zn_Ju hown hK.1 hP hD hS 0 rfl rfl 2 (by decide) (hts _ (List.mem_cons_of_mem _ zf_Ju_9)) (fun _ h9 => h9) rfl hin rfl (by decide +kernel) rfl rfl (Nat.le_of_ble_eq_true rfl) zd_Ju_init_8 (fun H locs hP hD hS => ?_)
  have hP : va_P D vwCl [(a, .inr (5, [.null, .null, .ref q0])), (q0, zIa (ac 0) 3)] H := hP
  have hD : va_D A [(a, .inr (5, [.null, .null, .ref q0])), (q0, zIa (ac 0) 3)] := hD
  refine lv_aload_n hx hb zd_Ju_init_11 rfl (lv_at hl 0 rfl) ?_
  refine lv_aload_n hx hb zd_Ju_init_12 rfl (lv_at hl 1 rfl) ?_
  refine va_putF (D := D) (ci := 5) (v := .ref b1) (ty := (.object "CaseTree$Tree")) (C := "CaseTree$Judge") (T := zT_Ju) (N := 3) hx hb hts (fun w h => List.mem_cons_of_mem _ (zu_Ju w h)) zy_Ju zy_Ju_ok zn_Ju hown hK.1 hP hD hS 0 rfl rfl 0 (by decide) (hts _ (List.mem_cons_of_mem _ zf_Ju_15)) (fun _ h9 => h9) rfl hin rfl (by decide +kernel) rfl rfl (Nat.le_of_ble_eq_true rfl) zd_Ju_init_13 (fun H locs hP hD hS => ?_)
  have hP : va_P D vwCl [(a, .inr (5, [.ref b1, .null, .ref q0])), (q0, zIa (ac 0) 3)] H := hP
  have hD : va_D A [(a, .inr (5, [.ref b1, .null, .ref q0])), (q0, zIa (ac 0) 3)] := hD
  refine lv_aload_n hx hb zd_Ju_init_16 rfl (lv_at hl 0 rfl) ?_
  refine lv_aload_n hx hb zd_Ju_init_17 rfl (lv_at hl 2 rfl) ?_
  refine va_putF (D := D) (ci := 5) (v := .ref b2) (ty := (.object "CaseTree$Path")) (C := "CaseTree$Judge") (T := zT_Ju) (N := 3) hx hb hts (fun w h => List.mem_cons_of_mem _ (zu_Ju w h)) zy_Ju zy_Ju_ok zn_Ju hown hK.1 hP hD hS 0 rfl rfl 1 (by decide) (hts _ (List.mem_cons_of_mem _ zf_Ju_19)) (fun _ h9 => h9) rfl hin rfl (by decide +kernel) rfl rfl (Nat.le_of_ble_eq_true rfl) zd_Ju_init_18 (fun H locs hP hD hS => ?_)
  have hP : va_P D vwCl [(a, .inr (5, [.ref b1, .ref b2, .ref q0])), (q0, zIa (ac 0) 3)] H := hP
  have hD : va_D A [(a, .inr (5, [.ref b1, .ref b2, .ref q0])), (q0, zIa (ac 0) 3)] := hD
  exact W.vret hx hb hr (fun t ht hW => ⟨⟨fun i => ([q0] : List Nat).getD i 0, rfl, trivial, by rw [ht]; exact hP, hD⟩, hS.F ht⟩) hS.2.2 zd_Ju_init_21
