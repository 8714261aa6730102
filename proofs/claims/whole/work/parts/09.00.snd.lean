set_option maxRecDepth 20000 in
set_option maxHeartbeats 4000000 in
theorem zok_A_fill {Ex : ze_G → State → Prop} : ∀ pc, ze_snd zI Ex zi_A_fill pc (ze_lk t_A_fill pc) := by
  refine zt_cons (zs_iconst (n := 0) (by decide +kernel) (by decide)) ?_
  refine zt_cons (zs_istore_n (k := 2) (by decide +kernel) rfl (by decide)) ?_
  refine zt_cons (zs_aload_n (k := 0) (by decide +kernel) rfl) ?_
  refine zt_cons (zs_len (by decide +kernel)) ?_
  refine zt_cons (zs_istore_n (k := 3) (by decide +kernel) rfl (by decide)) ?_
  refine zt_cons (zs_iload_n (k := 2) (by decide +kernel) rfl) ?_
  refine zt_cons (zs_iload_n (k := 3) (by decide +kernel) rfl) ?_
  refine zt_cons (zs_cge (off := 13) (by decide +kernel) (by decide)) ?_
  refine zt_cons (zs_aload_n (k := 0) (by decide +kernel) rfl) ?_
  refine zt_cons (zs_iload_n (k := 2) (by decide +kernel) rfl) ?_
  refine zt_cons (zs_iload_n (k := 1) (by decide +kernel) rfl) ?_
  refine zt_cons (zs_ias (by decide +kernel)) ?_
  refine zt_cons (zs_iinc (n := 1) (by decide +kernel) (by decide) (by decide)) ?_
  refine zt_cons (zs_goto (off := -12) (by decide +kernel) (by decide)) ?_
  refine zt_cons (zs_vr rfl (by decide +kernel)) ?_
  exact zt_nil
set_option maxRecDepth 20000 in
set_option maxHeartbeats 4000000 in
theorem zok_C_attribute {Ex : ze_G → State → Prop} : ∀ pc, ze_snd zI Ex zi_C_attribute pc (ze_lk t_C_attribute pc) := by
  refine zt_cons (zs_iload_n (k := 1) (by decide +kernel) rfl) ?_
  refine zt_cons (zs_ifeq (off := 13) (by decide +kernel) (by decide)) ?_
  refine zt_cons (zs_iload_n (k := 1) (by decide +kernel) rfl) ?_
  refine zt_cons (zs_iconst (n := 2) (by decide +kernel) (by decide)) ?_
  refine zt_cons (zs_clt (off := 12) (by decide +kernel) (by decide)) ?_
  refine zt_cons (zs_iload_n (k := 1) (by decide +kernel) rfl) ?_
  refine zt_cons (zs_iconst (n := 4) (by decide +kernel) (by decide)) ?_
  refine zt_cons (zs_cgt (off := 7) (by decide +kernel) (by decide)) ?_
  refine zt_cons (zs_iconst (n := 1) (by decide +kernel) (by decide)) ?_
  refine zt_cons (zs_goto (off := 4) (by decide +kernel) (by decide)) ?_
  refine zt_cons (zs_iconst (n := 0) (by decide +kernel) (by decide)) ?_
  refine zt_cons (zs_istore_n (k := 2) (by decide +kernel) rfl (by decide)) ?_
  refine zt_cons (zs_iload_n (k := 2) (by decide +kernel) rfl) ?_
  refine zt_cons (zs_ifeq (off := 13) (by decide +kernel) (by decide)) ?_
  refine zt_cons (zs_aload_n (k := 0) (by decide +kernel) rfl) ?_
  refine zt_cons (zs_gc (j := 0) (C := "CaseTree") (T := zT_C) (N := 9) (by decide) rfl rfl (by decide) (fun w h => List.mem_cons_of_mem _ (zu_C w h)) ⟨rfl, rfl, rfl⟩ (List.mem_cons_of_mem _ zf_C_10) rfl (fun _ => rfl) (by decide +kernel)) ?_
  refine zt_cons (zs_gi (C := "CaseTree$Cases") (T := zT_Cs) (N := 5) (by decide) rfl rfl (by decide) (fun w h => List.mem_cons_of_mem _ (zu_Cs w h)) ⟨rfl, rfl, rfl⟩ (List.mem_cons_of_mem _ zf_C_71) rfl (by decide +kernel)) ?_
  refine zt_cons (zs_ifle (off := 5) (by decide +kernel) (by decide)) ?_
  refine zt_cons (zs_iconst (n := (-1)) (by decide +kernel) (by decide)) ?_
  refine zt_cons (zs_ir rfl (by decide +kernel)) ?_
  refine zt_cons (zs_aload_n (k := 0) (by decide +kernel) rfl) ?_
  refine zt_cons (zs_gc (j := 0) (C := "CaseTree") (T := zT_C) (N := 9) (by decide) rfl rfl (by decide) (fun w h => List.mem_cons_of_mem _ (zu_C w h)) ⟨rfl, rfl, rfl⟩ (List.mem_cons_of_mem _ zf_C_10) rfl (fun _ => rfl) (by decide +kernel)) ?_
  refine zt_cons (zs_gi (C := "CaseTree$Cases") (T := zT_Cs) (N := 5) (by decide) rfl rfl (by decide) (fun w h => List.mem_cons_of_mem _ (zu_Cs w h)) ⟨rfl, rfl, rfl⟩ (List.mem_cons_of_mem _ zf_C_75) rfl (by decide +kernel)) ?_
  refine zt_cons (zs_iconst (n := 4) (by decide +kernel) (by decide)) ?_
  refine zt_cons (zs_clt (off := 6) (by decide +kernel) (by decide)) ?_
  refine zt_cons (zs_bipush (n := (-2)) (by decide +kernel) (by decide)) ?_
  refine zt_cons (zs_ir rfl (by decide +kernel)) ?_
  refine zt_cons (zs_aload_n (k := 0) (by decide +kernel) rfl) ?_
  refine zt_cons (zs_gc (j := 0) (C := "CaseTree") (T := zT_C) (N := 9) (by decide) rfl rfl (by decide) (fun w h => List.mem_cons_of_mem _ (zu_C w h)) ⟨rfl, rfl, rfl⟩ (List.mem_cons_of_mem _ zf_C_10) rfl (fun _ => rfl) (by decide +kernel)) ?_
  refine zt_cons (zs_iload_n (k := 1) (by decide +kernel) rfl) ?_
  refine zt_cons (zs_cv (n := 1) (x := 78) (C := "CaseTree$Cases") (T := zT_Cs) (N := 5) zI_29 rfl rfl (by decide) rfl zl_C_78 zim_Cs_putAttribute zsel_Cs_putAttribute zl_ini_Cs zc_Cs_putAttribute (by decide +kernel) (by decide) (by decide) (by decide +kernel)) ?_
  refine zt_cons (zs_ir rfl (by decide +kernel)) ?_
  exact zt_nil
set_option maxRecDepth 20000 in
set_option maxHeartbeats 4000000 in
theorem zok_C_add {Ex : ze_G → State → Prop} : ∀ pc, ze_snd zI Ex zi_C_add pc (ze_lk t_C_add pc) := by
  refine zt_cons (zs_aload_n (k := 0) (by decide +kernel) rfl) ?_
  refine zt_cons (zs_iload_n (k := 2) (by decide +kernel) rfl) ?_
  refine zt_cons (zs_iload_n (k := 3) (by decide +kernel) rfl) ?_
  refine zt_cons (zs_iload (by decide +kernel)) ?_
  refine zt_cons (zs_iload (by decide +kernel)) ?_
  refine zt_cons (zs_cv (n := 4) (x := 82) (C := "CaseTree") (T := zT_C) (N := 9) zI_20 rfl rfl (by decide) rfl zl_C_82 zim_C_ask zsel_C_ask zl_ini_C zc_C_ask (by decide +kernel) (by decide) (by decide) (by decide +kernel)) ?_
  refine zt_cons (zs_iload_n (k := 1) (by decide +kernel) rfl) ?_
  refine zt_cons (zs_cs (x := 86) zI_22 rfl rfl zl_C_86 zs_static_C_isClass zl_ini_C zc_C_isClass (by decide +kernel) (by decide) (by decide) (by decide +kernel)) ?_
  refine zt_cons (zs_ifeq (off := 17) (by decide +kernel) (by decide)) ?_
  refine zt_cons (zs_aload_n (k := 0) (by decide +kernel) rfl) ?_
  refine zt_cons (zs_gc (j := 0) (C := "CaseTree") (T := zT_C) (N := 9) (by decide) rfl rfl (by decide) (fun w h => List.mem_cons_of_mem _ (zu_C w h)) ⟨rfl, rfl, rfl⟩ (List.mem_cons_of_mem _ zf_C_10) rfl (fun _ => rfl) (by decide +kernel)) ?_
  refine zt_cons (zs_aload_n (k := 0) (by decide +kernel) rfl) ?_
  refine zt_cons (zs_gc (j := 7) (C := "CaseTree") (T := zT_C) (N := 9) (by decide) rfl rfl (by decide) (fun w h => List.mem_cons_of_mem _ (zu_C w h)) ⟨rfl, rfl, rfl⟩ (List.mem_cons_of_mem _ zf_C_64) rfl (fun _ => rfl) (by decide +kernel)) ?_
  refine zt_cons (zs_cv (n := 1) (x := 90) (C := "CaseTree$Cases") (T := zT_Cs) (N := 5) zI_35 rfl rfl (by decide) rfl zl_C_90 zim_Cs_fits zsel_Cs_fits zl_ini_Cs zc_Cs_fits (by decide +kernel) (by decide) (by decide) (by decide +kernel)) ?_
  refine zt_cons (zs_ifne (off := 5) (by decide +kernel) (by decide)) ?_
  refine zt_cons (zs_iconst (n := (-1)) (by decide +kernel) (by decide)) ?_
  refine zt_cons (zs_ir rfl (by decide +kernel)) ?_
  refine zt_cons (zs_aload_n (k := 0) (by decide +kernel) rfl) ?_
  refine zt_cons (zs_gc (j := 0) (C := "CaseTree") (T := zT_C) (N := 9) (by decide) rfl rfl (by decide) (fun w h => List.mem_cons_of_mem _ (zu_C w h)) ⟨rfl, rfl, rfl⟩ (List.mem_cons_of_mem _ zf_C_10) rfl (fun _ => rfl) (by decide +kernel)) ?_
  refine zt_cons (zs_gi (C := "CaseTree$Cases") (T := zT_Cs) (N := 5) (by decide) rfl rfl (by decide) (fun w h => List.mem_cons_of_mem _ (zu_Cs w h)) ⟨rfl, rfl, rfl⟩ (List.mem_cons_of_mem _ zf_C_71) rfl (by decide +kernel)) ?_
  refine zt_cons (zs_bipush (n := 24) (by decide +kernel) (by decide)) ?_
  refine zt_cons (zs_clt (off := 6) (by decide +kernel) (by decide)) ?_
  refine zt_cons (zs_bipush (n := (-2)) (by decide +kernel) (by decide)) ?_
  refine zt_cons (zs_ir rfl (by decide +kernel)) ?_
  refine zt_cons (zs_aload_n (k := 0) (by decide +kernel) rfl) ?_
  refine zt_cons (zs_gc (j := 0) (C := "CaseTree") (T := zT_C) (N := 9) (by decide) rfl rfl (by decide) (fun w h => List.mem_cons_of_mem _ (zu_C w h)) ⟨rfl, rfl, rfl⟩ (List.mem_cons_of_mem _ zf_C_10) rfl (fun _ => rfl) (by decide +kernel)) ?_
  refine zt_cons (zs_iload_n (k := 1) (by decide +kernel) rfl) ?_
  refine zt_cons (zs_aload_n (k := 0) (by decide +kernel) rfl) ?_
  refine zt_cons (zs_gc (j := 7) (C := "CaseTree") (T := zT_C) (N := 9) (by decide) rfl rfl (by decide) (fun w h => List.mem_cons_of_mem _ (zu_C w h)) ⟨rfl, rfl, rfl⟩ (List.mem_cons_of_mem _ zf_C_64) rfl (fun _ => rfl) (by decide +kernel)) ?_
  refine zt_cons (zs_cv (n := 2) (x := 94) (C := "CaseTree$Cases") (T := zT_Cs) (N := 5) zI_30 rfl rfl (by decide) rfl zl_C_94 zim_Cs_putCase zsel_Cs_putCase zl_ini_Cs zc_Cs_putCase (by decide +kernel) (by decide) (by decide) (by decide +kernel)) ?_
  refine zt_cons (zs_ir rfl (by decide +kernel)) ?_
  exact zt_nil
set_option maxRecDepth 20000 in
set_option maxHeartbeats 4000000 in
theorem zok_C_grow {Ex : ze_G → State → Prop} : ∀ pc, ze_snd zI Ex zi_C_grow pc (ze_lk t_C_grow pc) := by
  refine zt_cons (zs_iload_n (k := 1) (by decide +kernel) rfl) ?_
  refine zt_cons (zs_cs (x := 98) zI_23 rfl rfl zl_C_98 zs_static_C_isMinimum zl_ini_C zc_C_isMinimum (by decide +kernel) (by decide) (by decide) (by decide +kernel)) ?_
  refine zt_cons (zs_ifne (off := 5) (by decide +kernel) (by decide)) ?_
  refine zt_cons (zs_iconst (n := (-1)) (by decide +kernel) (by decide)) ?_
  refine zt_cons (zs_ir rfl (by decide +kernel)) ?_
  refine zt_cons (zs_aload_n (k := 0) (by decide +kernel) rfl) ?_
  refine zt_cons (zs_gc (j := 0) (C := "CaseTree") (T := zT_C) (N := 9) (by decide) rfl rfl (by decide) (fun w h => List.mem_cons_of_mem _ (zu_C w h)) ⟨rfl, rfl, rfl⟩ (List.mem_cons_of_mem _ zf_C_10) rfl (fun _ => rfl) (by decide +kernel)) ?_
  refine zt_cons (zs_gi (C := "CaseTree$Cases") (T := zT_Cs) (N := 5) (by decide) rfl rfl (by decide) (fun w h => List.mem_cons_of_mem _ (zu_Cs w h)) ⟨rfl, rfl, rfl⟩ (List.mem_cons_of_mem _ zf_C_71) rfl (by decide +kernel)) ?_
  refine zt_cons (zs_ifne (off := 6) (by decide +kernel) (by decide)) ?_
  refine zt_cons (zs_bipush (n := (-3)) (by decide +kernel) (by decide)) ?_
  refine zt_cons (zs_ir rfl (by decide +kernel)) ?_
  refine zt_cons (zs_aload_n (k := 0) (by decide +kernel) rfl) ?_
  refine zt_cons (zs_gc (j := 4) (C := "CaseTree") (T := zT_C) (N := 9) (by decide) rfl rfl (by decide) (fun w h => List.mem_cons_of_mem _ (zu_C w h)) ⟨rfl, rfl, rfl⟩ (List.mem_cons_of_mem _ zf_C_44) rfl (fun _ => rfl) (by decide +kernel)) ?_
  refine zt_cons (zs_iload_n (k := 1) (by decide +kernel) rfl) ?_
  refine zt_cons (zs_cv (n := 1) (x := 101) (C := "CaseTree$Grower") (T := zT_Gr) (N := 5) zI_43 rfl rfl (by decide) rfl zl_C_101 zim_Gr_plant zsel_Gr_plant zl_ini_Gr zc_Gr_plant (by decide +kernel) (by decide) (by decide) (by decide +kernel)) ?_
  refine zt_cons (zs_aload_n (k := 0) (by decide +kernel) rfl) ?_
  refine zt_cons (zs_gc (j := 1) (C := "CaseTree") (T := zT_C) (N := 9) (by decide) rfl rfl (by decide) (fun w h => List.mem_cons_of_mem _ (zu_C w h)) ⟨rfl, rfl, rfl⟩ (List.mem_cons_of_mem _ zf_C_19) rfl (fun _ => rfl) (by decide +kernel)) ?_
  refine zt_cons (zs_gi (C := "CaseTree$Tree") (T := zT_Tr) (N := 12) (by decide) rfl rfl (by decide) (fun w h => List.mem_cons_of_mem _ (zu_Tr w h)) ⟨rfl, rfl, rfl⟩ (List.mem_cons_of_mem _ zf_C_105) rfl (by decide +kernel)) ?_
  refine zt_cons (zs_ir rfl (by decide +kernel)) ?_
  exact zt_nil
set_option maxRecDepth 20000 in
set_option maxHeartbeats 4000000 in
theorem zok_C_prune {Ex : ze_G → State → Prop} : ∀ pc, ze_snd zI Ex zi_C_prune pc (ze_lk t_C_prune pc) := by
  refine zt_cons (zs_iload_n (k := 1) (by decide +kernel) rfl) ?_
  refine zt_cons (zs_iflt (off := 10) (by decide +kernel) (by decide)) ?_
  refine zt_cons (zs_iload_n (k := 1) (by decide +kernel) rfl) ?_
  refine zt_cons (zs_sipush (n := 2000) (by decide +kernel) (by decide)) ?_
  refine zt_cons (zs_cle (off := 5) (by decide +kernel) (by decide)) ?_
  refine zt_cons (zs_iconst (n := (-1)) (by decide +kernel) (by decide)) ?_
  refine zt_cons (zs_ir rfl (by decide +kernel)) ?_
  refine zt_cons (zs_aload_n (k := 0) (by decide +kernel) rfl) ?_
  refine zt_cons (zs_gc (j := 1) (C := "CaseTree") (T := zT_C) (N := 9) (by decide) rfl rfl (by decide) (fun w h => List.mem_cons_of_mem _ (zu_C w h)) ⟨rfl, rfl, rfl⟩ (List.mem_cons_of_mem _ zf_C_19) rfl (fun _ => rfl) (by decide +kernel)) ?_
  refine zt_cons (zs_gi (C := "CaseTree$Tree") (T := zT_Tr) (N := 12) (by decide) rfl rfl (by decide) (fun w h => List.mem_cons_of_mem _ (zu_Tr w h)) ⟨rfl, rfl, rfl⟩ (List.mem_cons_of_mem _ zf_C_105) rfl (by decide +kernel)) ?_
  refine zt_cons (zs_ifne (off := 6) (by decide +kernel) (by decide)) ?_
  refine zt_cons (zs_bipush (n := (-3)) (by decide +kernel) (by decide)) ?_
  refine zt_cons (zs_ir rfl (by decide +kernel)) ?_
  refine zt_cons (zs_aload_n (k := 0) (by decide +kernel) rfl) ?_
  refine zt_cons (zs_gc (j := 5) (C := "CaseTree") (T := zT_C) (N := 9) (by decide) rfl rfl (by decide) (fun w h => List.mem_cons_of_mem _ (zu_C w h)) ⟨rfl, rfl, rfl⟩ (List.mem_cons_of_mem _ zf_C_53) rfl (fun _ => rfl) (by decide +kernel)) ?_
  refine zt_cons (zs_iload_n (k := 1) (by decide +kernel) rfl) ?_
  refine zt_cons (zs_cv (n := 1) (x := 108) (C := "CaseTree$Pruner") (T := zT_Pr) (N := 3) zI_54 rfl rfl (by decide) rfl zl_C_108 zim_Pr_pruneAll zsel_Pr_pruneAll zl_ini_Pr zc_Pr_pruneAll (by decide +kernel) (by decide) (by decide) (by decide +kernel)) ?_
  refine zt_cons (zs_aload_n (k := 0) (by decide +kernel) rfl) ?_
  refine zt_cons (zs_gc (j := 1) (C := "CaseTree") (T := zT_C) (N := 9) (by decide) rfl rfl (by decide) (fun w h => List.mem_cons_of_mem _ (zu_C w h)) ⟨rfl, rfl, rfl⟩ (List.mem_cons_of_mem _ zf_C_19) rfl (fun _ => rfl) (by decide +kernel)) ?_
  refine zt_cons (zs_gi (C := "CaseTree$Tree") (T := zT_Tr) (N := 12) (by decide) rfl rfl (by decide) (fun w h => List.mem_cons_of_mem _ (zu_Tr w h)) ⟨rfl, rfl, rfl⟩ (List.mem_cons_of_mem _ zf_C_105) rfl (by decide +kernel)) ?_
  refine zt_cons (zs_ir rfl (by decide +kernel)) ?_
  exact zt_nil
set_option maxRecDepth 20000 in
set_option maxHeartbeats 4000000 in
theorem zok_C_classify {Ex : ze_G → State → Prop} : ∀ pc, ze_snd zI Ex zi_C_classify pc (ze_lk t_C_classify pc) := by
  refine zt_cons (zs_aload_n (k := 0) (by decide +kernel) rfl) ?_
  refine zt_cons (zs_iload_n (k := 1) (by decide +kernel) rfl) ?_
  refine zt_cons (zs_iload_n (k := 2) (by decide +kernel) rfl) ?_
  refine zt_cons (zs_iload_n (k := 3) (by decide +kernel) rfl) ?_
  refine zt_cons (zs_iload (by decide +kernel)) ?_
  refine zt_cons (zs_cv (n := 4) (x := 82) (C := "CaseTree") (T := zT_C) (N := 9) zI_20 rfl rfl (by decide) rfl zl_C_82 zim_C_ask zsel_C_ask zl_ini_C zc_C_ask (by decide +kernel) (by decide) (by decide) (by decide +kernel)) ?_
  refine zt_cons (zs_aload_n (k := 0) (by decide +kernel) rfl) ?_
  refine zt_cons (zs_gc (j := 0) (C := "CaseTree") (T := zT_C) (N := 9) (by decide) rfl rfl (by decide) (fun w h => List.mem_cons_of_mem _ (zu_C w h)) ⟨rfl, rfl, rfl⟩ (List.mem_cons_of_mem _ zf_C_10) rfl (fun _ => rfl) (by decide +kernel)) ?_
  refine zt_cons (zs_aload_n (k := 0) (by decide +kernel) rfl) ?_
  refine zt_cons (zs_gc (j := 7) (C := "CaseTree") (T := zT_C) (N := 9) (by decide) rfl rfl (by decide) (fun w h => List.mem_cons_of_mem _ (zu_C w h)) ⟨rfl, rfl, rfl⟩ (List.mem_cons_of_mem _ zf_C_64) rfl (fun _ => rfl) (by decide +kernel)) ?_
  refine zt_cons (zs_cv (n := 1) (x := 90) (C := "CaseTree$Cases") (T := zT_Cs) (N := 5) zI_35 rfl rfl (by decide) rfl zl_C_90 zim_Cs_fits zsel_Cs_fits zl_ini_Cs zc_Cs_fits (by decide +kernel) (by decide) (by decide) (by decide +kernel)) ?_
  refine zt_cons (zs_ifne (off := 5) (by decide +kernel) (by decide)) ?_
  refine zt_cons (zs_iconst (n := (-1)) (by decide +kernel) (by decide)) ?_
  refine zt_cons (zs_ir rfl (by decide +kernel)) ?_
  refine zt_cons (zs_aload_n (k := 0) (by decide +kernel) rfl) ?_
  refine zt_cons (zs_gc (j := 1) (C := "CaseTree") (T := zT_C) (N := 9) (by decide) rfl rfl (by decide) (fun w h => List.mem_cons_of_mem _ (zu_C w h)) ⟨rfl, rfl, rfl⟩ (List.mem_cons_of_mem _ zf_C_19) rfl (fun _ => rfl) (by decide +kernel)) ?_
  refine zt_cons (zs_gi (C := "CaseTree$Tree") (T := zT_Tr) (N := 12) (by decide) rfl rfl (by decide) (fun w h => List.mem_cons_of_mem _ (zu_Tr w h)) ⟨rfl, rfl, rfl⟩ (List.mem_cons_of_mem _ zf_C_105) rfl (by decide +kernel)) ?_
  refine zt_cons (zs_ifne (off := 6) (by decide +kernel) (by decide)) ?_
  refine zt_cons (zs_bipush (n := (-3)) (by decide +kernel) (by decide)) ?_
  refine zt_cons (zs_ir rfl (by decide +kernel)) ?_
  refine zt_cons (zs_aload_n (k := 0) (by decide +kernel) rfl) ?_
  refine zt_cons (zs_gc (j := 6) (C := "CaseTree") (T := zT_C) (N := 9) (by decide) rfl rfl (by decide) (fun w h => List.mem_cons_of_mem _ (zu_C w h)) ⟨rfl, rfl, rfl⟩ (List.mem_cons_of_mem _ zf_C_60) rfl (fun _ => rfl) (by decide +kernel)) ?_
  refine zt_cons (zs_aload_n (k := 0) (by decide +kernel) rfl) ?_
  refine zt_cons (zs_gc (j := 7) (C := "CaseTree") (T := zT_C) (N := 9) (by decide) rfl rfl (by decide) (fun w h => List.mem_cons_of_mem _ (zu_C w h)) ⟨rfl, rfl, rfl⟩ (List.mem_cons_of_mem _ zf_C_64) rfl (fun _ => rfl) (by decide +kernel)) ?_
  refine zt_cons (zs_cv (n := 1) (x := 111) (C := "CaseTree$Judge") (T := zT_Ju) (N := 3) zI_47 rfl rfl (by decide) rfl zl_C_111 zim_Ju_classFor zsel_Ju_classFor zl_ini_Ju zc_Ju_classFor (by decide +kernel) (by decide) (by decide) (by decide +kernel)) ?_
  refine zt_cons (zs_istore (by decide +kernel) (by decide)) ?_
  refine zt_cons (zs_aload_n (k := 0) (by decide +kernel) rfl) ?_
  refine zt_cons (zs_gc (j := 6) (C := "CaseTree") (T := zT_C) (N := 9) (by decide) rfl rfl (by decide) (fun w h => List.mem_cons_of_mem _ (zu_C w h)) ⟨rfl, rfl, rfl⟩ (List.mem_cons_of_mem _ zf_C_60) rfl (fun _ => rfl) (by decide +kernel)) ?_
  refine zt_cons (zs_gc (j := 2) (C := "CaseTree$Judge") (T := zT_Ju) (N := 3) (by decide) rfl rfl (by decide) (fun w h => List.mem_cons_of_mem _ (zu_Ju w h)) ⟨rfl, rfl, rfl⟩ (List.mem_cons_of_mem _ zf_C_115) rfl (fun _ => rfl) (by decide +kernel)) ?_
  refine zt_cons (zs_iconst (n := 0) (by decide +kernel) (by decide)) ?_
  refine zt_cons (zs_aload_n (k := 0) (by decide +kernel) rfl) ?_
  refine zt_cons (zs_gc (j := 8) (C := "CaseTree") (T := zT_C) (N := 9) (by decide) rfl rfl (by decide) (fun w h => List.mem_cons_of_mem _ (zu_C w h)) ⟨rfl, rfl, rfl⟩ (List.mem_cons_of_mem _ zf_C_68) rfl (fun _ => rfl) (by decide +kernel)) ?_
  refine zt_cons (zs_iconst (n := 0) (by decide +kernel) (by decide)) ?_
  refine zt_cons (zs_iconst (n := 3) (by decide +kernel) (by decide)) ?_
  refine zt_cons (zs_cpy (x := 118) (List.mem_cons_of_mem _ zl_C_118) (List.mem_cons_of_mem _ zl_native) (List.mem_cons_of_mem _ zl_static) (List.mem_cons_of_mem _ zl_ini_System) (by decide +kernel)) ?_
  refine zt_cons (zs_iload (by decide +kernel)) ?_
  refine zt_cons (zs_ir rfl (by decide +kernel)) ?_
  exact zt_nil
set_option maxRecDepth 20000 in
set_option maxHeartbeats 4000000 in
theorem zok_C_share {Ex : ze_G → State → Prop} : ∀ pc, ze_snd zI Ex zi_C_share pc (ze_lk t_C_share pc) := by
  refine zt_cons (zs_iload_n (k := 1) (by decide +kernel) rfl) ?_
  refine zt_cons (zs_cs (x := 86) zI_22 rfl rfl zl_C_86 zs_static_C_isClass zl_ini_C zc_C_isClass (by decide +kernel) (by decide) (by decide) (by decide +kernel)) ?_
  refine zt_cons (zs_ifeq (off := 12) (by decide +kernel) (by decide)) ?_
  refine zt_cons (zs_aload_n (k := 0) (by decide +kernel) rfl) ?_
  refine zt_cons (zs_gc (j := 8) (C := "CaseTree") (T := zT_C) (N := 9) (by decide) rfl rfl (by decide) (fun w h => List.mem_cons_of_mem _ (zu_C w h)) ⟨rfl, rfl, rfl⟩ (List.mem_cons_of_mem _ zf_C_68) rfl (fun _ => rfl) (by decide +kernel)) ?_
  refine zt_cons (zs_iload_n (k := 1) (by decide +kernel) rfl) ?_
  refine zt_cons (zs_ia (by decide +kernel)) ?_
  refine zt_cons (zs_goto (off := 4) (by decide +kernel) (by decide)) ?_
  refine zt_cons (zs_iconst (n := 0) (by decide +kernel) (by decide)) ?_
  refine zt_cons (zs_ir rfl (by decide +kernel)) ?_
  exact zt_nil
set_option maxRecDepth 20000 in
set_option maxHeartbeats 4000000 in
theorem zok_C_wrong {Ex : ze_G → State → Prop} : ∀ pc, ze_snd zI Ex zi_C_wrong pc (ze_lk t_C_wrong pc) := by
  refine zt_cons (zs_aload_n (k := 0) (by decide +kernel) rfl) ?_
  refine zt_cons (zs_gc (j := 1) (C := "CaseTree") (T := zT_C) (N := 9) (by decide) rfl rfl (by decide) (fun w h => List.mem_cons_of_mem _ (zu_C w h)) ⟨rfl, rfl, rfl⟩ (List.mem_cons_of_mem _ zf_C_19) rfl (fun _ => rfl) (by decide +kernel)) ?_
  refine zt_cons (zs_gi (C := "CaseTree$Tree") (T := zT_Tr) (N := 12) (by decide) rfl rfl (by decide) (fun w h => List.mem_cons_of_mem _ (zu_Tr w h)) ⟨rfl, rfl, rfl⟩ (List.mem_cons_of_mem _ zf_C_105) rfl (by decide +kernel)) ?_
  refine zt_cons (zs_ifne (off := 6) (by decide +kernel) (by decide)) ?_
  refine zt_cons (zs_bipush (n := (-3)) (by decide +kernel) (by decide)) ?_
  refine zt_cons (zs_ir rfl (by decide +kernel)) ?_
  refine zt_cons (zs_iconst (n := 0) (by decide +kernel) (by decide)) ?_
  refine zt_cons (zs_istore_n (k := 1) (by decide +kernel) rfl (by decide)) ?_
  refine zt_cons (zs_iconst (n := 0) (by decide +kernel) (by decide)) ?_
  refine zt_cons (zs_istore_n (k := 2) (by decide +kernel) rfl (by decide)) ?_
  refine zt_cons (zs_iload_n (k := 2) (by decide +kernel) rfl) ?_
  refine zt_cons (zs_aload_n (k := 0) (by decide +kernel) rfl) ?_
  refine zt_cons (zs_gc (j := 0) (C := "CaseTree") (T := zT_C) (N := 9) (by decide) rfl rfl (by decide) (fun w h => List.mem_cons_of_mem _ (zu_C w h)) ⟨rfl, rfl, rfl⟩ (List.mem_cons_of_mem _ zf_C_10) rfl (fun _ => rfl) (by decide +kernel)) ?_
  refine zt_cons (zs_gi (C := "CaseTree$Cases") (T := zT_Cs) (N := 5) (by decide) rfl rfl (by decide) (fun w h => List.mem_cons_of_mem _ (zu_Cs w h)) ⟨rfl, rfl, rfl⟩ (List.mem_cons_of_mem _ zf_C_71) rfl (by decide +kernel)) ?_
  refine zt_cons (zs_cge (off := 47) (by decide +kernel) (by decide)) ?_
  refine zt_cons (zs_aload_n (k := 0) (by decide +kernel) rfl) ?_
  refine zt_cons (zs_gc (j := 0) (C := "CaseTree") (T := zT_C) (N := 9) (by decide) rfl rfl (by decide) (fun w h => List.mem_cons_of_mem _ (zu_C w h)) ⟨rfl, rfl, rfl⟩ (List.mem_cons_of_mem _ zf_C_10) rfl (fun _ => rfl) (by decide +kernel)) ?_
  refine zt_cons (zs_iload_n (k := 2) (by decide +kernel) rfl) ?_
  refine zt_cons (zs_aload_n (k := 0) (by decide +kernel) rfl) ?_
  refine zt_cons (zs_gc (j := 7) (C := "CaseTree") (T := zT_C) (N := 9) (by decide) rfl rfl (by decide) (fun w h => List.mem_cons_of_mem _ (zu_C w h)) ⟨rfl, rfl, rfl⟩ (List.mem_cons_of_mem _ zf_C_64) rfl (fun _ => rfl) (by decide +kernel)) ?_
  refine zt_cons (zs_cv (n := 2) (x := 124) (C := "CaseTree$Cases") (T := zT_Cs) (N := 5) zI_31 rfl rfl (by decide) rfl zl_C_124 zim_Cs_copyValues zsel_Cs_copyValues zl_ini_Cs zc_Cs_copyValues (by decide +kernel) (by decide) (by decide) (by decide +kernel)) ?_
  refine zt_cons (zs_aload_n (k := 0) (by decide +kernel) rfl) ?_
  refine zt_cons (zs_gc (j := 6) (C := "CaseTree") (T := zT_C) (N := 9) (by decide) rfl rfl (by decide) (fun w h => List.mem_cons_of_mem _ (zu_C w h)) ⟨rfl, rfl, rfl⟩ (List.mem_cons_of_mem _ zf_C_60) rfl (fun _ => rfl) (by decide +kernel)) ?_
  refine zt_cons (zs_aload_n (k := 0) (by decide +kernel) rfl) ?_
  refine zt_cons (zs_gc (j := 7) (C := "CaseTree") (T := zT_C) (N := 9) (by decide) rfl rfl (by decide) (fun w h => List.mem_cons_of_mem _ (zu_C w h)) ⟨rfl, rfl, rfl⟩ (List.mem_cons_of_mem _ zf_C_64) rfl (fun _ => rfl) (by decide +kernel)) ?_
  refine zt_cons (zs_cv (n := 1) (x := 111) (C := "CaseTree$Judge") (T := zT_Ju) (N := 3) zI_47 rfl rfl (by decide) rfl zl_C_111 zim_Ju_classFor zsel_Ju_classFor zl_ini_Ju zc_Ju_classFor (by decide +kernel) (by decide) (by decide) (by decide +kernel)) ?_
  refine zt_cons (zs_aload_n (k := 0) (by decide +kernel) rfl) ?_
  refine zt_cons (zs_gc (j := 0) (C := "CaseTree") (T := zT_C) (N := 9) (by decide) rfl rfl (by decide) (fun w h => List.mem_cons_of_mem _ (zu_C w h)) ⟨rfl, rfl, rfl⟩ (List.mem_cons_of_mem _ zf_C_10) rfl (fun _ => rfl) (by decide +kernel)) ?_
  refine zt_cons (zs_gc (j := 1) (C := "CaseTree$Cases") (T := zT_Cs) (N := 5) (by decide) rfl rfl (by decide) (fun w h => List.mem_cons_of_mem _ (zu_Cs w h)) ⟨rfl, rfl, rfl⟩ (List.mem_cons_of_mem _ zf_C_128) rfl (fun _ => rfl) (by decide +kernel)) ?_
  refine zt_cons (zs_iload_n (k := 2) (by decide +kernel) rfl) ?_
  refine zt_cons (zs_ia (by decide +kernel)) ?_
  refine zt_cons (zs_ceq (off := 6) (by decide +kernel) (by decide)) ?_
  refine zt_cons (zs_iinc (n := 1) (by decide +kernel) (by decide) (by decide)) ?_
  refine zt_cons (zs_iinc (n := 1) (by decide +kernel) (by decide) (by decide)) ?_
  refine zt_cons (zs_goto (off := -52) (by decide +kernel) (by decide)) ?_
  refine zt_cons (zs_iload_n (k := 1) (by decide +kernel) rfl) ?_
  refine zt_cons (zs_ir rfl (by decide +kernel)) ?_
  exact zt_nil
set_option maxRecDepth 20000 in
set_option maxHeartbeats 4000000 in
theorem zok_C_gain {Ex : ze_G → State → Prop} : ∀ pc, ze_snd zI Ex zi_C_gain pc (ze_lk t_C_gain pc) := by
  refine zt_cons (zs_aload_n (k := 0) (by decide +kernel) rfl) ?_
  refine zt_cons (zs_iload_n (k := 1) (by decide +kernel) rfl) ?_
  refine zt_cons (zs_iload_n (k := 2) (by decide +kernel) rfl) ?_
  refine zt_cons (zs_cv (n := 2) (x := 131) (C := "CaseTree") (T := zT_C) (N := 9) zI_21 rfl rfl (by decide) rfl zl_C_131 zim_C_hasRootTest zsel_C_hasRootTest zl_ini_C zc_C_hasRootTest (by decide +kernel) (by decide) (by decide) (by decide +kernel)) ?_
  refine zt_cons (zs_ifne (off := 7) (by decide +kernel) (by decide)) ?_
  refine zt_cons (zs_ldc2 (List.mem_cons_of_mem _ zk_C_135) (by decide +kernel)) ?_
  refine zt_cons (zs_lr rfl (by decide +kernel)) ?_
  refine zt_cons (zs_aload_n (k := 0) (by decide +kernel) rfl) ?_
  refine zt_cons (zs_gc (j := 3) (C := "CaseTree") (T := zT_C) (N := 9) (by decide) rfl rfl (by decide) (fun w h => List.mem_cons_of_mem _ (zu_C w h)) ⟨rfl, rfl, rfl⟩ (List.mem_cons_of_mem _ zf_C_35) rfl (fun _ => rfl) (by decide +kernel)) ?_
  refine zt_cons (zs_gc (j := 1) (C := "CaseTree$Tester") (T := zT_Te) (N := 5) (by decide) rfl rfl (by decide) (fun w h => List.mem_cons_of_mem _ (zu_Te w h)) ⟨rfl, rfl, rfl⟩ (List.mem_cons_of_mem _ zf_C_137) rfl (fun _ => rfl) (by decide +kernel)) ?_
  refine zt_cons (zs_iload_n (k := 1) (by decide +kernel) rfl) ?_
  refine zt_cons (zs_aq rfl rfl (by decide +kernel)) ?_
  refine zt_cons (zs_gl (C := "CaseTree$Finding") (T := zT_Fi) (N := 4) (by decide) rfl rfl (by decide) (fun w h => List.mem_cons_of_mem _ (zu_Fi w h)) ⟨rfl, rfl, rfl⟩ (List.mem_cons_of_mem _ zf_C_141) rfl (by decide +kernel)) ?_
  refine zt_cons (zs_lstore_n (k := 3) (by decide +kernel) rfl (by decide)) ?_
  refine zt_cons (zs_lload_n (k := 3) (by decide +kernel) rfl) ?_
  refine zt_cons (zs_lconst (n := 0) (by decide +kernel) (by decide)) ?_
  refine zt_cons (zs_lcmp (by decide +kernel)) ?_
  refine zt_cons (zs_ifge (off := 9) (by decide +kernel) (by decide)) ?_
  refine zt_cons (zs_ldc2 (List.mem_cons_of_mem _ zk_C_147) (by decide +kernel)) ?_
  refine zt_cons (zs_goto (off := 4) (by decide +kernel) (by decide)) ?_
  refine zt_cons (zs_lload_n (k := 3) (by decide +kernel) rfl) ?_
  refine zt_cons (zs_lr rfl (by decide +kernel)) ?_
  exact zt_nil
set_option maxRecDepth 20000 in
set_option maxHeartbeats 4000000 in
theorem zok_C_split {Ex : ze_G → State → Prop} : ∀ pc, ze_snd zI Ex zi_C_split pc (ze_lk t_C_split pc) := by
  refine zt_cons (zs_aload_n (k := 0) (by decide +kernel) rfl) ?_
  refine zt_cons (zs_iload_n (k := 1) (by decide +kernel) rfl) ?_
  refine zt_cons (zs_iload_n (k := 2) (by decide +kernel) rfl) ?_
  refine zt_cons (zs_cv (n := 2) (x := 131) (C := "CaseTree") (T := zT_C) (N := 9) zI_21 rfl rfl (by decide) rfl zl_C_131 zim_C_hasRootTest zsel_C_hasRootTest zl_ini_C zc_C_hasRootTest (by decide +kernel) (by decide) (by decide) (by decide +kernel)) ?_
  refine zt_cons (zs_ifeq (off := 18) (by decide +kernel) (by decide)) ?_
  refine zt_cons (zs_aload_n (k := 0) (by decide +kernel) rfl) ?_
  refine zt_cons (zs_gc (j := 3) (C := "CaseTree") (T := zT_C) (N := 9) (by decide) rfl rfl (by decide) (fun w h => List.mem_cons_of_mem _ (zu_C w h)) ⟨rfl, rfl, rfl⟩ (List.mem_cons_of_mem _ zf_C_35) rfl (fun _ => rfl) (by decide +kernel)) ?_
  refine zt_cons (zs_gc (j := 1) (C := "CaseTree$Tester") (T := zT_Te) (N := 5) (by decide) rfl rfl (by decide) (fun w h => List.mem_cons_of_mem _ (zu_Te w h)) ⟨rfl, rfl, rfl⟩ (List.mem_cons_of_mem _ zf_C_137) rfl (fun _ => rfl) (by decide +kernel)) ?_
  refine zt_cons (zs_iload_n (k := 1) (by decide +kernel) rfl) ?_
  refine zt_cons (zs_aq rfl rfl (by decide +kernel)) ?_
  refine zt_cons (zs_gl (C := "CaseTree$Finding") (T := zT_Fi) (N := 4) (by decide) rfl rfl (by decide) (fun w h => List.mem_cons_of_mem _ (zu_Fi w h)) ⟨rfl, rfl, rfl⟩ (List.mem_cons_of_mem _ zf_C_149) rfl (by decide +kernel)) ?_
  refine zt_cons (zs_goto (off := 6) (by decide +kernel) (by decide)) ?_
  refine zt_cons (zs_ldc2 (List.mem_cons_of_mem _ zk_C_135) (by decide +kernel)) ?_
  refine zt_cons (zs_lr rfl (by decide +kernel)) ?_
  exact zt_nil
set_option maxRecDepth 20000 in
set_option maxHeartbeats 4000000 in
theorem zok_C_cut {Ex : ze_G → State → Prop} : ∀ pc, ze_snd zI Ex zi_C_cut pc (ze_lk t_C_cut pc) := by
  refine zt_cons (zs_aload_n (k := 0) (by decide +kernel) rfl) ?_
  refine zt_cons (zs_iload_n (k := 1) (by decide +kernel) rfl) ?_
  refine zt_cons (zs_iload_n (k := 2) (by decide +kernel) rfl) ?_
  refine zt_cons (zs_cv (n := 2) (x := 131) (C := "CaseTree") (T := zT_C) (N := 9) zI_21 rfl rfl (by decide) rfl zl_C_131 zim_C_hasRootTest zsel_C_hasRootTest zl_ini_C zc_C_hasRootTest (by decide +kernel) (by decide) (by decide) (by decide +kernel)) ?_
  refine zt_cons (zs_ifeq (off := 18) (by decide +kernel) (by decide)) ?_
  refine zt_cons (zs_aload_n (k := 0) (by decide +kernel) rfl) ?_
  refine zt_cons (zs_gc (j := 3) (C := "CaseTree") (T := zT_C) (N := 9) (by decide) rfl rfl (by decide) (fun w h => List.mem_cons_of_mem _ (zu_C w h)) ⟨rfl, rfl, rfl⟩ (List.mem_cons_of_mem _ zf_C_35) rfl (fun _ => rfl) (by decide +kernel)) ?_
  refine zt_cons (zs_gc (j := 1) (C := "CaseTree$Tester") (T := zT_Te) (N := 5) (by decide) rfl rfl (by decide) (fun w h => List.mem_cons_of_mem _ (zu_Te w h)) ⟨rfl, rfl, rfl⟩ (List.mem_cons_of_mem _ zf_C_137) rfl (fun _ => rfl) (by decide +kernel)) ?_
  refine zt_cons (zs_iload_n (k := 1) (by decide +kernel) rfl) ?_
  refine zt_cons (zs_aq rfl rfl (by decide +kernel)) ?_
  refine zt_cons (zs_gi (C := "CaseTree$Finding") (T := zT_Fi) (N := 4) (by decide) rfl rfl (by decide) (fun w h => List.mem_cons_of_mem _ (zu_Fi w h)) ⟨rfl, rfl, rfl⟩ (List.mem_cons_of_mem _ zf_C_152) rfl (by decide +kernel)) ?_
  refine zt_cons (zs_goto (off := 4) (by decide +kernel) (by decide)) ?_
  refine zt_cons (zs_iconst (n := (-1)) (by decide +kernel) (by decide)) ?_
  refine zt_cons (zs_ir rfl (by decide +kernel)) ?_
  exact zt_nil
set_option maxRecDepth 20000 in
set_option maxHeartbeats 4000000 in
theorem zok_C_cases {Ex : ze_G → State → Prop} : ∀ pc, ze_snd zI Ex zi_C_cases pc (ze_lk t_C_cases pc) := by
  refine zt_cons (zs_aload_n (k := 0) (by decide +kernel) rfl) ?_
  refine zt_cons (zs_gc (j := 0) (C := "CaseTree") (T := zT_C) (N := 9) (by decide) rfl rfl (by decide) (fun w h => List.mem_cons_of_mem _ (zu_C w h)) ⟨rfl, rfl, rfl⟩ (List.mem_cons_of_mem _ zf_C_10) rfl (fun _ => rfl) (by decide +kernel)) ?_
  refine zt_cons (zs_gi (C := "CaseTree$Cases") (T := zT_Cs) (N := 5) (by decide) rfl rfl (by decide) (fun w h => List.mem_cons_of_mem _ (zu_Cs w h)) ⟨rfl, rfl, rfl⟩ (List.mem_cons_of_mem _ zf_C_71) rfl (by decide +kernel)) ?_
  refine zt_cons (zs_ir rfl (by decide +kernel)) ?_
  exact zt_nil
set_option maxRecDepth 20000 in
set_option maxHeartbeats 4000000 in
theorem zok_C_nodes {Ex : ze_G → State → Prop} : ∀ pc, ze_snd zI Ex zi_C_nodes pc (ze_lk t_C_nodes pc) := by
  refine zt_cons (zs_aload_n (k := 0) (by decide +kernel) rfl) ?_
  refine zt_cons (zs_gc (j := 1) (C := "CaseTree") (T := zT_C) (N := 9) (by decide) rfl rfl (by decide) (fun w h => List.mem_cons_of_mem _ (zu_C w h)) ⟨rfl, rfl, rfl⟩ (List.mem_cons_of_mem _ zf_C_19) rfl (fun _ => rfl) (by decide +kernel)) ?_
  refine zt_cons (zs_gi (C := "CaseTree$Tree") (T := zT_Tr) (N := 12) (by decide) rfl rfl (by decide) (fun w h => List.mem_cons_of_mem _ (zu_Tr w h)) ⟨rfl, rfl, rfl⟩ (List.mem_cons_of_mem _ zf_C_105) rfl (by decide +kernel)) ?_
  refine zt_cons (zs_ir rfl (by decide +kernel)) ?_
  exact zt_nil
set_option maxRecDepth 20000 in
set_option maxHeartbeats 4000000 in
theorem zok_C_tested {Ex : ze_G → State → Prop} : ∀ pc, ze_snd zI Ex zi_C_tested pc (ze_lk t_C_tested pc) := by
  refine zt_cons (zs_aload_n (k := 0) (by decide +kernel) rfl) ?_
  refine zt_cons (zs_gc (j := 1) (C := "CaseTree") (T := zT_C) (N := 9) (by decide) rfl rfl (by decide) (fun w h => List.mem_cons_of_mem _ (zu_C w h)) ⟨rfl, rfl, rfl⟩ (List.mem_cons_of_mem _ zf_C_19) rfl (fun _ => rfl) (by decide +kernel)) ?_
  refine zt_cons (zs_iload_n (k := 1) (by decide +kernel) rfl) ?_
  refine zt_cons (zs_cv (n := 1) (x := 155) (C := "CaseTree$Tree") (T := zT_Tr) (N := 12) zI_63 rfl rfl (by decide) rfl zl_C_155 zim_Tr_has zsel_Tr_has zl_ini_Tr zc_Tr_has (by decide +kernel) (by decide) (by decide) (by decide +kernel)) ?_
  refine zt_cons (zs_ifeq (off := 23) (by decide +kernel) (by decide)) ?_
  refine zt_cons (zs_aload_n (k := 0) (by decide +kernel) rfl) ?_
  refine zt_cons (zs_gc (j := 1) (C := "CaseTree") (T := zT_C) (N := 9) (by decide) rfl rfl (by decide) (fun w h => List.mem_cons_of_mem _ (zu_C w h)) ⟨rfl, rfl, rfl⟩ (List.mem_cons_of_mem _ zf_C_19) rfl (fun _ => rfl) (by decide +kernel)) ?_
  refine zt_cons (zs_gc (j := 0) (C := "CaseTree$Tree") (T := zT_Tr) (N := 12) (by decide) rfl rfl (by decide) (fun w h => List.mem_cons_of_mem _ (zu_Tr w h)) ⟨rfl, rfl, rfl⟩ (List.mem_cons_of_mem _ zf_C_158) rfl (fun _ => rfl) (by decide +kernel)) ?_
  refine zt_cons (zs_aload_n (k := 0) (by decide +kernel) rfl) ?_
  refine zt_cons (zs_gc (j := 1) (C := "CaseTree") (T := zT_C) (N := 9) (by decide) rfl rfl (by decide) (fun w h => List.mem_cons_of_mem _ (zu_C w h)) ⟨rfl, rfl, rfl⟩ (List.mem_cons_of_mem _ zf_C_19) rfl (fun _ => rfl) (by decide +kernel)) ?_
  refine zt_cons (zs_gc (j := 7) (C := "CaseTree$Tree") (T := zT_Tr) (N := 12) (by decide) rfl rfl (by decide) (fun w h => List.mem_cons_of_mem _ (zu_Tr w h)) ⟨rfl, rfl, rfl⟩ (List.mem_cons_of_mem _ zf_C_160) rfl (fun _ => rfl) (by decide +kernel)) ?_
  refine zt_cons (zs_iload_n (k := 1) (by decide +kernel) rfl) ?_
  refine zt_cons (zs_ia (by decide +kernel)) ?_
  refine zt_cons (zs_ia (by decide +kernel)) ?_
  refine zt_cons (zs_goto (off := 4) (by decide +kernel) (by decide)) ?_
  refine zt_cons (zs_iconst (n := (-1)) (by decide +kernel) (by decide)) ?_
  refine zt_cons (zs_ir rfl (by decide +kernel)) ?_
  exact zt_nil
set_option maxRecDepth 20000 in
set_option maxHeartbeats 4000000 in
theorem zok_C_threshold {Ex : ze_G → State → Prop} : ∀ pc, ze_snd zI Ex zi_C_threshold pc (ze_lk t_C_threshold pc) := by
  refine zt_cons (zs_aload_n (k := 0) (by decide +kernel) rfl) ?_
  refine zt_cons (zs_gc (j := 1) (C := "CaseTree") (T := zT_C) (N := 9) (by decide) rfl rfl (by decide) (fun w h => List.mem_cons_of_mem _ (zu_C w h)) ⟨rfl, rfl, rfl⟩ (List.mem_cons_of_mem _ zf_C_19) rfl (fun _ => rfl) (by decide +kernel)) ?_
  refine zt_cons (zs_iload_n (k := 1) (by decide +kernel) rfl) ?_
  refine zt_cons (zs_cv (n := 1) (x := 155) (C := "CaseTree$Tree") (T := zT_Tr) (N := 12) zI_63 rfl rfl (by decide) rfl zl_C_155 zim_Tr_has zsel_Tr_has zl_ini_Tr zc_Tr_has (by decide +kernel) (by decide) (by decide) (by decide +kernel)) ?_
  refine zt_cons (zs_ifeq (off := 23) (by decide +kernel) (by decide)) ?_
  refine zt_cons (zs_aload_n (k := 0) (by decide +kernel) rfl) ?_
  refine zt_cons (zs_gc (j := 1) (C := "CaseTree") (T := zT_C) (N := 9) (by decide) rfl rfl (by decide) (fun w h => List.mem_cons_of_mem _ (zu_C w h)) ⟨rfl, rfl, rfl⟩ (List.mem_cons_of_mem _ zf_C_19) rfl (fun _ => rfl) (by decide +kernel)) ?_
  refine zt_cons (zs_gc (j := 1) (C := "CaseTree$Tree") (T := zT_Tr) (N := 12) (by decide) rfl rfl (by decide) (fun w h => List.mem_cons_of_mem _ (zu_Tr w h)) ⟨rfl, rfl, rfl⟩ (List.mem_cons_of_mem _ zf_C_163) rfl (fun _ => rfl) (by decide +kernel)) ?_
  refine zt_cons (zs_aload_n (k := 0) (by decide +kernel) rfl) ?_
  refine zt_cons (zs_gc (j := 1) (C := "CaseTree") (T := zT_C) (N := 9) (by decide) rfl rfl (by decide) (fun w h => List.mem_cons_of_mem _ (zu_C w h)) ⟨rfl, rfl, rfl⟩ (List.mem_cons_of_mem _ zf_C_19) rfl (fun _ => rfl) (by decide +kernel)) ?_
  refine zt_cons (zs_gc (j := 7) (C := "CaseTree$Tree") (T := zT_Tr) (N := 12) (by decide) rfl rfl (by decide) (fun w h => List.mem_cons_of_mem _ (zu_Tr w h)) ⟨rfl, rfl, rfl⟩ (List.mem_cons_of_mem _ zf_C_160) rfl (fun _ => rfl) (by decide +kernel)) ?_
  refine zt_cons (zs_iload_n (k := 1) (by decide +kernel) rfl) ?_
  refine zt_cons (zs_ia (by decide +kernel)) ?_
  refine zt_cons (zs_ia (by decide +kernel)) ?_
  refine zt_cons (zs_goto (off := 4) (by decide +kernel) (by decide)) ?_
  refine zt_cons (zs_iconst (n := (-1)) (by decide +kernel) (by decide)) ?_
  refine zt_cons (zs_ir rfl (by decide +kernel)) ?_
  exact zt_nil
set_option maxRecDepth 20000 in
set_option maxHeartbeats 4000000 in
theorem zok_C_child {Ex : ze_G → State → Prop} : ∀ pc, ze_snd zI Ex zi_C_child pc (ze_lk t_C_child pc) := by
  refine zt_cons (zs_aload_n (k := 0) (by decide +kernel) rfl) ?_
  refine zt_cons (zs_gc (j := 1) (C := "CaseTree") (T := zT_C) (N := 9) (by decide) rfl rfl (by decide) (fun w h => List.mem_cons_of_mem _ (zu_C w h)) ⟨rfl, rfl, rfl⟩ (List.mem_cons_of_mem _ zf_C_19) rfl (fun _ => rfl) (by decide +kernel)) ?_
  refine zt_cons (zs_iload_n (k := 1) (by decide +kernel) rfl) ?_
  refine zt_cons (zs_iload_n (k := 2) (by decide +kernel) rfl) ?_
  refine zt_cons (zs_cv (n := 2) (x := 166) (C := "CaseTree$Tree") (T := zT_Tr) (N := 12) zI_64 rfl rfl (by decide) rfl zl_C_166 zim_Tr_hasBranch zsel_Tr_hasBranch zl_ini_Tr zc_Tr_hasBranch (by decide +kernel) (by decide) (by decide) (by decide +kernel)) ?_
  refine zt_cons (zs_ifne (off := 5) (by decide +kernel) (by decide)) ?_
  refine zt_cons (zs_iconst (n := (-1)) (by decide +kernel) (by decide)) ?_
  refine zt_cons (zs_ir rfl (by decide +kernel)) ?_
  refine zt_cons (zs_aload_n (k := 0) (by decide +kernel) rfl) ?_
  refine zt_cons (zs_gc (j := 1) (C := "CaseTree") (T := zT_C) (N := 9) (by decide) rfl rfl (by decide) (fun w h => List.mem_cons_of_mem _ (zu_C w h)) ⟨rfl, rfl, rfl⟩ (List.mem_cons_of_mem _ zf_C_19) rfl (fun _ => rfl) (by decide +kernel)) ?_
  refine zt_cons (zs_gc (j := 8) (C := "CaseTree$Tree") (T := zT_Tr) (N := 12) (by decide) rfl rfl (by decide) (fun w h => List.mem_cons_of_mem _ (zu_Tr w h)) ⟨rfl, rfl, rfl⟩ (List.mem_cons_of_mem _ zf_C_169) rfl (fun _ => rfl) (by decide +kernel)) ?_
  refine zt_cons (zs_aload_n (k := 0) (by decide +kernel) rfl) ?_
  refine zt_cons (zs_gc (j := 1) (C := "CaseTree") (T := zT_C) (N := 9) (by decide) rfl rfl (by decide) (fun w h => List.mem_cons_of_mem _ (zu_C w h)) ⟨rfl, rfl, rfl⟩ (List.mem_cons_of_mem _ zf_C_19) rfl (fun _ => rfl) (by decide +kernel)) ?_
  refine zt_cons (zs_aload_n (k := 0) (by decide +kernel) rfl) ?_
  refine zt_cons (zs_gc (j := 1) (C := "CaseTree") (T := zT_C) (N := 9) (by decide) rfl rfl (by decide) (fun w h => List.mem_cons_of_mem _ (zu_C w h)) ⟨rfl, rfl, rfl⟩ (List.mem_cons_of_mem _ zf_C_19) rfl (fun _ => rfl) (by decide +kernel)) ?_
  refine zt_cons (zs_gc (j := 7) (C := "CaseTree$Tree") (T := zT_Tr) (N := 12) (by decide) rfl rfl (by decide) (fun w h => List.mem_cons_of_mem _ (zu_Tr w h)) ⟨rfl, rfl, rfl⟩ (List.mem_cons_of_mem _ zf_C_160) rfl (fun _ => rfl) (by decide +kernel)) ?_
  refine zt_cons (zs_iload_n (k := 1) (by decide +kernel) rfl) ?_
  refine zt_cons (zs_ia (by decide +kernel)) ?_
  refine zt_cons (zs_iload_n (k := 2) (by decide +kernel) rfl) ?_
  refine zt_cons (zs_cv (n := 2) (x := 172) (C := "CaseTree$Tree") (T := zT_Tr) (N := 12) zI_66 rfl rfl (by decide) rfl zl_C_172 zim_Tr_below zsel_Tr_below zl_ini_Tr zc_Tr_below (by decide +kernel) (by decide) (by decide) (by decide +kernel)) ?_
  refine zt_cons (zs_ia (by decide +kernel)) ?_
  refine zt_cons (zs_ir rfl (by decide +kernel)) ?_
  exact zt_nil
set_option maxRecDepth 20000 in
set_option maxHeartbeats 4000000 in
theorem zok_C_classOf {Ex : ze_G → State → Prop} : ∀ pc, ze_snd zI Ex zi_C_classOf pc (ze_lk t_C_classOf pc) := by
  refine zt_cons (zs_aload_n (k := 0) (by decide +kernel) rfl) ?_
  refine zt_cons (zs_gc (j := 1) (C := "CaseTree") (T := zT_C) (N := 9) (by decide) rfl rfl (by decide) (fun w h => List.mem_cons_of_mem _ (zu_C w h)) ⟨rfl, rfl, rfl⟩ (List.mem_cons_of_mem _ zf_C_19) rfl (fun _ => rfl) (by decide +kernel)) ?_
  refine zt_cons (zs_iload_n (k := 1) (by decide +kernel) rfl) ?_
  refine zt_cons (zs_cv (n := 1) (x := 155) (C := "CaseTree$Tree") (T := zT_Tr) (N := 12) zI_63 rfl rfl (by decide) rfl zl_C_155 zim_Tr_has zsel_Tr_has zl_ini_Tr zc_Tr_has (by decide +kernel) (by decide) (by decide) (by decide +kernel)) ?_
  refine zt_cons (zs_ifeq (off := 23) (by decide +kernel) (by decide)) ?_
  refine zt_cons (zs_aload_n (k := 0) (by decide +kernel) rfl) ?_
  refine zt_cons (zs_gc (j := 1) (C := "CaseTree") (T := zT_C) (N := 9) (by decide) rfl rfl (by decide) (fun w h => List.mem_cons_of_mem _ (zu_C w h)) ⟨rfl, rfl, rfl⟩ (List.mem_cons_of_mem _ zf_C_19) rfl (fun _ => rfl) (by decide +kernel)) ?_
  refine zt_cons (zs_gc (j := 3) (C := "CaseTree$Tree") (T := zT_Tr) (N := 12) (by decide) rfl rfl (by decide) (fun w h => List.mem_cons_of_mem _ (zu_Tr w h)) ⟨rfl, rfl, rfl⟩ (List.mem_cons_of_mem _ zf_C_176) rfl (fun _ => rfl) (by decide +kernel)) ?_
  refine zt_cons (zs_aload_n (k := 0) (by decide +kernel) rfl) ?_
  refine zt_cons (zs_gc (j := 1) (C := "CaseTree") (T := zT_C) (N := 9) (by decide) rfl rfl (by decide) (fun w h => List.mem_cons_of_mem _ (zu_C w h)) ⟨rfl, rfl, rfl⟩ (List.mem_cons_of_mem _ zf_C_19) rfl (fun _ => rfl) (by decide +kernel)) ?_
  refine zt_cons (zs_gc (j := 7) (C := "CaseTree$Tree") (T := zT_Tr) (N := 12) (by decide) rfl rfl (by decide) (fun w h => List.mem_cons_of_mem _ (zu_Tr w h)) ⟨rfl, rfl, rfl⟩ (List.mem_cons_of_mem _ zf_C_160) rfl (fun _ => rfl) (by decide +kernel)) ?_
  refine zt_cons (zs_iload_n (k := 1) (by decide +kernel) rfl) ?_
  refine zt_cons (zs_ia (by decide +kernel)) ?_
  refine zt_cons (zs_ia (by decide +kernel)) ?_
  refine zt_cons (zs_goto (off := 4) (by decide +kernel) (by decide)) ?_
  refine zt_cons (zs_iconst (n := (-1)) (by decide +kernel) (by decide)) ?_
  refine zt_cons (zs_ir rfl (by decide +kernel)) ?_
  exact zt_nil
set_option maxRecDepth 20000 in
set_option maxHeartbeats 4000000 in
theorem zok_C_weight {Ex : ze_G → State → Prop} : ∀ pc, ze_snd zI Ex zi_C_weight pc (ze_lk t_C_weight pc) := by
  refine zt_cons (zs_aload_n (k := 0) (by decide +kernel) rfl) ?_
  refine zt_cons (zs_gc (j := 1) (C := "CaseTree") (T := zT_C) (N := 9) (by decide) rfl rfl (by decide) (fun w h => List.mem_cons_of_mem _ (zu_C w h)) ⟨rfl, rfl, rfl⟩ (List.mem_cons_of_mem _ zf_C_19) rfl (fun _ => rfl) (by decide +kernel)) ?_
  refine zt_cons (zs_iload_n (k := 1) (by decide +kernel) rfl) ?_
  refine zt_cons (zs_cv (n := 1) (x := 155) (C := "CaseTree$Tree") (T := zT_Tr) (N := 12) zI_63 rfl rfl (by decide) rfl zl_C_155 zim_Tr_has zsel_Tr_has zl_ini_Tr zc_Tr_has (by decide +kernel) (by decide) (by decide) (by decide +kernel)) ?_
  refine zt_cons (zs_ifeq (off := 10) (by decide +kernel) (by decide)) ?_
  refine zt_cons (zs_iload_n (k := 2) (by decide +kernel) rfl) ?_
  refine zt_cons (zs_cs (x := 86) zI_22 rfl rfl zl_C_86 zs_static_C_isClass zl_ini_C zc_C_isClass (by decide +kernel) (by decide) (by decide) (by decide +kernel)) ?_
  refine zt_cons (zs_ifne (off := 5) (by decide +kernel) (by decide)) ?_
  refine zt_cons (zs_iconst (n := (-1)) (by decide +kernel) (by decide)) ?_
  refine zt_cons (zs_ir rfl (by decide +kernel)) ?_
  refine zt_cons (zs_aload_n (k := 0) (by decide +kernel) rfl) ?_
  refine zt_cons (zs_gc (j := 1) (C := "CaseTree") (T := zT_C) (N := 9) (by decide) rfl rfl (by decide) (fun w h => List.mem_cons_of_mem _ (zu_C w h)) ⟨rfl, rfl, rfl⟩ (List.mem_cons_of_mem _ zf_C_19) rfl (fun _ => rfl) (by decide +kernel)) ?_
  refine zt_cons (zs_gc (j := 4) (C := "CaseTree$Tree") (T := zT_Tr) (N := 12) (by decide) rfl rfl (by decide) (fun w h => List.mem_cons_of_mem _ (zu_Tr w h)) ⟨rfl, rfl, rfl⟩ (List.mem_cons_of_mem _ zf_C_177) rfl (fun _ => rfl) (by decide +kernel)) ?_
  refine zt_cons (zs_aload_n (k := 0) (by decide +kernel) rfl) ?_
  refine zt_cons (zs_gc (j := 1) (C := "CaseTree") (T := zT_C) (N := 9) (by decide) rfl rfl (by decide) (fun w h => List.mem_cons_of_mem _ (zu_C w h)) ⟨rfl, rfl, rfl⟩ (List.mem_cons_of_mem _ zf_C_19) rfl (fun _ => rfl) (by decide +kernel)) ?_
  refine zt_cons (zs_gc (j := 7) (C := "CaseTree$Tree") (T := zT_Tr) (N := 12) (by decide) rfl rfl (by decide) (fun w h => List.mem_cons_of_mem _ (zu_Tr w h)) ⟨rfl, rfl, rfl⟩ (List.mem_cons_of_mem _ zf_C_160) rfl (fun _ => rfl) (by decide +kernel)) ?_
  refine zt_cons (zs_iload_n (k := 1) (by decide +kernel) rfl) ?_
  refine zt_cons (zs_ia (by decide +kernel)) ?_
  refine zt_cons (zs_iconst (n := 3) (by decide +kernel) (by decide)) ?_
  refine zt_cons (zs_imul (by decide +kernel)) ?_
  refine zt_cons (zs_iload_n (k := 2) (by decide +kernel) rfl) ?_
  refine zt_cons (zs_iadd (by decide +kernel)) ?_
  refine zt_cons (zs_ia (by decide +kernel)) ?_
  refine zt_cons (zs_ir rfl (by decide +kernel)) ?_
  exact zt_nil
set_option maxRecDepth 20000 in
set_option maxHeartbeats 4000000 in
theorem zok_C_part {Ex : ze_G → State → Prop} : ∀ pc, ze_snd zI Ex zi_C_part pc (ze_lk t_C_part pc) := by
  refine zt_cons (zs_aload_n (k := 0) (by decide +kernel) rfl) ?_
  refine zt_cons (zs_gc (j := 1) (C := "CaseTree") (T := zT_C) (N := 9) (by decide) rfl rfl (by decide) (fun w h => List.mem_cons_of_mem _ (zu_C w h)) ⟨rfl, rfl, rfl⟩ (List.mem_cons_of_mem _ zf_C_19) rfl (fun _ => rfl) (by decide +kernel)) ?_
  refine zt_cons (zs_iload_n (k := 1) (by decide +kernel) rfl) ?_
  refine zt_cons (zs_iload_n (k := 2) (by decide +kernel) rfl) ?_
  refine zt_cons (zs_cv (n := 2) (x := 166) (C := "CaseTree$Tree") (T := zT_Tr) (N := 12) zI_64 rfl rfl (by decide) rfl zl_C_166 zim_Tr_hasBranch zsel_Tr_hasBranch zl_ini_Tr zc_Tr_hasBranch (by decide +kernel) (by decide) (by decide) (by decide +kernel)) ?_
  refine zt_cons (zs_ifne (off := 5) (by decide +kernel) (by decide)) ?_
  refine zt_cons (zs_iconst (n := (-1)) (by decide +kernel) (by decide)) ?_
  refine zt_cons (zs_ir rfl (by decide +kernel)) ?_
  refine zt_cons (zs_aload_n (k := 0) (by decide +kernel) rfl) ?_
  refine zt_cons (zs_gc (j := 1) (C := "CaseTree") (T := zT_C) (N := 9) (by decide) rfl rfl (by decide) (fun w h => List.mem_cons_of_mem _ (zu_C w h)) ⟨rfl, rfl, rfl⟩ (List.mem_cons_of_mem _ zf_C_19) rfl (fun _ => rfl) (by decide +kernel)) ?_
  refine zt_cons (zs_gc (j := 5) (C := "CaseTree$Tree") (T := zT_Tr) (N := 12) (by decide) rfl rfl (by decide) (fun w h => List.mem_cons_of_mem _ (zu_Tr w h)) ⟨rfl, rfl, rfl⟩ (List.mem_cons_of_mem _ zf_C_180) rfl (fun _ => rfl) (by decide +kernel)) ?_
  refine zt_cons (zs_aload_n (k := 0) (by decide +kernel) rfl) ?_
  refine zt_cons (zs_gc (j := 1) (C := "CaseTree") (T := zT_C) (N := 9) (by decide) rfl rfl (by decide) (fun w h => List.mem_cons_of_mem _ (zu_C w h)) ⟨rfl, rfl, rfl⟩ (List.mem_cons_of_mem _ zf_C_19) rfl (fun _ => rfl) (by decide +kernel)) ?_
  refine zt_cons (zs_gc (j := 7) (C := "CaseTree$Tree") (T := zT_Tr) (N := 12) (by decide) rfl rfl (by decide) (fun w h => List.mem_cons_of_mem _ (zu_Tr w h)) ⟨rfl, rfl, rfl⟩ (List.mem_cons_of_mem _ zf_C_160) rfl (fun _ => rfl) (by decide +kernel)) ?_
  refine zt_cons (zs_iload_n (k := 1) (by decide +kernel) rfl) ?_
  refine zt_cons (zs_ia (by decide +kernel)) ?_
  refine zt_cons (zs_iconst (n := 4) (by decide +kernel) (by decide)) ?_
  refine zt_cons (zs_imul (by decide +kernel)) ?_
  refine zt_cons (zs_iload_n (k := 2) (by decide +kernel) rfl) ?_
  refine zt_cons (zs_iadd (by decide +kernel)) ?_
  refine zt_cons (zs_ia (by decide +kernel)) ?_
  refine zt_cons (zs_ir rfl (by decide +kernel)) ?_
  exact zt_nil
set_option maxRecDepth 20000 in
set_option maxHeartbeats 4000000 in
theorem zok_C_log {Ex : ze_G → State → Prop} : ∀ pc, ze_snd zI Ex zi_C_log pc (ze_lk t_C_log pc) := by
  refine zt_cons (zs_iload_n (k := 1) (by decide +kernel) rfl) ?_
  refine zt_cons (zs_iconst (n := 1) (by decide +kernel) (by decide)) ?_
  refine zt_cons (zs_clt (off := 10) (by decide +kernel) (by decide)) ?_
  refine zt_cons (zs_iload_n (k := 1) (by decide +kernel) rfl) ?_
  refine zt_cons (zs_sipush (n := 32767) (by decide +kernel) (by decide)) ?_
  refine zt_cons (zs_cle (off := 7) (by decide +kernel) (by decide)) ?_
  refine zt_cons (zs_iconst (n := (-1)) (by decide +kernel) (by decide)) ?_
  refine zt_cons (zs_goto (off := 7) (by decide +kernel) (by decide)) ?_
  refine zt_cons (zs_iload_n (k := 1) (by decide +kernel) rfl) ?_
  refine zt_cons (zs_cs (x := 183) zI_24 rfl rfl zl_C_183 zs_static_C_logarithm zl_ini_C zc_C_logarithm (by decide +kernel) (by decide) (by decide) (by decide +kernel)) ?_
  refine zt_cons (zs_ir rfl (by decide +kernel)) ?_
  exact zt_nil
set_option maxRecDepth 20000 in
set_option maxHeartbeats 4000000 in
theorem zok_C_ask {Ex : ze_G → State → Prop} : ∀ pc, ze_snd zI Ex zi_C_ask pc (ze_lk t_C_ask pc) := by
  refine zt_cons (zs_aload_n (k := 0) (by decide +kernel) rfl) ?_
  refine zt_cons (zs_gc (j := 7) (C := "CaseTree") (T := zT_C) (N := 9) (by decide) rfl rfl (by decide) (fun w h => List.mem_cons_of_mem _ (zu_C w h)) ⟨rfl, rfl, rfl⟩ (List.mem_cons_of_mem _ zf_C_64) rfl (fun _ => rfl) (by decide +kernel)) ?_
  refine zt_cons (zs_iconst (n := 0) (by decide +kernel) (by decide)) ?_
  refine zt_cons (zs_iload_n (k := 1) (by decide +kernel) rfl) ?_
  refine zt_cons (zs_ias (by decide +kernel)) ?_
  refine zt_cons (zs_aload_n (k := 0) (by decide +kernel) rfl) ?_
  refine zt_cons (zs_gc (j := 7) (C := "CaseTree") (T := zT_C) (N := 9) (by decide) rfl rfl (by decide) (fun w h => List.mem_cons_of_mem _ (zu_C w h)) ⟨rfl, rfl, rfl⟩ (List.mem_cons_of_mem _ zf_C_64) rfl (fun _ => rfl) (by decide +kernel)) ?_
  refine zt_cons (zs_iconst (n := 1) (by decide +kernel) (by decide)) ?_
  refine zt_cons (zs_iload_n (k := 2) (by decide +kernel) rfl) ?_
  refine zt_cons (zs_ias (by decide +kernel)) ?_
  refine zt_cons (zs_aload_n (k := 0) (by decide +kernel) rfl) ?_
  refine zt_cons (zs_gc (j := 7) (C := "CaseTree") (T := zT_C) (N := 9) (by decide) rfl rfl (by decide) (fun w h => List.mem_cons_of_mem _ (zu_C w h)) ⟨rfl, rfl, rfl⟩ (List.mem_cons_of_mem _ zf_C_64) rfl (fun _ => rfl) (by decide +kernel)) ?_
  refine zt_cons (zs_iconst (n := 2) (by decide +kernel) (by decide)) ?_
  refine zt_cons (zs_iload_n (k := 3) (by decide +kernel) rfl) ?_
  refine zt_cons (zs_ias (by decide +kernel)) ?_
  refine zt_cons (zs_aload_n (k := 0) (by decide +kernel) rfl) ?_
  refine zt_cons (zs_gc (j := 7) (C := "CaseTree") (T := zT_C) (N := 9) (by decide) rfl rfl (by decide) (fun w h => List.mem_cons_of_mem _ (zu_C w h)) ⟨rfl, rfl, rfl⟩ (List.mem_cons_of_mem _ zf_C_64) rfl (fun _ => rfl) (by decide +kernel)) ?_
  refine zt_cons (zs_iconst (n := 3) (by decide +kernel) (by decide)) ?_
  refine zt_cons (zs_iload (by decide +kernel)) ?_
  refine zt_cons (zs_ias (by decide +kernel)) ?_
  refine zt_cons (zs_vr rfl (by decide +kernel)) ?_
  exact zt_nil
set_option maxRecDepth 20000 in
set_option maxHeartbeats 4000000 in
theorem zok_C_hasRootTest {Ex : ze_G → State → Prop} : ∀ pc, ze_snd zI Ex zi_C_hasRootTest pc (ze_lk t_C_hasRootTest pc) := by
  refine zt_cons (zs_iload_n (k := 1) (by decide +kernel) rfl) ?_
  refine zt_cons (zs_iflt (off := 21) (by decide +kernel) (by decide)) ?_
  refine zt_cons (zs_iload_n (k := 1) (by decide +kernel) rfl) ?_
  refine zt_cons (zs_aload_n (k := 0) (by decide +kernel) rfl) ?_
  refine zt_cons (zs_gc (j := 0) (C := "CaseTree") (T := zT_C) (N := 9) (by decide) rfl rfl (by decide) (fun w h => List.mem_cons_of_mem _ (zu_C w h)) ⟨rfl, rfl, rfl⟩ (List.mem_cons_of_mem _ zf_C_10) rfl (fun _ => rfl) (by decide +kernel)) ?_
  refine zt_cons (zs_gi (C := "CaseTree$Cases") (T := zT_Cs) (N := 5) (by decide) rfl rfl (by decide) (fun w h => List.mem_cons_of_mem _ (zu_Cs w h)) ⟨rfl, rfl, rfl⟩ (List.mem_cons_of_mem _ zf_C_75) rfl (by decide +kernel)) ?_
  refine zt_cons (zs_cge (off := 10) (by decide +kernel) (by decide)) ?_
  refine zt_cons (zs_iload_n (k := 2) (by decide +kernel) rfl) ?_
  refine zt_cons (zs_cs (x := 98) zI_23 rfl rfl zl_C_98 zs_static_C_isMinimum zl_ini_C zc_C_isMinimum (by decide +kernel) (by decide) (by decide) (by decide +kernel)) ?_
  refine zt_cons (zs_ifne (off := 5) (by decide +kernel) (by decide)) ?_
  refine zt_cons (zs_iconst (n := 0) (by decide +kernel) (by decide)) ?_
  refine zt_cons (zs_zr rfl (by decide +kernel)) ?_
  refine zt_cons (zs_aload_n (k := 0) (by decide +kernel) rfl) ?_
  refine zt_cons (zs_gc (j := 2) (C := "CaseTree") (T := zT_C) (N := 9) (by decide) rfl rfl (by decide) (fun w h => List.mem_cons_of_mem _ (zu_C w h)) ⟨rfl, rfl, rfl⟩ (List.mem_cons_of_mem _ zf_C_28) rfl (fun _ => rfl) (by decide +kernel)) ?_
  refine zt_cons (zs_aload_n (k := 0) (by decide +kernel) rfl) ?_
  refine zt_cons (zs_gc (j := 0) (C := "CaseTree") (T := zT_C) (N := 9) (by decide) rfl rfl (by decide) (fun w h => List.mem_cons_of_mem _ (zu_C w h)) ⟨rfl, rfl, rfl⟩ (List.mem_cons_of_mem _ zf_C_10) rfl (fun _ => rfl) (by decide +kernel)) ?_
  refine zt_cons (zs_gi (C := "CaseTree$Cases") (T := zT_Cs) (N := 5) (by decide) rfl rfl (by decide) (fun w h => List.mem_cons_of_mem _ (zu_Cs w h)) ⟨rfl, rfl, rfl⟩ (List.mem_cons_of_mem _ zf_C_71) rfl (by decide +kernel)) ?_
  refine zt_cons (zs_cv (n := 1) (x := 186) (C := "CaseTree$Path") (T := zT_Pa) (N := 4) zI_50 rfl rfl (by decide) rfl zl_C_186 zim_Pa_start zsel_Pa_start zl_ini_Pa zc_Pa_start (by decide +kernel) (by decide) (by decide) (by decide +kernel)) ?_
  refine zt_cons (zs_aload_n (k := 0) (by decide +kernel) rfl) ?_
  refine zt_cons (zs_gc (j := 3) (C := "CaseTree") (T := zT_C) (N := 9) (by decide) rfl rfl (by decide) (fun w h => List.mem_cons_of_mem _ (zu_C w h)) ⟨rfl, rfl, rfl⟩ (List.mem_cons_of_mem _ zf_C_35) rfl (fun _ => rfl) (by decide +kernel)) ?_
  refine zt_cons (zs_iload_n (k := 1) (by decide +kernel) rfl) ?_
  refine zt_cons (zs_aload_n (k := 0) (by decide +kernel) rfl) ?_
  refine zt_cons (zs_gc (j := 2) (C := "CaseTree") (T := zT_C) (N := 9) (by decide) rfl rfl (by decide) (fun w h => List.mem_cons_of_mem _ (zu_C w h)) ⟨rfl, rfl, rfl⟩ (List.mem_cons_of_mem _ zf_C_28) rfl (fun _ => rfl) (by decide +kernel)) ?_
  refine zt_cons (zs_gc (j := 1) (C := "CaseTree$Path") (T := zT_Pa) (N := 4) (by decide) rfl rfl (by decide) (fun w h => List.mem_cons_of_mem _ (zu_Pa w h)) ⟨rfl, rfl, rfl⟩ (List.mem_cons_of_mem _ zf_C_189) rfl (fun _ => rfl) (by decide +kernel)) ?_
  refine zt_cons (zs_iconst (n := 0) (by decide +kernel) (by decide)) ?_
  refine zt_cons (zs_aq rfl rfl (by decide +kernel)) ?_
  refine zt_cons (zs_iload_n (k := 2) (by decide +kernel) rfl) ?_
  refine zt_cons (zs_cv (n := 3) (x := 193) (C := "CaseTree$Tester") (T := zT_Te) (N := 5) zI_58 rfl rfl (by decide) rfl zl_C_193 zim_Te_examine zsel_Te_examine zl_ini_Te zc_Te_examine (by decide +kernel) (by decide) (by decide) (by decide +kernel)) ?_
  refine zt_cons (zs_aload_n (k := 0) (by decide +kernel) rfl) ?_
  refine zt_cons (zs_gc (j := 3) (C := "CaseTree") (T := zT_C) (N := 9) (by decide) rfl rfl (by decide) (fun w h => List.mem_cons_of_mem _ (zu_C w h)) ⟨rfl, rfl, rfl⟩ (List.mem_cons_of_mem _ zf_C_35) rfl (fun _ => rfl) (by decide +kernel)) ?_
  refine zt_cons (zs_gc (j := 1) (C := "CaseTree$Tester") (T := zT_Te) (N := 5) (by decide) rfl rfl (by decide) (fun w h => List.mem_cons_of_mem _ (zu_Te w h)) ⟨rfl, rfl, rfl⟩ (List.mem_cons_of_mem _ zf_C_137) rfl (fun _ => rfl) (by decide +kernel)) ?_
  refine zt_cons (zs_iload_n (k := 1) (by decide +kernel) rfl) ?_
  refine zt_cons (zs_aq rfl rfl (by decide +kernel)) ?_
  refine zt_cons (zs_gi (C := "CaseTree$Finding") (T := zT_Fi) (N := 4) (by decide) rfl rfl (by decide) (fun w h => List.mem_cons_of_mem _ (zu_Fi w h)) ⟨rfl, rfl, rfl⟩ (List.mem_cons_of_mem _ zf_C_197) rfl (by decide +kernel)) ?_
  refine zt_cons (zs_zr rfl (by decide +kernel)) ?_
  exact zt_nil
set_option maxRecDepth 20000 in
set_option maxHeartbeats 4000000 in
theorem zok_C_isClass {Ex : ze_G → State → Prop} : ∀ pc, ze_snd zI Ex zi_C_isClass pc (ze_lk t_C_isClass pc) := by
  refine zt_cons (zs_iload_n (k := 0) (by decide +kernel) rfl) ?_
  refine zt_cons (zs_iflt (off := 12) (by decide +kernel) (by decide)) ?_
  refine zt_cons (zs_iload_n (k := 0) (by decide +kernel) rfl) ?_
  refine zt_cons (zs_iconst (n := 3) (by decide +kernel) (by decide)) ?_
  refine zt_cons (zs_cge (off := 7) (by decide +kernel) (by decide)) ?_
  refine zt_cons (zs_iconst (n := 1) (by decide +kernel) (by decide)) ?_
  refine zt_cons (zs_goto (off := 4) (by decide +kernel) (by decide)) ?_
  refine zt_cons (zs_iconst (n := 0) (by decide +kernel) (by decide)) ?_
  refine zt_cons (zs_zr rfl (by decide +kernel)) ?_
  exact zt_nil
set_option maxRecDepth 20000 in
set_option maxHeartbeats 4000000 in
theorem zok_C_isMinimum {Ex : ze_G → State → Prop} : ∀ pc, ze_snd zI Ex zi_C_isMinimum pc (ze_lk t_C_isMinimum pc) := by
  refine zt_cons (zs_iload_n (k := 0) (by decide +kernel) rfl) ?_
  refine zt_cons (zs_iconst (n := 1) (by decide +kernel) (by decide)) ?_
  refine zt_cons (zs_clt (off := 12) (by decide +kernel) (by decide)) ?_
  refine zt_cons (zs_iload_n (k := 0) (by decide +kernel) rfl) ?_
  refine zt_cons (zs_iconst (n := 5) (by decide +kernel) (by decide)) ?_
  refine zt_cons (zs_cgt (off := 7) (by decide +kernel) (by decide)) ?_
  refine zt_cons (zs_iconst (n := 1) (by decide +kernel) (by decide)) ?_
  refine zt_cons (zs_goto (off := 4) (by decide +kernel) (by decide)) ?_
  refine zt_cons (zs_iconst (n := 0) (by decide +kernel) (by decide)) ?_
  refine zt_cons (zs_zr rfl (by decide +kernel)) ?_
  exact zt_nil
