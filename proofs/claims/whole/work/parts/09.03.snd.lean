set_option maxRecDepth 20000 in
set_option maxHeartbeats 4000000 in
theorem zok_Pr_sendFrom {Ex : ze_G → State → Prop} : ∀ pc, ze_snd zI Ex zi_Pr_sendFrom pc (ze_lk t_Pr_sendFrom pc) := by
  refine zt_cons (zs_aload_n (k := 0) (by decide +kernel) rfl) ?_
  refine zt_cons (zs_gc (j := 1) (C := "CaseTree$Pruner") (T := zT_Pr) (N := 3) (by decide) rfl rfl (by decide) (fun w h => List.mem_cons_of_mem _ (zu_Pr w h)) ⟨rfl, rfl, rfl⟩ (List.mem_cons_of_mem _ zf_Pr_19) rfl (fun _ => rfl) (by decide +kernel)) ?_
  refine zt_cons (zs_iload_n (k := 2) (by decide +kernel) rfl) ?_
  refine zt_cons (zs_cv (n := 1) (x := 45) (C := "CaseTree$Path") (T := zT_Pa) (N := 4) zI_51 rfl rfl (by decide) rfl zl_Pr_45 zim_Pa_tallyClasses zsel_Pa_tallyClasses zl_ini_Pa zc_Pa_tallyClasses (by decide +kernel) (by decide) (by decide) (by decide +kernel)) ?_
  refine zt_cons (zs_iload_n (k := 3) (by decide +kernel) rfl) ?_
  refine zt_cons (zs_ifeq (off := 18) (by decide +kernel) (by decide)) ?_
  refine zt_cons (zs_aload_n (k := 0) (by decide +kernel) rfl) ?_
  refine zt_cons (zs_gc (j := 0) (C := "CaseTree$Pruner") (T := zT_Pr) (N := 3) (by decide) rfl rfl (by decide) (fun w h => List.mem_cons_of_mem _ (zu_Pr w h)) ⟨rfl, rfl, rfl⟩ (List.mem_cons_of_mem _ zf_Pr_15) rfl (fun _ => rfl) (by decide +kernel)) ?_
  refine zt_cons (zs_iload_n (k := 1) (by decide +kernel) rfl) ?_
  refine zt_cons (zs_aload_n (k := 0) (by decide +kernel) rfl) ?_
  refine zt_cons (zs_gc (j := 1) (C := "CaseTree$Pruner") (T := zT_Pr) (N := 3) (by decide) rfl rfl (by decide) (fun w h => List.mem_cons_of_mem _ (zu_Pr w h)) ⟨rfl, rfl, rfl⟩ (List.mem_cons_of_mem _ zf_Pr_19) rfl (fun _ => rfl) (by decide +kernel)) ?_
  refine zt_cons (zs_gc (j := 3) (C := "CaseTree$Path") (T := zT_Pa) (N := 4) (by decide) rfl rfl (by decide) (fun w h => List.mem_cons_of_mem _ (zu_Pa w h)) ⟨rfl, rfl, rfl⟩ (List.mem_cons_of_mem _ zf_Pr_48) rfl (fun _ => rfl) (by decide +kernel)) ?_
  refine zt_cons (zs_cv (n := 2) (x := 52) (C := "CaseTree$Tree") (T := zT_Tr) (N := 12) zI_72 rfl rfl (by decide) rfl zl_Pr_52 zim_Tr_keepWeights zsel_Tr_keepWeights zl_ini_Tr zc_Tr_keepWeights (by decide +kernel) (by decide) (by decide) (by decide +kernel)) ?_
  refine zt_cons (zs_aload_n (k := 0) (by decide +kernel) rfl) ?_
  refine zt_cons (zs_gc (j := 0) (C := "CaseTree$Pruner") (T := zT_Pr) (N := 3) (by decide) rfl rfl (by decide) (fun w h => List.mem_cons_of_mem _ (zu_Pr w h)) ⟨rfl, rfl, rfl⟩ (List.mem_cons_of_mem _ zf_Pr_15) rfl (fun _ => rfl) (by decide +kernel)) ?_
  refine zt_cons (zs_iload_n (k := 1) (by decide +kernel) rfl) ?_
  refine zt_cons (zs_cv (n := 1) (x := 56) (C := "CaseTree$Tree") (T := zT_Tr) (N := 12) zI_65 rfl rfl (by decide) rfl zl_Pr_56 zim_Tr_isLeaf zsel_Tr_isLeaf zl_ini_Tr zc_Tr_isLeaf (by decide +kernel) (by decide) (by decide) (by decide +kernel)) ?_
  refine zt_cons (zs_ifne (off := 8) (by decide +kernel) (by decide)) ?_
  refine zt_cons (zs_iload_n (k := 2) (by decide +kernel) rfl) ?_
  refine zt_cons (zs_iconst (n := 3) (by decide +kernel) (by decide)) ?_
  refine zt_cons (zs_clt (off := 16) (by decide +kernel) (by decide)) ?_
  refine zt_cons (zs_aload_n (k := 0) (by decide +kernel) rfl) ?_
  refine zt_cons (zs_aload_n (k := 0) (by decide +kernel) rfl) ?_
  refine zt_cons (zs_gc (j := 1) (C := "CaseTree$Pruner") (T := zT_Pr) (N := 3) (by decide) rfl rfl (by decide) (fun w h => List.mem_cons_of_mem _ (zu_Pr w h)) ⟨rfl, rfl, rfl⟩ (List.mem_cons_of_mem _ zf_Pr_19) rfl (fun _ => rfl) (by decide +kernel)) ?_
  refine zt_cons (zs_gc (j := 3) (C := "CaseTree$Path") (T := zT_Pa) (N := 4) (by decide) rfl rfl (by decide) (fun w h => List.mem_cons_of_mem _ (zu_Pa w h)) ⟨rfl, rfl, rfl⟩ (List.mem_cons_of_mem _ zf_Pr_48) rfl (fun _ => rfl) (by decide +kernel)) ?_
  refine zt_cons (zs_iconst (n := 0) (by decide +kernel) (by decide)) ?_
  refine zt_cons (zs_cv (n := 2) (x := 60) (C := "CaseTree$Pruner") (T := zT_Pr) (N := 3) zI_57 rfl rfl (by decide) rfl zl_Pr_60 zim_Pr_leafErrors zsel_Pr_leafErrors zl_ini_Pr zc_Pr_leafErrors (by decide +kernel) (by decide) (by decide) (by decide +kernel)) ?_
  refine zt_cons (zs_ir rfl (by decide +kernel)) ?_
  refine zt_cons (zs_aload_n (k := 0) (by decide +kernel) rfl) ?_
  refine zt_cons (zs_gc (j := 1) (C := "CaseTree$Pruner") (T := zT_Pr) (N := 3) (by decide) rfl rfl (by decide) (fun w h => List.mem_cons_of_mem _ (zu_Pr w h)) ⟨rfl, rfl, rfl⟩ (List.mem_cons_of_mem _ zf_Pr_19) rfl (fun _ => rfl) (by decide +kernel)) ?_
  refine zt_cons (zs_gc (j := 2) (C := "CaseTree$Path") (T := zT_Pa) (N := 4) (by decide) rfl rfl (by decide) (fun w h => List.mem_cons_of_mem _ (zu_Pa w h)) ⟨rfl, rfl, rfl⟩ (List.mem_cons_of_mem _ zf_Pr_64) rfl (fun _ => rfl) (by decide +kernel)) ?_
  refine zt_cons (zs_iload_n (k := 2) (by decide +kernel) rfl) ?_
  refine zt_cons (zs_aq rfl rfl (by decide +kernel)) ?_
  refine zt_cons (zs_astore (by decide +kernel) (by decide)) ?_
  refine zt_cons (zs_aload (by decide +kernel)) ?_
  refine zt_cons (zs_aload_n (k := 0) (by decide +kernel) rfl) ?_
  refine zt_cons (zs_gc (j := 0) (C := "CaseTree$Pruner") (T := zT_Pr) (N := 3) (by decide) rfl rfl (by decide) (fun w h => List.mem_cons_of_mem _ (zu_Pr w h)) ⟨rfl, rfl, rfl⟩ (List.mem_cons_of_mem _ zf_Pr_15) rfl (fun _ => rfl) (by decide +kernel)) ?_
  refine zt_cons (zs_gc (j := 0) (C := "CaseTree$Tree") (T := zT_Tr) (N := 12) (by decide) rfl rfl (by decide) (fun w h => List.mem_cons_of_mem _ (zu_Tr w h)) ⟨rfl, rfl, rfl⟩ (List.mem_cons_of_mem _ zf_Pr_68) rfl (fun _ => rfl) (by decide +kernel)) ?_
  refine zt_cons (zs_iload_n (k := 1) (by decide +kernel) rfl) ?_
  refine zt_cons (zs_ia (by decide +kernel)) ?_
  refine zt_cons (zs_aload_n (k := 0) (by decide +kernel) rfl) ?_
  refine zt_cons (zs_gc (j := 0) (C := "CaseTree$Pruner") (T := zT_Pr) (N := 3) (by decide) rfl rfl (by decide) (fun w h => List.mem_cons_of_mem _ (zu_Pr w h)) ⟨rfl, rfl, rfl⟩ (List.mem_cons_of_mem _ zf_Pr_15) rfl (fun _ => rfl) (by decide +kernel)) ?_
  refine zt_cons (zs_gc (j := 1) (C := "CaseTree$Tree") (T := zT_Tr) (N := 12) (by decide) rfl rfl (by decide) (fun w h => List.mem_cons_of_mem _ (zu_Tr w h)) ⟨rfl, rfl, rfl⟩ (List.mem_cons_of_mem _ zf_Pr_71) rfl (fun _ => rfl) (by decide +kernel)) ?_
  refine zt_cons (zs_iload_n (k := 1) (by decide +kernel) rfl) ?_
  refine zt_cons (zs_ia (by decide +kernel)) ?_
  refine zt_cons (zs_aload_n (k := 0) (by decide +kernel) rfl) ?_
  refine zt_cons (zs_gc (j := 0) (C := "CaseTree$Pruner") (T := zT_Pr) (N := 3) (by decide) rfl rfl (by decide) (fun w h => List.mem_cons_of_mem _ (zu_Pr w h)) ⟨rfl, rfl, rfl⟩ (List.mem_cons_of_mem _ zf_Pr_15) rfl (fun _ => rfl) (by decide +kernel)) ?_
  refine zt_cons (zs_gc (j := 2) (C := "CaseTree$Tree") (T := zT_Tr) (N := 12) (by decide) rfl rfl (by decide) (fun w h => List.mem_cons_of_mem _ (zu_Tr w h)) ⟨rfl, rfl, rfl⟩ (List.mem_cons_of_mem _ zf_Pr_74) rfl (fun _ => rfl) (by decide +kernel)) ?_
  refine zt_cons (zs_iload_n (k := 1) (by decide +kernel) rfl) ?_
  refine zt_cons (zs_ia (by decide +kernel)) ?_
  refine zt_cons (zs_cv (n := 3) (x := 77) (C := "CaseTree$Fork") (T := zT_Fo) (N := 6) zI_40 rfl rfl (by decide) rfl zl_Pr_77 zim_Fo_setTest zsel_Fo_setTest zl_ini_Fo zc_Fo_setTest (by decide +kernel) (by decide) (by decide) (by decide +kernel)) ?_
  refine zt_cons (zs_aload_n (k := 0) (by decide +kernel) rfl) ?_
  refine zt_cons (zs_gc (j := 1) (C := "CaseTree$Pruner") (T := zT_Pr) (N := 3) (by decide) rfl rfl (by decide) (fun w h => List.mem_cons_of_mem _ (zu_Pr w h)) ⟨rfl, rfl, rfl⟩ (List.mem_cons_of_mem _ zf_Pr_19) rfl (fun _ => rfl) (by decide +kernel)) ?_
  refine zt_cons (zs_iload_n (k := 2) (by decide +kernel) rfl) ?_
  refine zt_cons (zs_cv (n := 1) (x := 83) (C := "CaseTree$Path") (T := zT_Pa) (N := 4) zI_52 rfl rfl (by decide) rfl zl_Pr_83 zim_Pa_tallyParts zsel_Pa_tallyParts zl_ini_Pa zc_Pa_tallyParts (by decide +kernel) (by decide) (by decide) (by decide +kernel)) ?_
  refine zt_cons (zs_iload_n (k := 3) (by decide +kernel) rfl) ?_
  refine zt_cons (zs_ifeq (off := 13) (by decide +kernel) (by decide)) ?_
  refine zt_cons (zs_aload_n (k := 0) (by decide +kernel) rfl) ?_
  refine zt_cons (zs_gc (j := 0) (C := "CaseTree$Pruner") (T := zT_Pr) (N := 3) (by decide) rfl rfl (by decide) (fun w h => List.mem_cons_of_mem _ (zu_Pr w h)) ⟨rfl, rfl, rfl⟩ (List.mem_cons_of_mem _ zf_Pr_15) rfl (fun _ => rfl) (by decide +kernel)) ?_
  refine zt_cons (zs_iload_n (k := 1) (by decide +kernel) rfl) ?_
  refine zt_cons (zs_aload (by decide +kernel)) ?_
  refine zt_cons (zs_cv (n := 2) (x := 86) (C := "CaseTree$Tree") (T := zT_Tr) (N := 12) zI_70 rfl rfl (by decide) rfl zl_Pr_86 zim_Tr_keepTest zsel_Tr_keepTest zl_ini_Tr zc_Tr_keepTest (by decide +kernel) (by decide) (by decide) (by decide +kernel)) ?_
  refine zt_cons (zs_iconst (n := 0) (by decide +kernel) (by decide)) ?_
  refine zt_cons (zs_istore (by decide +kernel) (by decide)) ?_
  refine zt_cons (zs_iconst (n := 0) (by decide +kernel) (by decide)) ?_
  refine zt_cons (zs_istore (by decide +kernel) (by decide)) ?_
  refine zt_cons (zs_iload (by decide +kernel)) ?_
  refine zt_cons (zs_aload_n (k := 0) (by decide +kernel) rfl) ?_
  refine zt_cons (zs_gc (j := 0) (C := "CaseTree$Pruner") (T := zT_Pr) (N := 3) (by decide) rfl rfl (by decide) (fun w h => List.mem_cons_of_mem _ (zu_Pr w h)) ⟨rfl, rfl, rfl⟩ (List.mem_cons_of_mem _ zf_Pr_15) rfl (fun _ => rfl) (by decide +kernel)) ?_
  refine zt_cons (zs_gc (j := 2) (C := "CaseTree$Tree") (T := zT_Tr) (N := 12) (by decide) rfl rfl (by decide) (fun w h => List.mem_cons_of_mem _ (zu_Tr w h)) ⟨rfl, rfl, rfl⟩ (List.mem_cons_of_mem _ zf_Pr_74) rfl (fun _ => rfl) (by decide +kernel)) ?_
  refine zt_cons (zs_iload_n (k := 1) (by decide +kernel) rfl) ?_
  refine zt_cons (zs_ia (by decide +kernel)) ?_
  refine zt_cons (zs_cge (off := 42) (by decide +kernel) (by decide)) ?_
  refine zt_cons (zs_aload_n (k := 0) (by decide +kernel) rfl) ?_
  refine zt_cons (zs_gc (j := 1) (C := "CaseTree$Pruner") (T := zT_Pr) (N := 3) (by decide) rfl rfl (by decide) (fun w h => List.mem_cons_of_mem _ (zu_Pr w h)) ⟨rfl, rfl, rfl⟩ (List.mem_cons_of_mem _ zf_Pr_19) rfl (fun _ => rfl) (by decide +kernel)) ?_
  refine zt_cons (zs_iload_n (k := 2) (by decide +kernel) rfl) ?_
  refine zt_cons (zs_iload (by decide +kernel)) ?_
  refine zt_cons (zs_cv (n := 2) (x := 90) (C := "CaseTree$Path") (T := zT_Pa) (N := 4) zI_53 rfl rfl (by decide) rfl zl_Pr_90 zim_Pa_goDown zsel_Pa_goDown zl_ini_Pa zc_Pa_goDown (by decide +kernel) (by decide) (by decide) (by decide +kernel)) ?_
  refine zt_cons (zs_iload (by decide +kernel)) ?_
  refine zt_cons (zs_aload_n (k := 0) (by decide +kernel) rfl) ?_
  refine zt_cons (zs_aload_n (k := 0) (by decide +kernel) rfl) ?_
  refine zt_cons (zs_gc (j := 0) (C := "CaseTree$Pruner") (T := zT_Pr) (N := 3) (by decide) rfl rfl (by decide) (fun w h => List.mem_cons_of_mem _ (zu_Pr w h)) ⟨rfl, rfl, rfl⟩ (List.mem_cons_of_mem _ zf_Pr_15) rfl (fun _ => rfl) (by decide +kernel)) ?_
  refine zt_cons (zs_iload_n (k := 1) (by decide +kernel) rfl) ?_
  refine zt_cons (zs_iload (by decide +kernel)) ?_
  refine zt_cons (zs_cv (n := 2) (x := 94) (C := "CaseTree$Tree") (T := zT_Tr) (N := 12) zI_66 rfl rfl (by decide) rfl zl_Pr_94 zim_Tr_below zsel_Tr_below zl_ini_Tr zc_Tr_below (by decide +kernel) (by decide) (by decide) (by decide +kernel)) ?_
  refine zt_cons (zs_iload_n (k := 2) (by decide +kernel) rfl) ?_
  refine zt_cons (zs_iconst (n := 1) (by decide +kernel) (by decide)) ?_
  refine zt_cons (zs_iadd (by decide +kernel)) ?_
  refine zt_cons (zs_iload_n (k := 3) (by decide +kernel) rfl) ?_
  refine zt_cons (zs_cv (n := 3) (x := 34) (C := "CaseTree$Pruner") (T := zT_Pr) (N := 3) zI_55 rfl rfl (by decide) rfl zl_Pr_34 zim_Pr_sendFrom zsel_Pr_sendFrom zl_ini_Pr zc_Pr_sendFrom (by decide +kernel) (by decide) (by decide) (by decide +kernel)) ?_
  refine zt_cons (zs_iadd (by decide +kernel)) ?_
  refine zt_cons (zs_istore (by decide +kernel) (by decide)) ?_
  refine zt_cons (zs_iinc (n := 1) (by decide +kernel) (by decide) (by decide)) ?_
  refine zt_cons (zs_goto (off := -50) (by decide +kernel) (by decide)) ?_
  refine zt_cons (zs_iload (by decide +kernel)) ?_
  refine zt_cons (zs_ir rfl (by decide +kernel)) ?_
  exact zt_nil
set_option maxRecDepth 20000 in
set_option maxHeartbeats 4000000 in
theorem zok_Pr_pruneFrom {Ex : ze_G → State → Prop} : ∀ pc, ze_snd zI Ex zi_Pr_pruneFrom pc (ze_lk t_Pr_pruneFrom pc) := by
  refine zt_cons (zs_aload_n (k := 0) (by decide +kernel) rfl) ?_
  refine zt_cons (zs_gc (j := 0) (C := "CaseTree$Pruner") (T := zT_Pr) (N := 3) (by decide) rfl rfl (by decide) (fun w h => List.mem_cons_of_mem _ (zu_Pr w h)) ⟨rfl, rfl, rfl⟩ (List.mem_cons_of_mem _ zf_Pr_15) rfl (fun _ => rfl) (by decide +kernel)) ?_
  refine zt_cons (zs_iload_n (k := 1) (by decide +kernel) rfl) ?_
  refine zt_cons (zs_cv (n := 1) (x := 56) (C := "CaseTree$Tree") (T := zT_Tr) (N := 12) zI_65 rfl rfl (by decide) rfl zl_Pr_56 zim_Tr_isLeaf zsel_Tr_isLeaf zl_ini_Tr zc_Tr_isLeaf (by decide +kernel) (by decide) (by decide) (by decide +kernel)) ?_
  refine zt_cons (zs_ifne (off := 8) (by decide +kernel) (by decide)) ?_
  refine zt_cons (zs_iload_n (k := 2) (by decide +kernel) rfl) ?_
  refine zt_cons (zs_iconst (n := 3) (by decide +kernel) (by decide)) ?_
  refine zt_cons (zs_clt (off := 18) (by decide +kernel) (by decide)) ?_
  refine zt_cons (zs_aload_n (k := 0) (by decide +kernel) rfl) ?_
  refine zt_cons (zs_aload_n (k := 0) (by decide +kernel) rfl) ?_
  refine zt_cons (zs_gc (j := 0) (C := "CaseTree$Pruner") (T := zT_Pr) (N := 3) (by decide) rfl rfl (by decide) (fun w h => List.mem_cons_of_mem _ (zu_Pr w h)) ⟨rfl, rfl, rfl⟩ (List.mem_cons_of_mem _ zf_Pr_15) rfl (fun _ => rfl) (by decide +kernel)) ?_
  refine zt_cons (zs_gc (j := 4) (C := "CaseTree$Tree") (T := zT_Tr) (N := 12) (by decide) rfl rfl (by decide) (fun w h => List.mem_cons_of_mem _ (zu_Tr w h)) ⟨rfl, rfl, rfl⟩ (List.mem_cons_of_mem _ zf_Pr_97) rfl (fun _ => rfl) (by decide +kernel)) ?_
  refine zt_cons (zs_iload_n (k := 1) (by decide +kernel) rfl) ?_
  refine zt_cons (zs_iconst (n := 3) (by decide +kernel) (by decide)) ?_
  refine zt_cons (zs_imul (by decide +kernel)) ?_
  refine zt_cons (zs_cv (n := 2) (x := 60) (C := "CaseTree$Pruner") (T := zT_Pr) (N := 3) zI_57 rfl rfl (by decide) rfl zl_Pr_60 zim_Pr_leafErrors zsel_Pr_leafErrors zl_ini_Pr zc_Pr_leafErrors (by decide +kernel) (by decide) (by decide) (by decide +kernel)) ?_
  refine zt_cons (zs_ir rfl (by decide +kernel)) ?_
  refine zt_cons (zs_aload_n (k := 0) (by decide +kernel) rfl) ?_
  refine zt_cons (zs_gc (j := 0) (C := "CaseTree$Pruner") (T := zT_Pr) (N := 3) (by decide) rfl rfl (by decide) (fun w h => List.mem_cons_of_mem _ (zu_Pr w h)) ⟨rfl, rfl, rfl⟩ (List.mem_cons_of_mem _ zf_Pr_15) rfl (fun _ => rfl) (by decide +kernel)) ?_
  refine zt_cons (zs_iload_n (k := 1) (by decide +kernel) rfl) ?_
  refine zt_cons (zs_aload_n (k := 0) (by decide +kernel) rfl) ?_
  refine zt_cons (zs_gc (j := 1) (C := "CaseTree$Pruner") (T := zT_Pr) (N := 3) (by decide) rfl rfl (by decide) (fun w h => List.mem_cons_of_mem _ (zu_Pr w h)) ⟨rfl, rfl, rfl⟩ (List.mem_cons_of_mem _ zf_Pr_19) rfl (fun _ => rfl) (by decide +kernel)) ?_
  refine zt_cons (zs_gc (j := 2) (C := "CaseTree$Path") (T := zT_Pa) (N := 4) (by decide) rfl rfl (by decide) (fun w h => List.mem_cons_of_mem _ (zu_Pa w h)) ⟨rfl, rfl, rfl⟩ (List.mem_cons_of_mem _ zf_Pr_64) rfl (fun _ => rfl) (by decide +kernel)) ?_
  refine zt_cons (zs_iload_n (k := 2) (by decide +kernel) rfl) ?_
  refine zt_cons (zs_aq rfl rfl (by decide +kernel)) ?_
  refine zt_cons (zs_cv (n := 2) (x := 100) (C := "CaseTree$Tree") (T := zT_Tr) (N := 12) zI_71 rfl rfl (by decide) rfl zl_Pr_100 zim_Tr_readTest zsel_Tr_readTest zl_ini_Tr zc_Tr_readTest (by decide +kernel) (by decide) (by decide) (by decide +kernel)) ?_
  refine zt_cons (zs_iconst (n := 0) (by decide +kernel) (by decide)) ?_
  refine zt_cons (zs_istore_n (k := 3) (by decide +kernel) rfl (by decide)) ?_
  refine zt_cons (zs_iconst (n := 0) (by decide +kernel) (by decide)) ?_
  refine zt_cons (zs_istore (by decide +kernel) (by decide)) ?_
  refine zt_cons (zs_iload (by decide +kernel)) ?_
  refine zt_cons (zs_aload_n (k := 0) (by decide +kernel) rfl) ?_
  refine zt_cons (zs_gc (j := 0) (C := "CaseTree$Pruner") (T := zT_Pr) (N := 3) (by decide) rfl rfl (by decide) (fun w h => List.mem_cons_of_mem _ (zu_Pr w h)) ⟨rfl, rfl, rfl⟩ (List.mem_cons_of_mem _ zf_Pr_15) rfl (fun _ => rfl) (by decide +kernel)) ?_
  refine zt_cons (zs_gc (j := 2) (C := "CaseTree$Tree") (T := zT_Tr) (N := 12) (by decide) rfl rfl (by decide) (fun w h => List.mem_cons_of_mem _ (zu_Tr w h)) ⟨rfl, rfl, rfl⟩ (List.mem_cons_of_mem _ zf_Pr_74) rfl (fun _ => rfl) (by decide +kernel)) ?_
  refine zt_cons (zs_iload_n (k := 1) (by decide +kernel) rfl) ?_
  refine zt_cons (zs_ia (by decide +kernel)) ?_
  refine zt_cons (zs_cge (off := 39) (by decide +kernel) (by decide)) ?_
  refine zt_cons (zs_aload_n (k := 0) (by decide +kernel) rfl) ?_
  refine zt_cons (zs_gc (j := 1) (C := "CaseTree$Pruner") (T := zT_Pr) (N := 3) (by decide) rfl rfl (by decide) (fun w h => List.mem_cons_of_mem _ (zu_Pr w h)) ⟨rfl, rfl, rfl⟩ (List.mem_cons_of_mem _ zf_Pr_19) rfl (fun _ => rfl) (by decide +kernel)) ?_
  refine zt_cons (zs_iload_n (k := 2) (by decide +kernel) rfl) ?_
  refine zt_cons (zs_iload (by decide +kernel)) ?_
  refine zt_cons (zs_cv (n := 2) (x := 90) (C := "CaseTree$Path") (T := zT_Pa) (N := 4) zI_53 rfl rfl (by decide) rfl zl_Pr_90 zim_Pa_goDown zsel_Pa_goDown zl_ini_Pa zc_Pa_goDown (by decide +kernel) (by decide) (by decide) (by decide +kernel)) ?_
  refine zt_cons (zs_iload_n (k := 3) (by decide +kernel) rfl) ?_
  refine zt_cons (zs_aload_n (k := 0) (by decide +kernel) rfl) ?_
  refine zt_cons (zs_aload_n (k := 0) (by decide +kernel) rfl) ?_
  refine zt_cons (zs_gc (j := 0) (C := "CaseTree$Pruner") (T := zT_Pr) (N := 3) (by decide) rfl rfl (by decide) (fun w h => List.mem_cons_of_mem _ (zu_Pr w h)) ⟨rfl, rfl, rfl⟩ (List.mem_cons_of_mem _ zf_Pr_15) rfl (fun _ => rfl) (by decide +kernel)) ?_
  refine zt_cons (zs_iload_n (k := 1) (by decide +kernel) rfl) ?_
  refine zt_cons (zs_iload (by decide +kernel)) ?_
  refine zt_cons (zs_cv (n := 2) (x := 94) (C := "CaseTree$Tree") (T := zT_Tr) (N := 12) zI_66 rfl rfl (by decide) rfl zl_Pr_94 zim_Tr_below zsel_Tr_below zl_ini_Tr zc_Tr_below (by decide +kernel) (by decide) (by decide) (by decide +kernel)) ?_
  refine zt_cons (zs_iload_n (k := 2) (by decide +kernel) rfl) ?_
  refine zt_cons (zs_iconst (n := 1) (by decide +kernel) (by decide)) ?_
  refine zt_cons (zs_iadd (by decide +kernel)) ?_
  refine zt_cons (zs_cv (n := 2) (x := 38) (C := "CaseTree$Pruner") (T := zT_Pr) (N := 3) zI_56 rfl rfl (by decide) rfl zl_Pr_38 zim_Pr_pruneFrom zsel_Pr_pruneFrom zl_ini_Pr zc_Pr_pruneFrom (by decide +kernel) (by decide) (by decide) (by decide +kernel)) ?_
  refine zt_cons (zs_iadd (by decide +kernel)) ?_
  refine zt_cons (zs_istore_n (k := 3) (by decide +kernel) rfl (by decide)) ?_
  refine zt_cons (zs_iinc (n := 1) (by decide +kernel) (by decide) (by decide)) ?_
  refine zt_cons (zs_goto (off := -47) (by decide +kernel) (by decide)) ?_
  refine zt_cons (zs_aload_n (k := 0) (by decide +kernel) rfl) ?_
  refine zt_cons (zs_aload_n (k := 0) (by decide +kernel) rfl) ?_
  refine zt_cons (zs_gc (j := 0) (C := "CaseTree$Pruner") (T := zT_Pr) (N := 3) (by decide) rfl rfl (by decide) (fun w h => List.mem_cons_of_mem _ (zu_Pr w h)) ⟨rfl, rfl, rfl⟩ (List.mem_cons_of_mem _ zf_Pr_15) rfl (fun _ => rfl) (by decide +kernel)) ?_
  refine zt_cons (zs_gc (j := 4) (C := "CaseTree$Tree") (T := zT_Tr) (N := 12) (by decide) rfl rfl (by decide) (fun w h => List.mem_cons_of_mem _ (zu_Tr w h)) ⟨rfl, rfl, rfl⟩ (List.mem_cons_of_mem _ zf_Pr_97) rfl (fun _ => rfl) (by decide +kernel)) ?_
  refine zt_cons (zs_iload_n (k := 1) (by decide +kernel) rfl) ?_
  refine zt_cons (zs_iconst (n := 3) (by decide +kernel) (by decide)) ?_
  refine zt_cons (zs_imul (by decide +kernel)) ?_
  refine zt_cons (zs_cv (n := 2) (x := 60) (C := "CaseTree$Pruner") (T := zT_Pr) (N := 3) zI_57 rfl rfl (by decide) rfl zl_Pr_60 zim_Pr_leafErrors zsel_Pr_leafErrors zl_ini_Pr zc_Pr_leafErrors (by decide +kernel) (by decide) (by decide) (by decide +kernel)) ?_
  refine zt_cons (zs_istore (by decide +kernel) (by decide)) ?_
  refine zt_cons (zs_aload_n (k := 0) (by decide +kernel) rfl) ?_
  refine zt_cons (zs_gc (j := 0) (C := "CaseTree$Pruner") (T := zT_Pr) (N := 3) (by decide) rfl rfl (by decide) (fun w h => List.mem_cons_of_mem _ (zu_Pr w h)) ⟨rfl, rfl, rfl⟩ (List.mem_cons_of_mem _ zf_Pr_15) rfl (fun _ => rfl) (by decide +kernel)) ?_
  refine zt_cons (zs_iload_n (k := 1) (by decide +kernel) rfl) ?_
  refine zt_cons (zs_cv (n := 1) (x := 103) (C := "CaseTree$Tree") (T := zT_Tr) (N := 12) zI_74 rfl rfl (by decide) rfl zl_Pr_103 zim_Tr_heaviestBelow zsel_Tr_heaviestBelow zl_ini_Tr zc_Tr_heaviestBelow (by decide +kernel) (by decide) (by decide) (by decide +kernel)) ?_
  refine zt_cons (zs_istore (by decide +kernel) (by decide)) ?_
  refine zt_cons (zs_aload_n (k := 0) (by decide +kernel) rfl) ?_
  refine zt_cons (zs_iload (by decide +kernel)) ?_
  refine zt_cons (zs_iload_n (k := 2) (by decide +kernel) rfl) ?_
  refine zt_cons (zs_iconst (n := 0) (by decide +kernel) (by decide)) ?_
  refine zt_cons (zs_cv (n := 3) (x := 34) (C := "CaseTree$Pruner") (T := zT_Pr) (N := 3) zI_55 rfl rfl (by decide) rfl zl_Pr_34 zim_Pr_sendFrom zsel_Pr_sendFrom zl_ini_Pr zc_Pr_sendFrom (by decide +kernel) (by decide) (by decide) (by decide +kernel)) ?_
  refine zt_cons (zs_istore (by decide +kernel) (by decide)) ?_
  refine zt_cons (zs_iload (by decide +kernel)) ?_
  refine zt_cons (zs_iload (by decide +kernel)) ?_
  refine zt_cons (zs_cgt (off := 20) (by decide +kernel) (by decide)) ?_
  refine zt_cons (zs_iload (by decide +kernel)) ?_
  refine zt_cons (zs_iload_n (k := 3) (by decide +kernel) rfl) ?_
  refine zt_cons (zs_cgt (off := 14) (by decide +kernel) (by decide)) ?_
  refine zt_cons (zs_aload_n (k := 0) (by decide +kernel) rfl) ?_
  refine zt_cons (zs_gc (j := 0) (C := "CaseTree$Pruner") (T := zT_Pr) (N := 3) (by decide) rfl rfl (by decide) (fun w h => List.mem_cons_of_mem _ (zu_Pr w h)) ⟨rfl, rfl, rfl⟩ (List.mem_cons_of_mem _ zf_Pr_15) rfl (fun _ => rfl) (by decide +kernel)) ?_
  refine zt_cons (zs_iload_n (k := 1) (by decide +kernel) rfl) ?_
  refine zt_cons (zs_cv (n := 1) (x := 107) (C := "CaseTree$Tree") (T := zT_Tr) (N := 12) zI_69 rfl rfl (by decide) rfl zl_Pr_107 zim_Tr_becomeLeaf zsel_Tr_becomeLeaf zl_ini_Tr zc_Tr_becomeLeaf (by decide +kernel) (by decide) (by decide) (by decide +kernel)) ?_
  refine zt_cons (zs_iload (by decide +kernel)) ?_
  refine zt_cons (zs_ir rfl (by decide +kernel)) ?_
  refine zt_cons (zs_iload (by decide +kernel)) ?_
  refine zt_cons (zs_iload_n (k := 3) (by decide +kernel) rfl) ?_
  refine zt_cons (zs_cgt (off := 21) (by decide +kernel) (by decide)) ?_
  refine zt_cons (zs_aload_n (k := 0) (by decide +kernel) rfl) ?_
  refine zt_cons (zs_gc (j := 0) (C := "CaseTree$Pruner") (T := zT_Pr) (N := 3) (by decide) rfl rfl (by decide) (fun w h => List.mem_cons_of_mem _ (zu_Pr w h)) ⟨rfl, rfl, rfl⟩ (List.mem_cons_of_mem _ zf_Pr_15) rfl (fun _ => rfl) (by decide +kernel)) ?_
  refine zt_cons (zs_iload (by decide +kernel)) ?_
  refine zt_cons (zs_iload_n (k := 1) (by decide +kernel) rfl) ?_
  refine zt_cons (zs_cv (n := 2) (x := 110) (C := "CaseTree$Tree") (T := zT_Tr) (N := 12) zI_73 rfl rfl (by decide) rfl zl_Pr_110 zim_Tr_moveNode zsel_Tr_moveNode zl_ini_Tr zc_Tr_moveNode (by decide +kernel) (by decide) (by decide) (by decide +kernel)) ?_
  refine zt_cons (zs_aload_n (k := 0) (by decide +kernel) rfl) ?_
  refine zt_cons (zs_iload_n (k := 1) (by decide +kernel) rfl) ?_
  refine zt_cons (zs_iload_n (k := 2) (by decide +kernel) rfl) ?_
  refine zt_cons (zs_iconst (n := 1) (by decide +kernel) (by decide)) ?_
  refine zt_cons (zs_cv (n := 3) (x := 34) (C := "CaseTree$Pruner") (T := zT_Pr) (N := 3) zI_55 rfl rfl (by decide) rfl zl_Pr_34 zim_Pr_sendFrom zsel_Pr_sendFrom zl_ini_Pr zc_Pr_sendFrom (by decide +kernel) (by decide) (by decide) (by decide +kernel)) ?_
  refine zt_cons (zs_ir rfl (by decide +kernel)) ?_
  refine zt_cons (zs_iload_n (k := 3) (by decide +kernel) rfl) ?_
  refine zt_cons (zs_ir rfl (by decide +kernel)) ?_
  exact zt_nil
set_option maxRecDepth 20000 in
set_option maxHeartbeats 4000000 in
theorem zok_Pr_leafErrors {Ex : ze_G → State → Prop} : ∀ pc, ze_snd zI Ex zi_Pr_leafErrors pc (ze_lk t_Pr_leafErrors pc) := by
  refine zt_cons (zs_aload_n (k := 1) (by decide +kernel) rfl) ?_
  refine zt_cons (zs_iload_n (k := 2) (by decide +kernel) rfl) ?_
  refine zt_cons (zs_iconst (n := 3) (by decide +kernel) (by decide)) ?_
  refine zt_cons (zs_csN (x := 113) zI_26 rfl rfl zs_static_C_sum zl_ini_C zc_C_sum 6 rfl (by decide +kernel) (by decide) (by decide) (by decide +kernel)) ?_
  refine zt_cons (zs_istore_n (k := 3) (by decide +kernel) rfl (by decide)) ?_
  refine zt_cons (zs_iload_n (k := 3) (by decide +kernel) rfl) ?_
  refine zt_cons (zs_ifne (off := 5) (by decide +kernel) (by decide)) ?_
  refine zt_cons (zs_iconst (n := 0) (by decide +kernel) (by decide)) ?_
  refine zt_cons (zs_ir rfl (by decide +kernel)) ?_
  refine zt_cons (zs_iload_n (k := 3) (by decide +kernel) rfl) ?_
  refine zt_cons (zs_aload_n (k := 1) (by decide +kernel) rfl) ?_
  refine zt_cons (zs_iload_n (k := 2) (by decide +kernel) rfl) ?_
  refine zt_cons (zs_aload_n (k := 1) (by decide +kernel) rfl) ?_
  refine zt_cons (zs_iload_n (k := 2) (by decide +kernel) rfl) ?_
  refine zt_cons (zs_iconst (n := 3) (by decide +kernel) (by decide)) ?_
  refine zt_cons (zs_csN (x := 117) zI_27 rfl rfl zs_static_C_firstGreatest zl_ini_C zc_C_firstGreatest 7 rfl (by decide +kernel) (by decide) (by decide) (by decide +kernel)) ?_
  refine zt_cons (zs_iadd (by decide +kernel)) ?_
  refine zt_cons (zs_ia (by decide +kernel)) ?_
  refine zt_cons (zs_isub (by decide +kernel)) ?_
  refine zt_cons (zs_aload_n (k := 0) (by decide +kernel) rfl) ?_
  refine zt_cons (zs_gi (C := "CaseTree$Pruner") (T := zT_Pr) (N := 3) (by decide) rfl rfl (by decide) (fun w h => List.mem_cons_of_mem _ (zu_Pr w h)) ⟨rfl, rfl, rfl⟩ (List.mem_cons_of_mem _ zf_Pr_9) rfl (by decide +kernel)) ?_
  refine zt_cons (zs_iadd (by decide +kernel)) ?_
  refine zt_cons (zs_ir rfl (by decide +kernel)) ?_
  exact zt_nil
set_option maxRecDepth 20000 in
set_option maxHeartbeats 4000000 in
theorem zok_Te_examine {Ex : ze_G → State → Prop} : ∀ pc, ze_snd zI Ex zi_Te_examine pc (ze_lk t_Te_examine pc) := by
  refine zt_cons (zs_aload_n (k := 0) (by decide +kernel) rfl) ?_
  refine zt_cons (zs_gc (j := 1) (C := "CaseTree$Tester") (T := zT_Te) (N := 5) (by decide) rfl rfl (by decide) (fun w h => List.mem_cons_of_mem _ (zu_Te w h)) ⟨rfl, rfl, rfl⟩ (List.mem_cons_of_mem _ zf_Te_11) rfl (fun _ => rfl) (by decide +kernel)) ?_
  refine zt_cons (zs_iload_n (k := 1) (by decide +kernel) rfl) ?_
  refine zt_cons (zs_aq rfl rfl (by decide +kernel)) ?_
  refine zt_cons (zs_astore (by decide +kernel) (by decide)) ?_
  refine zt_cons (zs_aload (by decide +kernel)) ?_
  refine zt_cons (zs_iconst (n := 0) (by decide +kernel) (by decide)) ?_
  refine zt_cons (zs_pz (C := "CaseTree$Finding") (T := zT_Fi) (N := 4) (by decide) rfl rfl (by decide) (fun w h => List.mem_cons_of_mem _ (zu_Fi w h)) zy_Fi_ok zn_Fi ⟨rfl, rfl, rfl, rfl⟩ (by decide +kernel) (List.mem_cons_of_mem _ zf_Te_32) rfl (by decide +kernel)) ?_
  refine zt_cons (zs_aload_n (k := 0) (by decide +kernel) rfl) ?_
  refine zt_cons (zs_gc (j := 0) (C := "CaseTree$Tester") (T := zT_Te) (N := 5) (by decide) rfl rfl (by decide) (fun w h => List.mem_cons_of_mem _ (zu_Te w h)) ⟨rfl, rfl, rfl⟩ (List.mem_cons_of_mem _ zf_Te_27) rfl (fun _ => rfl) (by decide +kernel)) ?_
  refine zt_cons (zs_iload_n (k := 1) (by decide +kernel) rfl) ?_
  refine zt_cons (zs_cv (n := 1) (x := 36) (C := "CaseTree$Cases") (T := zT_Cs) (N := 5) zI_33 rfl rfl (by decide) rfl zl_Te_36 zim_Cs_isContinuous zsel_Cs_isContinuous zl_ini_Cs zc_Cs_isContinuous (by decide +kernel) (by decide) (by decide) (by decide +kernel)) ?_
  refine zt_cons (zs_ifne (off := 26) (by decide +kernel) (by decide)) ?_
  refine zt_cons (zs_aload_n (k := 0) (by decide +kernel) rfl) ?_
  refine zt_cons (zs_iload_n (k := 1) (by decide +kernel) rfl) ?_
  refine zt_cons (zs_iconst (n := (-1)) (by decide +kernel) (by decide)) ?_
  refine zt_cons (zs_aload_n (k := 2) (by decide +kernel) rfl) ?_
  refine zt_cons (zs_cv (n := 3) (x := 42) (C := "CaseTree$Tester") (T := zT_Te) (N := 5) zI_59 rfl rfl (by decide) rfl zl_Te_42 zim_Te_tally zsel_Te_tally zl_ini_Te zc_Te_tally (by decide +kernel) (by decide) (by decide) (by decide +kernel)) ?_
  refine zt_cons (zs_aload_n (k := 0) (by decide +kernel) rfl) ?_
  refine zt_cons (zs_iload_n (k := 3) (by decide +kernel) rfl) ?_
  refine zt_cons (zs_cv (n := 1) (x := 46) (C := "CaseTree$Tester") (T := zT_Te) (N := 5) zI_60 rfl rfl (by decide) rfl zl_Te_46 zim_Te_isValid zsel_Te_isValid zl_ini_Te zc_Te_isValid (by decide +kernel) (by decide) (by decide) (by decide +kernel)) ?_
  refine zt_cons (zs_ifeq (off := 10) (by decide +kernel) (by decide)) ?_
  refine zt_cons (zs_aload_n (k := 0) (by decide +kernel) rfl) ?_
  refine zt_cons (zs_aload (by decide +kernel)) ?_
  refine zt_cons (zs_iconst (n := (-1)) (by decide +kernel) (by decide)) ?_
  refine zt_cons (zs_cv (n := 2) (x := 49) (C := "CaseTree$Tester") (T := zT_Te) (N := 5) zI_61 rfl rfl (by decide) rfl zl_Te_49 zim_Te_offer zsel_Te_offer zl_ini_Te zc_Te_offer (by decide +kernel) (by decide) (by decide) (by decide +kernel)) ?_
  refine zt_cons (zs_vr rfl (by decide +kernel)) ?_
  refine zt_cons (zs_iconst (n := 0) (by decide +kernel) (by decide)) ?_
  refine zt_cons (zs_istore (by decide +kernel) (by decide)) ?_
  refine zt_cons (zs_aload_n (k := 0) (by decide +kernel) rfl) ?_
  refine zt_cons (zs_gc (j := 0) (C := "CaseTree$Tester") (T := zT_Te) (N := 5) (by decide) rfl rfl (by decide) (fun w h => List.mem_cons_of_mem _ (zu_Te w h)) ⟨rfl, rfl, rfl⟩ (List.mem_cons_of_mem _ zf_Te_27) rfl (fun _ => rfl) (by decide +kernel)) ?_
  refine zt_cons (zs_iload_n (k := 1) (by decide +kernel) rfl) ?_
  refine zt_cons (zs_aload_n (k := 2) (by decide +kernel) rfl) ?_
  refine zt_cons (zs_iconst (n := (-1)) (by decide +kernel) (by decide)) ?_
  refine zt_cons (zs_cv (n := 3) (x := 53) (C := "CaseTree$Cases") (T := zT_Cs) (N := 5) zI_36 rfl rfl (by decide) rfl zl_Te_53 zim_Cs_nextValue zsel_Cs_nextValue zl_ini_Cs zc_Cs_nextValue (by decide +kernel) (by decide) (by decide) (by decide +kernel)) ?_
  refine zt_cons (zs_istore (by decide +kernel) (by decide)) ?_
  refine zt_cons (zs_aload_n (k := 0) (by decide +kernel) rfl) ?_
  refine zt_cons (zs_gc (j := 0) (C := "CaseTree$Tester") (T := zT_Te) (N := 5) (by decide) rfl rfl (by decide) (fun w h => List.mem_cons_of_mem _ (zu_Te w h)) ⟨rfl, rfl, rfl⟩ (List.mem_cons_of_mem _ zf_Te_27) rfl (fun _ => rfl) (by decide +kernel)) ?_
  refine zt_cons (zs_iload_n (k := 1) (by decide +kernel) rfl) ?_
  refine zt_cons (zs_aload_n (k := 2) (by decide +kernel) rfl) ?_
  refine zt_cons (zs_iload (by decide +kernel)) ?_
  refine zt_cons (zs_cv (n := 3) (x := 53) (C := "CaseTree$Cases") (T := zT_Cs) (N := 5) zI_36 rfl rfl (by decide) rfl zl_Te_53 zim_Cs_nextValue zsel_Cs_nextValue zl_ini_Cs zc_Cs_nextValue (by decide +kernel) (by decide) (by decide) (by decide +kernel)) ?_
  refine zt_cons (zs_istore (by decide +kernel) (by decide)) ?_
  refine zt_cons (zs_iconst (n := 0) (by decide +kernel) (by decide)) ?_
  refine zt_cons (zs_istore (by decide +kernel) (by decide)) ?_
  refine zt_cons (zs_iload (by decide +kernel)) ?_
  refine zt_cons (zs_bipush (n := 24) (by decide +kernel) (by decide)) ?_
  refine zt_cons (zs_cge (off := 76) (by decide +kernel) (by decide)) ?_
  refine zt_cons (zs_iload (by decide +kernel)) ?_
  refine zt_cons (zs_iconst (n := (-1)) (by decide +kernel) (by decide)) ?_
  refine zt_cons (zs_ceq (off := 70) (by decide +kernel) (by decide)) ?_
  refine zt_cons (zs_aload_n (k := 0) (by decide +kernel) rfl) ?_
  refine zt_cons (zs_gc (j := 0) (C := "CaseTree$Tester") (T := zT_Te) (N := 5) (by decide) rfl rfl (by decide) (fun w h => List.mem_cons_of_mem _ (zu_Te w h)) ⟨rfl, rfl, rfl⟩ (List.mem_cons_of_mem _ zf_Te_27) rfl (fun _ => rfl) (by decide +kernel)) ?_
  refine zt_cons (zs_iload_n (k := 1) (by decide +kernel) rfl) ?_
  refine zt_cons (zs_iload (by decide +kernel)) ?_
  refine zt_cons (zs_iload (by decide +kernel)) ?_
  refine zt_cons (zs_iadd (by decide +kernel)) ?_
  refine zt_cons (zs_iconst (n := 2) (by decide +kernel) (by decide)) ?_
  refine zt_cons (zs_idiv (by decide +kernel)) ?_
  refine zt_cons (zs_cv (n := 2) (x := 57) (C := "CaseTree$Cases") (T := zT_Cs) (N := 5) zI_37 rfl rfl (by decide) rfl zl_Te_57 zim_Cs_valueUpTo zsel_Cs_valueUpTo zl_ini_Cs zc_Cs_valueUpTo (by decide +kernel) (by decide) (by decide) (by decide +kernel)) ?_
  refine zt_cons (zs_istore (by decide +kernel) (by decide)) ?_
  refine zt_cons (zs_aload_n (k := 0) (by decide +kernel) rfl) ?_
  refine zt_cons (zs_iload_n (k := 1) (by decide +kernel) rfl) ?_
  refine zt_cons (zs_iload (by decide +kernel)) ?_
  refine zt_cons (zs_aload_n (k := 2) (by decide +kernel) rfl) ?_
  refine zt_cons (zs_cv (n := 3) (x := 42) (C := "CaseTree$Tester") (T := zT_Te) (N := 5) zI_59 rfl rfl (by decide) rfl zl_Te_42 zim_Te_tally zsel_Te_tally zl_ini_Te zc_Te_tally (by decide +kernel) (by decide) (by decide) (by decide +kernel)) ?_
  refine zt_cons (zs_aload_n (k := 0) (by decide +kernel) rfl) ?_
  refine zt_cons (zs_iload_n (k := 3) (by decide +kernel) rfl) ?_
  refine zt_cons (zs_cv (n := 1) (x := 46) (C := "CaseTree$Tester") (T := zT_Te) (N := 5) zI_60 rfl rfl (by decide) rfl zl_Te_46 zim_Te_isValid zsel_Te_isValid zl_ini_Te zc_Te_isValid (by decide +kernel) (by decide) (by decide) (by decide +kernel)) ?_
  refine zt_cons (zs_ifeq (off := 14) (by decide +kernel) (by decide)) ?_
  refine zt_cons (zs_iinc (n := 1) (by decide +kernel) (by decide) (by decide)) ?_
  refine zt_cons (zs_aload_n (k := 0) (by decide +kernel) rfl) ?_
  refine zt_cons (zs_aload (by decide +kernel)) ?_
  refine zt_cons (zs_iload (by decide +kernel)) ?_
  refine zt_cons (zs_cv (n := 2) (x := 49) (C := "CaseTree$Tester") (T := zT_Te) (N := 5) zI_61 rfl rfl (by decide) rfl zl_Te_49 zim_Te_offer zsel_Te_offer zl_ini_Te zc_Te_offer (by decide +kernel) (by decide) (by decide) (by decide +kernel)) ?_
  refine zt_cons (zs_iload (by decide +kernel)) ?_
  refine zt_cons (zs_istore (by decide +kernel) (by decide)) ?_
  refine zt_cons (zs_aload_n (k := 0) (by decide +kernel) rfl) ?_
  refine zt_cons (zs_gc (j := 0) (C := "CaseTree$Tester") (T := zT_Te) (N := 5) (by decide) rfl rfl (by decide) (fun w h => List.mem_cons_of_mem _ (zu_Te w h)) ⟨rfl, rfl, rfl⟩ (List.mem_cons_of_mem _ zf_Te_27) rfl (fun _ => rfl) (by decide +kernel)) ?_
  refine zt_cons (zs_iload_n (k := 1) (by decide +kernel) rfl) ?_
  refine zt_cons (zs_aload_n (k := 2) (by decide +kernel) rfl) ?_
  refine zt_cons (zs_iload (by decide +kernel)) ?_
  refine zt_cons (zs_cv (n := 3) (x := 53) (C := "CaseTree$Cases") (T := zT_Cs) (N := 5) zI_36 rfl rfl (by decide) rfl zl_Te_53 zim_Cs_nextValue zsel_Cs_nextValue zl_ini_Cs zc_Cs_nextValue (by decide +kernel) (by decide) (by decide) (by decide +kernel)) ?_
  refine zt_cons (zs_istore (by decide +kernel) (by decide)) ?_
  refine zt_cons (zs_iinc (n := 1) (by decide +kernel) (by decide) (by decide)) ?_
  refine zt_cons (zs_goto (off := -77) (by decide +kernel) (by decide)) ?_
  refine zt_cons (zs_iload (by decide +kernel)) ?_
  refine zt_cons (zs_ifle (off := 23) (by decide +kernel) (by decide)) ?_
  refine zt_cons (zs_aload (by decide +kernel)) ?_
  refine zt_cons (zs_dup (by decide +kernel)) ?_
  refine zt_cons (zs_gl (C := "CaseTree$Finding") (T := zT_Fi) (N := 4) (by decide) rfl rfl (by decide) (fun w h => List.mem_cons_of_mem _ (zu_Fi w h)) ⟨rfl, rfl, rfl⟩ (List.mem_cons_of_mem _ zf_Te_61) rfl (by decide +kernel)) ?_
  refine zt_cons (zs_ldc2 (List.mem_cons_of_mem _ zk_Te_65) (by decide +kernel)) ?_
  refine zt_cons (zs_iload (by decide +kernel)) ?_
  refine zt_cons (zs_csN (x := 67) zI_24 rfl rfl zs_static_C_logarithm zl_ini_C zc_C_logarithm 8 rfl (by decide +kernel) (by decide) (by decide) (by decide +kernel)) ?_
  refine zt_cons (zs_i2l (by decide +kernel)) ?_
  refine zt_cons (zs_lmul (by decide +kernel)) ?_
  refine zt_cons (zs_lsub (by decide +kernel)) ?_
  refine zt_cons (zs_pl (C := "CaseTree$Finding") (T := zT_Fi) (N := 4) (by decide) rfl rfl (by decide) (fun w h => List.mem_cons_of_mem _ (zu_Fi w h)) zy_Fi_ok zn_Fi ⟨rfl, rfl, rfl, rfl⟩ (by decide +kernel) (List.mem_cons_of_mem _ zf_Te_61) rfl (by decide +kernel)) ?_
  refine zt_cons (zs_vr rfl (by decide +kernel)) ?_
  exact zt_nil
set_option maxRecDepth 20000 in
set_option maxHeartbeats 4000000 in
theorem zok_Te_tally {Ex : ze_G → State → Prop} : ∀ pc, ze_snd zI Ex zi_Te_tally pc (ze_lk t_Te_tally pc) := by
  refine zt_cons (zs_aload_n (k := 0) (by decide +kernel) rfl) ?_
  refine zt_cons (zs_gc (j := 2) (C := "CaseTree$Tester") (T := zT_Te) (N := 5) (by decide) rfl rfl (by decide) (fun w h => List.mem_cons_of_mem _ (zu_Te w h)) ⟨rfl, rfl, rfl⟩ (List.mem_cons_of_mem _ zf_Te_17) rfl (fun _ => rfl) (by decide +kernel)) ?_
  refine zt_cons (zs_iconst (n := 0) (by decide +kernel) (by decide)) ?_
  refine zt_cons (zs_cs (x := 71) zI_0 rfl rfl zl_Te_71 zs_static_A_fill zl_ini_A zc_A_fill (by decide +kernel) (by decide) (by decide) (by decide +kernel)) ?_
  refine zt_cons (zs_aload_n (k := 0) (by decide +kernel) rfl) ?_
  refine zt_cons (zs_gc (j := 3) (C := "CaseTree$Tester") (T := zT_Te) (N := 5) (by decide) rfl rfl (by decide) (fun w h => List.mem_cons_of_mem _ (zu_Te w h)) ⟨rfl, rfl, rfl⟩ (List.mem_cons_of_mem _ zf_Te_21) rfl (fun _ => rfl) (by decide +kernel)) ?_
  refine zt_cons (zs_iconst (n := 0) (by decide +kernel) (by decide)) ?_
  refine zt_cons (zs_cs (x := 71) zI_0 rfl rfl zl_Te_71 zs_static_A_fill zl_ini_A zc_A_fill (by decide +kernel) (by decide) (by decide) (by decide +kernel)) ?_
  refine zt_cons (zs_aload_n (k := 0) (by decide +kernel) rfl) ?_
  refine zt_cons (zs_gc (j := 4) (C := "CaseTree$Tester") (T := zT_Te) (N := 5) (by decide) rfl rfl (by decide) (fun w h => List.mem_cons_of_mem _ (zu_Te w h)) ⟨rfl, rfl, rfl⟩ (List.mem_cons_of_mem _ zf_Te_24) rfl (fun _ => rfl) (by decide +kernel)) ?_
  refine zt_cons (zs_iconst (n := 0) (by decide +kernel) (by decide)) ?_
  refine zt_cons (zs_cs (x := 71) zI_0 rfl rfl zl_Te_71 zs_static_A_fill zl_ini_A zc_A_fill (by decide +kernel) (by decide) (by decide) (by decide +kernel)) ?_
  refine zt_cons (zs_iconst (n := 0) (by decide +kernel) (by decide)) ?_
  refine zt_cons (zs_istore (by decide +kernel) (by decide)) ?_
  refine zt_cons (zs_iload (by decide +kernel)) ?_
  refine zt_cons (zs_aload_n (k := 0) (by decide +kernel) rfl) ?_
  refine zt_cons (zs_gc (j := 0) (C := "CaseTree$Tester") (T := zT_Te) (N := 5) (by decide) rfl rfl (by decide) (fun w h => List.mem_cons_of_mem _ (zu_Te w h)) ⟨rfl, rfl, rfl⟩ (List.mem_cons_of_mem _ zf_Te_27) rfl (fun _ => rfl) (by decide +kernel)) ?_
  refine zt_cons (zs_gi (C := "CaseTree$Cases") (T := zT_Cs) (N := 5) (by decide) rfl rfl (by decide) (fun w h => List.mem_cons_of_mem _ (zu_Cs w h)) ⟨rfl, rfl, rfl⟩ (List.mem_cons_of_mem _ zf_Te_77) rfl (by decide +kernel)) ?_
  refine zt_cons (zs_cge (off := 110) (by decide +kernel) (by decide)) ?_
  refine zt_cons (zs_aload_n (k := 0) (by decide +kernel) rfl) ?_
  refine zt_cons (zs_gc (j := 0) (C := "CaseTree$Tester") (T := zT_Te) (N := 5) (by decide) rfl rfl (by decide) (fun w h => List.mem_cons_of_mem _ (zu_Te w h)) ⟨rfl, rfl, rfl⟩ (List.mem_cons_of_mem _ zf_Te_27) rfl (fun _ => rfl) (by decide +kernel)) ?_
  refine zt_cons (zs_iload (by decide +kernel)) ?_
  refine zt_cons (zs_iload_n (k := 1) (by decide +kernel) rfl) ?_
  refine zt_cons (zs_cv (n := 2) (x := 81) (C := "CaseTree$Cases") (T := zT_Cs) (N := 5) zI_32 rfl rfl (by decide) rfl zl_Te_81 zim_Cs_valueOf zsel_Cs_valueOf zl_ini_Cs zc_Cs_valueOf (by decide +kernel) (by decide) (by decide) (by decide +kernel)) ?_
  refine zt_cons (zs_istore (by decide +kernel) (by decide)) ?_
  refine zt_cons (zs_aload_n (k := 0) (by decide +kernel) rfl) ?_
  refine zt_cons (zs_gc (j := 0) (C := "CaseTree$Tester") (T := zT_Te) (N := 5) (by decide) rfl rfl (by decide) (fun w h => List.mem_cons_of_mem _ (zu_Te w h)) ⟨rfl, rfl, rfl⟩ (List.mem_cons_of_mem _ zf_Te_27) rfl (fun _ => rfl) (by decide +kernel)) ?_
  refine zt_cons (zs_gc (j := 1) (C := "CaseTree$Cases") (T := zT_Cs) (N := 5) (by decide) rfl rfl (by decide) (fun w h => List.mem_cons_of_mem _ (zu_Cs w h)) ⟨rfl, rfl, rfl⟩ (List.mem_cons_of_mem _ zf_Te_84) rfl (fun _ => rfl) (by decide +kernel)) ?_
  refine zt_cons (zs_iload (by decide +kernel)) ?_
  refine zt_cons (zs_ia (by decide +kernel)) ?_
  refine zt_cons (zs_istore (by decide +kernel) (by decide)) ?_
  refine zt_cons (zs_iload (by decide +kernel)) ?_
  refine zt_cons (zs_iconst (n := (-1)) (by decide +kernel) (by decide)) ?_
  refine zt_cons (zs_cne (off := 19) (by decide +kernel) (by decide)) ?_
  refine zt_cons (zs_aload_n (k := 0) (by decide +kernel) rfl) ?_
  refine zt_cons (zs_gc (j := 4) (C := "CaseTree$Tester") (T := zT_Te) (N := 5) (by decide) rfl rfl (by decide) (fun w h => List.mem_cons_of_mem _ (zu_Te w h)) ⟨rfl, rfl, rfl⟩ (List.mem_cons_of_mem _ zf_Te_24) rfl (fun _ => rfl) (by decide +kernel)) ?_
  refine zt_cons (zs_iconst (n := 4) (by decide +kernel) (by decide)) ?_
  refine zt_cons (zs_dup2 (by decide +kernel)) ?_
  refine zt_cons (zs_ia (by decide +kernel)) ?_
  refine zt_cons (zs_aload_n (k := 3) (by decide +kernel) rfl) ?_
  refine zt_cons (zs_iload (by decide +kernel)) ?_
  refine zt_cons (zs_ia (by decide +kernel)) ?_
  refine zt_cons (zs_iadd (by decide +kernel)) ?_
  refine zt_cons (zs_ias (by decide +kernel)) ?_
  refine zt_cons (zs_goto (off := 58) (by decide +kernel) (by decide)) ?_
  refine zt_cons (zs_iload (by decide +kernel)) ?_
  refine zt_cons (zs_iload_n (k := 2) (by decide +kernel) rfl) ?_
  refine zt_cons (zs_csN (x := 87) zI_28 rfl rfl zs_static_C_branchFor zl_ini_C zc_C_branchFor 9 rfl (by decide +kernel) (by decide) (by decide) (by decide +kernel)) ?_
  refine zt_cons (zs_istore (by decide +kernel) (by decide)) ?_
  refine zt_cons (zs_aload_n (k := 0) (by decide +kernel) rfl) ?_
  refine zt_cons (zs_gc (j := 4) (C := "CaseTree$Tester") (T := zT_Te) (N := 5) (by decide) rfl rfl (by decide) (fun w h => List.mem_cons_of_mem _ (zu_Te w h)) ⟨rfl, rfl, rfl⟩ (List.mem_cons_of_mem _ zf_Te_24) rfl (fun _ => rfl) (by decide +kernel)) ?_
  refine zt_cons (zs_iload (by decide +kernel)) ?_
  refine zt_cons (zs_dup2 (by decide +kernel)) ?_
  refine zt_cons (zs_ia (by decide +kernel)) ?_
  refine zt_cons (zs_aload_n (k := 3) (by decide +kernel) rfl) ?_
  refine zt_cons (zs_iload (by decide +kernel)) ?_
  refine zt_cons (zs_ia (by decide +kernel)) ?_
  refine zt_cons (zs_iadd (by decide +kernel)) ?_
  refine zt_cons (zs_ias (by decide +kernel)) ?_
  refine zt_cons (zs_aload_n (k := 0) (by decide +kernel) rfl) ?_
  refine zt_cons (zs_gc (j := 2) (C := "CaseTree$Tester") (T := zT_Te) (N := 5) (by decide) rfl rfl (by decide) (fun w h => List.mem_cons_of_mem _ (zu_Te w h)) ⟨rfl, rfl, rfl⟩ (List.mem_cons_of_mem _ zf_Te_17) rfl (fun _ => rfl) (by decide +kernel)) ?_
  refine zt_cons (zs_iload (by decide +kernel)) ?_
  refine zt_cons (zs_dup2 (by decide +kernel)) ?_
  refine zt_cons (zs_ia (by decide +kernel)) ?_
  refine zt_cons (zs_aload_n (k := 3) (by decide +kernel) rfl) ?_
  refine zt_cons (zs_iload (by decide +kernel)) ?_
  refine zt_cons (zs_ia (by decide +kernel)) ?_
  refine zt_cons (zs_iadd (by decide +kernel)) ?_
  refine zt_cons (zs_ias (by decide +kernel)) ?_
  refine zt_cons (zs_aload_n (k := 0) (by decide +kernel) rfl) ?_
  refine zt_cons (zs_gc (j := 3) (C := "CaseTree$Tester") (T := zT_Te) (N := 5) (by decide) rfl rfl (by decide) (fun w h => List.mem_cons_of_mem _ (zu_Te w h)) ⟨rfl, rfl, rfl⟩ (List.mem_cons_of_mem _ zf_Te_21) rfl (fun _ => rfl) (by decide +kernel)) ?_
  refine zt_cons (zs_iload (by decide +kernel)) ?_
  refine zt_cons (zs_iconst (n := 3) (by decide +kernel) (by decide)) ?_
  refine zt_cons (zs_imul (by decide +kernel)) ?_
  refine zt_cons (zs_iload (by decide +kernel)) ?_
  refine zt_cons (zs_iadd (by decide +kernel)) ?_
  refine zt_cons (zs_dup2 (by decide +kernel)) ?_
  refine zt_cons (zs_ia (by decide +kernel)) ?_
  refine zt_cons (zs_aload_n (k := 3) (by decide +kernel) rfl) ?_
  refine zt_cons (zs_iload (by decide +kernel)) ?_
  refine zt_cons (zs_ia (by decide +kernel)) ?_
  refine zt_cons (zs_iadd (by decide +kernel)) ?_
  refine zt_cons (zs_ias (by decide +kernel)) ?_
  refine zt_cons (zs_iinc (n := 1) (by decide +kernel) (by decide) (by decide)) ?_
  refine zt_cons (zs_goto (off := -116) (by decide +kernel) (by decide)) ?_
  refine zt_cons (zs_vr rfl (by decide +kernel)) ?_
  exact zt_nil
set_option maxRecDepth 20000 in
set_option maxHeartbeats 4000000 in
theorem zok_Te_isValid {Ex : ze_G → State → Prop} : ∀ pc, ze_snd zI Ex zi_Te_isValid pc (ze_lk t_Te_isValid pc) := by
  refine zt_cons (zs_iconst (n := 0) (by decide +kernel) (by decide)) ?_
  refine zt_cons (zs_istore_n (k := 2) (by decide +kernel) rfl (by decide)) ?_
  refine zt_cons (zs_iconst (n := 0) (by decide +kernel) (by decide)) ?_
  refine zt_cons (zs_istore_n (k := 3) (by decide +kernel) rfl (by decide)) ?_
  refine zt_cons (zs_iload_n (k := 3) (by decide +kernel) rfl) ?_
  refine zt_cons (zs_iconst (n := 4) (by decide +kernel) (by decide)) ?_
  refine zt_cons (zs_cge (off := 26) (by decide +kernel) (by decide)) ?_
  refine zt_cons (zs_aload_n (k := 0) (by decide +kernel) rfl) ?_
  refine zt_cons (zs_gc (j := 4) (C := "CaseTree$Tester") (T := zT_Te) (N := 5) (by decide) rfl rfl (by decide) (fun w h => List.mem_cons_of_mem _ (zu_Te w h)) ⟨rfl, rfl, rfl⟩ (List.mem_cons_of_mem _ zf_Te_24) rfl (fun _ => rfl) (by decide +kernel)) ?_
  refine zt_cons (zs_iload_n (k := 3) (by decide +kernel) rfl) ?_
  refine zt_cons (zs_ia (by decide +kernel)) ?_
  refine zt_cons (zs_sipush (n := 720) (by decide +kernel) (by decide)) ?_
  refine zt_cons (zs_iload_n (k := 1) (by decide +kernel) rfl) ?_
  refine zt_cons (zs_imul (by decide +kernel)) ?_
  refine zt_cons (zs_clt (off := 6) (by decide +kernel) (by decide)) ?_
  refine zt_cons (zs_iinc (n := 1) (by decide +kernel) (by decide) (by decide)) ?_
  refine zt_cons (zs_iinc (n := 1) (by decide +kernel) (by decide) (by decide)) ?_
  refine zt_cons (zs_goto (off := -25) (by decide +kernel) (by decide)) ?_
  refine zt_cons (zs_iload_n (k := 2) (by decide +kernel) rfl) ?_
  refine zt_cons (zs_iconst (n := 2) (by decide +kernel) (by decide)) ?_
  refine zt_cons (zs_clt (off := 7) (by decide +kernel) (by decide)) ?_
  refine zt_cons (zs_iconst (n := 1) (by decide +kernel) (by decide)) ?_
  refine zt_cons (zs_goto (off := 4) (by decide +kernel) (by decide)) ?_
  refine zt_cons (zs_iconst (n := 0) (by decide +kernel) (by decide)) ?_
  refine zt_cons (zs_zr rfl (by decide +kernel)) ?_
  exact zt_nil
set_option maxRecDepth 20000 in
set_option maxHeartbeats 4000000 in
theorem zok_Te_offer {Ex : ze_G → State → Prop} : ∀ pc, ze_snd zI Ex zi_Te_offer pc (ze_lk t_Te_offer pc) := by
  refine zt_cons (zs_aload_n (k := 0) (by decide +kernel) rfl) ?_
  refine zt_cons (zs_gc (j := 2) (C := "CaseTree$Tester") (T := zT_Te) (N := 5) (by decide) rfl rfl (by decide) (fun w h => List.mem_cons_of_mem _ (zu_Te w h)) ⟨rfl, rfl, rfl⟩ (List.mem_cons_of_mem _ zf_Te_17) rfl (fun _ => rfl) (by decide +kernel)) ?_
  refine zt_cons (zs_iconst (n := 0) (by decide +kernel) (by decide)) ?_
  refine zt_cons (zs_iconst (n := 3) (by decide +kernel) (by decide)) ?_
  refine zt_cons (zs_csN (x := 90) zI_25 rfl rfl zs_static_C_information zl_ini_C zc_C_information 10 rfl (by decide +kernel) (by decide) (by decide) (by decide +kernel)) ?_
  refine zt_cons (zs_lstore_n (k := 3) (by decide +kernel) rfl (by decide)) ?_
  refine zt_cons (zs_iconst (n := 0) (by decide +kernel) (by decide)) ?_
  refine zt_cons (zs_istore (by decide +kernel) (by decide)) ?_
  refine zt_cons (zs_iload (by decide +kernel)) ?_
  refine zt_cons (zs_iconst (n := 4) (by decide +kernel) (by decide)) ?_
  refine zt_cons (zs_cge (off := 24) (by decide +kernel) (by decide)) ?_
  refine zt_cons (zs_lload_n (k := 3) (by decide +kernel) rfl) ?_
  refine zt_cons (zs_aload_n (k := 0) (by decide +kernel) rfl) ?_
  refine zt_cons (zs_gc (j := 3) (C := "CaseTree$Tester") (T := zT_Te) (N := 5) (by decide) rfl rfl (by decide) (fun w h => List.mem_cons_of_mem _ (zu_Te w h)) ⟨rfl, rfl, rfl⟩ (List.mem_cons_of_mem _ zf_Te_21) rfl (fun _ => rfl) (by decide +kernel)) ?_
  refine zt_cons (zs_iload (by decide +kernel)) ?_
  refine zt_cons (zs_iconst (n := 3) (by decide +kernel) (by decide)) ?_
  refine zt_cons (zs_imul (by decide +kernel)) ?_
  refine zt_cons (zs_iconst (n := 3) (by decide +kernel) (by decide)) ?_
  refine zt_cons (zs_csN (x := 90) zI_25 rfl rfl zs_static_C_information zl_ini_C zc_C_information 10 rfl (by decide +kernel) (by decide) (by decide) (by decide +kernel)) ?_
  refine zt_cons (zs_lsub (by decide +kernel)) ?_
  refine zt_cons (zs_lstore_n (k := 3) (by decide +kernel) rfl (by decide)) ?_
  refine zt_cons (zs_iinc (n := 1) (by decide +kernel) (by decide) (by decide)) ?_
  refine zt_cons (zs_goto (off := -24) (by decide +kernel) (by decide)) ?_
  refine zt_cons (zs_aload_n (k := 1) (by decide +kernel) rfl) ?_
  refine zt_cons (zs_gi (C := "CaseTree$Finding") (T := zT_Fi) (N := 4) (by decide) rfl rfl (by decide) (fun w h => List.mem_cons_of_mem _ (zu_Fi w h)) ⟨rfl, rfl, rfl⟩ (List.mem_cons_of_mem _ zf_Te_32) rfl (by decide +kernel)) ?_
  refine zt_cons (zs_ifeq (off := 13) (by decide +kernel) (by decide)) ?_
  refine zt_cons (zs_lload_n (k := 3) (by decide +kernel) rfl) ?_
  refine zt_cons (zs_aload_n (k := 1) (by decide +kernel) rfl) ?_
  refine zt_cons (zs_gl (C := "CaseTree$Finding") (T := zT_Fi) (N := 4) (by decide) rfl rfl (by decide) (fun w h => List.mem_cons_of_mem _ (zu_Fi w h)) ⟨rfl, rfl, rfl⟩ (List.mem_cons_of_mem _ zf_Te_61) rfl (by decide +kernel)) ?_
  refine zt_cons (zs_lcmp (by decide +kernel)) ?_
  refine zt_cons (zs_ifgt (off := 4) (by decide +kernel) (by decide)) ?_
  refine zt_cons (zs_vr rfl (by decide +kernel)) ?_
  refine zt_cons (zs_aload_n (k := 1) (by decide +kernel) rfl) ?_
  refine zt_cons (zs_iconst (n := 1) (by decide +kernel) (by decide)) ?_
  refine zt_cons (zs_pz (C := "CaseTree$Finding") (T := zT_Fi) (N := 4) (by decide) rfl rfl (by decide) (fun w h => List.mem_cons_of_mem _ (zu_Fi w h)) zy_Fi_ok zn_Fi ⟨rfl, rfl, rfl, rfl⟩ (by decide +kernel) (List.mem_cons_of_mem _ zf_Te_32) rfl (by decide +kernel)) ?_
  refine zt_cons (zs_aload_n (k := 1) (by decide +kernel) rfl) ?_
  refine zt_cons (zs_iload_n (k := 2) (by decide +kernel) rfl) ?_
  refine zt_cons (zs_pi (C := "CaseTree$Finding") (T := zT_Fi) (N := 4) (by decide) rfl rfl (by decide) (fun w h => List.mem_cons_of_mem _ (zu_Fi w h)) zy_Fi_ok zn_Fi ⟨rfl, rfl, rfl, rfl⟩ (by decide +kernel) (List.mem_cons_of_mem _ zf_Te_94) rfl (by decide +kernel)) ?_
  refine zt_cons (zs_aload_n (k := 1) (by decide +kernel) rfl) ?_
  refine zt_cons (zs_lload_n (k := 3) (by decide +kernel) rfl) ?_
  refine zt_cons (zs_pl (C := "CaseTree$Finding") (T := zT_Fi) (N := 4) (by decide) rfl rfl (by decide) (fun w h => List.mem_cons_of_mem _ (zu_Fi w h)) zy_Fi_ok zn_Fi ⟨rfl, rfl, rfl, rfl⟩ (by decide +kernel) (List.mem_cons_of_mem _ zf_Te_61) rfl (by decide +kernel)) ?_
  refine zt_cons (zs_aload_n (k := 1) (by decide +kernel) rfl) ?_
  refine zt_cons (zs_aload_n (k := 0) (by decide +kernel) rfl) ?_
  refine zt_cons (zs_gc (j := 4) (C := "CaseTree$Tester") (T := zT_Te) (N := 5) (by decide) rfl rfl (by decide) (fun w h => List.mem_cons_of_mem _ (zu_Te w h)) ⟨rfl, rfl, rfl⟩ (List.mem_cons_of_mem _ zf_Te_24) rfl (fun _ => rfl) (by decide +kernel)) ?_
  refine zt_cons (zs_iconst (n := 0) (by decide +kernel) (by decide)) ?_
  refine zt_cons (zs_iconst (n := 5) (by decide +kernel) (by decide)) ?_
  refine zt_cons (zs_csN (x := 90) zI_25 rfl rfl zs_static_C_information zl_ini_C zc_C_information 10 rfl (by decide +kernel) (by decide) (by decide) (by decide +kernel)) ?_
  refine zt_cons (zs_pl (C := "CaseTree$Finding") (T := zT_Fi) (N := 4) (by decide) rfl rfl (by decide) (fun w h => List.mem_cons_of_mem _ (zu_Fi w h)) zy_Fi_ok zn_Fi ⟨rfl, rfl, rfl, rfl⟩ (by decide +kernel) (List.mem_cons_of_mem _ zf_Te_97) rfl (by decide +kernel)) ?_
  refine zt_cons (zs_vr rfl (by decide +kernel)) ?_
  exact zt_nil
