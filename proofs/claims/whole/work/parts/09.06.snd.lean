set_option maxRecDepth 20000 in
set_option maxHeartbeats 4000000 in
theorem zok_M_measure {Ex : ze_G → State → Prop} : ∀ pc, ze_snd zI Ex zi_M_measure pc (ze_lk t_M_measure pc) := by
  refine zt_cons (zs_iconst (n := 0) (by decide +kernel) (by decide)) ?_
  refine zt_cons (zs_istore (by decide +kernel) (by decide)) ?_
  refine zt_cons (zs_iload (by decide +kernel)) ?_
  refine zt_cons (zs_bipush (n := 12) (by decide +kernel) (by decide)) ?_
  refine zt_cons (zs_cge (off := 17) (by decide +kernel) (by decide)) ?_
  refine zt_cons (zs_aload_n (k := 0) (by decide +kernel) rfl) ?_
  refine zt_cons (zs_gc (j := 16) (C := "CaseTreeModel") (T := zT_M) (N := 30) (by decide) rfl rfl (by decide) (fun w h => List.mem_cons_of_mem _ (zu_M w h)) ⟨rfl, rfl, rfl⟩ (List.mem_cons_of_mem _ zf_M_43) rfl (fun _ => rfl) (by decide +kernel)) ?_
  refine zt_cons (zs_iload (by decide +kernel)) ?_
  refine zt_cons (zs_iconst (n := 0) (by decide +kernel) (by decide)) ?_
  refine zt_cons (zs_ias (by decide +kernel)) ?_
  refine zt_cons (zs_iinc (n := 1) (by decide +kernel) (by decide) (by decide)) ?_
  refine zt_cons (zs_goto (off := -18) (by decide +kernel) (by decide)) ?_
  refine zt_cons (zs_iconst (n := 0) (by decide +kernel) (by decide)) ?_
  refine zt_cons (zs_istore (by decide +kernel) (by decide)) ?_
  refine zt_cons (zs_iload (by decide +kernel)) ?_
  refine zt_cons (zs_iconst (n := 4) (by decide +kernel) (by decide)) ?_
  refine zt_cons (zs_cge (off := 17) (by decide +kernel) (by decide)) ?_
  refine zt_cons (zs_aload_n (k := 0) (by decide +kernel) rfl) ?_
  refine zt_cons (zs_gc (j := 15) (C := "CaseTreeModel") (T := zT_M) (N := 30) (by decide) rfl rfl (by decide) (fun w h => List.mem_cons_of_mem _ (zu_M w h)) ⟨rfl, rfl, rfl⟩ (List.mem_cons_of_mem _ zf_M_40) rfl (fun _ => rfl) (by decide +kernel)) ?_
  refine zt_cons (zs_iload (by decide +kernel)) ?_
  refine zt_cons (zs_iconst (n := 0) (by decide +kernel) (by decide)) ?_
  refine zt_cons (zs_ias (by decide +kernel)) ?_
  refine zt_cons (zs_iinc (n := 1) (by decide +kernel) (by decide) (by decide)) ?_
  refine zt_cons (zs_goto (off := -17) (by decide +kernel) (by decide)) ?_
  refine zt_cons (zs_aload_n (k := 0) (by decide +kernel) rfl) ?_
  refine zt_cons (zs_iconst (n := 0) (by decide +kernel) (by decide)) ?_
  refine zt_cons (zs_pi (C := "CaseTreeModel") (T := zT_M) (N := 30) (by decide) rfl rfl (by decide) (fun w h => List.mem_cons_of_mem _ (zu_M w h)) zy_M_ok zn_M ⟨rfl, rfl, rfl, rfl⟩ (by decide +kernel) (List.mem_cons_of_mem _ zf_M_92) rfl (by decide +kernel)) ?_
  refine zt_cons (zs_aload_n (k := 0) (by decide +kernel) rfl) ?_
  refine zt_cons (zs_aload_n (k := 0) (by decide +kernel) rfl) ?_
  refine zt_cons (zs_iload_n (k := 1) (by decide +kernel) rfl) ?_
  refine zt_cons (zs_iload (by decide +kernel)) ?_
  refine zt_cons (zs_cv (n := 2) (x := 95) (C := "CaseTreeModel") (T := zT_M) (N := 30) zI_86 rfl rfl (by decide) rfl zl_M_95 zim_M_weightOf zsel_M_weightOf zl_ini_M zc_M_weightOf (by decide +kernel) (by decide) (by decide) (by decide +kernel)) ?_
  refine zt_cons (zs_pi (C := "CaseTreeModel") (T := zT_M) (N := 30) (by decide) rfl rfl (by decide) (fun w h => List.mem_cons_of_mem _ (zu_M w h)) zy_M_ok zn_M ⟨rfl, rfl, rfl, rfl⟩ (by decide +kernel) (List.mem_cons_of_mem _ zf_M_99) rfl (by decide +kernel)) ?_
  refine zt_cons (zs_iconst (n := 0) (by decide +kernel) (by decide)) ?_
  refine zt_cons (zs_istore (by decide +kernel) (by decide)) ?_
  refine zt_cons (zs_iload (by decide +kernel)) ?_
  refine zt_cons (zs_iload (by decide +kernel)) ?_
  refine zt_cons (zs_cge (off := 96) (by decide +kernel) (by decide)) ?_
  refine zt_cons (zs_aload_n (k := 0) (by decide +kernel) rfl) ?_
  refine zt_cons (zs_gc (j := 4) (C := "CaseTreeModel") (T := zT_M) (N := 30) (by decide) rfl rfl (by decide) (fun w h => List.mem_cons_of_mem _ (zu_M w h)) ⟨rfl, rfl, rfl⟩ (List.mem_cons_of_mem _ zf_M_16) rfl (fun _ => rfl) (by decide +kernel)) ?_
  refine zt_cons (zs_iconst (n := 4) (by decide +kernel) (by decide)) ?_
  refine zt_cons (zs_iload (by decide +kernel)) ?_
  refine zt_cons (zs_imul (by decide +kernel)) ?_
  refine zt_cons (zs_iload_n (k := 2) (by decide +kernel) rfl) ?_
  refine zt_cons (zs_iadd (by decide +kernel)) ?_
  refine zt_cons (zs_ia (by decide +kernel)) ?_
  refine zt_cons (zs_istore (by decide +kernel) (by decide)) ?_
  refine zt_cons (zs_aload_n (k := 0) (by decide +kernel) rfl) ?_
  refine zt_cons (zs_gc (j := 14) (C := "CaseTreeModel") (T := zT_M) (N := 30) (by decide) rfl rfl (by decide) (fun w h => List.mem_cons_of_mem _ (zu_M w h)) ⟨rfl, rfl, rfl⟩ (List.mem_cons_of_mem _ zf_M_37) rfl (fun _ => rfl) (by decide +kernel)) ?_
  refine zt_cons (zs_bipush (n := 24) (by decide +kernel) (by decide)) ?_
  refine zt_cons (zs_iload_n (k := 1) (by decide +kernel) rfl) ?_
  refine zt_cons (zs_imul (by decide +kernel)) ?_
  refine zt_cons (zs_iload (by decide +kernel)) ?_
  refine zt_cons (zs_iadd (by decide +kernel)) ?_
  refine zt_cons (zs_ia (by decide +kernel)) ?_
  refine zt_cons (zs_istore (by decide +kernel) (by decide)) ?_
  refine zt_cons (zs_iload (by decide +kernel)) ?_
  refine zt_cons (zs_iflt (off := 58) (by decide +kernel) (by decide)) ?_
  refine zt_cons (zs_aload_n (k := 0) (by decide +kernel) rfl) ?_
  refine zt_cons (zs_iload_n (k := 2) (by decide +kernel) rfl) ?_
  refine zt_cons (zs_iload_n (k := 3) (by decide +kernel) rfl) ?_
  refine zt_cons (zs_iload (by decide +kernel)) ?_
  refine zt_cons (zs_cv (n := 3) (x := 102) (C := "CaseTreeModel") (T := zT_M) (N := 30) zI_89 rfl rfl (by decide) rfl zl_M_102 zim_M_branch zsel_M_branch zl_ini_M zc_M_branch (by decide +kernel) (by decide) (by decide) (by decide +kernel)) ?_
  refine zt_cons (zs_istore (by decide +kernel) (by decide)) ?_
  refine zt_cons (zs_aload_n (k := 0) (by decide +kernel) rfl) ?_
  refine zt_cons (zs_gc (j := 15) (C := "CaseTreeModel") (T := zT_M) (N := 30) (by decide) rfl rfl (by decide) (fun w h => List.mem_cons_of_mem _ (zu_M w h)) ⟨rfl, rfl, rfl⟩ (List.mem_cons_of_mem _ zf_M_40) rfl (fun _ => rfl) (by decide +kernel)) ?_
  refine zt_cons (zs_iload (by decide +kernel)) ?_
  refine zt_cons (zs_dup2 (by decide +kernel)) ?_
  refine zt_cons (zs_ia (by decide +kernel)) ?_
  refine zt_cons (zs_iload (by decide +kernel)) ?_
  refine zt_cons (zs_iadd (by decide +kernel)) ?_
  refine zt_cons (zs_ias (by decide +kernel)) ?_
  refine zt_cons (zs_aload_n (k := 0) (by decide +kernel) rfl) ?_
  refine zt_cons (zs_gc (j := 16) (C := "CaseTreeModel") (T := zT_M) (N := 30) (by decide) rfl rfl (by decide) (fun w h => List.mem_cons_of_mem _ (zu_M w h)) ⟨rfl, rfl, rfl⟩ (List.mem_cons_of_mem _ zf_M_43) rfl (fun _ => rfl) (by decide +kernel)) ?_
  refine zt_cons (zs_iconst (n := 3) (by decide +kernel) (by decide)) ?_
  refine zt_cons (zs_iload (by decide +kernel)) ?_
  refine zt_cons (zs_imul (by decide +kernel)) ?_
  refine zt_cons (zs_aload_n (k := 0) (by decide +kernel) rfl) ?_
  refine zt_cons (zs_gc (j := 3) (C := "CaseTreeModel") (T := zT_M) (N := 30) (by decide) rfl rfl (by decide) (fun w h => List.mem_cons_of_mem _ (zu_M w h)) ⟨rfl, rfl, rfl⟩ (List.mem_cons_of_mem _ zf_M_13) rfl (fun _ => rfl) (by decide +kernel)) ?_
  refine zt_cons (zs_iload (by decide +kernel)) ?_
  refine zt_cons (zs_ia (by decide +kernel)) ?_
  refine zt_cons (zs_iadd (by decide +kernel)) ?_
  refine zt_cons (zs_dup2 (by decide +kernel)) ?_
  refine zt_cons (zs_ia (by decide +kernel)) ?_
  refine zt_cons (zs_iload (by decide +kernel)) ?_
  refine zt_cons (zs_iadd (by decide +kernel)) ?_
  refine zt_cons (zs_ias (by decide +kernel)) ?_
  refine zt_cons (zs_aload_n (k := 0) (by decide +kernel) rfl) ?_
  refine zt_cons (zs_dup (by decide +kernel)) ?_
  refine zt_cons (zs_gi (C := "CaseTreeModel") (T := zT_M) (N := 30) (by decide) rfl rfl (by decide) (fun w h => List.mem_cons_of_mem _ (zu_M w h)) ⟨rfl, rfl, rfl⟩ (List.mem_cons_of_mem _ zf_M_92) rfl (by decide +kernel)) ?_
  refine zt_cons (zs_iload (by decide +kernel)) ?_
  refine zt_cons (zs_iadd (by decide +kernel)) ?_
  refine zt_cons (zs_pi (C := "CaseTreeModel") (T := zT_M) (N := 30) (by decide) rfl rfl (by decide) (fun w h => List.mem_cons_of_mem _ (zu_M w h)) zy_M_ok zn_M ⟨rfl, rfl, rfl, rfl⟩ (by decide +kernel) (List.mem_cons_of_mem _ zf_M_92) rfl (by decide +kernel)) ?_
  refine zt_cons (zs_iinc (n := 1) (by decide +kernel) (by decide) (by decide)) ?_
  refine zt_cons (zs_goto (off := -97) (by decide +kernel) (by decide)) ?_
  refine zt_cons (zs_iconst (n := 0) (by decide +kernel) (by decide)) ?_
  refine zt_cons (zs_istore (by decide +kernel) (by decide)) ?_
  refine zt_cons (zs_aload_n (k := 0) (by decide +kernel) rfl) ?_
  refine zt_cons (zs_aload_n (k := 0) (by decide +kernel) rfl) ?_
  refine zt_cons (zs_gc (j := 15) (C := "CaseTreeModel") (T := zT_M) (N := 30) (by decide) rfl rfl (by decide) (fun w h => List.mem_cons_of_mem _ (zu_M w h)) ⟨rfl, rfl, rfl⟩ (List.mem_cons_of_mem _ zf_M_40) rfl (fun _ => rfl) (by decide +kernel)) ?_
  refine zt_cons (zs_iconst (n := 0) (by decide +kernel) (by decide)) ?_
  refine zt_cons (zs_ia (by decide +kernel)) ?_
  refine zt_cons (zs_aload_n (k := 0) (by decide +kernel) rfl) ?_
  refine zt_cons (zs_gc (j := 15) (C := "CaseTreeModel") (T := zT_M) (N := 30) (by decide) rfl rfl (by decide) (fun w h => List.mem_cons_of_mem _ (zu_M w h)) ⟨rfl, rfl, rfl⟩ (List.mem_cons_of_mem _ zf_M_40) rfl (fun _ => rfl) (by decide +kernel)) ?_
  refine zt_cons (zs_iconst (n := 1) (by decide +kernel) (by decide)) ?_
  refine zt_cons (zs_ia (by decide +kernel)) ?_
  refine zt_cons (zs_aload_n (k := 0) (by decide +kernel) rfl) ?_
  refine zt_cons (zs_gc (j := 15) (C := "CaseTreeModel") (T := zT_M) (N := 30) (by decide) rfl rfl (by decide) (fun w h => List.mem_cons_of_mem _ (zu_M w h)) ⟨rfl, rfl, rfl⟩ (List.mem_cons_of_mem _ zf_M_40) rfl (fun _ => rfl) (by decide +kernel)) ?_
  refine zt_cons (zs_iconst (n := 2) (by decide +kernel) (by decide)) ?_
  refine zt_cons (zs_ia (by decide +kernel)) ?_
  refine zt_cons (zs_aload_n (k := 0) (by decide +kernel) rfl) ?_
  refine zt_cons (zs_gc (j := 15) (C := "CaseTreeModel") (T := zT_M) (N := 30) (by decide) rfl rfl (by decide) (fun w h => List.mem_cons_of_mem _ (zu_M w h)) ⟨rfl, rfl, rfl⟩ (List.mem_cons_of_mem _ zf_M_40) rfl (fun _ => rfl) (by decide +kernel)) ?_
  refine zt_cons (zs_iconst (n := 3) (by decide +kernel) (by decide)) ?_
  refine zt_cons (zs_ia (by decide +kernel)) ?_
  refine zt_cons (zs_aload_n (k := 0) (by decide +kernel) rfl) ?_
  refine zt_cons (zs_gi (C := "CaseTreeModel") (T := zT_M) (N := 30) (by decide) rfl rfl (by decide) (fun w h => List.mem_cons_of_mem _ (zu_M w h)) ⟨rfl, rfl, rfl⟩ (List.mem_cons_of_mem _ zf_M_99) rfl (by decide +kernel)) ?_
  refine zt_cons (zs_aload_n (k := 0) (by decide +kernel) rfl) ?_
  refine zt_cons (zs_gi (C := "CaseTreeModel") (T := zT_M) (N := 30) (by decide) rfl rfl (by decide) (fun w h => List.mem_cons_of_mem _ (zu_M w h)) ⟨rfl, rfl, rfl⟩ (List.mem_cons_of_mem _ zf_M_92) rfl (by decide +kernel)) ?_
  refine zt_cons (zs_isub (by decide +kernel)) ?_
  refine zt_cons (zs_cs (x := 105) zI_79 rfl rfl zl_M_105 zs_static_M_information zl_ini_M zc_M_information (by decide +kernel) (by decide) (by decide) (by decide +kernel)) ?_
  refine zt_cons (zs_pl (C := "CaseTreeModel") (T := zT_M) (N := 30) (by decide) rfl rfl (by decide) (fun w h => List.mem_cons_of_mem _ (zu_M w h)) zy_M_ok zn_M ⟨rfl, rfl, rfl, rfl⟩ (by decide +kernel) (List.mem_cons_of_mem _ zf_M_109) rfl (by decide +kernel)) ?_
  refine zt_cons (zs_aload_n (k := 0) (by decide +kernel) rfl) ?_
  refine zt_cons (zs_aload_n (k := 0) (by decide +kernel) rfl) ?_
  refine zt_cons (zs_gc (j := 16) (C := "CaseTreeModel") (T := zT_M) (N := 30) (by decide) rfl rfl (by decide) (fun w h => List.mem_cons_of_mem _ (zu_M w h)) ⟨rfl, rfl, rfl⟩ (List.mem_cons_of_mem _ zf_M_43) rfl (fun _ => rfl) (by decide +kernel)) ?_
  refine zt_cons (zs_iconst (n := 0) (by decide +kernel) (by decide)) ?_
  refine zt_cons (zs_ia (by decide +kernel)) ?_
  refine zt_cons (zs_aload_n (k := 0) (by decide +kernel) rfl) ?_
  refine zt_cons (zs_gc (j := 16) (C := "CaseTreeModel") (T := zT_M) (N := 30) (by decide) rfl rfl (by decide) (fun w h => List.mem_cons_of_mem _ (zu_M w h)) ⟨rfl, rfl, rfl⟩ (List.mem_cons_of_mem _ zf_M_43) rfl (fun _ => rfl) (by decide +kernel)) ?_
  refine zt_cons (zs_iconst (n := 3) (by decide +kernel) (by decide)) ?_
  refine zt_cons (zs_ia (by decide +kernel)) ?_
  refine zt_cons (zs_iadd (by decide +kernel)) ?_
  refine zt_cons (zs_aload_n (k := 0) (by decide +kernel) rfl) ?_
  refine zt_cons (zs_gc (j := 16) (C := "CaseTreeModel") (T := zT_M) (N := 30) (by decide) rfl rfl (by decide) (fun w h => List.mem_cons_of_mem _ (zu_M w h)) ⟨rfl, rfl, rfl⟩ (List.mem_cons_of_mem _ zf_M_43) rfl (fun _ => rfl) (by decide +kernel)) ?_
  refine zt_cons (zs_bipush (n := 6) (by decide +kernel) (by decide)) ?_
  refine zt_cons (zs_ia (by decide +kernel)) ?_
  refine zt_cons (zs_iadd (by decide +kernel)) ?_
  refine zt_cons (zs_aload_n (k := 0) (by decide +kernel) rfl) ?_
  refine zt_cons (zs_gc (j := 16) (C := "CaseTreeModel") (T := zT_M) (N := 30) (by decide) rfl rfl (by decide) (fun w h => List.mem_cons_of_mem _ (zu_M w h)) ⟨rfl, rfl, rfl⟩ (List.mem_cons_of_mem _ zf_M_43) rfl (fun _ => rfl) (by decide +kernel)) ?_
  refine zt_cons (zs_bipush (n := 9) (by decide +kernel) (by decide)) ?_
  refine zt_cons (zs_ia (by decide +kernel)) ?_
  refine zt_cons (zs_iadd (by decide +kernel)) ?_
  refine zt_cons (zs_aload_n (k := 0) (by decide +kernel) rfl) ?_
  refine zt_cons (zs_gc (j := 16) (C := "CaseTreeModel") (T := zT_M) (N := 30) (by decide) rfl rfl (by decide) (fun w h => List.mem_cons_of_mem _ (zu_M w h)) ⟨rfl, rfl, rfl⟩ (List.mem_cons_of_mem _ zf_M_43) rfl (fun _ => rfl) (by decide +kernel)) ?_
  refine zt_cons (zs_iconst (n := 1) (by decide +kernel) (by decide)) ?_
  refine zt_cons (zs_ia (by decide +kernel)) ?_
  refine zt_cons (zs_aload_n (k := 0) (by decide +kernel) rfl) ?_
  refine zt_cons (zs_gc (j := 16) (C := "CaseTreeModel") (T := zT_M) (N := 30) (by decide) rfl rfl (by decide) (fun w h => List.mem_cons_of_mem _ (zu_M w h)) ⟨rfl, rfl, rfl⟩ (List.mem_cons_of_mem _ zf_M_43) rfl (fun _ => rfl) (by decide +kernel)) ?_
  refine zt_cons (zs_iconst (n := 4) (by decide +kernel) (by decide)) ?_
  refine zt_cons (zs_ia (by decide +kernel)) ?_
  refine zt_cons (zs_iadd (by decide +kernel)) ?_
  refine zt_cons (zs_aload_n (k := 0) (by decide +kernel) rfl) ?_
  refine zt_cons (zs_gc (j := 16) (C := "CaseTreeModel") (T := zT_M) (N := 30) (by decide) rfl rfl (by decide) (fun w h => List.mem_cons_of_mem _ (zu_M w h)) ⟨rfl, rfl, rfl⟩ (List.mem_cons_of_mem _ zf_M_43) rfl (fun _ => rfl) (by decide +kernel)) ?_
  refine zt_cons (zs_bipush (n := 7) (by decide +kernel) (by decide)) ?_
  refine zt_cons (zs_ia (by decide +kernel)) ?_
  refine zt_cons (zs_iadd (by decide +kernel)) ?_
  refine zt_cons (zs_aload_n (k := 0) (by decide +kernel) rfl) ?_
  refine zt_cons (zs_gc (j := 16) (C := "CaseTreeModel") (T := zT_M) (N := 30) (by decide) rfl rfl (by decide) (fun w h => List.mem_cons_of_mem _ (zu_M w h)) ⟨rfl, rfl, rfl⟩ (List.mem_cons_of_mem _ zf_M_43) rfl (fun _ => rfl) (by decide +kernel)) ?_
  refine zt_cons (zs_bipush (n := 10) (by decide +kernel) (by decide)) ?_
  refine zt_cons (zs_ia (by decide +kernel)) ?_
  refine zt_cons (zs_iadd (by decide +kernel)) ?_
  refine zt_cons (zs_aload_n (k := 0) (by decide +kernel) rfl) ?_
  refine zt_cons (zs_gc (j := 16) (C := "CaseTreeModel") (T := zT_M) (N := 30) (by decide) rfl rfl (by decide) (fun w h => List.mem_cons_of_mem _ (zu_M w h)) ⟨rfl, rfl, rfl⟩ (List.mem_cons_of_mem _ zf_M_43) rfl (fun _ => rfl) (by decide +kernel)) ?_
  refine zt_cons (zs_iconst (n := 2) (by decide +kernel) (by decide)) ?_
  refine zt_cons (zs_ia (by decide +kernel)) ?_
  refine zt_cons (zs_aload_n (k := 0) (by decide +kernel) rfl) ?_
  refine zt_cons (zs_gc (j := 16) (C := "CaseTreeModel") (T := zT_M) (N := 30) (by decide) rfl rfl (by decide) (fun w h => List.mem_cons_of_mem _ (zu_M w h)) ⟨rfl, rfl, rfl⟩ (List.mem_cons_of_mem _ zf_M_43) rfl (fun _ => rfl) (by decide +kernel)) ?_
  refine zt_cons (zs_iconst (n := 5) (by decide +kernel) (by decide)) ?_
  refine zt_cons (zs_ia (by decide +kernel)) ?_
  refine zt_cons (zs_iadd (by decide +kernel)) ?_
  refine zt_cons (zs_aload_n (k := 0) (by decide +kernel) rfl) ?_
  refine zt_cons (zs_gc (j := 16) (C := "CaseTreeModel") (T := zT_M) (N := 30) (by decide) rfl rfl (by decide) (fun w h => List.mem_cons_of_mem _ (zu_M w h)) ⟨rfl, rfl, rfl⟩ (List.mem_cons_of_mem _ zf_M_43) rfl (fun _ => rfl) (by decide +kernel)) ?_
  refine zt_cons (zs_bipush (n := 8) (by decide +kernel) (by decide)) ?_
  refine zt_cons (zs_ia (by decide +kernel)) ?_
  refine zt_cons (zs_iadd (by decide +kernel)) ?_
  refine zt_cons (zs_aload_n (k := 0) (by decide +kernel) rfl) ?_
  refine zt_cons (zs_gc (j := 16) (C := "CaseTreeModel") (T := zT_M) (N := 30) (by decide) rfl rfl (by decide) (fun w h => List.mem_cons_of_mem _ (zu_M w h)) ⟨rfl, rfl, rfl⟩ (List.mem_cons_of_mem _ zf_M_43) rfl (fun _ => rfl) (by decide +kernel)) ?_
  refine zt_cons (zs_bipush (n := 11) (by decide +kernel) (by decide)) ?_
  refine zt_cons (zs_ia (by decide +kernel)) ?_
  refine zt_cons (zs_iadd (by decide +kernel)) ?_
  refine zt_cons (zs_iconst (n := 0) (by decide +kernel) (by decide)) ?_
  refine zt_cons (zs_iconst (n := 0) (by decide +kernel) (by decide)) ?_
  refine zt_cons (zs_cs (x := 105) zI_79 rfl rfl zl_M_105 zs_static_M_information zl_ini_M zc_M_information (by decide +kernel) (by decide) (by decide) (by decide +kernel)) ?_
  refine zt_cons (zs_pl (C := "CaseTreeModel") (T := zT_M) (N := 30) (by decide) rfl rfl (by decide) (fun w h => List.mem_cons_of_mem _ (zu_M w h)) zy_M_ok zn_M ⟨rfl, rfl, rfl, rfl⟩ (by decide +kernel) (List.mem_cons_of_mem _ zf_M_113) rfl (by decide +kernel)) ?_
  refine zt_cons (zs_iconst (n := 0) (by decide +kernel) (by decide)) ?_
  refine zt_cons (zs_istore (by decide +kernel) (by decide)) ?_
  refine zt_cons (zs_iload (by decide +kernel)) ?_
  refine zt_cons (zs_iconst (n := 4) (by decide +kernel) (by decide)) ?_
  refine zt_cons (zs_cge (off := 81) (by decide +kernel) (by decide)) ?_
  refine zt_cons (zs_aload_n (k := 0) (by decide +kernel) rfl) ?_
  refine zt_cons (zs_dup (by decide +kernel)) ?_
  refine zt_cons (zs_gl (C := "CaseTreeModel") (T := zT_M) (N := 30) (by decide) rfl rfl (by decide) (fun w h => List.mem_cons_of_mem _ (zu_M w h)) ⟨rfl, rfl, rfl⟩ (List.mem_cons_of_mem _ zf_M_113) rfl (by decide +kernel)) ?_
  refine zt_cons (zs_aload_n (k := 0) (by decide +kernel) rfl) ?_
  refine zt_cons (zs_gc (j := 16) (C := "CaseTreeModel") (T := zT_M) (N := 30) (by decide) rfl rfl (by decide) (fun w h => List.mem_cons_of_mem _ (zu_M w h)) ⟨rfl, rfl, rfl⟩ (List.mem_cons_of_mem _ zf_M_43) rfl (fun _ => rfl) (by decide +kernel)) ?_
  refine zt_cons (zs_iconst (n := 3) (by decide +kernel) (by decide)) ?_
  refine zt_cons (zs_iload (by decide +kernel)) ?_
  refine zt_cons (zs_imul (by decide +kernel)) ?_
  refine zt_cons (zs_ia (by decide +kernel)) ?_
  refine zt_cons (zs_aload_n (k := 0) (by decide +kernel) rfl) ?_
  refine zt_cons (zs_gc (j := 16) (C := "CaseTreeModel") (T := zT_M) (N := 30) (by decide) rfl rfl (by decide) (fun w h => List.mem_cons_of_mem _ (zu_M w h)) ⟨rfl, rfl, rfl⟩ (List.mem_cons_of_mem _ zf_M_43) rfl (fun _ => rfl) (by decide +kernel)) ?_
  refine zt_cons (zs_iconst (n := 3) (by decide +kernel) (by decide)) ?_
  refine zt_cons (zs_iload (by decide +kernel)) ?_
  refine zt_cons (zs_imul (by decide +kernel)) ?_
  refine zt_cons (zs_iconst (n := 1) (by decide +kernel) (by decide)) ?_
  refine zt_cons (zs_iadd (by decide +kernel)) ?_
  refine zt_cons (zs_ia (by decide +kernel)) ?_
  refine zt_cons (zs_aload_n (k := 0) (by decide +kernel) rfl) ?_
  refine zt_cons (zs_gc (j := 16) (C := "CaseTreeModel") (T := zT_M) (N := 30) (by decide) rfl rfl (by decide) (fun w h => List.mem_cons_of_mem _ (zu_M w h)) ⟨rfl, rfl, rfl⟩ (List.mem_cons_of_mem _ zf_M_43) rfl (fun _ => rfl) (by decide +kernel)) ?_
  refine zt_cons (zs_iconst (n := 3) (by decide +kernel) (by decide)) ?_
  refine zt_cons (zs_iload (by decide +kernel)) ?_
  refine zt_cons (zs_imul (by decide +kernel)) ?_
  refine zt_cons (zs_iconst (n := 2) (by decide +kernel) (by decide)) ?_
  refine zt_cons (zs_iadd (by decide +kernel)) ?_
  refine zt_cons (zs_ia (by decide +kernel)) ?_
  refine zt_cons (zs_iconst (n := 0) (by decide +kernel) (by decide)) ?_
  refine zt_cons (zs_iconst (n := 0) (by decide +kernel) (by decide)) ?_
  refine zt_cons (zs_cs (x := 105) zI_79 rfl rfl zl_M_105 zs_static_M_information zl_ini_M zc_M_information (by decide +kernel) (by decide) (by decide) (by decide +kernel)) ?_
  refine zt_cons (zs_lsub (by decide +kernel)) ?_
  refine zt_cons (zs_pl (C := "CaseTreeModel") (T := zT_M) (N := 30) (by decide) rfl rfl (by decide) (fun w h => List.mem_cons_of_mem _ (zu_M w h)) zy_M_ok zn_M ⟨rfl, rfl, rfl, rfl⟩ (by decide +kernel) (List.mem_cons_of_mem _ zf_M_113) rfl (by decide +kernel)) ?_
  refine zt_cons (zs_aload_n (k := 0) (by decide +kernel) rfl) ?_
  refine zt_cons (zs_gc (j := 15) (C := "CaseTreeModel") (T := zT_M) (N := 30) (by decide) rfl rfl (by decide) (fun w h => List.mem_cons_of_mem _ (zu_M w h)) ⟨rfl, rfl, rfl⟩ (List.mem_cons_of_mem _ zf_M_40) rfl (fun _ => rfl) (by decide +kernel)) ?_
  refine zt_cons (zs_iload (by decide +kernel)) ?_
  refine zt_cons (zs_ia (by decide +kernel)) ?_
  refine zt_cons (zs_sipush (n := 720) (by decide +kernel) (by decide)) ?_
  refine zt_cons (zs_iload (by decide +kernel)) ?_
  refine zt_cons (zs_imul (by decide +kernel)) ?_
  refine zt_cons (zs_clt (off := 10) (by decide +kernel) (by decide)) ?_
  refine zt_cons (zs_iload (by decide +kernel)) ?_
  refine zt_cons (zs_iconst (n := 1) (by decide +kernel) (by decide)) ?_
  refine zt_cons (zs_iadd (by decide +kernel)) ?_
  refine zt_cons (zs_goto (off := 5) (by decide +kernel) (by decide)) ?_
  refine zt_cons (zs_iload (by decide +kernel)) ?_
  refine zt_cons (zs_istore (by decide +kernel) (by decide)) ?_
  refine zt_cons (zs_iinc (n := 1) (by decide +kernel) (by decide) (by decide)) ?_
  refine zt_cons (zs_goto (off := -81) (by decide +kernel) (by decide)) ?_
  refine zt_cons (zs_aload_n (k := 0) (by decide +kernel) rfl) ?_
  refine zt_cons (zs_iload (by decide +kernel)) ?_
  refine zt_cons (zs_iconst (n := 2) (by decide +kernel) (by decide)) ?_
  refine zt_cons (zs_clt (off := 7) (by decide +kernel) (by decide)) ?_
  refine zt_cons (zs_iconst (n := 1) (by decide +kernel) (by decide)) ?_
  refine zt_cons (zs_goto (off := 4) (by decide +kernel) (by decide)) ?_
  refine zt_cons (zs_iconst (n := 0) (by decide +kernel) (by decide)) ?_
  refine zt_cons (zs_pz (C := "CaseTreeModel") (T := zT_M) (N := 30) (by decide) rfl rfl (by decide) (fun w h => List.mem_cons_of_mem _ (zu_M w h)) zy_M_ok zn_M ⟨rfl, rfl, rfl, rfl⟩ (by decide +kernel) (List.mem_cons_of_mem _ zf_M_116) rfl (by decide +kernel)) ?_
  refine zt_cons (zs_vr rfl (by decide +kernel)) ?_
  exact zt_nil
set_option maxRecDepth 20000 in
set_option maxHeartbeats 4000000 in
theorem zok_M_nextValue {Ex : ze_G → State → Prop} : ∀ pc, ze_snd zI Ex zi_M_nextValue pc (ze_lk t_M_nextValue pc) := by
  refine zt_cons (zs_iconst (n := (-1)) (by decide +kernel) (by decide)) ?_
  refine zt_cons (zs_istore (by decide +kernel) (by decide)) ?_
  refine zt_cons (zs_iconst (n := 0) (by decide +kernel) (by decide)) ?_
  refine zt_cons (zs_istore (by decide +kernel) (by decide)) ?_
  refine zt_cons (zs_iload (by decide +kernel)) ?_
  refine zt_cons (zs_iload (by decide +kernel)) ?_
  refine zt_cons (zs_cge (off := 59) (by decide +kernel) (by decide)) ?_
  refine zt_cons (zs_aload_n (k := 0) (by decide +kernel) rfl) ?_
  refine zt_cons (zs_gc (j := 4) (C := "CaseTreeModel") (T := zT_M) (N := 30) (by decide) rfl rfl (by decide) (fun w h => List.mem_cons_of_mem _ (zu_M w h)) ⟨rfl, rfl, rfl⟩ (List.mem_cons_of_mem _ zf_M_16) rfl (fun _ => rfl) (by decide +kernel)) ?_
  refine zt_cons (zs_iconst (n := 4) (by decide +kernel) (by decide)) ?_
  refine zt_cons (zs_iload (by decide +kernel)) ?_
  refine zt_cons (zs_imul (by decide +kernel)) ?_
  refine zt_cons (zs_iload_n (k := 2) (by decide +kernel) rfl) ?_
  refine zt_cons (zs_iadd (by decide +kernel)) ?_
  refine zt_cons (zs_ia (by decide +kernel)) ?_
  refine zt_cons (zs_istore (by decide +kernel) (by decide)) ?_
  refine zt_cons (zs_aload_n (k := 0) (by decide +kernel) rfl) ?_
  refine zt_cons (zs_gc (j := 14) (C := "CaseTreeModel") (T := zT_M) (N := 30) (by decide) rfl rfl (by decide) (fun w h => List.mem_cons_of_mem _ (zu_M w h)) ⟨rfl, rfl, rfl⟩ (List.mem_cons_of_mem _ zf_M_37) rfl (fun _ => rfl) (by decide +kernel)) ?_
  refine zt_cons (zs_bipush (n := 24) (by decide +kernel) (by decide)) ?_
  refine zt_cons (zs_iload_n (k := 1) (by decide +kernel) rfl) ?_
  refine zt_cons (zs_imul (by decide +kernel)) ?_
  refine zt_cons (zs_iload (by decide +kernel)) ?_
  refine zt_cons (zs_iadd (by decide +kernel)) ?_
  refine zt_cons (zs_ia (by decide +kernel)) ?_
  refine zt_cons (zs_ifle (off := 25) (by decide +kernel) (by decide)) ?_
  refine zt_cons (zs_iload (by decide +kernel)) ?_
  refine zt_cons (zs_iload_n (k := 3) (by decide +kernel) rfl) ?_
  refine zt_cons (zs_cle (off := 19) (by decide +kernel) (by decide)) ?_
  refine zt_cons (zs_iload (by decide +kernel)) ?_
  refine zt_cons (zs_iflt (off := 10) (by decide +kernel) (by decide)) ?_
  refine zt_cons (zs_iload (by decide +kernel)) ?_
  refine zt_cons (zs_iload (by decide +kernel)) ?_
  refine zt_cons (zs_cge (off := 7) (by decide +kernel) (by decide)) ?_
  refine zt_cons (zs_iload (by decide +kernel)) ?_
  refine zt_cons (zs_istore (by decide +kernel) (by decide)) ?_
  refine zt_cons (zs_iinc (n := 1) (by decide +kernel) (by decide) (by decide)) ?_
  refine zt_cons (zs_goto (off := -60) (by decide +kernel) (by decide)) ?_
  refine zt_cons (zs_iload (by decide +kernel)) ?_
  refine zt_cons (zs_ir rfl (by decide +kernel)) ?_
  exact zt_nil
set_option maxRecDepth 20000 in
set_option maxHeartbeats 4000000 in
theorem zok_M_valueUpTo {Ex : ze_G → State → Prop} : ∀ pc, ze_snd zI Ex zi_M_valueUpTo pc (ze_lk t_M_valueUpTo pc) := by
  refine zt_cons (zs_iconst (n := (-1)) (by decide +kernel) (by decide)) ?_
  refine zt_cons (zs_istore (by decide +kernel) (by decide)) ?_
  refine zt_cons (zs_iconst (n := 0) (by decide +kernel) (by decide)) ?_
  refine zt_cons (zs_istore (by decide +kernel) (by decide)) ?_
  refine zt_cons (zs_iload (by decide +kernel)) ?_
  refine zt_cons (zs_iload_n (k := 3) (by decide +kernel) rfl) ?_
  refine zt_cons (zs_cge (off := 44) (by decide +kernel) (by decide)) ?_
  refine zt_cons (zs_aload_n (k := 0) (by decide +kernel) rfl) ?_
  refine zt_cons (zs_gc (j := 4) (C := "CaseTreeModel") (T := zT_M) (N := 30) (by decide) rfl rfl (by decide) (fun w h => List.mem_cons_of_mem _ (zu_M w h)) ⟨rfl, rfl, rfl⟩ (List.mem_cons_of_mem _ zf_M_16) rfl (fun _ => rfl) (by decide +kernel)) ?_
  refine zt_cons (zs_iconst (n := 4) (by decide +kernel) (by decide)) ?_
  refine zt_cons (zs_iload (by decide +kernel)) ?_
  refine zt_cons (zs_imul (by decide +kernel)) ?_
  refine zt_cons (zs_iload_n (k := 1) (by decide +kernel) rfl) ?_
  refine zt_cons (zs_iadd (by decide +kernel)) ?_
  refine zt_cons (zs_ia (by decide +kernel)) ?_
  refine zt_cons (zs_istore (by decide +kernel) (by decide)) ?_
  refine zt_cons (zs_iload (by decide +kernel)) ?_
  refine zt_cons (zs_iload_n (k := 2) (by decide +kernel) rfl) ?_
  refine zt_cons (zs_cgt (off := 15) (by decide +kernel) (by decide)) ?_
  refine zt_cons (zs_iload (by decide +kernel)) ?_
  refine zt_cons (zs_iload (by decide +kernel)) ?_
  refine zt_cons (zs_cle (off := 8) (by decide +kernel) (by decide)) ?_
  refine zt_cons (zs_iload (by decide +kernel)) ?_
  refine zt_cons (zs_goto (off := 5) (by decide +kernel) (by decide)) ?_
  refine zt_cons (zs_iload (by decide +kernel)) ?_
  refine zt_cons (zs_istore (by decide +kernel) (by decide)) ?_
  refine zt_cons (zs_iinc (n := 1) (by decide +kernel) (by decide) (by decide)) ?_
  refine zt_cons (zs_goto (off := -44) (by decide +kernel) (by decide)) ?_
  refine zt_cons (zs_iload (by decide +kernel)) ?_
  refine zt_cons (zs_ir rfl (by decide +kernel)) ?_
  exact zt_nil
set_option maxRecDepth 20000 in
set_option maxHeartbeats 4000000 in
theorem zok_M_measureCuts {Ex : ze_G → State → Prop} : ∀ pc, ze_snd zI Ex zi_M_measureCuts pc (ze_lk t_M_measureCuts pc) := by
  refine zt_cons (zs_iconst (n := 0) (by decide +kernel) (by decide)) ?_
  refine zt_cons (zs_istore (by decide +kernel) (by decide)) ?_
  refine zt_cons (zs_lconst (n := 0) (by decide +kernel) (by decide)) ?_
  refine zt_cons (zs_lstore (by decide +kernel) (by decide)) ?_
  refine zt_cons (zs_aload_n (k := 0) (by decide +kernel) rfl) ?_
  refine zt_cons (zs_iload_n (k := 1) (by decide +kernel) rfl) ?_
  refine zt_cons (zs_iload_n (k := 2) (by decide +kernel) rfl) ?_
  refine zt_cons (zs_iconst (n := (-1)) (by decide +kernel) (by decide)) ?_
  refine zt_cons (zs_iload_n (k := 3) (by decide +kernel) rfl) ?_
  refine zt_cons (zs_cv (n := 4) (x := 120) (C := "CaseTreeModel") (T := zT_M) (N := 30) zI_91 rfl rfl (by decide) rfl zl_M_120 zim_M_nextValue zsel_M_nextValue zl_ini_M zc_M_nextValue (by decide +kernel) (by decide) (by decide) (by decide +kernel)) ?_
  refine zt_cons (zs_istore (by decide +kernel) (by decide)) ?_
  refine zt_cons (zs_iconst (n := 0) (by decide +kernel) (by decide)) ?_
  refine zt_cons (zs_istore (by decide +kernel) (by decide)) ?_
  refine zt_cons (zs_iload (by decide +kernel)) ?_
  refine zt_cons (zs_bipush (n := 24) (by decide +kernel) (by decide)) ?_
  refine zt_cons (zs_cge (off := 112) (by decide +kernel) (by decide)) ?_
  refine zt_cons (zs_iload (by decide +kernel)) ?_
  refine zt_cons (zs_iflt (off := 107) (by decide +kernel) (by decide)) ?_
  refine zt_cons (zs_aload_n (k := 0) (by decide +kernel) rfl) ?_
  refine zt_cons (zs_iload_n (k := 1) (by decide +kernel) rfl) ?_
  refine zt_cons (zs_iload_n (k := 2) (by decide +kernel) rfl) ?_
  refine zt_cons (zs_iload (by decide +kernel)) ?_
  refine zt_cons (zs_iload_n (k := 3) (by decide +kernel) rfl) ?_
  refine zt_cons (zs_cv (n := 4) (x := 120) (C := "CaseTreeModel") (T := zT_M) (N := 30) zI_91 rfl rfl (by decide) rfl zl_M_120 zim_M_nextValue zsel_M_nextValue zl_ini_M zc_M_nextValue (by decide +kernel) (by decide) (by decide) (by decide +kernel)) ?_
  refine zt_cons (zs_istore (by decide +kernel) (by decide)) ?_
  refine zt_cons (zs_iload (by decide +kernel)) ?_
  refine zt_cons (zs_iflt (off := 81) (by decide +kernel) (by decide)) ?_
  refine zt_cons (zs_aload_n (k := 0) (by decide +kernel) rfl) ?_
  refine zt_cons (zs_iload_n (k := 2) (by decide +kernel) rfl) ?_
  refine zt_cons (zs_iload (by decide +kernel)) ?_
  refine zt_cons (zs_iload (by decide +kernel)) ?_
  refine zt_cons (zs_iadd (by decide +kernel)) ?_
  refine zt_cons (zs_iconst (n := 2) (by decide +kernel) (by decide)) ?_
  refine zt_cons (zs_idiv (by decide +kernel)) ?_
  refine zt_cons (zs_iload_n (k := 3) (by decide +kernel) rfl) ?_
  refine zt_cons (zs_cv (n := 3) (x := 124) (C := "CaseTreeModel") (T := zT_M) (N := 30) zI_92 rfl rfl (by decide) rfl zl_M_124 zim_M_valueUpTo zsel_M_valueUpTo zl_ini_M zc_M_valueUpTo (by decide +kernel) (by decide) (by decide) (by decide +kernel)) ?_
  refine zt_cons (zs_istore (by decide +kernel) (by decide)) ?_
  refine zt_cons (zs_aload_n (k := 0) (by decide +kernel) rfl) ?_
  refine zt_cons (zs_iload_n (k := 1) (by decide +kernel) rfl) ?_
  refine zt_cons (zs_iload_n (k := 2) (by decide +kernel) rfl) ?_
  refine zt_cons (zs_iload (by decide +kernel)) ?_
  refine zt_cons (zs_iload_n (k := 3) (by decide +kernel) rfl) ?_
  refine zt_cons (zs_iload (by decide +kernel)) ?_
  refine zt_cons (zs_cv (n := 5) (x := 127) (C := "CaseTreeModel") (T := zT_M) (N := 30) zI_90 rfl rfl (by decide) rfl zl_M_127 zim_M_measure zsel_M_measure zl_ini_M zc_M_measure (by decide +kernel) (by decide) (by decide) (by decide +kernel)) ?_
  refine zt_cons (zs_aload_n (k := 0) (by decide +kernel) rfl) ?_
  refine zt_cons (zs_gi (C := "CaseTreeModel") (T := zT_M) (N := 30) (by decide) rfl rfl (by decide) (fun w h => List.mem_cons_of_mem _ (zu_M w h)) ⟨rfl, rfl, rfl⟩ (List.mem_cons_of_mem _ zf_M_116) rfl (by decide +kernel)) ?_
  refine zt_cons (zs_ifeq (off := 30) (by decide +kernel) (by decide)) ?_
  refine zt_cons (zs_iload (by decide +kernel)) ?_
  refine zt_cons (zs_ifeq (off := 13) (by decide +kernel) (by decide)) ?_
  refine zt_cons (zs_aload_n (k := 0) (by decide +kernel) rfl) ?_
  refine zt_cons (zs_gl (C := "CaseTreeModel") (T := zT_M) (N := 30) (by decide) rfl rfl (by decide) (fun w h => List.mem_cons_of_mem _ (zu_M w h)) ⟨rfl, rfl, rfl⟩ (List.mem_cons_of_mem _ zf_M_113) rfl (by decide +kernel)) ?_
  refine zt_cons (zs_lload (by decide +kernel)) ?_
  refine zt_cons (zs_lcmp (by decide +kernel)) ?_
  refine zt_cons (zs_ifle (off := 15) (by decide +kernel) (by decide)) ?_
  refine zt_cons (zs_aload_n (k := 0) (by decide +kernel) rfl) ?_
  refine zt_cons (zs_gl (C := "CaseTreeModel") (T := zT_M) (N := 30) (by decide) rfl rfl (by decide) (fun w h => List.mem_cons_of_mem _ (zu_M w h)) ⟨rfl, rfl, rfl⟩ (List.mem_cons_of_mem _ zf_M_113) rfl (by decide +kernel)) ?_
  refine zt_cons (zs_lstore (by decide +kernel) (by decide)) ?_
  refine zt_cons (zs_aload_n (k := 0) (by decide +kernel) rfl) ?_
  refine zt_cons (zs_iload (by decide +kernel)) ?_
  refine zt_cons (zs_pi (C := "CaseTreeModel") (T := zT_M) (N := 30) (by decide) rfl rfl (by decide) (fun w h => List.mem_cons_of_mem _ (zu_M w h)) zy_M_ok zn_M ⟨rfl, rfl, rfl, rfl⟩ (by decide +kernel) (List.mem_cons_of_mem _ zf_M_131) rfl (by decide +kernel)) ?_
  refine zt_cons (zs_aload_n (k := 0) (by decide +kernel) rfl) ?_
  refine zt_cons (zs_gi (C := "CaseTreeModel") (T := zT_M) (N := 30) (by decide) rfl rfl (by decide) (fun w h => List.mem_cons_of_mem _ (zu_M w h)) ⟨rfl, rfl, rfl⟩ (List.mem_cons_of_mem _ zf_M_116) rfl (by decide +kernel)) ?_
  refine zt_cons (zs_ifeq (off := 10) (by decide +kernel) (by decide)) ?_
  refine zt_cons (zs_iload (by decide +kernel)) ?_
  refine zt_cons (zs_iconst (n := 1) (by decide +kernel) (by decide)) ?_
  refine zt_cons (zs_iadd (by decide +kernel)) ?_
  refine zt_cons (zs_goto (off := 5) (by decide +kernel) (by decide)) ?_
  refine zt_cons (zs_iload (by decide +kernel)) ?_
  refine zt_cons (zs_istore (by decide +kernel) (by decide)) ?_
  refine zt_cons (zs_iload (by decide +kernel)) ?_
  refine zt_cons (zs_istore (by decide +kernel) (by decide)) ?_
  refine zt_cons (zs_iinc (n := 1) (by decide +kernel) (by decide) (by decide)) ?_
  refine zt_cons (zs_goto (off := -113) (by decide +kernel) (by decide)) ?_
  refine zt_cons (zs_iload (by decide +kernel)) ?_
  refine zt_cons (zs_ifne (off := 5) (by decide +kernel) (by decide)) ?_
  refine zt_cons (zs_iconst (n := 0) (by decide +kernel) (by decide)) ?_
  refine zt_cons (zs_zr rfl (by decide +kernel)) ?_
  refine zt_cons (zs_aload_n (k := 0) (by decide +kernel) rfl) ?_
  refine zt_cons (zs_iload_n (k := 1) (by decide +kernel) rfl) ?_
  refine zt_cons (zs_iload_n (k := 2) (by decide +kernel) rfl) ?_
  refine zt_cons (zs_aload_n (k := 0) (by decide +kernel) rfl) ?_
  refine zt_cons (zs_gi (C := "CaseTreeModel") (T := zT_M) (N := 30) (by decide) rfl rfl (by decide) (fun w h => List.mem_cons_of_mem _ (zu_M w h)) ⟨rfl, rfl, rfl⟩ (List.mem_cons_of_mem _ zf_M_131) rfl (by decide +kernel)) ?_
  refine zt_cons (zs_iload_n (k := 3) (by decide +kernel) rfl) ?_
  refine zt_cons (zs_iload (by decide +kernel)) ?_
  refine zt_cons (zs_cv (n := 5) (x := 127) (C := "CaseTreeModel") (T := zT_M) (N := 30) zI_90 rfl rfl (by decide) rfl zl_M_127 zim_M_measure zsel_M_measure zl_ini_M zc_M_measure (by decide +kernel) (by decide) (by decide) (by decide +kernel)) ?_
  refine zt_cons (zs_aload_n (k := 0) (by decide +kernel) rfl) ?_
  refine zt_cons (zs_lload (by decide +kernel)) ?_
  refine zt_cons (zs_ldc2 (List.mem_cons_of_mem _ zk_M_134) (by decide +kernel)) ?_
  refine zt_cons (zs_iload (by decide +kernel)) ?_
  refine zt_cons (zs_cs (x := 65) zI_77 rfl rfl zl_M_65 zs_static_M_logOf zl_ini_M zc_M_logOf (by decide +kernel) (by decide) (by decide) (by decide +kernel)) ?_
  refine zt_cons (zs_i2l (by decide +kernel)) ?_
  refine zt_cons (zs_lmul (by decide +kernel)) ?_
  refine zt_cons (zs_lsub (by decide +kernel)) ?_
  refine zt_cons (zs_pl (C := "CaseTreeModel") (T := zT_M) (N := 30) (by decide) rfl rfl (by decide) (fun w h => List.mem_cons_of_mem _ (zu_M w h)) zy_M_ok zn_M ⟨rfl, rfl, rfl, rfl⟩ (by decide +kernel) (List.mem_cons_of_mem _ zf_M_113) rfl (by decide +kernel)) ?_
  refine zt_cons (zs_iconst (n := 1) (by decide +kernel) (by decide)) ?_
  refine zt_cons (zs_zr rfl (by decide +kernel)) ?_
  exact zt_nil
set_option maxRecDepth 20000 in
set_option maxHeartbeats 4000000 in
theorem zok_M_measureTest {Ex : ze_G → State → Prop} : ∀ pc, ze_snd zI Ex zi_M_measureTest pc (ze_lk t_M_measureTest pc) := by
  refine zt_cons (zs_aload_n (k := 0) (by decide +kernel) rfl) ?_
  refine zt_cons (zs_iconst (n := (-1)) (by decide +kernel) (by decide)) ?_
  refine zt_cons (zs_pi (C := "CaseTreeModel") (T := zT_M) (N := 30) (by decide) rfl rfl (by decide) (fun w h => List.mem_cons_of_mem _ (zu_M w h)) zy_M_ok zn_M ⟨rfl, rfl, rfl, rfl⟩ (by decide +kernel) (List.mem_cons_of_mem _ zf_M_131) rfl (by decide +kernel)) ?_
  refine zt_cons (zs_aload_n (k := 0) (by decide +kernel) rfl) ?_
  refine zt_cons (zs_gc (j := 1) (C := "CaseTreeModel") (T := zT_M) (N := 30) (by decide) rfl rfl (by decide) (fun w h => List.mem_cons_of_mem _ (zu_M w h)) ⟨rfl, rfl, rfl⟩ (List.mem_cons_of_mem _ zf_M_7) rfl (fun _ => rfl) (by decide +kernel)) ?_
  refine zt_cons (zs_iload_n (k := 2) (by decide +kernel) rfl) ?_
  refine zt_cons (zs_ia (by decide +kernel)) ?_
  refine zt_cons (zs_ifne (off := 13) (by decide +kernel) (by decide)) ?_
  refine zt_cons (zs_aload_n (k := 0) (by decide +kernel) rfl) ?_
  refine zt_cons (zs_iload_n (k := 1) (by decide +kernel) rfl) ?_
  refine zt_cons (zs_iload_n (k := 2) (by decide +kernel) rfl) ?_
  refine zt_cons (zs_iload_n (k := 3) (by decide +kernel) rfl) ?_
  refine zt_cons (zs_iload (by decide +kernel)) ?_
  refine zt_cons (zs_cv (n := 4) (x := 136) (C := "CaseTreeModel") (T := zT_M) (N := 30) zI_93 rfl rfl (by decide) rfl zl_M_136 zim_M_measureCuts zsel_M_measureCuts zl_ini_M zc_M_measureCuts (by decide +kernel) (by decide) (by decide) (by decide +kernel)) ?_
  refine zt_cons (zs_zr rfl (by decide +kernel)) ?_
  refine zt_cons (zs_aload_n (k := 0) (by decide +kernel) rfl) ?_
  refine zt_cons (zs_iload_n (k := 1) (by decide +kernel) rfl) ?_
  refine zt_cons (zs_iload_n (k := 2) (by decide +kernel) rfl) ?_
  refine zt_cons (zs_iconst (n := 0) (by decide +kernel) (by decide)) ?_
  refine zt_cons (zs_iload_n (k := 3) (by decide +kernel) rfl) ?_
  refine zt_cons (zs_iload (by decide +kernel)) ?_
  refine zt_cons (zs_cv (n := 5) (x := 127) (C := "CaseTreeModel") (T := zT_M) (N := 30) zI_90 rfl rfl (by decide) rfl zl_M_127 zim_M_measure zsel_M_measure zl_ini_M zc_M_measure (by decide +kernel) (by decide) (by decide) (by decide +kernel)) ?_
  refine zt_cons (zs_aload_n (k := 0) (by decide +kernel) rfl) ?_
  refine zt_cons (zs_gi (C := "CaseTreeModel") (T := zT_M) (N := 30) (by decide) rfl rfl (by decide) (fun w h => List.mem_cons_of_mem _ (zu_M w h)) ⟨rfl, rfl, rfl⟩ (List.mem_cons_of_mem _ zf_M_116) rfl (by decide +kernel)) ?_
  refine zt_cons (zs_zr rfl (by decide +kernel)) ?_
  exact zt_nil
set_option maxRecDepth 20000 in
set_option maxHeartbeats 4000000 in
theorem zok_M_usedAbove {Ex : ze_G → State → Prop} : ∀ pc, ze_snd zI Ex zi_M_usedAbove pc (ze_lk t_M_usedAbove pc) := by
  refine zt_cons (zs_iload_n (k := 1) (by decide +kernel) rfl) ?_
  refine zt_cons (zs_istore_n (k := 3) (by decide +kernel) rfl (by decide)) ?_
  refine zt_cons (zs_iconst (n := 0) (by decide +kernel) (by decide)) ?_
  refine zt_cons (zs_istore (by decide +kernel) (by decide)) ?_
  refine zt_cons (zs_iload (by decide +kernel)) ?_
  refine zt_cons (zs_iconst (n := 4) (by decide +kernel) (by decide)) ?_
  refine zt_cons (zs_cge (off := 41) (by decide +kernel) (by decide)) ?_
  refine zt_cons (zs_iload_n (k := 3) (by decide +kernel) rfl) ?_
  refine zt_cons (zs_ifle (off := 37) (by decide +kernel) (by decide)) ?_
  refine zt_cons (zs_aload_n (k := 0) (by decide +kernel) rfl) ?_
  refine zt_cons (zs_gc (j := 11) (C := "CaseTreeModel") (T := zT_M) (N := 30) (by decide) rfl rfl (by decide) (fun w h => List.mem_cons_of_mem _ (zu_M w h)) ⟨rfl, rfl, rfl⟩ (List.mem_cons_of_mem _ zf_M_28) rfl (fun _ => rfl) (by decide +kernel)) ?_
  refine zt_cons (zs_iload_n (k := 3) (by decide +kernel) rfl) ?_
  refine zt_cons (zs_ia (by decide +kernel)) ?_
  refine zt_cons (zs_istore_n (k := 3) (by decide +kernel) rfl (by decide)) ?_
  refine zt_cons (zs_aload_n (k := 0) (by decide +kernel) rfl) ?_
  refine zt_cons (zs_gc (j := 8) (C := "CaseTreeModel") (T := zT_M) (N := 30) (by decide) rfl rfl (by decide) (fun w h => List.mem_cons_of_mem _ (zu_M w h)) ⟨rfl, rfl, rfl⟩ (List.mem_cons_of_mem _ zf_M_19) rfl (fun _ => rfl) (by decide +kernel)) ?_
  refine zt_cons (zs_iload_n (k := 3) (by decide +kernel) rfl) ?_
  refine zt_cons (zs_ia (by decide +kernel)) ?_
  refine zt_cons (zs_iload_n (k := 2) (by decide +kernel) rfl) ?_
  refine zt_cons (zs_cne (off := 14) (by decide +kernel) (by decide)) ?_
  refine zt_cons (zs_aload_n (k := 0) (by decide +kernel) rfl) ?_
  refine zt_cons (zs_gc (j := 1) (C := "CaseTreeModel") (T := zT_M) (N := 30) (by decide) rfl rfl (by decide) (fun w h => List.mem_cons_of_mem _ (zu_M w h)) ⟨rfl, rfl, rfl⟩ (List.mem_cons_of_mem _ zf_M_7) rfl (fun _ => rfl) (by decide +kernel)) ?_
  refine zt_cons (zs_iload_n (k := 2) (by decide +kernel) rfl) ?_
  refine zt_cons (zs_ia (by decide +kernel)) ?_
  refine zt_cons (zs_ifeq (off := 5) (by decide +kernel) (by decide)) ?_
  refine zt_cons (zs_iconst (n := 1) (by decide +kernel) (by decide)) ?_
  refine zt_cons (zs_zr rfl (by decide +kernel)) ?_
  refine zt_cons (zs_iinc (n := 1) (by decide +kernel) (by decide) (by decide)) ?_
  refine zt_cons (zs_goto (off := -41) (by decide +kernel) (by decide)) ?_
  refine zt_cons (zs_iconst (n := 0) (by decide +kernel) (by decide)) ?_
  refine zt_cons (zs_zr rfl (by decide +kernel)) ?_
  exact zt_nil
set_option maxRecDepth 20000 in
set_option maxHeartbeats 4000000 in
theorem zok_M_useful {Ex : ze_G → State → Prop} : ∀ pc, ze_snd zI Ex zi_M_useful pc (ze_lk t_M_useful pc) := by
  refine zt_cons (zs_aload_n (k := 0) (by decide +kernel) rfl) ?_
  refine zt_cons (zs_iload_n (k := 1) (by decide +kernel) rfl) ?_
  refine zt_cons (zs_iload_n (k := 2) (by decide +kernel) rfl) ?_
  refine zt_cons (zs_cv (n := 2) (x := 139) (C := "CaseTreeModel") (T := zT_M) (N := 30) zI_95 rfl rfl (by decide) rfl zl_M_139 zim_M_usedAbove zsel_M_usedAbove zl_ini_M zc_M_usedAbove (by decide +kernel) (by decide) (by decide) (by decide +kernel)) ?_
  refine zt_cons (zs_ifne (off := 30) (by decide +kernel) (by decide)) ?_
  refine zt_cons (zs_aload_n (k := 0) (by decide +kernel) rfl) ?_
  refine zt_cons (zs_iload_n (k := 1) (by decide +kernel) rfl) ?_
  refine zt_cons (zs_iload_n (k := 2) (by decide +kernel) rfl) ?_
  refine zt_cons (zs_aload_n (k := 0) (by decide +kernel) rfl) ?_
  refine zt_cons (zs_gi (C := "CaseTreeModel") (T := zT_M) (N := 30) (by decide) rfl rfl (by decide) (fun w h => List.mem_cons_of_mem _ (zu_M w h)) ⟨rfl, rfl, rfl⟩ (List.mem_cons_of_mem _ zf_M_142) rfl (by decide +kernel)) ?_
  refine zt_cons (zs_iload_n (k := 3) (by decide +kernel) rfl) ?_
  refine zt_cons (zs_cv (n := 4) (x := 145) (C := "CaseTreeModel") (T := zT_M) (N := 30) zI_94 rfl rfl (by decide) rfl zl_M_145 zim_M_measureTest zsel_M_measureTest zl_ini_M zc_M_measureTest (by decide +kernel) (by decide) (by decide) (by decide +kernel)) ?_
  refine zt_cons (zs_ifeq (off := 16) (by decide +kernel) (by decide)) ?_
  refine zt_cons (zs_aload_n (k := 0) (by decide +kernel) rfl) ?_
  refine zt_cons (zs_gl (C := "CaseTreeModel") (T := zT_M) (N := 30) (by decide) rfl rfl (by decide) (fun w h => List.mem_cons_of_mem _ (zu_M w h)) ⟨rfl, rfl, rfl⟩ (List.mem_cons_of_mem _ zf_M_113) rfl (by decide +kernel)) ?_
  refine zt_cons (zs_lconst (n := 0) (by decide +kernel) (by decide)) ?_
  refine zt_cons (zs_lcmp (by decide +kernel)) ?_
  refine zt_cons (zs_ifle (off := 7) (by decide +kernel) (by decide)) ?_
  refine zt_cons (zs_iconst (n := 1) (by decide +kernel) (by decide)) ?_
  refine zt_cons (zs_goto (off := 4) (by decide +kernel) (by decide)) ?_
  refine zt_cons (zs_iconst (n := 0) (by decide +kernel) (by decide)) ?_
  refine zt_cons (zs_zr rfl (by decide +kernel)) ?_
  exact zt_nil
