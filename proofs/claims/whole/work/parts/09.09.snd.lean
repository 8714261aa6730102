set_option maxRecDepth 20000 in
set_option maxHeartbeats 4000000 in
theorem zok_M_arrive {Ex : ze_G → State → Prop} : ∀ pc, ze_snd zI Ex zi_M_arrive pc (ze_lk t_M_arrive pc) := by
  refine zt_cons (zs_aload_n (k := 0) (by decide +kernel) rfl) ?_
  refine zt_cons (zs_gc (j := 8) (C := "CaseTreeModel") (T := zT_M) (N := 30) (by decide) rfl rfl (by decide) (fun w h => List.mem_cons_of_mem _ (zu_M w h)) ⟨rfl, rfl, rfl⟩ (List.mem_cons_of_mem _ zf_M_19) rfl (fun _ => rfl) (by decide +kernel)) ?_
  refine zt_cons (zs_iload_n (k := 1) (by decide +kernel) rfl) ?_
  refine zt_cons (zs_ia (by decide +kernel)) ?_
  refine zt_cons (zs_istore_n (k := 2) (by decide +kernel) rfl (by decide)) ?_
  refine zt_cons (zs_aload_n (k := 0) (by decide +kernel) rfl) ?_
  refine zt_cons (zs_gc (j := 26) (C := "CaseTreeModel") (T := zT_M) (N := 30) (by decide) rfl rfl (by decide) (fun w h => List.mem_cons_of_mem _ (zu_M w h)) ⟨rfl, rfl, rfl⟩ (List.mem_cons_of_mem _ zf_M_52) rfl (fun _ => rfl) (by decide +kernel)) ?_
  refine zt_cons (zs_iload_n (k := 1) (by decide +kernel) rfl) ?_
  refine zt_cons (zs_ia (by decide +kernel)) ?_
  refine zt_cons (zs_istore_n (k := 3) (by decide +kernel) rfl (by decide)) ?_
  refine zt_cons (zs_aload_n (k := 0) (by decide +kernel) rfl) ?_
  refine zt_cons (zs_iload_n (k := 1) (by decide +kernel) rfl) ?_
  refine zt_cons (zs_aload_n (k := 0) (by decide +kernel) rfl) ?_
  refine zt_cons (zs_gi (C := "CaseTreeModel") (T := zT_M) (N := 30) (by decide) rfl rfl (by decide) (fun w h => List.mem_cons_of_mem _ (zu_M w h)) ⟨rfl, rfl, rfl⟩ (List.mem_cons_of_mem _ zf_M_142) rfl (by decide +kernel)) ?_
  refine zt_cons (zs_cv (n := 2) (x := 95) (C := "CaseTreeModel") (T := zT_M) (N := 30) zI_86 rfl rfl (by decide) rfl zl_M_95 zim_M_weightOf zsel_M_weightOf zl_ini_M zc_M_weightOf (by decide +kernel) (by decide) (by decide) (by decide +kernel)) ?_
  refine zt_cons (zs_istore (by decide +kernel) (by decide)) ?_
  refine zt_cons (zs_iload_n (k := 2) (by decide +kernel) rfl) ?_
  refine zt_cons (zs_ifge (off := 84) (by decide +kernel) (by decide)) ?_
  refine zt_cons (zs_iload_n (k := 3) (by decide +kernel) rfl) ?_
  refine zt_cons (zs_istore (by decide +kernel) (by decide)) ?_
  refine zt_cons (zs_iconst (n := 0) (by decide +kernel) (by decide)) ?_
  refine zt_cons (zs_istore (by decide +kernel) (by decide)) ?_
  refine zt_cons (zs_iload (by decide +kernel)) ?_
  refine zt_cons (zs_iconst (n := 3) (by decide +kernel) (by decide)) ?_
  refine zt_cons (zs_cge (off := 55) (by decide +kernel) (by decide)) ?_
  refine zt_cons (zs_iload (by decide +kernel)) ?_
  refine zt_cons (zs_ifne (off := 7) (by decide +kernel) (by decide)) ?_
  refine zt_cons (zs_iconst (n := 0) (by decide +kernel) (by decide)) ?_
  refine zt_cons (zs_goto (off := 19) (by decide +kernel) (by decide)) ?_
  refine zt_cons (zs_iload_n (k := 3) (by decide +kernel) rfl) ?_
  refine zt_cons (zs_aload_n (k := 0) (by decide +kernel) rfl) ?_
  refine zt_cons (zs_iload_n (k := 1) (by decide +kernel) rfl) ?_
  refine zt_cons (zs_iload (by decide +kernel)) ?_
  refine zt_cons (zs_aload_n (k := 0) (by decide +kernel) rfl) ?_
  refine zt_cons (zs_gi (C := "CaseTreeModel") (T := zT_M) (N := 30) (by decide) rfl rfl (by decide) (fun w h => List.mem_cons_of_mem _ (zu_M w h)) ⟨rfl, rfl, rfl⟩ (List.mem_cons_of_mem _ zf_M_142) rfl (by decide +kernel)) ?_
  refine zt_cons (zs_cv (n := 3) (x := 88) (C := "CaseTreeModel") (T := zT_M) (N := 30) zI_85 rfl rfl (by decide) rfl zl_M_88 zim_M_classWeight zsel_M_classWeight zl_ini_M zc_M_classWeight (by decide +kernel) (by decide) (by decide) (by decide +kernel)) ?_
  refine zt_cons (zs_imul (by decide +kernel)) ?_
  refine zt_cons (zs_iload (by decide +kernel)) ?_
  refine zt_cons (zs_idiv (by decide +kernel)) ?_
  refine zt_cons (zs_istore (by decide +kernel) (by decide)) ?_
  refine zt_cons (zs_aload_n (k := 0) (by decide +kernel) rfl) ?_
  refine zt_cons (zs_gc (j := 28) (C := "CaseTreeModel") (T := zT_M) (N := 30) (by decide) rfl rfl (by decide) (fun w h => List.mem_cons_of_mem _ (zu_M w h)) ⟨rfl, rfl, rfl⟩ (List.mem_cons_of_mem _ zf_M_58) rfl (fun _ => rfl) (by decide +kernel)) ?_
  refine zt_cons (zs_iload (by decide +kernel)) ?_
  refine zt_cons (zs_dup2 (by decide +kernel)) ?_
  refine zt_cons (zs_ia (by decide +kernel)) ?_
  refine zt_cons (zs_iload (by decide +kernel)) ?_
  refine zt_cons (zs_iadd (by decide +kernel)) ?_
  refine zt_cons (zs_ias (by decide +kernel)) ?_
  refine zt_cons (zs_iload (by decide +kernel)) ?_
  refine zt_cons (zs_iload (by decide +kernel)) ?_
  refine zt_cons (zs_isub (by decide +kernel)) ?_
  refine zt_cons (zs_istore (by decide +kernel) (by decide)) ?_
  refine zt_cons (zs_iinc (n := 1) (by decide +kernel) (by decide) (by decide)) ?_
  refine zt_cons (zs_goto (off := -55) (by decide +kernel) (by decide)) ?_
  refine zt_cons (zs_aload_n (k := 0) (by decide +kernel) rfl) ?_
  refine zt_cons (zs_gc (j := 28) (C := "CaseTreeModel") (T := zT_M) (N := 30) (by decide) rfl rfl (by decide) (fun w h => List.mem_cons_of_mem _ (zu_M w h)) ⟨rfl, rfl, rfl⟩ (List.mem_cons_of_mem _ zf_M_58) rfl (fun _ => rfl) (by decide +kernel)) ?_
  refine zt_cons (zs_aload_n (k := 0) (by decide +kernel) rfl) ?_
  refine zt_cons (zs_gc (j := 13) (C := "CaseTreeModel") (T := zT_M) (N := 30) (by decide) rfl rfl (by decide) (fun w h => List.mem_cons_of_mem _ (zu_M w h)) ⟨rfl, rfl, rfl⟩ (List.mem_cons_of_mem _ zf_M_34) rfl (fun _ => rfl) (by decide +kernel)) ?_
  refine zt_cons (zs_iload_n (k := 1) (by decide +kernel) rfl) ?_
  refine zt_cons (zs_ia (by decide +kernel)) ?_
  refine zt_cons (zs_dup2 (by decide +kernel)) ?_
  refine zt_cons (zs_ia (by decide +kernel)) ?_
  refine zt_cons (zs_iload (by decide +kernel)) ?_
  refine zt_cons (zs_iadd (by decide +kernel)) ?_
  refine zt_cons (zs_ias (by decide +kernel)) ?_
  refine zt_cons (zs_vr rfl (by decide +kernel)) ?_
  refine zt_cons (zs_aload_n (k := 0) (by decide +kernel) rfl) ?_
  refine zt_cons (zs_gc (j := 27) (C := "CaseTreeModel") (T := zT_M) (N := 30) (by decide) rfl rfl (by decide) (fun w h => List.mem_cons_of_mem _ (zu_M w h)) ⟨rfl, rfl, rfl⟩ (List.mem_cons_of_mem _ zf_M_55) rfl (fun _ => rfl) (by decide +kernel)) ?_
  refine zt_cons (zs_iload_n (k := 2) (by decide +kernel) rfl) ?_
  refine zt_cons (zs_ia (by decide +kernel)) ?_
  refine zt_cons (zs_istore (by decide +kernel) (by decide)) ?_
  refine zt_cons (zs_iconst (n := 0) (by decide +kernel) (by decide)) ?_
  refine zt_cons (zs_istore (by decide +kernel) (by decide)) ?_
  refine zt_cons (zs_iload_n (k := 3) (by decide +kernel) rfl) ?_
  refine zt_cons (zs_istore (by decide +kernel) (by decide)) ?_
  refine zt_cons (zs_aload_n (k := 0) (by decide +kernel) rfl) ?_
  refine zt_cons (zs_iload_n (k := 1) (by decide +kernel) rfl) ?_
  refine zt_cons (zs_iload_n (k := 2) (by decide +kernel) rfl) ?_
  refine zt_cons (zs_aload_n (k := 0) (by decide +kernel) rfl) ?_
  refine zt_cons (zs_gc (j := 9) (C := "CaseTreeModel") (T := zT_M) (N := 30) (by decide) rfl rfl (by decide) (fun w h => List.mem_cons_of_mem _ (zu_M w h)) ⟨rfl, rfl, rfl⟩ (List.mem_cons_of_mem _ zf_M_22) rfl (fun _ => rfl) (by decide +kernel)) ?_
  refine zt_cons (zs_iload_n (k := 1) (by decide +kernel) rfl) ?_
  refine zt_cons (zs_ia (by decide +kernel)) ?_
  refine zt_cons (zs_aload_n (k := 0) (by decide +kernel) rfl) ?_
  refine zt_cons (zs_gi (C := "CaseTreeModel") (T := zT_M) (N := 30) (by decide) rfl rfl (by decide) (fun w h => List.mem_cons_of_mem _ (zu_M w h)) ⟨rfl, rfl, rfl⟩ (List.mem_cons_of_mem _ zf_M_142) rfl (by decide +kernel)) ?_
  refine zt_cons (zs_iconst (n := 1) (by decide +kernel) (by decide)) ?_
  refine zt_cons (zs_cv (n := 5) (x := 127) (C := "CaseTreeModel") (T := zT_M) (N := 30) zI_90 rfl rfl (by decide) rfl zl_M_127 zim_M_measure zsel_M_measure zl_ini_M zc_M_measure (by decide +kernel) (by decide) (by decide) (by decide +kernel)) ?_
  refine zt_cons (zs_iconst (n := 0) (by decide +kernel) (by decide)) ?_
  refine zt_cons (zs_istore (by decide +kernel) (by decide)) ?_
  refine zt_cons (zs_iload (by decide +kernel)) ?_
  refine zt_cons (zs_aload_n (k := 0) (by decide +kernel) rfl) ?_
  refine zt_cons (zs_iload_n (k := 2) (by decide +kernel) rfl) ?_
  refine zt_cons (zs_cv (n := 1) (x := 152) (C := "CaseTreeModel") (T := zT_M) (N := 30) zI_88 rfl rfl (by decide) rfl zl_M_152 zim_M_branches zsel_M_branches zl_ini_M zc_M_branches (by decide +kernel) (by decide) (by decide) (by decide +kernel)) ?_
  refine zt_cons (zs_cge (off := 118) (by decide +kernel) (by decide)) ?_
  refine zt_cons (zs_aload_n (k := 0) (by decide +kernel) rfl) ?_
  refine zt_cons (zs_gc (j := 15) (C := "CaseTreeModel") (T := zT_M) (N := 30) (by decide) rfl rfl (by decide) (fun w h => List.mem_cons_of_mem _ (zu_M w h)) ⟨rfl, rfl, rfl⟩ (List.mem_cons_of_mem _ zf_M_40) rfl (fun _ => rfl) (by decide +kernel)) ?_
  refine zt_cons (zs_iload (by decide +kernel)) ?_
  refine zt_cons (zs_ia (by decide +kernel)) ?_
  refine zt_cons (zs_aload_n (k := 0) (by decide +kernel) rfl) ?_
  refine zt_cons (zs_gc (j := 15) (C := "CaseTreeModel") (T := zT_M) (N := 30) (by decide) rfl rfl (by decide) (fun w h => List.mem_cons_of_mem _ (zu_M w h)) ⟨rfl, rfl, rfl⟩ (List.mem_cons_of_mem _ zf_M_40) rfl (fun _ => rfl) (by decide +kernel)) ?_
  refine zt_cons (zs_iload (by decide +kernel)) ?_
  refine zt_cons (zs_ia (by decide +kernel)) ?_
  refine zt_cons (zs_cle (off := 8) (by decide +kernel) (by decide)) ?_
  refine zt_cons (zs_iload (by decide +kernel)) ?_
  refine zt_cons (zs_goto (off := 5) (by decide +kernel) (by decide)) ?_
  refine zt_cons (zs_iload (by decide +kernel)) ?_
  refine zt_cons (zs_istore (by decide +kernel) (by decide)) ?_
  refine zt_cons (zs_iload (by decide +kernel)) ?_
  refine zt_cons (zs_iflt (off := 29) (by decide +kernel) (by decide)) ?_
  refine zt_cons (zs_aload_n (k := 0) (by decide +kernel) rfl) ?_
  refine zt_cons (zs_iload_n (k := 2) (by decide +kernel) rfl) ?_
  refine zt_cons (zs_aload_n (k := 0) (by decide +kernel) rfl) ?_
  refine zt_cons (zs_gc (j := 9) (C := "CaseTreeModel") (T := zT_M) (N := 30) (by decide) rfl rfl (by decide) (fun w h => List.mem_cons_of_mem _ (zu_M w h)) ⟨rfl, rfl, rfl⟩ (List.mem_cons_of_mem _ zf_M_22) rfl (fun _ => rfl) (by decide +kernel)) ?_
  refine zt_cons (zs_iload_n (k := 1) (by decide +kernel) rfl) ?_
  refine zt_cons (zs_ia (by decide +kernel)) ?_
  refine zt_cons (zs_iload (by decide +kernel)) ?_
  refine zt_cons (zs_cv (n := 3) (x := 102) (C := "CaseTreeModel") (T := zT_M) (N := 30) zI_89 rfl rfl (by decide) rfl zl_M_102 zim_M_branch zsel_M_branch zl_ini_M zc_M_branch (by decide +kernel) (by decide) (by decide) (by decide +kernel)) ?_
  refine zt_cons (zs_iload (by decide +kernel)) ?_
  refine zt_cons (zs_cne (off := 7) (by decide +kernel) (by decide)) ?_
  refine zt_cons (zs_iload_n (k := 3) (by decide +kernel) rfl) ?_
  refine zt_cons (zs_goto (off := 32) (by decide +kernel) (by decide)) ?_
  refine zt_cons (zs_iconst (n := 0) (by decide +kernel) (by decide)) ?_
  refine zt_cons (zs_goto (off := 28) (by decide +kernel) (by decide)) ?_
  refine zt_cons (zs_aload_n (k := 0) (by decide +kernel) rfl) ?_
  refine zt_cons (zs_gi (C := "CaseTreeModel") (T := zT_M) (N := 30) (by decide) rfl rfl (by decide) (fun w h => List.mem_cons_of_mem _ (zu_M w h)) ⟨rfl, rfl, rfl⟩ (List.mem_cons_of_mem _ zf_M_92) rfl (by decide +kernel)) ?_
  refine zt_cons (zs_ifle (off := 20) (by decide +kernel) (by decide)) ?_
  refine zt_cons (zs_iload_n (k := 3) (by decide +kernel) rfl) ?_
  refine zt_cons (zs_aload_n (k := 0) (by decide +kernel) rfl) ?_
  refine zt_cons (zs_gc (j := 15) (C := "CaseTreeModel") (T := zT_M) (N := 30) (by decide) rfl rfl (by decide) (fun w h => List.mem_cons_of_mem _ (zu_M w h)) ⟨rfl, rfl, rfl⟩ (List.mem_cons_of_mem _ zf_M_40) rfl (fun _ => rfl) (by decide +kernel)) ?_
  refine zt_cons (zs_iload (by decide +kernel)) ?_
  refine zt_cons (zs_ia (by decide +kernel)) ?_
  refine zt_cons (zs_imul (by decide +kernel)) ?_
  refine zt_cons (zs_aload_n (k := 0) (by decide +kernel) rfl) ?_
  refine zt_cons (zs_gi (C := "CaseTreeModel") (T := zT_M) (N := 30) (by decide) rfl rfl (by decide) (fun w h => List.mem_cons_of_mem _ (zu_M w h)) ⟨rfl, rfl, rfl⟩ (List.mem_cons_of_mem _ zf_M_92) rfl (by decide +kernel)) ?_
  refine zt_cons (zs_idiv (by decide +kernel)) ?_
  refine zt_cons (zs_goto (off := 4) (by decide +kernel) (by decide)) ?_
  refine zt_cons (zs_iconst (n := 0) (by decide +kernel) (by decide)) ?_
  refine zt_cons (zs_istore (by decide +kernel) (by decide)) ?_
  refine zt_cons (zs_aload_n (k := 0) (by decide +kernel) rfl) ?_
  refine zt_cons (zs_gc (j := 26) (C := "CaseTreeModel") (T := zT_M) (N := 30) (by decide) rfl rfl (by decide) (fun w h => List.mem_cons_of_mem _ (zu_M w h)) ⟨rfl, rfl, rfl⟩ (List.mem_cons_of_mem _ zf_M_52) rfl (fun _ => rfl) (by decide +kernel)) ?_
  refine zt_cons (zs_aload_n (k := 0) (by decide +kernel) rfl) ?_
  refine zt_cons (zs_gc (j := 10) (C := "CaseTreeModel") (T := zT_M) (N := 30) (by decide) rfl rfl (by decide) (fun w h => List.mem_cons_of_mem _ (zu_M w h)) ⟨rfl, rfl, rfl⟩ (List.mem_cons_of_mem _ zf_M_25) rfl (fun _ => rfl) (by decide +kernel)) ?_
  refine zt_cons (zs_iconst (n := 4) (by decide +kernel) (by decide)) ?_
  refine zt_cons (zs_iload_n (k := 1) (by decide +kernel) rfl) ?_
  refine zt_cons (zs_imul (by decide +kernel)) ?_
  refine zt_cons (zs_iload (by decide +kernel)) ?_
  refine zt_cons (zs_iadd (by decide +kernel)) ?_
  refine zt_cons (zs_ia (by decide +kernel)) ?_
  refine zt_cons (zs_iload (by decide +kernel)) ?_
  refine zt_cons (zs_ias (by decide +kernel)) ?_
  refine zt_cons (zs_iload (by decide +kernel)) ?_
  refine zt_cons (zs_iload (by decide +kernel)) ?_
  refine zt_cons (zs_isub (by decide +kernel)) ?_
  refine zt_cons (zs_istore (by decide +kernel) (by decide)) ?_
  refine zt_cons (zs_iinc (n := 1) (by decide +kernel) (by decide) (by decide)) ?_
  refine zt_cons (zs_goto (off := -122) (by decide +kernel) (by decide)) ?_
  refine zt_cons (zs_aload_n (k := 0) (by decide +kernel) rfl) ?_
  refine zt_cons (zs_gc (j := 26) (C := "CaseTreeModel") (T := zT_M) (N := 30) (by decide) rfl rfl (by decide) (fun w h => List.mem_cons_of_mem _ (zu_M w h)) ⟨rfl, rfl, rfl⟩ (List.mem_cons_of_mem _ zf_M_52) rfl (fun _ => rfl) (by decide +kernel)) ?_
  refine zt_cons (zs_aload_n (k := 0) (by decide +kernel) rfl) ?_
  refine zt_cons (zs_gc (j := 10) (C := "CaseTreeModel") (T := zT_M) (N := 30) (by decide) rfl rfl (by decide) (fun w h => List.mem_cons_of_mem _ (zu_M w h)) ⟨rfl, rfl, rfl⟩ (List.mem_cons_of_mem _ zf_M_25) rfl (fun _ => rfl) (by decide +kernel)) ?_
  refine zt_cons (zs_iconst (n := 4) (by decide +kernel) (by decide)) ?_
  refine zt_cons (zs_iload_n (k := 1) (by decide +kernel) rfl) ?_
  refine zt_cons (zs_imul (by decide +kernel)) ?_
  refine zt_cons (zs_aload_n (k := 0) (by decide +kernel) rfl) ?_
  refine zt_cons (zs_gi (C := "CaseTreeModel") (T := zT_M) (N := 30) (by decide) rfl rfl (by decide) (fun w h => List.mem_cons_of_mem _ (zu_M w h)) ⟨rfl, rfl, rfl⟩ (List.mem_cons_of_mem _ zf_M_92) rfl (by decide +kernel)) ?_
  refine zt_cons (zs_ifle (off := 8) (by decide +kernel) (by decide)) ?_
  refine zt_cons (zs_iload (by decide +kernel)) ?_
  refine zt_cons (zs_goto (off := 4) (by decide +kernel) (by decide)) ?_
  refine zt_cons (zs_iconst (n := 0) (by decide +kernel) (by decide)) ?_
  refine zt_cons (zs_iadd (by decide +kernel)) ?_
  refine zt_cons (zs_ia (by decide +kernel)) ?_
  refine zt_cons (zs_dup2 (by decide +kernel)) ?_
  refine zt_cons (zs_ia (by decide +kernel)) ?_
  refine zt_cons (zs_iload (by decide +kernel)) ?_
  refine zt_cons (zs_ifge (off := 8) (by decide +kernel) (by decide)) ?_
  refine zt_cons (zs_iload (by decide +kernel)) ?_
  refine zt_cons (zs_goto (off := 4) (by decide +kernel) (by decide)) ?_
  refine zt_cons (zs_iconst (n := 0) (by decide +kernel) (by decide)) ?_
  refine zt_cons (zs_iadd (by decide +kernel)) ?_
  refine zt_cons (zs_ias (by decide +kernel)) ?_
  refine zt_cons (zs_vr rfl (by decide +kernel)) ?_
  exact zt_nil
set_option maxRecDepth 20000 in
set_option maxHeartbeats 4000000 in
theorem zok_M_classifyAsked {Ex : ze_G → State → Prop} : ∀ pc, ze_snd zI Ex zi_M_classifyAsked pc (ze_lk t_M_classifyAsked pc) := by
  refine zt_cons (zs_iconst (n := 0) (by decide +kernel) (by decide)) ?_
  refine zt_cons (zs_istore_n (k := 1) (by decide +kernel) rfl (by decide)) ?_
  refine zt_cons (zs_iload_n (k := 1) (by decide +kernel) rfl) ?_
  refine zt_cons (zs_iconst (n := 3) (by decide +kernel) (by decide)) ?_
  refine zt_cons (zs_cge (off := 16) (by decide +kernel) (by decide)) ?_
  refine zt_cons (zs_aload_n (k := 0) (by decide +kernel) rfl) ?_
  refine zt_cons (zs_gc (j := 28) (C := "CaseTreeModel") (T := zT_M) (N := 30) (by decide) rfl rfl (by decide) (fun w h => List.mem_cons_of_mem _ (zu_M w h)) ⟨rfl, rfl, rfl⟩ (List.mem_cons_of_mem _ zf_M_58) rfl (fun _ => rfl) (by decide +kernel)) ?_
  refine zt_cons (zs_iload_n (k := 1) (by decide +kernel) rfl) ?_
  refine zt_cons (zs_iconst (n := 0) (by decide +kernel) (by decide)) ?_
  refine zt_cons (zs_ias (by decide +kernel)) ?_
  refine zt_cons (zs_iinc (n := 1) (by decide +kernel) (by decide) (by decide)) ?_
  refine zt_cons (zs_goto (off := -15) (by decide +kernel) (by decide)) ?_
  refine zt_cons (zs_aload_n (k := 0) (by decide +kernel) rfl) ?_
  refine zt_cons (zs_iconst (n := 0) (by decide +kernel) (by decide)) ?_
  refine zt_cons (zs_cv (n := 1) (x := 181) (C := "CaseTreeModel") (T := zT_M) (N := 30) zI_101 rfl rfl (by decide) rfl zl_M_181 zim_M_list zsel_M_list zl_ini_M zc_M_list (by decide +kernel) (by decide) (by decide) (by decide +kernel)) ?_
  refine zt_cons (zs_aload_n (k := 0) (by decide +kernel) rfl) ?_
  refine zt_cons (zs_gc (j := 26) (C := "CaseTreeModel") (T := zT_M) (N := 30) (by decide) rfl rfl (by decide) (fun w h => List.mem_cons_of_mem _ (zu_M w h)) ⟨rfl, rfl, rfl⟩ (List.mem_cons_of_mem _ zf_M_52) rfl (fun _ => rfl) (by decide +kernel)) ?_
  refine zt_cons (zs_iconst (n := 0) (by decide +kernel) (by decide)) ?_
  refine zt_cons (zs_sipush (n := 720) (by decide +kernel) (by decide)) ?_
  refine zt_cons (zs_ias (by decide +kernel)) ?_
  refine zt_cons (zs_iconst (n := 0) (by decide +kernel) (by decide)) ?_
  refine zt_cons (zs_istore_n (k := 1) (by decide +kernel) rfl (by decide)) ?_
  refine zt_cons (zs_iload_n (k := 1) (by decide +kernel) rfl) ?_
  refine zt_cons (zs_aload_n (k := 0) (by decide +kernel) rfl) ?_
  refine zt_cons (zs_gi (C := "CaseTreeModel") (T := zT_M) (N := 30) (by decide) rfl rfl (by decide) (fun w h => List.mem_cons_of_mem _ (zu_M w h)) ⟨rfl, rfl, rfl⟩ (List.mem_cons_of_mem _ zf_M_178) rfl (by decide +kernel)) ?_
  refine zt_cons (zs_cge (off := 19) (by decide +kernel) (by decide)) ?_
  refine zt_cons (zs_aload_n (k := 0) (by decide +kernel) rfl) ?_
  refine zt_cons (zs_aload_n (k := 0) (by decide +kernel) rfl) ?_
  refine zt_cons (zs_gc (j := 24) (C := "CaseTreeModel") (T := zT_M) (N := 30) (by decide) rfl rfl (by decide) (fun w h => List.mem_cons_of_mem _ (zu_M w h)) ⟨rfl, rfl, rfl⟩ (List.mem_cons_of_mem _ zf_M_46) rfl (fun _ => rfl) (by decide +kernel)) ?_
  refine zt_cons (zs_iload_n (k := 1) (by decide +kernel) rfl) ?_
  refine zt_cons (zs_ia (by decide +kernel)) ?_
  refine zt_cons (zs_cv (n := 1) (x := 207) (C := "CaseTreeModel") (T := zT_M) (N := 30) zI_110 rfl rfl (by decide) rfl zl_M_207 zim_M_arrive zsel_M_arrive zl_ini_M zc_M_arrive (by decide +kernel) (by decide) (by decide) (by decide +kernel)) ?_
  refine zt_cons (zs_iinc (n := 1) (by decide +kernel) (by decide) (by decide)) ?_
  refine zt_cons (zs_goto (off := -21) (by decide +kernel) (by decide)) ?_
  refine zt_cons (zs_iconst (n := 0) (by decide +kernel) (by decide)) ?_
  refine zt_cons (zs_istore_n (k := 1) (by decide +kernel) rfl (by decide)) ?_
  refine zt_cons (zs_iconst (n := 1) (by decide +kernel) (by decide)) ?_
  refine zt_cons (zs_istore_n (k := 2) (by decide +kernel) rfl (by decide)) ?_
  refine zt_cons (zs_iload_n (k := 2) (by decide +kernel) rfl) ?_
  refine zt_cons (zs_iconst (n := 3) (by decide +kernel) (by decide)) ?_
  refine zt_cons (zs_cge (off := 30) (by decide +kernel) (by decide)) ?_
  refine zt_cons (zs_aload_n (k := 0) (by decide +kernel) rfl) ?_
  refine zt_cons (zs_gc (j := 28) (C := "CaseTreeModel") (T := zT_M) (N := 30) (by decide) rfl rfl (by decide) (fun w h => List.mem_cons_of_mem _ (zu_M w h)) ⟨rfl, rfl, rfl⟩ (List.mem_cons_of_mem _ zf_M_58) rfl (fun _ => rfl) (by decide +kernel)) ?_
  refine zt_cons (zs_iload_n (k := 2) (by decide +kernel) rfl) ?_
  refine zt_cons (zs_ia (by decide +kernel)) ?_
  refine zt_cons (zs_aload_n (k := 0) (by decide +kernel) rfl) ?_
  refine zt_cons (zs_gc (j := 28) (C := "CaseTreeModel") (T := zT_M) (N := 30) (by decide) rfl rfl (by decide) (fun w h => List.mem_cons_of_mem _ (zu_M w h)) ⟨rfl, rfl, rfl⟩ (List.mem_cons_of_mem _ zf_M_58) rfl (fun _ => rfl) (by decide +kernel)) ?_
  refine zt_cons (zs_iload_n (k := 1) (by decide +kernel) rfl) ?_
  refine zt_cons (zs_ia (by decide +kernel)) ?_
  refine zt_cons (zs_cle (off := 7) (by decide +kernel) (by decide)) ?_
  refine zt_cons (zs_iload_n (k := 2) (by decide +kernel) rfl) ?_
  refine zt_cons (zs_goto (off := 4) (by decide +kernel) (by decide)) ?_
  refine zt_cons (zs_iload_n (k := 1) (by decide +kernel) rfl) ?_
  refine zt_cons (zs_istore_n (k := 1) (by decide +kernel) rfl (by decide)) ?_
  refine zt_cons (zs_iinc (n := 1) (by decide +kernel) (by decide) (by decide)) ?_
  refine zt_cons (zs_goto (off := -29) (by decide +kernel) (by decide)) ?_
  refine zt_cons (zs_iload_n (k := 1) (by decide +kernel) rfl) ?_
  refine zt_cons (zs_ir rfl (by decide +kernel)) ?_
  exact zt_nil
set_option maxRecDepth 20000 in
set_option maxHeartbeats 4000000 in
theorem zok_M_classify {Ex : ze_G → State → Prop} : ∀ pc, ze_snd zI Ex zi_M_classify pc (ze_lk t_M_classify pc) := by
  refine zt_cons (zs_aload_n (k := 0) (by decide +kernel) rfl) ?_
  refine zt_cons (zs_iload_n (k := 1) (by decide +kernel) rfl) ?_
  refine zt_cons (zs_iload_n (k := 2) (by decide +kernel) rfl) ?_
  refine zt_cons (zs_iload_n (k := 3) (by decide +kernel) rfl) ?_
  refine zt_cons (zs_iload (by decide +kernel)) ?_
  refine zt_cons (zs_cv (n := 4) (x := 84) (C := "CaseTreeModel") (T := zT_M) (N := 30) zI_83 rfl rfl (by decide) rfl zl_M_84 zim_M_allFit zsel_M_allFit zl_ini_M zc_M_allFit (by decide +kernel) (by decide) (by decide) (by decide +kernel)) ?_
  refine zt_cons (zs_ifne (off := 5) (by decide +kernel) (by decide)) ?_
  refine zt_cons (zs_iconst (n := (-1)) (by decide +kernel) (by decide)) ?_
  refine zt_cons (zs_ir rfl (by decide +kernel)) ?_
  refine zt_cons (zs_aload_n (k := 0) (by decide +kernel) rfl) ?_
  refine zt_cons (zs_gi (C := "CaseTreeModel") (T := zT_M) (N := 30) (by decide) rfl rfl (by decide) (fun w h => List.mem_cons_of_mem _ (zu_M w h)) ⟨rfl, rfl, rfl⟩ (List.mem_cons_of_mem _ zf_M_168) rfl (by decide +kernel)) ?_
  refine zt_cons (zs_ifne (off := 6) (by decide +kernel) (by decide)) ?_
  refine zt_cons (zs_bipush (n := (-3)) (by decide +kernel) (by decide)) ?_
  refine zt_cons (zs_ir rfl (by decide +kernel)) ?_
  refine zt_cons (zs_aload_n (k := 0) (by decide +kernel) rfl) ?_
  refine zt_cons (zs_gc (j := 27) (C := "CaseTreeModel") (T := zT_M) (N := 30) (by decide) rfl rfl (by decide) (fun w h => List.mem_cons_of_mem _ (zu_M w h)) ⟨rfl, rfl, rfl⟩ (List.mem_cons_of_mem _ zf_M_55) rfl (fun _ => rfl) (by decide +kernel)) ?_
  refine zt_cons (zs_iconst (n := 0) (by decide +kernel) (by decide)) ?_
  refine zt_cons (zs_iload_n (k := 1) (by decide +kernel) rfl) ?_
  refine zt_cons (zs_ias (by decide +kernel)) ?_
  refine zt_cons (zs_aload_n (k := 0) (by decide +kernel) rfl) ?_
  refine zt_cons (zs_gc (j := 27) (C := "CaseTreeModel") (T := zT_M) (N := 30) (by decide) rfl rfl (by decide) (fun w h => List.mem_cons_of_mem _ (zu_M w h)) ⟨rfl, rfl, rfl⟩ (List.mem_cons_of_mem _ zf_M_55) rfl (fun _ => rfl) (by decide +kernel)) ?_
  refine zt_cons (zs_iconst (n := 1) (by decide +kernel) (by decide)) ?_
  refine zt_cons (zs_iload_n (k := 2) (by decide +kernel) rfl) ?_
  refine zt_cons (zs_ias (by decide +kernel)) ?_
  refine zt_cons (zs_aload_n (k := 0) (by decide +kernel) rfl) ?_
  refine zt_cons (zs_gc (j := 27) (C := "CaseTreeModel") (T := zT_M) (N := 30) (by decide) rfl rfl (by decide) (fun w h => List.mem_cons_of_mem _ (zu_M w h)) ⟨rfl, rfl, rfl⟩ (List.mem_cons_of_mem _ zf_M_55) rfl (fun _ => rfl) (by decide +kernel)) ?_
  refine zt_cons (zs_iconst (n := 2) (by decide +kernel) (by decide)) ?_
  refine zt_cons (zs_iload_n (k := 3) (by decide +kernel) rfl) ?_
  refine zt_cons (zs_ias (by decide +kernel)) ?_
  refine zt_cons (zs_aload_n (k := 0) (by decide +kernel) rfl) ?_
  refine zt_cons (zs_gc (j := 27) (C := "CaseTreeModel") (T := zT_M) (N := 30) (by decide) rfl rfl (by decide) (fun w h => List.mem_cons_of_mem _ (zu_M w h)) ⟨rfl, rfl, rfl⟩ (List.mem_cons_of_mem _ zf_M_55) rfl (fun _ => rfl) (by decide +kernel)) ?_
  refine zt_cons (zs_iconst (n := 3) (by decide +kernel) (by decide)) ?_
  refine zt_cons (zs_iload (by decide +kernel)) ?_
  refine zt_cons (zs_ias (by decide +kernel)) ?_
  refine zt_cons (zs_aload_n (k := 0) (by decide +kernel) rfl) ?_
  refine zt_cons (zs_cv (n := 0) (x := 210) (C := "CaseTreeModel") (T := zT_M) (N := 30) zI_111 rfl rfl (by decide) rfl zl_M_210 zim_M_classifyAsked zsel_M_classifyAsked zl_ini_M zc_M_classifyAsked (by decide +kernel) (by decide) (by decide) (by decide +kernel)) ?_
  refine zt_cons (zs_istore (by decide +kernel) (by decide)) ?_
  refine zt_cons (zs_iconst (n := 0) (by decide +kernel) (by decide)) ?_
  refine zt_cons (zs_istore (by decide +kernel) (by decide)) ?_
  refine zt_cons (zs_iload (by decide +kernel)) ?_
  refine zt_cons (zs_iconst (n := 3) (by decide +kernel) (by decide)) ?_
  refine zt_cons (zs_cge (off := 23) (by decide +kernel) (by decide)) ?_
  refine zt_cons (zs_aload_n (k := 0) (by decide +kernel) rfl) ?_
  refine zt_cons (zs_gc (j := 29) (C := "CaseTreeModel") (T := zT_M) (N := 30) (by decide) rfl rfl (by decide) (fun w h => List.mem_cons_of_mem _ (zu_M w h)) ⟨rfl, rfl, rfl⟩ (List.mem_cons_of_mem _ zf_M_61) rfl (fun _ => rfl) (by decide +kernel)) ?_
  refine zt_cons (zs_iload (by decide +kernel)) ?_
  refine zt_cons (zs_aload_n (k := 0) (by decide +kernel) rfl) ?_
  refine zt_cons (zs_gc (j := 28) (C := "CaseTreeModel") (T := zT_M) (N := 30) (by decide) rfl rfl (by decide) (fun w h => List.mem_cons_of_mem _ (zu_M w h)) ⟨rfl, rfl, rfl⟩ (List.mem_cons_of_mem _ zf_M_58) rfl (fun _ => rfl) (by decide +kernel)) ?_
  refine zt_cons (zs_iload (by decide +kernel)) ?_
  refine zt_cons (zs_ia (by decide +kernel)) ?_
  refine zt_cons (zs_ias (by decide +kernel)) ?_
  refine zt_cons (zs_iinc (n := 1) (by decide +kernel) (by decide) (by decide)) ?_
  refine zt_cons (zs_goto (off := -23) (by decide +kernel) (by decide)) ?_
  refine zt_cons (zs_iload (by decide +kernel)) ?_
  refine zt_cons (zs_ir rfl (by decide +kernel)) ?_
  exact zt_nil
set_option maxRecDepth 20000 in
set_option maxHeartbeats 4000000 in
theorem zok_M_share {Ex : ze_G → State → Prop} : ∀ pc, ze_snd zI Ex zi_M_share pc (ze_lk t_M_share pc) := by
  refine zt_cons (zs_iload_n (k := 1) (by decide +kernel) rfl) ?_
  refine zt_cons (zs_iflt (off := 8) (by decide +kernel) (by decide)) ?_
  refine zt_cons (zs_iload_n (k := 1) (by decide +kernel) rfl) ?_
  refine zt_cons (zs_iconst (n := 2) (by decide +kernel) (by decide)) ?_
  refine zt_cons (zs_cle (off := 7) (by decide +kernel) (by decide)) ?_
  refine zt_cons (zs_iconst (n := 0) (by decide +kernel) (by decide)) ?_
  refine zt_cons (zs_goto (off := 9) (by decide +kernel) (by decide)) ?_
  refine zt_cons (zs_aload_n (k := 0) (by decide +kernel) rfl) ?_
  refine zt_cons (zs_gc (j := 29) (C := "CaseTreeModel") (T := zT_M) (N := 30) (by decide) rfl rfl (by decide) (fun w h => List.mem_cons_of_mem _ (zu_M w h)) ⟨rfl, rfl, rfl⟩ (List.mem_cons_of_mem _ zf_M_61) rfl (fun _ => rfl) (by decide +kernel)) ?_
  refine zt_cons (zs_iload_n (k := 1) (by decide +kernel) rfl) ?_
  refine zt_cons (zs_ia (by decide +kernel)) ?_
  refine zt_cons (zs_ir rfl (by decide +kernel)) ?_
  exact zt_nil
set_option maxRecDepth 20000 in
set_option maxHeartbeats 4000000 in
theorem zok_M_wrong {Ex : ze_G → State → Prop} : ∀ pc, ze_snd zI Ex zi_M_wrong pc (ze_lk t_M_wrong pc) := by
  refine zt_cons (zs_aload_n (k := 0) (by decide +kernel) rfl) ?_
  refine zt_cons (zs_gi (C := "CaseTreeModel") (T := zT_M) (N := 30) (by decide) rfl rfl (by decide) (fun w h => List.mem_cons_of_mem _ (zu_M w h)) ⟨rfl, rfl, rfl⟩ (List.mem_cons_of_mem _ zf_M_168) rfl (by decide +kernel)) ?_
  refine zt_cons (zs_ifne (off := 6) (by decide +kernel) (by decide)) ?_
  refine zt_cons (zs_bipush (n := (-3)) (by decide +kernel) (by decide)) ?_
  refine zt_cons (zs_ir rfl (by decide +kernel)) ?_
  refine zt_cons (zs_iconst (n := 0) (by decide +kernel) (by decide)) ?_
  refine zt_cons (zs_istore_n (k := 1) (by decide +kernel) rfl (by decide)) ?_
  refine zt_cons (zs_iconst (n := 0) (by decide +kernel) (by decide)) ?_
  refine zt_cons (zs_istore_n (k := 2) (by decide +kernel) rfl (by decide)) ?_
  refine zt_cons (zs_iload_n (k := 2) (by decide +kernel) rfl) ?_
  refine zt_cons (zs_aload_n (k := 0) (by decide +kernel) rfl) ?_
  refine zt_cons (zs_gi (C := "CaseTreeModel") (T := zT_M) (N := 30) (by decide) rfl rfl (by decide) (fun w h => List.mem_cons_of_mem _ (zu_M w h)) ⟨rfl, rfl, rfl⟩ (List.mem_cons_of_mem _ zf_M_73) rfl (by decide +kernel)) ?_
  refine zt_cons (zs_cge (off := 61) (by decide +kernel) (by decide)) ?_
  refine zt_cons (zs_iconst (n := 0) (by decide +kernel) (by decide)) ?_
  refine zt_cons (zs_istore_n (k := 3) (by decide +kernel) rfl (by decide)) ?_
  refine zt_cons (zs_iload_n (k := 3) (by decide +kernel) rfl) ?_
  refine zt_cons (zs_iconst (n := 4) (by decide +kernel) (by decide)) ?_
  refine zt_cons (zs_cge (off := 25) (by decide +kernel) (by decide)) ?_
  refine zt_cons (zs_aload_n (k := 0) (by decide +kernel) rfl) ?_
  refine zt_cons (zs_gc (j := 27) (C := "CaseTreeModel") (T := zT_M) (N := 30) (by decide) rfl rfl (by decide) (fun w h => List.mem_cons_of_mem _ (zu_M w h)) ⟨rfl, rfl, rfl⟩ (List.mem_cons_of_mem _ zf_M_55) rfl (fun _ => rfl) (by decide +kernel)) ?_
  refine zt_cons (zs_iload_n (k := 3) (by decide +kernel) rfl) ?_
  refine zt_cons (zs_aload_n (k := 0) (by decide +kernel) rfl) ?_
  refine zt_cons (zs_gc (j := 4) (C := "CaseTreeModel") (T := zT_M) (N := 30) (by decide) rfl rfl (by decide) (fun w h => List.mem_cons_of_mem _ (zu_M w h)) ⟨rfl, rfl, rfl⟩ (List.mem_cons_of_mem _ zf_M_16) rfl (fun _ => rfl) (by decide +kernel)) ?_
  refine zt_cons (zs_iconst (n := 4) (by decide +kernel) (by decide)) ?_
  refine zt_cons (zs_iload_n (k := 2) (by decide +kernel) rfl) ?_
  refine zt_cons (zs_imul (by decide +kernel)) ?_
  refine zt_cons (zs_iload_n (k := 3) (by decide +kernel) rfl) ?_
  refine zt_cons (zs_iadd (by decide +kernel)) ?_
  refine zt_cons (zs_ia (by decide +kernel)) ?_
  refine zt_cons (zs_ias (by decide +kernel)) ?_
  refine zt_cons (zs_iinc (n := 1) (by decide +kernel) (by decide) (by decide)) ?_
  refine zt_cons (zs_goto (off := -24) (by decide +kernel) (by decide)) ?_
  refine zt_cons (zs_aload_n (k := 0) (by decide +kernel) rfl) ?_
  refine zt_cons (zs_cv (n := 0) (x := 210) (C := "CaseTreeModel") (T := zT_M) (N := 30) zI_111 rfl rfl (by decide) rfl zl_M_210 zim_M_classifyAsked zsel_M_classifyAsked zl_ini_M zc_M_classifyAsked (by decide +kernel) (by decide) (by decide) (by decide +kernel)) ?_
  refine zt_cons (zs_istore_n (k := 3) (by decide +kernel) rfl (by decide)) ?_
  refine zt_cons (zs_iload_n (k := 3) (by decide +kernel) rfl) ?_
  refine zt_cons (zs_aload_n (k := 0) (by decide +kernel) rfl) ?_
  refine zt_cons (zs_gc (j := 3) (C := "CaseTreeModel") (T := zT_M) (N := 30) (by decide) rfl rfl (by decide) (fun w h => List.mem_cons_of_mem _ (zu_M w h)) ⟨rfl, rfl, rfl⟩ (List.mem_cons_of_mem _ zf_M_13) rfl (fun _ => rfl) (by decide +kernel)) ?_
  refine zt_cons (zs_iload_n (k := 2) (by decide +kernel) rfl) ?_
  refine zt_cons (zs_ia (by decide +kernel)) ?_
  refine zt_cons (zs_ceq (off := 9) (by decide +kernel) (by decide)) ?_
  refine zt_cons (zs_iload_n (k := 1) (by decide +kernel) rfl) ?_
  refine zt_cons (zs_iconst (n := 1) (by decide +kernel) (by decide)) ?_
  refine zt_cons (zs_iadd (by decide +kernel)) ?_
  refine zt_cons (zs_goto (off := 4) (by decide +kernel) (by decide)) ?_
  refine zt_cons (zs_iload_n (k := 1) (by decide +kernel) rfl) ?_
  refine zt_cons (zs_istore_n (k := 1) (by decide +kernel) rfl (by decide)) ?_
  refine zt_cons (zs_iinc (n := 1) (by decide +kernel) (by decide) (by decide)) ?_
  refine zt_cons (zs_goto (off := -63) (by decide +kernel) (by decide)) ?_
  refine zt_cons (zs_iload_n (k := 1) (by decide +kernel) rfl) ?_
  refine zt_cons (zs_ir rfl (by decide +kernel)) ?_
  exact zt_nil
set_option maxRecDepth 20000 in
set_option maxHeartbeats 4000000 in
theorem zok_M_rootTest {Ex : ze_G → State → Prop} : ∀ pc, ze_snd zI Ex zi_M_rootTest pc (ze_lk t_M_rootTest pc) := by
  refine zt_cons (zs_iload_n (k := 1) (by decide +kernel) rfl) ?_
  refine zt_cons (zs_iflt (off := 21) (by decide +kernel) (by decide)) ?_
  refine zt_cons (zs_iload_n (k := 1) (by decide +kernel) rfl) ?_
  refine zt_cons (zs_aload_n (k := 0) (by decide +kernel) rfl) ?_
  refine zt_cons (zs_gi (C := "CaseTreeModel") (T := zT_M) (N := 30) (by decide) rfl rfl (by decide) (fun w h => List.mem_cons_of_mem _ (zu_M w h)) ⟨rfl, rfl, rfl⟩ (List.mem_cons_of_mem _ zf_M_77) rfl (by decide +kernel)) ?_
  refine zt_cons (zs_cge (off := 13) (by decide +kernel) (by decide)) ?_
  refine zt_cons (zs_iload_n (k := 2) (by decide +kernel) rfl) ?_
  refine zt_cons (zs_iconst (n := 1) (by decide +kernel) (by decide)) ?_
  refine zt_cons (zs_clt (off := 8) (by decide +kernel) (by decide)) ?_
  refine zt_cons (zs_iload_n (k := 2) (by decide +kernel) rfl) ?_
  refine zt_cons (zs_iconst (n := 5) (by decide +kernel) (by decide)) ?_
  refine zt_cons (zs_cle (off := 5) (by decide +kernel) (by decide)) ?_
  refine zt_cons (zs_iconst (n := 0) (by decide +kernel) (by decide)) ?_
  refine zt_cons (zs_zr rfl (by decide +kernel)) ?_
  refine zt_cons (zs_iconst (n := 0) (by decide +kernel) (by decide)) ?_
  refine zt_cons (zs_istore_n (k := 3) (by decide +kernel) rfl (by decide)) ?_
  refine zt_cons (zs_iload_n (k := 3) (by decide +kernel) rfl) ?_
  refine zt_cons (zs_bipush (n := 24) (by decide +kernel) (by decide)) ?_
  refine zt_cons (zs_cge (off := 22) (by decide +kernel) (by decide)) ?_
  refine zt_cons (zs_aload_n (k := 0) (by decide +kernel) rfl) ?_
  refine zt_cons (zs_gc (j := 14) (C := "CaseTreeModel") (T := zT_M) (N := 30) (by decide) rfl rfl (by decide) (fun w h => List.mem_cons_of_mem _ (zu_M w h)) ⟨rfl, rfl, rfl⟩ (List.mem_cons_of_mem _ zf_M_37) rfl (fun _ => rfl) (by decide +kernel)) ?_
  refine zt_cons (zs_sipush (n := 4608) (by decide +kernel) (by decide)) ?_
  refine zt_cons (zs_iload_n (k := 3) (by decide +kernel) rfl) ?_
  refine zt_cons (zs_iadd (by decide +kernel)) ?_
  refine zt_cons (zs_sipush (n := 720) (by decide +kernel) (by decide)) ?_
  refine zt_cons (zs_ias (by decide +kernel)) ?_
  refine zt_cons (zs_iinc (n := 1) (by decide +kernel) (by decide) (by decide)) ?_
  refine zt_cons (zs_goto (off := -22) (by decide +kernel) (by decide)) ?_
  refine zt_cons (zs_aload_n (k := 0) (by decide +kernel) rfl) ?_
  refine zt_cons (zs_sipush (n := 192) (by decide +kernel) (by decide)) ?_
  refine zt_cons (zs_iload_n (k := 1) (by decide +kernel) rfl) ?_
  refine zt_cons (zs_aload_n (k := 0) (by decide +kernel) rfl) ?_
  refine zt_cons (zs_gi (C := "CaseTreeModel") (T := zT_M) (N := 30) (by decide) rfl rfl (by decide) (fun w h => List.mem_cons_of_mem _ (zu_M w h)) ⟨rfl, rfl, rfl⟩ (List.mem_cons_of_mem _ zf_M_73) rfl (by decide +kernel)) ?_
  refine zt_cons (zs_iload_n (k := 2) (by decide +kernel) rfl) ?_
  refine zt_cons (zs_cv (n := 4) (x := 145) (C := "CaseTreeModel") (T := zT_M) (N := 30) zI_94 rfl rfl (by decide) rfl zl_M_145 zim_M_measureTest zsel_M_measureTest zl_ini_M zc_M_measureTest (by decide +kernel) (by decide) (by decide) (by decide +kernel)) ?_
  refine zt_cons (zs_zr rfl (by decide +kernel)) ?_
  exact zt_nil
set_option maxRecDepth 20000 in
set_option maxHeartbeats 4000000 in
theorem zok_M_gain {Ex : ze_G → State → Prop} : ∀ pc, ze_snd zI Ex zi_M_gain pc (ze_lk t_M_gain pc) := by
  refine zt_cons (zs_aload_n (k := 0) (by decide +kernel) rfl) ?_
  refine zt_cons (zs_iload_n (k := 1) (by decide +kernel) rfl) ?_
  refine zt_cons (zs_iload_n (k := 2) (by decide +kernel) rfl) ?_
  refine zt_cons (zs_cv (n := 2) (x := 213) (C := "CaseTreeModel") (T := zT_M) (N := 30) zI_115 rfl rfl (by decide) rfl zl_M_213 zim_M_rootTest zsel_M_rootTest zl_ini_M zc_M_rootTest (by decide +kernel) (by decide) (by decide) (by decide +kernel)) ?_
  refine zt_cons (zs_ifne (off := 7) (by decide +kernel) (by decide)) ?_
  refine zt_cons (zs_ldc2 (List.mem_cons_of_mem _ zk_M_216) (by decide +kernel)) ?_
  refine zt_cons (zs_lr rfl (by decide +kernel)) ?_
  refine zt_cons (zs_aload_n (k := 0) (by decide +kernel) rfl) ?_
  refine zt_cons (zs_gl (C := "CaseTreeModel") (T := zT_M) (N := 30) (by decide) rfl rfl (by decide) (fun w h => List.mem_cons_of_mem _ (zu_M w h)) ⟨rfl, rfl, rfl⟩ (List.mem_cons_of_mem _ zf_M_113) rfl (by decide +kernel)) ?_
  refine zt_cons (zs_lconst (n := 0) (by decide +kernel) (by decide)) ?_
  refine zt_cons (zs_lcmp (by decide +kernel)) ?_
  refine zt_cons (zs_ifge (off := 9) (by decide +kernel) (by decide)) ?_
  refine zt_cons (zs_ldc2 (List.mem_cons_of_mem _ zk_M_218) (by decide +kernel)) ?_
  refine zt_cons (zs_goto (off := 7) (by decide +kernel) (by decide)) ?_
  refine zt_cons (zs_aload_n (k := 0) (by decide +kernel) rfl) ?_
  refine zt_cons (zs_gl (C := "CaseTreeModel") (T := zT_M) (N := 30) (by decide) rfl rfl (by decide) (fun w h => List.mem_cons_of_mem _ (zu_M w h)) ⟨rfl, rfl, rfl⟩ (List.mem_cons_of_mem _ zf_M_113) rfl (by decide +kernel)) ?_
  refine zt_cons (zs_lr rfl (by decide +kernel)) ?_
  exact zt_nil
set_option maxRecDepth 20000 in
set_option maxHeartbeats 4000000 in
theorem zok_M_split {Ex : ze_G → State → Prop} : ∀ pc, ze_snd zI Ex zi_M_split pc (ze_lk t_M_split pc) := by
  refine zt_cons (zs_aload_n (k := 0) (by decide +kernel) rfl) ?_
  refine zt_cons (zs_iload_n (k := 1) (by decide +kernel) rfl) ?_
  refine zt_cons (zs_iload_n (k := 2) (by decide +kernel) rfl) ?_
  refine zt_cons (zs_cv (n := 2) (x := 213) (C := "CaseTreeModel") (T := zT_M) (N := 30) zI_115 rfl rfl (by decide) rfl zl_M_213 zim_M_rootTest zsel_M_rootTest zl_ini_M zc_M_rootTest (by decide +kernel) (by decide) (by decide) (by decide +kernel)) ?_
  refine zt_cons (zs_ifeq (off := 10) (by decide +kernel) (by decide)) ?_
  refine zt_cons (zs_aload_n (k := 0) (by decide +kernel) rfl) ?_
  refine zt_cons (zs_gl (C := "CaseTreeModel") (T := zT_M) (N := 30) (by decide) rfl rfl (by decide) (fun w h => List.mem_cons_of_mem _ (zu_M w h)) ⟨rfl, rfl, rfl⟩ (List.mem_cons_of_mem _ zf_M_109) rfl (by decide +kernel)) ?_
  refine zt_cons (zs_goto (off := 6) (by decide +kernel) (by decide)) ?_
  refine zt_cons (zs_ldc2 (List.mem_cons_of_mem _ zk_M_216) (by decide +kernel)) ?_
  refine zt_cons (zs_lr rfl (by decide +kernel)) ?_
  exact zt_nil
set_option maxRecDepth 20000 in
set_option maxHeartbeats 4000000 in
theorem zok_M_cut {Ex : ze_G → State → Prop} : ∀ pc, ze_snd zI Ex zi_M_cut pc (ze_lk t_M_cut pc) := by
  refine zt_cons (zs_aload_n (k := 0) (by decide +kernel) rfl) ?_
  refine zt_cons (zs_iload_n (k := 1) (by decide +kernel) rfl) ?_
  refine zt_cons (zs_iload_n (k := 2) (by decide +kernel) rfl) ?_
  refine zt_cons (zs_cv (n := 2) (x := 213) (C := "CaseTreeModel") (T := zT_M) (N := 30) zI_115 rfl rfl (by decide) rfl zl_M_213 zim_M_rootTest zsel_M_rootTest zl_ini_M zc_M_rootTest (by decide +kernel) (by decide) (by decide) (by decide +kernel)) ?_
  refine zt_cons (zs_ifeq (off := 10) (by decide +kernel) (by decide)) ?_
  refine zt_cons (zs_aload_n (k := 0) (by decide +kernel) rfl) ?_
  refine zt_cons (zs_gi (C := "CaseTreeModel") (T := zT_M) (N := 30) (by decide) rfl rfl (by decide) (fun w h => List.mem_cons_of_mem _ (zu_M w h)) ⟨rfl, rfl, rfl⟩ (List.mem_cons_of_mem _ zf_M_131) rfl (by decide +kernel)) ?_
  refine zt_cons (zs_goto (off := 4) (by decide +kernel) (by decide)) ?_
  refine zt_cons (zs_iconst (n := (-1)) (by decide +kernel) (by decide)) ?_
  refine zt_cons (zs_ir rfl (by decide +kernel)) ?_
  exact zt_nil
set_option maxRecDepth 20000 in
set_option maxHeartbeats 4000000 in
theorem zok_M_cases {Ex : ze_G → State → Prop} : ∀ pc, ze_snd zI Ex zi_M_cases pc (ze_lk t_M_cases pc) := by
  refine zt_cons (zs_aload_n (k := 0) (by decide +kernel) rfl) ?_
  refine zt_cons (zs_gi (C := "CaseTreeModel") (T := zT_M) (N := 30) (by decide) rfl rfl (by decide) (fun w h => List.mem_cons_of_mem _ (zu_M w h)) ⟨rfl, rfl, rfl⟩ (List.mem_cons_of_mem _ zf_M_73) rfl (by decide +kernel)) ?_
  refine zt_cons (zs_ir rfl (by decide +kernel)) ?_
  exact zt_nil
set_option maxRecDepth 20000 in
set_option maxHeartbeats 4000000 in
theorem zok_M_nodes {Ex : ze_G → State → Prop} : ∀ pc, ze_snd zI Ex zi_M_nodes pc (ze_lk t_M_nodes pc) := by
  refine zt_cons (zs_aload_n (k := 0) (by decide +kernel) rfl) ?_
  refine zt_cons (zs_gi (C := "CaseTreeModel") (T := zT_M) (N := 30) (by decide) rfl rfl (by decide) (fun w h => List.mem_cons_of_mem _ (zu_M w h)) ⟨rfl, rfl, rfl⟩ (List.mem_cons_of_mem _ zf_M_168) rfl (by decide +kernel)) ?_
  refine zt_cons (zs_ifne (off := 5) (by decide +kernel) (by decide)) ?_
  refine zt_cons (zs_iconst (n := 0) (by decide +kernel) (by decide)) ?_
  refine zt_cons (zs_ir rfl (by decide +kernel)) ?_
  refine zt_cons (zs_aload_n (k := 0) (by decide +kernel) rfl) ?_
  refine zt_cons (zs_iconst (n := 0) (by decide +kernel) (by decide)) ?_
  refine zt_cons (zs_cv (n := 1) (x := 181) (C := "CaseTreeModel") (T := zT_M) (N := 30) zI_101 rfl rfl (by decide) rfl zl_M_181 zim_M_list zsel_M_list zl_ini_M zc_M_list (by decide +kernel) (by decide) (by decide) (by decide +kernel)) ?_
  refine zt_cons (zs_aload_n (k := 0) (by decide +kernel) rfl) ?_
  refine zt_cons (zs_gi (C := "CaseTreeModel") (T := zT_M) (N := 30) (by decide) rfl rfl (by decide) (fun w h => List.mem_cons_of_mem _ (zu_M w h)) ⟨rfl, rfl, rfl⟩ (List.mem_cons_of_mem _ zf_M_178) rfl (by decide +kernel)) ?_
  refine zt_cons (zs_ir rfl (by decide +kernel)) ?_
  exact zt_nil
set_option maxRecDepth 20000 in
set_option maxHeartbeats 4000000 in
theorem zok_M_at {Ex : ze_G → State → Prop} : ∀ pc, ze_snd zI Ex zi_M_at pc (ze_lk t_M_at pc) := by
  refine zt_cons (zs_iload_n (k := 1) (by decide +kernel) rfl) ?_
  refine zt_cons (zs_iflt (off := 11) (by decide +kernel) (by decide)) ?_
  refine zt_cons (zs_iload_n (k := 1) (by decide +kernel) rfl) ?_
  refine zt_cons (zs_aload_n (k := 0) (by decide +kernel) rfl) ?_
  refine zt_cons (zs_cv (n := 0) (x := 174) (C := "CaseTreeModel") (T := zT_M) (N := 30) zI_120 rfl rfl (by decide) rfl zl_M_174 zim_M_nodes zsel_M_nodes zl_ini_M zc_M_nodes (by decide +kernel) (by decide) (by decide) (by decide +kernel)) ?_
  refine zt_cons (zs_clt (off := 7) (by decide +kernel) (by decide)) ?_
  refine zt_cons (zs_iconst (n := (-1)) (by decide +kernel) (by decide)) ?_
  refine zt_cons (zs_goto (off := 9) (by decide +kernel) (by decide)) ?_
  refine zt_cons (zs_aload_n (k := 0) (by decide +kernel) rfl) ?_
  refine zt_cons (zs_gc (j := 24) (C := "CaseTreeModel") (T := zT_M) (N := 30) (by decide) rfl rfl (by decide) (fun w h => List.mem_cons_of_mem _ (zu_M w h)) ⟨rfl, rfl, rfl⟩ (List.mem_cons_of_mem _ zf_M_46) rfl (fun _ => rfl) (by decide +kernel)) ?_
  refine zt_cons (zs_iload_n (k := 1) (by decide +kernel) rfl) ?_
  refine zt_cons (zs_ia (by decide +kernel)) ?_
  refine zt_cons (zs_ir rfl (by decide +kernel)) ?_
  exact zt_nil
set_option maxRecDepth 20000 in
set_option maxHeartbeats 4000000 in
theorem zok_M_tested {Ex : ze_G → State → Prop} : ∀ pc, ze_snd zI Ex zi_M_tested pc (ze_lk t_M_tested pc) := by
  refine zt_cons (zs_aload_n (k := 0) (by decide +kernel) rfl) ?_
  refine zt_cons (zs_iload_n (k := 1) (by decide +kernel) rfl) ?_
  refine zt_cons (zs_cv (n := 1) (x := 220) (C := "CaseTreeModel") (T := zT_M) (N := 30) zI_121 rfl rfl (by decide) rfl zl_M_220 zim_M_at zsel_M_at zl_ini_M zc_M_at (by decide +kernel) (by decide) (by decide) (by decide +kernel)) ?_
  refine zt_cons (zs_istore_n (k := 2) (by decide +kernel) rfl (by decide)) ?_
  refine zt_cons (zs_iload_n (k := 2) (by decide +kernel) rfl) ?_
  refine zt_cons (zs_ifge (off := 7) (by decide +kernel) (by decide)) ?_
  refine zt_cons (zs_iconst (n := (-1)) (by decide +kernel) (by decide)) ?_
  refine zt_cons (zs_goto (off := 9) (by decide +kernel) (by decide)) ?_
  refine zt_cons (zs_aload_n (k := 0) (by decide +kernel) rfl) ?_
  refine zt_cons (zs_gc (j := 8) (C := "CaseTreeModel") (T := zT_M) (N := 30) (by decide) rfl rfl (by decide) (fun w h => List.mem_cons_of_mem _ (zu_M w h)) ⟨rfl, rfl, rfl⟩ (List.mem_cons_of_mem _ zf_M_19) rfl (fun _ => rfl) (by decide +kernel)) ?_
  refine zt_cons (zs_iload_n (k := 2) (by decide +kernel) rfl) ?_
  refine zt_cons (zs_ia (by decide +kernel)) ?_
  refine zt_cons (zs_ir rfl (by decide +kernel)) ?_
  exact zt_nil
set_option maxRecDepth 20000 in
set_option maxHeartbeats 4000000 in
theorem zok_M_threshold {Ex : ze_G → State → Prop} : ∀ pc, ze_snd zI Ex zi_M_threshold pc (ze_lk t_M_threshold pc) := by
  refine zt_cons (zs_aload_n (k := 0) (by decide +kernel) rfl) ?_
  refine zt_cons (zs_iload_n (k := 1) (by decide +kernel) rfl) ?_
  refine zt_cons (zs_cv (n := 1) (x := 220) (C := "CaseTreeModel") (T := zT_M) (N := 30) zI_121 rfl rfl (by decide) rfl zl_M_220 zim_M_at zsel_M_at zl_ini_M zc_M_at (by decide +kernel) (by decide) (by decide) (by decide +kernel)) ?_
  refine zt_cons (zs_istore_n (k := 2) (by decide +kernel) rfl (by decide)) ?_
  refine zt_cons (zs_iload_n (k := 2) (by decide +kernel) rfl) ?_
  refine zt_cons (zs_iflt (off := 26) (by decide +kernel) (by decide)) ?_
  refine zt_cons (zs_aload_n (k := 0) (by decide +kernel) rfl) ?_
  refine zt_cons (zs_gc (j := 8) (C := "CaseTreeModel") (T := zT_M) (N := 30) (by decide) rfl rfl (by decide) (fun w h => List.mem_cons_of_mem _ (zu_M w h)) ⟨rfl, rfl, rfl⟩ (List.mem_cons_of_mem _ zf_M_19) rfl (fun _ => rfl) (by decide +kernel)) ?_
  refine zt_cons (zs_iload_n (k := 2) (by decide +kernel) rfl) ?_
  refine zt_cons (zs_ia (by decide +kernel)) ?_
  refine zt_cons (zs_iflt (off := 17) (by decide +kernel) (by decide)) ?_
  refine zt_cons (zs_aload_n (k := 0) (by decide +kernel) rfl) ?_
  refine zt_cons (zs_gc (j := 1) (C := "CaseTreeModel") (T := zT_M) (N := 30) (by decide) rfl rfl (by decide) (fun w h => List.mem_cons_of_mem _ (zu_M w h)) ⟨rfl, rfl, rfl⟩ (List.mem_cons_of_mem _ zf_M_7) rfl (fun _ => rfl) (by decide +kernel)) ?_
  refine zt_cons (zs_aload_n (k := 0) (by decide +kernel) rfl) ?_
  refine zt_cons (zs_gc (j := 8) (C := "CaseTreeModel") (T := zT_M) (N := 30) (by decide) rfl rfl (by decide) (fun w h => List.mem_cons_of_mem _ (zu_M w h)) ⟨rfl, rfl, rfl⟩ (List.mem_cons_of_mem _ zf_M_19) rfl (fun _ => rfl) (by decide +kernel)) ?_
  refine zt_cons (zs_iload_n (k := 2) (by decide +kernel) rfl) ?_
  refine zt_cons (zs_ia (by decide +kernel)) ?_
  refine zt_cons (zs_ia (by decide +kernel)) ?_
  refine zt_cons (zs_ifeq (off := 7) (by decide +kernel) (by decide)) ?_
  refine zt_cons (zs_iconst (n := (-1)) (by decide +kernel) (by decide)) ?_
  refine zt_cons (zs_goto (off := 9) (by decide +kernel) (by decide)) ?_
  refine zt_cons (zs_aload_n (k := 0) (by decide +kernel) rfl) ?_
  refine zt_cons (zs_gc (j := 9) (C := "CaseTreeModel") (T := zT_M) (N := 30) (by decide) rfl rfl (by decide) (fun w h => List.mem_cons_of_mem _ (zu_M w h)) ⟨rfl, rfl, rfl⟩ (List.mem_cons_of_mem _ zf_M_22) rfl (fun _ => rfl) (by decide +kernel)) ?_
  refine zt_cons (zs_iload_n (k := 2) (by decide +kernel) rfl) ?_
  refine zt_cons (zs_ia (by decide +kernel)) ?_
  refine zt_cons (zs_ir rfl (by decide +kernel)) ?_
  exact zt_nil
