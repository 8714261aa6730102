set_option maxRecDepth 20000 in
set_option maxHeartbeats 4000000 in
theorem zok_M_log {Ex : ze_G → State → Prop} : ∀ pc, ze_snd zI Ex zi_M_log pc (ze_lk t_M_log pc) := by
  refine zt_cons (zs_iload_n (k := 1) (by decide +kernel) rfl) ?_
  refine zt_cons (zs_iconst (n := 1) (by decide +kernel) (by decide)) ?_
  refine zt_cons (zs_clt (off := 10) (by decide +kernel) (by decide)) ?_
  refine zt_cons (zs_iload_n (k := 1) (by decide +kernel) rfl) ?_
  refine zt_cons (zs_sipush (n := 32767) (by decide +kernel) (by decide)) ?_
  refine zt_cons (zs_cle (off := 7) (by decide +kernel) (by decide)) ?_
  refine zt_cons (zs_iconst (n := (-1)) (by decide +kernel) (by decide)) ?_
  refine zt_cons (zs_goto (off := 7) (by decide +kernel) (by decide)) ?_
  refine zt_cons (zs_iload_n (k := 1) (by decide +kernel) rfl) ?_
  refine zt_cons (zs_cs (x := 65) zI_77 rfl rfl zl_M_65 zs_static_M_logOf zl_ini_M zc_M_logOf (by decide +kernel) (by decide) (by decide) (by decide +kernel)) ?_
  refine zt_cons (zs_ir rfl (by decide +kernel)) ?_
  exact zt_nil
set_option maxRecDepth 20000 in
set_option maxHeartbeats 4000000 in
theorem zok_M_attribute {Ex : ze_G → State → Prop} : ∀ pc, ze_snd zI Ex zi_M_attribute pc (ze_lk t_M_attribute pc) := by
  refine zt_cons (zs_iload_n (k := 1) (by decide +kernel) rfl) ?_
  refine zt_cons (zs_ifeq (off := 13) (by decide +kernel) (by decide)) ?_
  refine zt_cons (zs_iload_n (k := 1) (by decide +kernel) rfl) ?_
  refine zt_cons (zs_iconst (n := 2) (by decide +kernel) (by decide)) ?_
  refine zt_cons (zs_clt (off := 15) (by decide +kernel) (by decide)) ?_
  refine zt_cons (zs_iload_n (k := 1) (by decide +kernel) rfl) ?_
  refine zt_cons (zs_iconst (n := 4) (by decide +kernel) (by decide)) ?_
  refine zt_cons (zs_cgt (off := 10) (by decide +kernel) (by decide)) ?_
  refine zt_cons (zs_aload_n (k := 0) (by decide +kernel) rfl) ?_
  refine zt_cons (zs_gi (C := "CaseTreeModel") (T := zT_M) (N := 30) (by decide) rfl rfl (by decide) (fun w h => List.mem_cons_of_mem _ (zu_M w h)) ⟨rfl, rfl, rfl⟩ (List.mem_cons_of_mem _ zf_M_73) rfl (by decide +kernel)) ?_
  refine zt_cons (zs_ifle (off := 5) (by decide +kernel) (by decide)) ?_
  refine zt_cons (zs_iconst (n := (-1)) (by decide +kernel) (by decide)) ?_
  refine zt_cons (zs_ir rfl (by decide +kernel)) ?_
  refine zt_cons (zs_aload_n (k := 0) (by decide +kernel) rfl) ?_
  refine zt_cons (zs_gi (C := "CaseTreeModel") (T := zT_M) (N := 30) (by decide) rfl rfl (by decide) (fun w h => List.mem_cons_of_mem _ (zu_M w h)) ⟨rfl, rfl, rfl⟩ (List.mem_cons_of_mem _ zf_M_77) rfl (by decide +kernel)) ?_
  refine zt_cons (zs_iconst (n := 4) (by decide +kernel) (by decide)) ?_
  refine zt_cons (zs_cne (off := 6) (by decide +kernel) (by decide)) ?_
  refine zt_cons (zs_bipush (n := (-2)) (by decide +kernel) (by decide)) ?_
  refine zt_cons (zs_ir rfl (by decide +kernel)) ?_
  refine zt_cons (zs_aload_n (k := 0) (by decide +kernel) rfl) ?_
  refine zt_cons (zs_gc (j := 1) (C := "CaseTreeModel") (T := zT_M) (N := 30) (by decide) rfl rfl (by decide) (fun w h => List.mem_cons_of_mem _ (zu_M w h)) ⟨rfl, rfl, rfl⟩ (List.mem_cons_of_mem _ zf_M_7) rfl (fun _ => rfl) (by decide +kernel)) ?_
  refine zt_cons (zs_aload_n (k := 0) (by decide +kernel) rfl) ?_
  refine zt_cons (zs_gi (C := "CaseTreeModel") (T := zT_M) (N := 30) (by decide) rfl rfl (by decide) (fun w h => List.mem_cons_of_mem _ (zu_M w h)) ⟨rfl, rfl, rfl⟩ (List.mem_cons_of_mem _ zf_M_77) rfl (by decide +kernel)) ?_
  refine zt_cons (zs_iload_n (k := 1) (by decide +kernel) rfl) ?_
  refine zt_cons (zs_ias (by decide +kernel)) ?_
  refine zt_cons (zs_aload_n (k := 0) (by decide +kernel) rfl) ?_
  refine zt_cons (zs_dup (by decide +kernel)) ?_
  refine zt_cons (zs_gi (C := "CaseTreeModel") (T := zT_M) (N := 30) (by decide) rfl rfl (by decide) (fun w h => List.mem_cons_of_mem _ (zu_M w h)) ⟨rfl, rfl, rfl⟩ (List.mem_cons_of_mem _ zf_M_77) rfl (by decide +kernel)) ?_
  refine zt_cons (zs_iconst (n := 1) (by decide +kernel) (by decide)) ?_
  refine zt_cons (zs_iadd (by decide +kernel)) ?_
  refine zt_cons (zs_pi (C := "CaseTreeModel") (T := zT_M) (N := 30) (by decide) rfl rfl (by decide) (fun w h => List.mem_cons_of_mem _ (zu_M w h)) zy_M_ok zn_M ⟨rfl, rfl, rfl, rfl⟩ (by decide +kernel) (List.mem_cons_of_mem _ zf_M_77) rfl (by decide +kernel)) ?_
  refine zt_cons (zs_aload_n (k := 0) (by decide +kernel) rfl) ?_
  refine zt_cons (zs_gi (C := "CaseTreeModel") (T := zT_M) (N := 30) (by decide) rfl rfl (by decide) (fun w h => List.mem_cons_of_mem _ (zu_M w h)) ⟨rfl, rfl, rfl⟩ (List.mem_cons_of_mem _ zf_M_77) rfl (by decide +kernel)) ?_
  refine zt_cons (zs_iconst (n := 1) (by decide +kernel) (by decide)) ?_
  refine zt_cons (zs_isub (by decide +kernel)) ?_
  refine zt_cons (zs_ir rfl (by decide +kernel)) ?_
  exact zt_nil
set_option maxRecDepth 20000 in
set_option maxHeartbeats 4000000 in
theorem zok_M_fits {Ex : ze_G → State → Prop} : ∀ pc, ze_snd zI Ex zi_M_fits pc (ze_lk t_M_fits pc) := by
  refine zt_cons (zs_iload_n (k := 1) (by decide +kernel) rfl) ?_
  refine zt_cons (zs_aload_n (k := 0) (by decide +kernel) rfl) ?_
  refine zt_cons (zs_gi (C := "CaseTreeModel") (T := zT_M) (N := 30) (by decide) rfl rfl (by decide) (fun w h => List.mem_cons_of_mem _ (zu_M w h)) ⟨rfl, rfl, rfl⟩ (List.mem_cons_of_mem _ zf_M_77) rfl (by decide +kernel)) ?_
  refine zt_cons (zs_cge (off := 33) (by decide +kernel) (by decide)) ?_
  refine zt_cons (zs_iload_n (k := 2) (by decide +kernel) rfl) ?_
  refine zt_cons (zs_iconst (n := (-1)) (by decide +kernel) (by decide)) ?_
  refine zt_cons (zs_clt (off := 32) (by decide +kernel) (by decide)) ?_
  refine zt_cons (zs_iload_n (k := 2) (by decide +kernel) rfl) ?_
  refine zt_cons (zs_aload_n (k := 0) (by decide +kernel) rfl) ?_
  refine zt_cons (zs_gc (j := 1) (C := "CaseTreeModel") (T := zT_M) (N := 30) (by decide) rfl rfl (by decide) (fun w h => List.mem_cons_of_mem _ (zu_M w h)) ⟨rfl, rfl, rfl⟩ (List.mem_cons_of_mem _ zf_M_7) rfl (fun _ => rfl) (by decide +kernel)) ?_
  refine zt_cons (zs_iload_n (k := 1) (by decide +kernel) rfl) ?_
  refine zt_cons (zs_ia (by decide +kernel)) ?_
  refine zt_cons (zs_ifne (off := 9) (by decide +kernel) (by decide)) ?_
  refine zt_cons (zs_sipush (n := 1000) (by decide +kernel) (by decide)) ?_
  refine zt_cons (zs_goto (off := 9) (by decide +kernel) (by decide)) ?_
  refine zt_cons (zs_aload_n (k := 0) (by decide +kernel) rfl) ?_
  refine zt_cons (zs_gc (j := 1) (C := "CaseTreeModel") (T := zT_M) (N := 30) (by decide) rfl rfl (by decide) (fun w h => List.mem_cons_of_mem _ (zu_M w h)) ⟨rfl, rfl, rfl⟩ (List.mem_cons_of_mem _ zf_M_7) rfl (fun _ => rfl) (by decide +kernel)) ?_
  refine zt_cons (zs_iload_n (k := 1) (by decide +kernel) rfl) ?_
  refine zt_cons (zs_ia (by decide +kernel)) ?_
  refine zt_cons (zs_cge (off := 7) (by decide +kernel) (by decide)) ?_
  refine zt_cons (zs_iconst (n := 1) (by decide +kernel) (by decide)) ?_
  refine zt_cons (zs_goto (off := 4) (by decide +kernel) (by decide)) ?_
  refine zt_cons (zs_iconst (n := 0) (by decide +kernel) (by decide)) ?_
  refine zt_cons (zs_zr rfl (by decide +kernel)) ?_
  exact zt_nil
set_option maxRecDepth 20000 in
set_option maxHeartbeats 4000000 in
theorem zok_M_allFit {Ex : ze_G → State → Prop} : ∀ pc, ze_snd zI Ex zi_M_allFit pc (ze_lk t_M_allFit pc) := by
  refine zt_cons (zs_aload_n (k := 0) (by decide +kernel) rfl) ?_
  refine zt_cons (zs_iconst (n := 0) (by decide +kernel) (by decide)) ?_
  refine zt_cons (zs_iload_n (k := 1) (by decide +kernel) rfl) ?_
  refine zt_cons (zs_cv (n := 2) (x := 80) (C := "CaseTreeModel") (T := zT_M) (N := 30) zI_82 rfl rfl (by decide) rfl zl_M_80 zim_M_fits zsel_M_fits zl_ini_M zc_M_fits (by decide +kernel) (by decide) (by decide) (by decide +kernel)) ?_
  refine zt_cons (zs_ifeq (off := 35) (by decide +kernel) (by decide)) ?_
  refine zt_cons (zs_aload_n (k := 0) (by decide +kernel) rfl) ?_
  refine zt_cons (zs_iconst (n := 1) (by decide +kernel) (by decide)) ?_
  refine zt_cons (zs_iload_n (k := 2) (by decide +kernel) rfl) ?_
  refine zt_cons (zs_cv (n := 2) (x := 80) (C := "CaseTreeModel") (T := zT_M) (N := 30) zI_82 rfl rfl (by decide) rfl zl_M_80 zim_M_fits zsel_M_fits zl_ini_M zc_M_fits (by decide +kernel) (by decide) (by decide) (by decide +kernel)) ?_
  refine zt_cons (zs_ifeq (off := 26) (by decide +kernel) (by decide)) ?_
  refine zt_cons (zs_aload_n (k := 0) (by decide +kernel) rfl) ?_
  refine zt_cons (zs_iconst (n := 2) (by decide +kernel) (by decide)) ?_
  refine zt_cons (zs_iload_n (k := 3) (by decide +kernel) rfl) ?_
  refine zt_cons (zs_cv (n := 2) (x := 80) (C := "CaseTreeModel") (T := zT_M) (N := 30) zI_82 rfl rfl (by decide) rfl zl_M_80 zim_M_fits zsel_M_fits zl_ini_M zc_M_fits (by decide +kernel) (by decide) (by decide) (by decide +kernel)) ?_
  refine zt_cons (zs_ifeq (off := 17) (by decide +kernel) (by decide)) ?_
  refine zt_cons (zs_aload_n (k := 0) (by decide +kernel) rfl) ?_
  refine zt_cons (zs_iconst (n := 3) (by decide +kernel) (by decide)) ?_
  refine zt_cons (zs_iload (by decide +kernel)) ?_
  refine zt_cons (zs_cv (n := 2) (x := 80) (C := "CaseTreeModel") (T := zT_M) (N := 30) zI_82 rfl rfl (by decide) rfl zl_M_80 zim_M_fits zsel_M_fits zl_ini_M zc_M_fits (by decide +kernel) (by decide) (by decide) (by decide +kernel)) ?_
  refine zt_cons (zs_ifeq (off := 7) (by decide +kernel) (by decide)) ?_
  refine zt_cons (zs_iconst (n := 1) (by decide +kernel) (by decide)) ?_
  refine zt_cons (zs_goto (off := 4) (by decide +kernel) (by decide)) ?_
  refine zt_cons (zs_iconst (n := 0) (by decide +kernel) (by decide)) ?_
  refine zt_cons (zs_zr rfl (by decide +kernel)) ?_
  exact zt_nil
set_option maxRecDepth 20000 in
set_option maxHeartbeats 4000000 in
theorem zok_M_add {Ex : ze_G → State → Prop} : ∀ pc, ze_snd zI Ex zi_M_add pc (ze_lk t_M_add pc) := by
  refine zt_cons (zs_iload_n (k := 1) (by decide +kernel) rfl) ?_
  refine zt_cons (zs_iflt (off := 21) (by decide +kernel) (by decide)) ?_
  refine zt_cons (zs_iload_n (k := 1) (by decide +kernel) rfl) ?_
  refine zt_cons (zs_iconst (n := 2) (by decide +kernel) (by decide)) ?_
  refine zt_cons (zs_cgt (off := 16) (by decide +kernel) (by decide)) ?_
  refine zt_cons (zs_aload_n (k := 0) (by decide +kernel) rfl) ?_
  refine zt_cons (zs_iload_n (k := 2) (by decide +kernel) rfl) ?_
  refine zt_cons (zs_iload_n (k := 3) (by decide +kernel) rfl) ?_
  refine zt_cons (zs_iload (by decide +kernel)) ?_
  refine zt_cons (zs_iload (by decide +kernel)) ?_
  refine zt_cons (zs_cv (n := 4) (x := 84) (C := "CaseTreeModel") (T := zT_M) (N := 30) zI_83 rfl rfl (by decide) rfl zl_M_84 zim_M_allFit zsel_M_allFit zl_ini_M zc_M_allFit (by decide +kernel) (by decide) (by decide) (by decide +kernel)) ?_
  refine zt_cons (zs_ifne (off := 5) (by decide +kernel) (by decide)) ?_
  refine zt_cons (zs_iconst (n := (-1)) (by decide +kernel) (by decide)) ?_
  refine zt_cons (zs_ir rfl (by decide +kernel)) ?_
  refine zt_cons (zs_aload_n (k := 0) (by decide +kernel) rfl) ?_
  refine zt_cons (zs_gi (C := "CaseTreeModel") (T := zT_M) (N := 30) (by decide) rfl rfl (by decide) (fun w h => List.mem_cons_of_mem _ (zu_M w h)) ⟨rfl, rfl, rfl⟩ (List.mem_cons_of_mem _ zf_M_73) rfl (by decide +kernel)) ?_
  refine zt_cons (zs_bipush (n := 24) (by decide +kernel) (by decide)) ?_
  refine zt_cons (zs_cne (off := 6) (by decide +kernel) (by decide)) ?_
  refine zt_cons (zs_bipush (n := (-2)) (by decide +kernel) (by decide)) ?_
  refine zt_cons (zs_ir rfl (by decide +kernel)) ?_
  refine zt_cons (zs_aload_n (k := 0) (by decide +kernel) rfl) ?_
  refine zt_cons (zs_gc (j := 3) (C := "CaseTreeModel") (T := zT_M) (N := 30) (by decide) rfl rfl (by decide) (fun w h => List.mem_cons_of_mem _ (zu_M w h)) ⟨rfl, rfl, rfl⟩ (List.mem_cons_of_mem _ zf_M_13) rfl (fun _ => rfl) (by decide +kernel)) ?_
  refine zt_cons (zs_aload_n (k := 0) (by decide +kernel) rfl) ?_
  refine zt_cons (zs_gi (C := "CaseTreeModel") (T := zT_M) (N := 30) (by decide) rfl rfl (by decide) (fun w h => List.mem_cons_of_mem _ (zu_M w h)) ⟨rfl, rfl, rfl⟩ (List.mem_cons_of_mem _ zf_M_73) rfl (by decide +kernel)) ?_
  refine zt_cons (zs_iload_n (k := 1) (by decide +kernel) rfl) ?_
  refine zt_cons (zs_ias (by decide +kernel)) ?_
  refine zt_cons (zs_aload_n (k := 0) (by decide +kernel) rfl) ?_
  refine zt_cons (zs_gc (j := 4) (C := "CaseTreeModel") (T := zT_M) (N := 30) (by decide) rfl rfl (by decide) (fun w h => List.mem_cons_of_mem _ (zu_M w h)) ⟨rfl, rfl, rfl⟩ (List.mem_cons_of_mem _ zf_M_16) rfl (fun _ => rfl) (by decide +kernel)) ?_
  refine zt_cons (zs_iconst (n := 4) (by decide +kernel) (by decide)) ?_
  refine zt_cons (zs_aload_n (k := 0) (by decide +kernel) rfl) ?_
  refine zt_cons (zs_gi (C := "CaseTreeModel") (T := zT_M) (N := 30) (by decide) rfl rfl (by decide) (fun w h => List.mem_cons_of_mem _ (zu_M w h)) ⟨rfl, rfl, rfl⟩ (List.mem_cons_of_mem _ zf_M_73) rfl (by decide +kernel)) ?_
  refine zt_cons (zs_imul (by decide +kernel)) ?_
  refine zt_cons (zs_iload_n (k := 2) (by decide +kernel) rfl) ?_
  refine zt_cons (zs_ias (by decide +kernel)) ?_
  refine zt_cons (zs_aload_n (k := 0) (by decide +kernel) rfl) ?_
  refine zt_cons (zs_gc (j := 4) (C := "CaseTreeModel") (T := zT_M) (N := 30) (by decide) rfl rfl (by decide) (fun w h => List.mem_cons_of_mem _ (zu_M w h)) ⟨rfl, rfl, rfl⟩ (List.mem_cons_of_mem _ zf_M_16) rfl (fun _ => rfl) (by decide +kernel)) ?_
  refine zt_cons (zs_iconst (n := 4) (by decide +kernel) (by decide)) ?_
  refine zt_cons (zs_aload_n (k := 0) (by decide +kernel) rfl) ?_
  refine zt_cons (zs_gi (C := "CaseTreeModel") (T := zT_M) (N := 30) (by decide) rfl rfl (by decide) (fun w h => List.mem_cons_of_mem _ (zu_M w h)) ⟨rfl, rfl, rfl⟩ (List.mem_cons_of_mem _ zf_M_73) rfl (by decide +kernel)) ?_
  refine zt_cons (zs_imul (by decide +kernel)) ?_
  refine zt_cons (zs_iconst (n := 1) (by decide +kernel) (by decide)) ?_
  refine zt_cons (zs_iadd (by decide +kernel)) ?_
  refine zt_cons (zs_iload_n (k := 3) (by decide +kernel) rfl) ?_
  refine zt_cons (zs_ias (by decide +kernel)) ?_
  refine zt_cons (zs_aload_n (k := 0) (by decide +kernel) rfl) ?_
  refine zt_cons (zs_gc (j := 4) (C := "CaseTreeModel") (T := zT_M) (N := 30) (by decide) rfl rfl (by decide) (fun w h => List.mem_cons_of_mem _ (zu_M w h)) ⟨rfl, rfl, rfl⟩ (List.mem_cons_of_mem _ zf_M_16) rfl (fun _ => rfl) (by decide +kernel)) ?_
  refine zt_cons (zs_iconst (n := 4) (by decide +kernel) (by decide)) ?_
  refine zt_cons (zs_aload_n (k := 0) (by decide +kernel) rfl) ?_
  refine zt_cons (zs_gi (C := "CaseTreeModel") (T := zT_M) (N := 30) (by decide) rfl rfl (by decide) (fun w h => List.mem_cons_of_mem _ (zu_M w h)) ⟨rfl, rfl, rfl⟩ (List.mem_cons_of_mem _ zf_M_73) rfl (by decide +kernel)) ?_
  refine zt_cons (zs_imul (by decide +kernel)) ?_
  refine zt_cons (zs_iconst (n := 2) (by decide +kernel) (by decide)) ?_
  refine zt_cons (zs_iadd (by decide +kernel)) ?_
  refine zt_cons (zs_iload (by decide +kernel)) ?_
  refine zt_cons (zs_ias (by decide +kernel)) ?_
  refine zt_cons (zs_aload_n (k := 0) (by decide +kernel) rfl) ?_
  refine zt_cons (zs_gc (j := 4) (C := "CaseTreeModel") (T := zT_M) (N := 30) (by decide) rfl rfl (by decide) (fun w h => List.mem_cons_of_mem _ (zu_M w h)) ⟨rfl, rfl, rfl⟩ (List.mem_cons_of_mem _ zf_M_16) rfl (fun _ => rfl) (by decide +kernel)) ?_
  refine zt_cons (zs_iconst (n := 4) (by decide +kernel) (by decide)) ?_
  refine zt_cons (zs_aload_n (k := 0) (by decide +kernel) rfl) ?_
  refine zt_cons (zs_gi (C := "CaseTreeModel") (T := zT_M) (N := 30) (by decide) rfl rfl (by decide) (fun w h => List.mem_cons_of_mem _ (zu_M w h)) ⟨rfl, rfl, rfl⟩ (List.mem_cons_of_mem _ zf_M_73) rfl (by decide +kernel)) ?_
  refine zt_cons (zs_imul (by decide +kernel)) ?_
  refine zt_cons (zs_iconst (n := 3) (by decide +kernel) (by decide)) ?_
  refine zt_cons (zs_iadd (by decide +kernel)) ?_
  refine zt_cons (zs_iload (by decide +kernel)) ?_
  refine zt_cons (zs_ias (by decide +kernel)) ?_
  refine zt_cons (zs_aload_n (k := 0) (by decide +kernel) rfl) ?_
  refine zt_cons (zs_dup (by decide +kernel)) ?_
  refine zt_cons (zs_gi (C := "CaseTreeModel") (T := zT_M) (N := 30) (by decide) rfl rfl (by decide) (fun w h => List.mem_cons_of_mem _ (zu_M w h)) ⟨rfl, rfl, rfl⟩ (List.mem_cons_of_mem _ zf_M_73) rfl (by decide +kernel)) ?_
  refine zt_cons (zs_iconst (n := 1) (by decide +kernel) (by decide)) ?_
  refine zt_cons (zs_iadd (by decide +kernel)) ?_
  refine zt_cons (zs_pi (C := "CaseTreeModel") (T := zT_M) (N := 30) (by decide) rfl rfl (by decide) (fun w h => List.mem_cons_of_mem _ (zu_M w h)) zy_M_ok zn_M ⟨rfl, rfl, rfl, rfl⟩ (by decide +kernel) (List.mem_cons_of_mem _ zf_M_73) rfl (by decide +kernel)) ?_
  refine zt_cons (zs_aload_n (k := 0) (by decide +kernel) rfl) ?_
  refine zt_cons (zs_gi (C := "CaseTreeModel") (T := zT_M) (N := 30) (by decide) rfl rfl (by decide) (fun w h => List.mem_cons_of_mem _ (zu_M w h)) ⟨rfl, rfl, rfl⟩ (List.mem_cons_of_mem _ zf_M_73) rfl (by decide +kernel)) ?_
  refine zt_cons (zs_iconst (n := 1) (by decide +kernel) (by decide)) ?_
  refine zt_cons (zs_isub (by decide +kernel)) ?_
  refine zt_cons (zs_ir rfl (by decide +kernel)) ?_
  exact zt_nil
set_option maxRecDepth 20000 in
set_option maxHeartbeats 4000000 in
theorem zok_M_classWeight {Ex : ze_G → State → Prop} : ∀ pc, ze_snd zI Ex zi_M_classWeight pc (ze_lk t_M_classWeight pc) := by
  refine zt_cons (zs_iconst (n := 0) (by decide +kernel) (by decide)) ?_
  refine zt_cons (zs_istore (by decide +kernel) (by decide)) ?_
  refine zt_cons (zs_iconst (n := 0) (by decide +kernel) (by decide)) ?_
  refine zt_cons (zs_istore (by decide +kernel) (by decide)) ?_
  refine zt_cons (zs_iload (by decide +kernel)) ?_
  refine zt_cons (zs_iload_n (k := 3) (by decide +kernel) rfl) ?_
  refine zt_cons (zs_cge (off := 42) (by decide +kernel) (by decide)) ?_
  refine zt_cons (zs_aload_n (k := 0) (by decide +kernel) rfl) ?_
  refine zt_cons (zs_gc (j := 3) (C := "CaseTreeModel") (T := zT_M) (N := 30) (by decide) rfl rfl (by decide) (fun w h => List.mem_cons_of_mem _ (zu_M w h)) ⟨rfl, rfl, rfl⟩ (List.mem_cons_of_mem _ zf_M_13) rfl (fun _ => rfl) (by decide +kernel)) ?_
  refine zt_cons (zs_iload (by decide +kernel)) ?_
  refine zt_cons (zs_ia (by decide +kernel)) ?_
  refine zt_cons (zs_iload_n (k := 2) (by decide +kernel) rfl) ?_
  refine zt_cons (zs_cne (off := 21) (by decide +kernel) (by decide)) ?_
  refine zt_cons (zs_iload (by decide +kernel)) ?_
  refine zt_cons (zs_aload_n (k := 0) (by decide +kernel) rfl) ?_
  refine zt_cons (zs_gc (j := 14) (C := "CaseTreeModel") (T := zT_M) (N := 30) (by decide) rfl rfl (by decide) (fun w h => List.mem_cons_of_mem _ (zu_M w h)) ⟨rfl, rfl, rfl⟩ (List.mem_cons_of_mem _ zf_M_37) rfl (fun _ => rfl) (by decide +kernel)) ?_
  refine zt_cons (zs_bipush (n := 24) (by decide +kernel) (by decide)) ?_
  refine zt_cons (zs_iload_n (k := 1) (by decide +kernel) rfl) ?_
  refine zt_cons (zs_imul (by decide +kernel)) ?_
  refine zt_cons (zs_iload (by decide +kernel)) ?_
  refine zt_cons (zs_iadd (by decide +kernel)) ?_
  refine zt_cons (zs_ia (by decide +kernel)) ?_
  refine zt_cons (zs_iadd (by decide +kernel)) ?_
  refine zt_cons (zs_goto (off := 5) (by decide +kernel) (by decide)) ?_
  refine zt_cons (zs_iload (by decide +kernel)) ?_
  refine zt_cons (zs_istore (by decide +kernel) (by decide)) ?_
  refine zt_cons (zs_iinc (n := 1) (by decide +kernel) (by decide) (by decide)) ?_
  refine zt_cons (zs_goto (off := -42) (by decide +kernel) (by decide)) ?_
  refine zt_cons (zs_iload (by decide +kernel)) ?_
  refine zt_cons (zs_ir rfl (by decide +kernel)) ?_
  exact zt_nil
set_option maxRecDepth 20000 in
set_option maxHeartbeats 4000000 in
theorem zok_M_weightOf {Ex : ze_G → State → Prop} : ∀ pc, ze_snd zI Ex zi_M_weightOf pc (ze_lk t_M_weightOf pc) := by
  refine zt_cons (zs_aload_n (k := 0) (by decide +kernel) rfl) ?_
  refine zt_cons (zs_iload_n (k := 1) (by decide +kernel) rfl) ?_
  refine zt_cons (zs_iconst (n := 0) (by decide +kernel) (by decide)) ?_
  refine zt_cons (zs_iload_n (k := 2) (by decide +kernel) rfl) ?_
  refine zt_cons (zs_cv (n := 3) (x := 88) (C := "CaseTreeModel") (T := zT_M) (N := 30) zI_85 rfl rfl (by decide) rfl zl_M_88 zim_M_classWeight zsel_M_classWeight zl_ini_M zc_M_classWeight (by decide +kernel) (by decide) (by decide) (by decide +kernel)) ?_
  refine zt_cons (zs_aload_n (k := 0) (by decide +kernel) rfl) ?_
  refine zt_cons (zs_iload_n (k := 1) (by decide +kernel) rfl) ?_
  refine zt_cons (zs_iconst (n := 1) (by decide +kernel) (by decide)) ?_
  refine zt_cons (zs_iload_n (k := 2) (by decide +kernel) rfl) ?_
  refine zt_cons (zs_cv (n := 3) (x := 88) (C := "CaseTreeModel") (T := zT_M) (N := 30) zI_85 rfl rfl (by decide) rfl zl_M_88 zim_M_classWeight zsel_M_classWeight zl_ini_M zc_M_classWeight (by decide +kernel) (by decide) (by decide) (by decide +kernel)) ?_
  refine zt_cons (zs_iadd (by decide +kernel)) ?_
  refine zt_cons (zs_aload_n (k := 0) (by decide +kernel) rfl) ?_
  refine zt_cons (zs_iload_n (k := 1) (by decide +kernel) rfl) ?_
  refine zt_cons (zs_iconst (n := 2) (by decide +kernel) (by decide)) ?_
  refine zt_cons (zs_iload_n (k := 2) (by decide +kernel) rfl) ?_
  refine zt_cons (zs_cv (n := 3) (x := 88) (C := "CaseTreeModel") (T := zT_M) (N := 30) zI_85 rfl rfl (by decide) rfl zl_M_88 zim_M_classWeight zsel_M_classWeight zl_ini_M zc_M_classWeight (by decide +kernel) (by decide) (by decide) (by decide +kernel)) ?_
  refine zt_cons (zs_iadd (by decide +kernel)) ?_
  refine zt_cons (zs_ir rfl (by decide +kernel)) ?_
  exact zt_nil
set_option maxRecDepth 20000 in
set_option maxHeartbeats 4000000 in
theorem zok_M_heaviest {Ex : ze_G → State → Prop} : ∀ pc, ze_snd zI Ex zi_M_heaviest pc (ze_lk t_M_heaviest pc) := by
  refine zt_cons (zs_iconst (n := 0) (by decide +kernel) (by decide)) ?_
  refine zt_cons (zs_istore_n (k := 3) (by decide +kernel) rfl (by decide)) ?_
  refine zt_cons (zs_iconst (n := 1) (by decide +kernel) (by decide)) ?_
  refine zt_cons (zs_istore (by decide +kernel) (by decide)) ?_
  refine zt_cons (zs_iload (by decide +kernel)) ?_
  refine zt_cons (zs_iconst (n := 3) (by decide +kernel) (by decide)) ?_
  refine zt_cons (zs_cge (off := 34) (by decide +kernel) (by decide)) ?_
  refine zt_cons (zs_aload_n (k := 0) (by decide +kernel) rfl) ?_
  refine zt_cons (zs_iload_n (k := 1) (by decide +kernel) rfl) ?_
  refine zt_cons (zs_iload (by decide +kernel)) ?_
  refine zt_cons (zs_iload_n (k := 2) (by decide +kernel) rfl) ?_
  refine zt_cons (zs_cv (n := 3) (x := 88) (C := "CaseTreeModel") (T := zT_M) (N := 30) zI_85 rfl rfl (by decide) rfl zl_M_88 zim_M_classWeight zsel_M_classWeight zl_ini_M zc_M_classWeight (by decide +kernel) (by decide) (by decide) (by decide +kernel)) ?_
  refine zt_cons (zs_aload_n (k := 0) (by decide +kernel) rfl) ?_
  refine zt_cons (zs_iload_n (k := 1) (by decide +kernel) rfl) ?_
  refine zt_cons (zs_iload_n (k := 3) (by decide +kernel) rfl) ?_
  refine zt_cons (zs_iload_n (k := 2) (by decide +kernel) rfl) ?_
  refine zt_cons (zs_cv (n := 3) (x := 88) (C := "CaseTreeModel") (T := zT_M) (N := 30) zI_85 rfl rfl (by decide) rfl zl_M_88 zim_M_classWeight zsel_M_classWeight zl_ini_M zc_M_classWeight (by decide +kernel) (by decide) (by decide) (by decide +kernel)) ?_
  refine zt_cons (zs_cle (off := 8) (by decide +kernel) (by decide)) ?_
  refine zt_cons (zs_iload (by decide +kernel)) ?_
  refine zt_cons (zs_goto (off := 4) (by decide +kernel) (by decide)) ?_
  refine zt_cons (zs_iload_n (k := 3) (by decide +kernel) rfl) ?_
  refine zt_cons (zs_istore_n (k := 3) (by decide +kernel) rfl (by decide)) ?_
  refine zt_cons (zs_iinc (n := 1) (by decide +kernel) (by decide) (by decide)) ?_
  refine zt_cons (zs_goto (off := -34) (by decide +kernel) (by decide)) ?_
  refine zt_cons (zs_iload_n (k := 3) (by decide +kernel) rfl) ?_
  refine zt_cons (zs_ir rfl (by decide +kernel)) ?_
  exact zt_nil
set_option maxRecDepth 20000 in
set_option maxHeartbeats 4000000 in
theorem zok_M_branches {Ex : ze_G → State → Prop} : ∀ pc, ze_snd zI Ex zi_M_branches pc (ze_lk t_M_branches pc) := by
  refine zt_cons (zs_aload_n (k := 0) (by decide +kernel) rfl) ?_
  refine zt_cons (zs_gc (j := 1) (C := "CaseTreeModel") (T := zT_M) (N := 30) (by decide) rfl rfl (by decide) (fun w h => List.mem_cons_of_mem _ (zu_M w h)) ⟨rfl, rfl, rfl⟩ (List.mem_cons_of_mem _ zf_M_7) rfl (fun _ => rfl) (by decide +kernel)) ?_
  refine zt_cons (zs_iload_n (k := 1) (by decide +kernel) rfl) ?_
  refine zt_cons (zs_ia (by decide +kernel)) ?_
  refine zt_cons (zs_ifne (off := 7) (by decide +kernel) (by decide)) ?_
  refine zt_cons (zs_iconst (n := 2) (by decide +kernel) (by decide)) ?_
  refine zt_cons (zs_goto (off := 9) (by decide +kernel) (by decide)) ?_
  refine zt_cons (zs_aload_n (k := 0) (by decide +kernel) rfl) ?_
  refine zt_cons (zs_gc (j := 1) (C := "CaseTreeModel") (T := zT_M) (N := 30) (by decide) rfl rfl (by decide) (fun w h => List.mem_cons_of_mem _ (zu_M w h)) ⟨rfl, rfl, rfl⟩ (List.mem_cons_of_mem _ zf_M_7) rfl (fun _ => rfl) (by decide +kernel)) ?_
  refine zt_cons (zs_iload_n (k := 1) (by decide +kernel) rfl) ?_
  refine zt_cons (zs_ia (by decide +kernel)) ?_
  refine zt_cons (zs_ir rfl (by decide +kernel)) ?_
  exact zt_nil
set_option maxRecDepth 20000 in
set_option maxHeartbeats 4000000 in
theorem zok_M_branch {Ex : ze_G → State → Prop} : ∀ pc, ze_snd zI Ex zi_M_branch pc (ze_lk t_M_branch pc) := by
  refine zt_cons (zs_aload_n (k := 0) (by decide +kernel) rfl) ?_
  refine zt_cons (zs_gc (j := 1) (C := "CaseTreeModel") (T := zT_M) (N := 30) (by decide) rfl rfl (by decide) (fun w h => List.mem_cons_of_mem _ (zu_M w h)) ⟨rfl, rfl, rfl⟩ (List.mem_cons_of_mem _ zf_M_7) rfl (fun _ => rfl) (by decide +kernel)) ?_
  refine zt_cons (zs_iload_n (k := 1) (by decide +kernel) rfl) ?_
  refine zt_cons (zs_ia (by decide +kernel)) ?_
  refine zt_cons (zs_ifeq (off := 7) (by decide +kernel) (by decide)) ?_
  refine zt_cons (zs_iload_n (k := 3) (by decide +kernel) rfl) ?_
  refine zt_cons (zs_goto (off := 13) (by decide +kernel) (by decide)) ?_
  refine zt_cons (zs_iload_n (k := 3) (by decide +kernel) rfl) ?_
  refine zt_cons (zs_iload_n (k := 2) (by decide +kernel) rfl) ?_
  refine zt_cons (zs_cgt (off := 7) (by decide +kernel) (by decide)) ?_
  refine zt_cons (zs_iconst (n := 0) (by decide +kernel) (by decide)) ?_
  refine zt_cons (zs_goto (off := 4) (by decide +kernel) (by decide)) ?_
  refine zt_cons (zs_iconst (n := 1) (by decide +kernel) (by decide)) ?_
  refine zt_cons (zs_ir rfl (by decide +kernel)) ?_
  exact zt_nil
