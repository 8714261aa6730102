set_option maxRecDepth 20000 in
set_option maxHeartbeats 4000000 in
theorem zok_M_child {Ex : ze_G → State → Prop} : ∀ pc, ze_snd zI Ex zi_M_child pc (ze_lk t_M_child pc) := by
  refine zt_cons (zs_aload_n (k := 0) (by decide +kernel) rfl) ?_
  refine zt_cons (zs_iload_n (k := 1) (by decide +kernel) rfl) ?_
  refine zt_cons (zs_cv (n := 1) (x := 220) (C := "CaseTreeModel") (T := zT_M) (N := 30) zI_121 rfl rfl (by decide) rfl zl_M_220 zim_M_at zsel_M_at zl_ini_M zc_M_at (by decide +kernel) (by decide) (by decide) (by decide +kernel)) ?_
  refine zt_cons (zs_istore_n (k := 3) (by decide +kernel) rfl (by decide)) ?_
  refine zt_cons (zs_iload_n (k := 3) (by decide +kernel) rfl) ?_
  refine zt_cons (zs_iflt (off := 30) (by decide +kernel) (by decide)) ?_
  refine zt_cons (zs_aload_n (k := 0) (by decide +kernel) rfl) ?_
  refine zt_cons (zs_gc (j := 8) (C := "CaseTreeModel") (T := zT_M) (N := 30) (by decide) rfl rfl (by decide) (fun w h => List.mem_cons_of_mem _ (zu_M w h)) ⟨rfl, rfl, rfl⟩ (List.mem_cons_of_mem _ zf_M_19) rfl (fun _ => rfl) (by decide +kernel)) ?_
  refine zt_cons (zs_iload_n (k := 3) (by decide +kernel) rfl) ?_
  refine zt_cons (zs_ia (by decide +kernel)) ?_
  refine zt_cons (zs_iflt (off := 21) (by decide +kernel) (by decide)) ?_
  refine zt_cons (zs_iload_n (k := 2) (by decide +kernel) rfl) ?_
  refine zt_cons (zs_iflt (off := 17) (by decide +kernel) (by decide)) ?_
  refine zt_cons (zs_iload_n (k := 2) (by decide +kernel) rfl) ?_
  refine zt_cons (zs_aload_n (k := 0) (by decide +kernel) rfl) ?_
  refine zt_cons (zs_aload_n (k := 0) (by decide +kernel) rfl) ?_
  refine zt_cons (zs_gc (j := 8) (C := "CaseTreeModel") (T := zT_M) (N := 30) (by decide) rfl rfl (by decide) (fun w h => List.mem_cons_of_mem _ (zu_M w h)) ⟨rfl, rfl, rfl⟩ (List.mem_cons_of_mem _ zf_M_19) rfl (fun _ => rfl) (by decide +kernel)) ?_
  refine zt_cons (zs_iload_n (k := 3) (by decide +kernel) rfl) ?_
  refine zt_cons (zs_ia (by decide +kernel)) ?_
  refine zt_cons (zs_cv (n := 1) (x := 152) (C := "CaseTreeModel") (T := zT_M) (N := 30) zI_88 rfl rfl (by decide) rfl zl_M_152 zim_M_branches zsel_M_branches zl_ini_M zc_M_branches (by decide +kernel) (by decide) (by decide) (by decide +kernel)) ?_
  refine zt_cons (zs_clt (off := 5) (by decide +kernel) (by decide)) ?_
  refine zt_cons (zs_iconst (n := (-1)) (by decide +kernel) (by decide)) ?_
  refine zt_cons (zs_ir rfl (by decide +kernel)) ?_
  refine zt_cons (zs_aload_n (k := 0) (by decide +kernel) rfl) ?_
  refine zt_cons (zs_gc (j := 10) (C := "CaseTreeModel") (T := zT_M) (N := 30) (by decide) rfl rfl (by decide) (fun w h => List.mem_cons_of_mem _ (zu_M w h)) ⟨rfl, rfl, rfl⟩ (List.mem_cons_of_mem _ zf_M_25) rfl (fun _ => rfl) (by decide +kernel)) ?_
  refine zt_cons (zs_iconst (n := 4) (by decide +kernel) (by decide)) ?_
  refine zt_cons (zs_iload_n (k := 3) (by decide +kernel) rfl) ?_
  refine zt_cons (zs_imul (by decide +kernel)) ?_
  refine zt_cons (zs_iload_n (k := 2) (by decide +kernel) rfl) ?_
  refine zt_cons (zs_iadd (by decide +kernel)) ?_
  refine zt_cons (zs_ia (by decide +kernel)) ?_
  refine zt_cons (zs_istore (by decide +kernel) (by decide)) ?_
  refine zt_cons (zs_iconst (n := 0) (by decide +kernel) (by decide)) ?_
  refine zt_cons (zs_istore (by decide +kernel) (by decide)) ?_
  refine zt_cons (zs_iload (by decide +kernel)) ?_
  refine zt_cons (zs_aload_n (k := 0) (by decide +kernel) rfl) ?_
  refine zt_cons (zs_gi (C := "CaseTreeModel") (T := zT_M) (N := 30) (by decide) rfl rfl (by decide) (fun w h => List.mem_cons_of_mem _ (zu_M w h)) ⟨rfl, rfl, rfl⟩ (List.mem_cons_of_mem _ zf_M_178) rfl (by decide +kernel)) ?_
  refine zt_cons (zs_cge (off := 24) (by decide +kernel) (by decide)) ?_
  refine zt_cons (zs_aload_n (k := 0) (by decide +kernel) rfl) ?_
  refine zt_cons (zs_gc (j := 24) (C := "CaseTreeModel") (T := zT_M) (N := 30) (by decide) rfl rfl (by decide) (fun w h => List.mem_cons_of_mem _ (zu_M w h)) ⟨rfl, rfl, rfl⟩ (List.mem_cons_of_mem _ zf_M_46) rfl (fun _ => rfl) (by decide +kernel)) ?_
  refine zt_cons (zs_iload (by decide +kernel)) ?_
  refine zt_cons (zs_ia (by decide +kernel)) ?_
  refine zt_cons (zs_iload (by decide +kernel)) ?_
  refine zt_cons (zs_cne (off := 6) (by decide +kernel) (by decide)) ?_
  refine zt_cons (zs_iload (by decide +kernel)) ?_
  refine zt_cons (zs_ir rfl (by decide +kernel)) ?_
  refine zt_cons (zs_iinc (n := 1) (by decide +kernel) (by decide) (by decide)) ?_
  refine zt_cons (zs_goto (off := -27) (by decide +kernel) (by decide)) ?_
  refine zt_cons (zs_iconst (n := (-1)) (by decide +kernel) (by decide)) ?_
  refine zt_cons (zs_ir rfl (by decide +kernel)) ?_
  exact zt_nil
set_option maxRecDepth 20000 in
set_option maxHeartbeats 4000000 in
theorem zok_M_classOf {Ex : ze_G → State → Prop} : ∀ pc, ze_snd zI Ex zi_M_classOf pc (ze_lk t_M_classOf pc) := by
  refine zt_cons (zs_aload_n (k := 0) (by decide +kernel) rfl) ?_
  refine zt_cons (zs_iload_n (k := 1) (by decide +kernel) rfl) ?_
  refine zt_cons (zs_cv (n := 1) (x := 220) (C := "CaseTreeModel") (T := zT_M) (N := 30) zI_121 rfl rfl (by decide) rfl zl_M_220 zim_M_at zsel_M_at zl_ini_M zc_M_at (by decide +kernel) (by decide) (by decide) (by decide +kernel)) ?_
  refine zt_cons (zs_istore_n (k := 2) (by decide +kernel) rfl (by decide)) ?_
  refine zt_cons (zs_iload_n (k := 2) (by decide +kernel) rfl) ?_
  refine zt_cons (zs_ifge (off := 7) (by decide +kernel) (by decide)) ?_
  refine zt_cons (zs_iconst (n := (-1)) (by decide +kernel) (by decide)) ?_
  refine zt_cons (zs_goto (off := 9) (by decide +kernel) (by decide)) ?_
  refine zt_cons (zs_aload_n (k := 0) (by decide +kernel) rfl) ?_
  refine zt_cons (zs_gc (j := 13) (C := "CaseTreeModel") (T := zT_M) (N := 30) (by decide) rfl rfl (by decide) (fun w h => List.mem_cons_of_mem _ (zu_M w h)) ⟨rfl, rfl, rfl⟩ (List.mem_cons_of_mem _ zf_M_34) rfl (fun _ => rfl) (by decide +kernel)) ?_
  refine zt_cons (zs_iload_n (k := 2) (by decide +kernel) rfl) ?_
  refine zt_cons (zs_ia (by decide +kernel)) ?_
  refine zt_cons (zs_ir rfl (by decide +kernel)) ?_
  exact zt_nil
set_option maxRecDepth 20000 in
set_option maxHeartbeats 4000000 in
theorem zok_M_weight {Ex : ze_G → State → Prop} : ∀ pc, ze_snd zI Ex zi_M_weight pc (ze_lk t_M_weight pc) := by
  refine zt_cons (zs_aload_n (k := 0) (by decide +kernel) rfl) ?_
  refine zt_cons (zs_iload_n (k := 1) (by decide +kernel) rfl) ?_
  refine zt_cons (zs_cv (n := 1) (x := 220) (C := "CaseTreeModel") (T := zT_M) (N := 30) zI_121 rfl rfl (by decide) rfl zl_M_220 zim_M_at zsel_M_at zl_ini_M zc_M_at (by decide +kernel) (by decide) (by decide) (by decide +kernel)) ?_
  refine zt_cons (zs_istore_n (k := 3) (by decide +kernel) rfl (by decide)) ?_
  refine zt_cons (zs_iload_n (k := 3) (by decide +kernel) rfl) ?_
  refine zt_cons (zs_iflt (off := 12) (by decide +kernel) (by decide)) ?_
  refine zt_cons (zs_iload_n (k := 2) (by decide +kernel) rfl) ?_
  refine zt_cons (zs_iflt (off := 8) (by decide +kernel) (by decide)) ?_
  refine zt_cons (zs_iload_n (k := 2) (by decide +kernel) rfl) ?_
  refine zt_cons (zs_iconst (n := 2) (by decide +kernel) (by decide)) ?_
  refine zt_cons (zs_cle (off := 7) (by decide +kernel) (by decide)) ?_
  refine zt_cons (zs_iconst (n := (-1)) (by decide +kernel) (by decide)) ?_
  refine zt_cons (zs_goto (off := 13) (by decide +kernel) (by decide)) ?_
  refine zt_cons (zs_aload_n (k := 0) (by decide +kernel) rfl) ?_
  refine zt_cons (zs_iload_n (k := 3) (by decide +kernel) rfl) ?_
  refine zt_cons (zs_iload_n (k := 2) (by decide +kernel) rfl) ?_
  refine zt_cons (zs_aload_n (k := 0) (by decide +kernel) rfl) ?_
  refine zt_cons (zs_gi (C := "CaseTreeModel") (T := zT_M) (N := 30) (by decide) rfl rfl (by decide) (fun w h => List.mem_cons_of_mem _ (zu_M w h)) ⟨rfl, rfl, rfl⟩ (List.mem_cons_of_mem _ zf_M_142) rfl (by decide +kernel)) ?_
  refine zt_cons (zs_cv (n := 3) (x := 88) (C := "CaseTreeModel") (T := zT_M) (N := 30) zI_85 rfl rfl (by decide) rfl zl_M_88 zim_M_classWeight zsel_M_classWeight zl_ini_M zc_M_classWeight (by decide +kernel) (by decide) (by decide) (by decide +kernel)) ?_
  refine zt_cons (zs_ir rfl (by decide +kernel)) ?_
  exact zt_nil
set_option maxRecDepth 20000 in
set_option maxHeartbeats 4000000 in
theorem zok_M_part {Ex : ze_G → State → Prop} : ∀ pc, ze_snd zI Ex zi_M_part pc (ze_lk t_M_part pc) := by
  refine zt_cons (zs_aload_n (k := 0) (by decide +kernel) rfl) ?_
  refine zt_cons (zs_iload_n (k := 1) (by decide +kernel) rfl) ?_
  refine zt_cons (zs_cv (n := 1) (x := 220) (C := "CaseTreeModel") (T := zT_M) (N := 30) zI_121 rfl rfl (by decide) rfl zl_M_220 zim_M_at zsel_M_at zl_ini_M zc_M_at (by decide +kernel) (by decide) (by decide) (by decide +kernel)) ?_
  refine zt_cons (zs_istore_n (k := 3) (by decide +kernel) rfl (by decide)) ?_
  refine zt_cons (zs_iload_n (k := 3) (by decide +kernel) rfl) ?_
  refine zt_cons (zs_iflt (off := 30) (by decide +kernel) (by decide)) ?_
  refine zt_cons (zs_aload_n (k := 0) (by decide +kernel) rfl) ?_
  refine zt_cons (zs_gc (j := 8) (C := "CaseTreeModel") (T := zT_M) (N := 30) (by decide) rfl rfl (by decide) (fun w h => List.mem_cons_of_mem _ (zu_M w h)) ⟨rfl, rfl, rfl⟩ (List.mem_cons_of_mem _ zf_M_19) rfl (fun _ => rfl) (by decide +kernel)) ?_
  refine zt_cons (zs_iload_n (k := 3) (by decide +kernel) rfl) ?_
  refine zt_cons (zs_ia (by decide +kernel)) ?_
  refine zt_cons (zs_iflt (off := 21) (by decide +kernel) (by decide)) ?_
  refine zt_cons (zs_iload_n (k := 2) (by decide +kernel) rfl) ?_
  refine zt_cons (zs_iflt (off := 17) (by decide +kernel) (by decide)) ?_
  refine zt_cons (zs_iload_n (k := 2) (by decide +kernel) rfl) ?_
  refine zt_cons (zs_aload_n (k := 0) (by decide +kernel) rfl) ?_
  refine zt_cons (zs_aload_n (k := 0) (by decide +kernel) rfl) ?_
  refine zt_cons (zs_gc (j := 8) (C := "CaseTreeModel") (T := zT_M) (N := 30) (by decide) rfl rfl (by decide) (fun w h => List.mem_cons_of_mem _ (zu_M w h)) ⟨rfl, rfl, rfl⟩ (List.mem_cons_of_mem _ zf_M_19) rfl (fun _ => rfl) (by decide +kernel)) ?_
  refine zt_cons (zs_iload_n (k := 3) (by decide +kernel) rfl) ?_
  refine zt_cons (zs_ia (by decide +kernel)) ?_
  refine zt_cons (zs_cv (n := 1) (x := 152) (C := "CaseTreeModel") (T := zT_M) (N := 30) zI_88 rfl rfl (by decide) rfl zl_M_152 zim_M_branches zsel_M_branches zl_ini_M zc_M_branches (by decide +kernel) (by decide) (by decide) (by decide +kernel)) ?_
  refine zt_cons (zs_clt (off := 5) (by decide +kernel) (by decide)) ?_
  refine zt_cons (zs_iconst (n := (-1)) (by decide +kernel) (by decide)) ?_
  refine zt_cons (zs_ir rfl (by decide +kernel)) ?_
  refine zt_cons (zs_aload_n (k := 0) (by decide +kernel) rfl) ?_
  refine zt_cons (zs_iload_n (k := 3) (by decide +kernel) rfl) ?_
  refine zt_cons (zs_aload_n (k := 0) (by decide +kernel) rfl) ?_
  refine zt_cons (zs_gc (j := 8) (C := "CaseTreeModel") (T := zT_M) (N := 30) (by decide) rfl rfl (by decide) (fun w h => List.mem_cons_of_mem _ (zu_M w h)) ⟨rfl, rfl, rfl⟩ (List.mem_cons_of_mem _ zf_M_19) rfl (fun _ => rfl) (by decide +kernel)) ?_
  refine zt_cons (zs_iload_n (k := 3) (by decide +kernel) rfl) ?_
  refine zt_cons (zs_ia (by decide +kernel)) ?_
  refine zt_cons (zs_aload_n (k := 0) (by decide +kernel) rfl) ?_
  refine zt_cons (zs_gc (j := 9) (C := "CaseTreeModel") (T := zT_M) (N := 30) (by decide) rfl rfl (by decide) (fun w h => List.mem_cons_of_mem _ (zu_M w h)) ⟨rfl, rfl, rfl⟩ (List.mem_cons_of_mem _ zf_M_22) rfl (fun _ => rfl) (by decide +kernel)) ?_
  refine zt_cons (zs_iload_n (k := 3) (by decide +kernel) rfl) ?_
  refine zt_cons (zs_ia (by decide +kernel)) ?_
  refine zt_cons (zs_aload_n (k := 0) (by decide +kernel) rfl) ?_
  refine zt_cons (zs_gi (C := "CaseTreeModel") (T := zT_M) (N := 30) (by decide) rfl rfl (by decide) (fun w h => List.mem_cons_of_mem _ (zu_M w h)) ⟨rfl, rfl, rfl⟩ (List.mem_cons_of_mem _ zf_M_142) rfl (by decide +kernel)) ?_
  refine zt_cons (zs_iconst (n := 1) (by decide +kernel) (by decide)) ?_
  refine zt_cons (zs_cv (n := 5) (x := 127) (C := "CaseTreeModel") (T := zT_M) (N := 30) zI_90 rfl rfl (by decide) rfl zl_M_127 zim_M_measure zsel_M_measure zl_ini_M zc_M_measure (by decide +kernel) (by decide) (by decide) (by decide +kernel)) ?_
  refine zt_cons (zs_aload_n (k := 0) (by decide +kernel) rfl) ?_
  refine zt_cons (zs_gc (j := 15) (C := "CaseTreeModel") (T := zT_M) (N := 30) (by decide) rfl rfl (by decide) (fun w h => List.mem_cons_of_mem _ (zu_M w h)) ⟨rfl, rfl, rfl⟩ (List.mem_cons_of_mem _ zf_M_40) rfl (fun _ => rfl) (by decide +kernel)) ?_
  refine zt_cons (zs_iload_n (k := 2) (by decide +kernel) rfl) ?_
  refine zt_cons (zs_ia (by decide +kernel)) ?_
  refine zt_cons (zs_ir rfl (by decide +kernel)) ?_
  exact zt_nil
