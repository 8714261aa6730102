set_option maxRecDepth 20000 in
set_option maxHeartbeats 4000000 in
theorem zok_M_leafErrors {Ex : ze_G → State → Prop} : ∀ pc, ze_snd zI Ex zi_M_leafErrors pc (ze_lk t_M_leafErrors pc) := by
  refine zt_cons (zs_aload_n (k := 0) (by decide +kernel) rfl) ?_
  refine zt_cons (zs_iload_n (k := 1) (by decide +kernel) rfl) ?_
  refine zt_cons (zs_aload_n (k := 0) (by decide +kernel) rfl) ?_
  refine zt_cons (zs_gi (C := "CaseTreeModel") (T := zT_M) (N := 30) (by decide) rfl rfl (by decide) (fun w h => List.mem_cons_of_mem _ (zu_M w h)) ⟨rfl, rfl, rfl⟩ (List.mem_cons_of_mem _ zf_M_142) rfl (by decide +kernel)) ?_
  refine zt_cons (zs_cv (n := 2) (x := 95) (C := "CaseTreeModel") (T := zT_M) (N := 30) zI_86 rfl rfl (by decide) rfl zl_M_95 zim_M_weightOf zsel_M_weightOf zl_ini_M zc_M_weightOf (by decide +kernel) (by decide) (by decide) (by decide +kernel)) ?_
  refine zt_cons (zs_istore_n (k := 3) (by decide +kernel) rfl (by decide)) ?_
  refine zt_cons (zs_iload_n (k := 3) (by decide +kernel) rfl) ?_
  refine zt_cons (zs_ifne (off := 7) (by decide +kernel) (by decide)) ?_
  refine zt_cons (zs_iconst (n := 0) (by decide +kernel) (by decide)) ?_
  refine zt_cons (zs_goto (off := 25) (by decide +kernel) (by decide)) ?_
  refine zt_cons (zs_iload_n (k := 3) (by decide +kernel) rfl) ?_
  refine zt_cons (zs_aload_n (k := 0) (by decide +kernel) rfl) ?_
  refine zt_cons (zs_iload_n (k := 1) (by decide +kernel) rfl) ?_
  refine zt_cons (zs_aload_n (k := 0) (by decide +kernel) rfl) ?_
  refine zt_cons (zs_iload_n (k := 1) (by decide +kernel) rfl) ?_
  refine zt_cons (zs_aload_n (k := 0) (by decide +kernel) rfl) ?_
  refine zt_cons (zs_gi (C := "CaseTreeModel") (T := zT_M) (N := 30) (by decide) rfl rfl (by decide) (fun w h => List.mem_cons_of_mem _ (zu_M w h)) ⟨rfl, rfl, rfl⟩ (List.mem_cons_of_mem _ zf_M_142) rfl (by decide +kernel)) ?_
  refine zt_cons (zs_cv (n := 2) (x := 155) (C := "CaseTreeModel") (T := zT_M) (N := 30) zI_87 rfl rfl (by decide) rfl zl_M_155 zim_M_heaviest zsel_M_heaviest zl_ini_M zc_M_heaviest (by decide +kernel) (by decide) (by decide) (by decide +kernel)) ?_
  refine zt_cons (zs_aload_n (k := 0) (by decide +kernel) rfl) ?_
  refine zt_cons (zs_gi (C := "CaseTreeModel") (T := zT_M) (N := 30) (by decide) rfl rfl (by decide) (fun w h => List.mem_cons_of_mem _ (zu_M w h)) ⟨rfl, rfl, rfl⟩ (List.mem_cons_of_mem _ zf_M_142) rfl (by decide +kernel)) ?_
  refine zt_cons (zs_cv (n := 3) (x := 88) (C := "CaseTreeModel") (T := zT_M) (N := 30) zI_85 rfl rfl (by decide) rfl zl_M_88 zim_M_classWeight zsel_M_classWeight zl_ini_M zc_M_classWeight (by decide +kernel) (by decide) (by decide) (by decide +kernel)) ?_
  refine zt_cons (zs_isub (by decide +kernel)) ?_
  refine zt_cons (zs_iload_n (k := 2) (by decide +kernel) rfl) ?_
  refine zt_cons (zs_iadd (by decide +kernel)) ?_
  refine zt_cons (zs_ir rfl (by decide +kernel)) ?_
  exact zt_nil
set_option maxRecDepth 20000 in
set_option maxHeartbeats 4000000 in
theorem zok_M_errors {Ex : ze_G → State → Prop} : ∀ pc, ze_snd zI Ex zi_M_errors pc (ze_lk t_M_errors pc) := by
  refine zt_cons (zs_iconst (n := 0) (by decide +kernel) (by decide)) ?_
  refine zt_cons (zs_istore (by decide +kernel) (by decide)) ?_
  refine zt_cons (zs_aload_n (k := 0) (by decide +kernel) rfl) ?_
  refine zt_cons (zs_iload_n (k := 1) (by decide +kernel) rfl) ?_
  refine zt_cons (zs_cv (n := 1) (x := 181) (C := "CaseTreeModel") (T := zT_M) (N := 30) zI_101 rfl rfl (by decide) rfl zl_M_181 zim_M_list zsel_M_list zl_ini_M zc_M_list (by decide +kernel) (by decide) (by decide) (by decide +kernel)) ?_
  refine zt_cons (zs_iconst (n := 0) (by decide +kernel) (by decide)) ?_
  refine zt_cons (zs_istore (by decide +kernel) (by decide)) ?_
  refine zt_cons (zs_iload (by decide +kernel)) ?_
  refine zt_cons (zs_aload_n (k := 0) (by decide +kernel) rfl) ?_
  refine zt_cons (zs_gi (C := "CaseTreeModel") (T := zT_M) (N := 30) (by decide) rfl rfl (by decide) (fun w h => List.mem_cons_of_mem _ (zu_M w h)) ⟨rfl, rfl, rfl⟩ (List.mem_cons_of_mem _ zf_M_178) rfl (by decide +kernel)) ?_
  refine zt_cons (zs_cge (off := 48) (by decide +kernel) (by decide)) ?_
  refine zt_cons (zs_aload_n (k := 0) (by decide +kernel) rfl) ?_
  refine zt_cons (zs_gc (j := 8) (C := "CaseTreeModel") (T := zT_M) (N := 30) (by decide) rfl rfl (by decide) (fun w h => List.mem_cons_of_mem _ (zu_M w h)) ⟨rfl, rfl, rfl⟩ (List.mem_cons_of_mem _ zf_M_19) rfl (fun _ => rfl) (by decide +kernel)) ?_
  refine zt_cons (zs_aload_n (k := 0) (by decide +kernel) rfl) ?_
  refine zt_cons (zs_gc (j := 24) (C := "CaseTreeModel") (T := zT_M) (N := 30) (by decide) rfl rfl (by decide) (fun w h => List.mem_cons_of_mem _ (zu_M w h)) ⟨rfl, rfl, rfl⟩ (List.mem_cons_of_mem _ zf_M_46) rfl (fun _ => rfl) (by decide +kernel)) ?_
  refine zt_cons (zs_iload (by decide +kernel)) ?_
  refine zt_cons (zs_ia (by decide +kernel)) ?_
  refine zt_cons (zs_ia (by decide +kernel)) ?_
  refine zt_cons (zs_ifge (off := 23) (by decide +kernel) (by decide)) ?_
  refine zt_cons (zs_iload (by decide +kernel)) ?_
  refine zt_cons (zs_aload_n (k := 0) (by decide +kernel) rfl) ?_
  refine zt_cons (zs_aload_n (k := 0) (by decide +kernel) rfl) ?_
  refine zt_cons (zs_gc (j := 24) (C := "CaseTreeModel") (T := zT_M) (N := 30) (by decide) rfl rfl (by decide) (fun w h => List.mem_cons_of_mem _ (zu_M w h)) ⟨rfl, rfl, rfl⟩ (List.mem_cons_of_mem _ zf_M_46) rfl (fun _ => rfl) (by decide +kernel)) ?_
  refine zt_cons (zs_iload (by decide +kernel)) ?_
  refine zt_cons (zs_ia (by decide +kernel)) ?_
  refine zt_cons (zs_iload_n (k := 2) (by decide +kernel) rfl) ?_
  refine zt_cons (zs_iadd (by decide +kernel)) ?_
  refine zt_cons (zs_iload_n (k := 3) (by decide +kernel) rfl) ?_
  refine zt_cons (zs_cv (n := 2) (x := 185) (C := "CaseTreeModel") (T := zT_M) (N := 30) zI_102 rfl rfl (by decide) rfl zl_M_185 zim_M_leafErrors zsel_M_leafErrors zl_ini_M zc_M_leafErrors (by decide +kernel) (by decide) (by decide) (by decide +kernel)) ?_
  refine zt_cons (zs_iadd (by decide +kernel)) ?_
  refine zt_cons (zs_goto (off := 5) (by decide +kernel) (by decide)) ?_
  refine zt_cons (zs_iload (by decide +kernel)) ?_
  refine zt_cons (zs_istore (by decide +kernel) (by decide)) ?_
  refine zt_cons (zs_iinc (n := 1) (by decide +kernel) (by decide) (by decide)) ?_
  refine zt_cons (zs_goto (off := -51) (by decide +kernel) (by decide)) ?_
  refine zt_cons (zs_iload (by decide +kernel)) ?_
  refine zt_cons (zs_ir rfl (by decide +kernel)) ?_
  exact zt_nil
set_option maxRecDepth 20000 in
set_option maxHeartbeats 4000000 in
theorem zok_M_copyWeights {Ex : ze_G → State → Prop} : ∀ pc, ze_snd zI Ex zi_M_copyWeights pc (ze_lk t_M_copyWeights pc) := by
  refine zt_cons (zs_iconst (n := 0) (by decide +kernel) (by decide)) ?_
  refine zt_cons (zs_istore_n (k := 3) (by decide +kernel) rfl (by decide)) ?_
  refine zt_cons (zs_iload_n (k := 3) (by decide +kernel) rfl) ?_
  refine zt_cons (zs_bipush (n := 24) (by decide +kernel) (by decide)) ?_
  refine zt_cons (zs_cge (off := 31) (by decide +kernel) (by decide)) ?_
  refine zt_cons (zs_aload_n (k := 0) (by decide +kernel) rfl) ?_
  refine zt_cons (zs_gc (j := 14) (C := "CaseTreeModel") (T := zT_M) (N := 30) (by decide) rfl rfl (by decide) (fun w h => List.mem_cons_of_mem _ (zu_M w h)) ⟨rfl, rfl, rfl⟩ (List.mem_cons_of_mem _ zf_M_37) rfl (fun _ => rfl) (by decide +kernel)) ?_
  refine zt_cons (zs_bipush (n := 24) (by decide +kernel) (by decide)) ?_
  refine zt_cons (zs_iload_n (k := 2) (by decide +kernel) rfl) ?_
  refine zt_cons (zs_imul (by decide +kernel)) ?_
  refine zt_cons (zs_iload_n (k := 3) (by decide +kernel) rfl) ?_
  refine zt_cons (zs_iadd (by decide +kernel)) ?_
  refine zt_cons (zs_aload_n (k := 0) (by decide +kernel) rfl) ?_
  refine zt_cons (zs_gc (j := 14) (C := "CaseTreeModel") (T := zT_M) (N := 30) (by decide) rfl rfl (by decide) (fun w h => List.mem_cons_of_mem _ (zu_M w h)) ⟨rfl, rfl, rfl⟩ (List.mem_cons_of_mem _ zf_M_37) rfl (fun _ => rfl) (by decide +kernel)) ?_
  refine zt_cons (zs_bipush (n := 24) (by decide +kernel) (by decide)) ?_
  refine zt_cons (zs_iload_n (k := 1) (by decide +kernel) rfl) ?_
  refine zt_cons (zs_imul (by decide +kernel)) ?_
  refine zt_cons (zs_iload_n (k := 3) (by decide +kernel) rfl) ?_
  refine zt_cons (zs_iadd (by decide +kernel)) ?_
  refine zt_cons (zs_ia (by decide +kernel)) ?_
  refine zt_cons (zs_ias (by decide +kernel)) ?_
  refine zt_cons (zs_iinc (n := 1) (by decide +kernel) (by decide) (by decide)) ?_
  refine zt_cons (zs_goto (off := -31) (by decide +kernel) (by decide)) ?_
  refine zt_cons (zs_vr rfl (by decide +kernel)) ?_
  exact zt_nil
set_option maxRecDepth 20000 in
set_option maxHeartbeats 4000000 in
theorem zok_M_wouldBe {Ex : ze_G → State → Prop} : ∀ pc, ze_snd zI Ex zi_M_wouldBe pc (ze_lk t_M_wouldBe pc) := by
  refine zt_cons (zs_aload_n (k := 0) (by decide +kernel) rfl) ?_
  refine zt_cons (zs_iload_n (k := 1) (by decide +kernel) rfl) ?_
  refine zt_cons (zs_iload_n (k := 2) (by decide +kernel) rfl) ?_
  refine zt_cons (zs_bipush (n := 96) (by decide +kernel) (by decide)) ?_
  refine zt_cons (zs_iadd (by decide +kernel)) ?_
  refine zt_cons (zs_cv (n := 2) (x := 188) (C := "CaseTreeModel") (T := zT_M) (N := 30) zI_104 rfl rfl (by decide) rfl zl_M_188 zim_M_copyWeights zsel_M_copyWeights zl_ini_M zc_M_copyWeights (by decide +kernel) (by decide) (by decide) (by decide +kernel)) ?_
  refine zt_cons (zs_aload_n (k := 0) (by decide +kernel) rfl) ?_
  refine zt_cons (zs_iload_n (k := 2) (by decide +kernel) rfl) ?_
  refine zt_cons (zs_cv (n := 1) (x := 181) (C := "CaseTreeModel") (T := zT_M) (N := 30) zI_101 rfl rfl (by decide) rfl zl_M_181 zim_M_list zsel_M_list zl_ini_M zc_M_list (by decide +kernel) (by decide) (by decide) (by decide +kernel)) ?_
  refine zt_cons (zs_iconst (n := 0) (by decide +kernel) (by decide)) ?_
  refine zt_cons (zs_istore (by decide +kernel) (by decide)) ?_
  refine zt_cons (zs_iload (by decide +kernel)) ?_
  refine zt_cons (zs_aload_n (k := 0) (by decide +kernel) rfl) ?_
  refine zt_cons (zs_gi (C := "CaseTreeModel") (T := zT_M) (N := 30) (by decide) rfl rfl (by decide) (fun w h => List.mem_cons_of_mem _ (zu_M w h)) ⟨rfl, rfl, rfl⟩ (List.mem_cons_of_mem _ zf_M_178) rfl (by decide +kernel)) ?_
  refine zt_cons (zs_cge (off := 37) (by decide +kernel) (by decide)) ?_
  refine zt_cons (zs_aload_n (k := 0) (by decide +kernel) rfl) ?_
  refine zt_cons (zs_gc (j := 8) (C := "CaseTreeModel") (T := zT_M) (N := 30) (by decide) rfl rfl (by decide) (fun w h => List.mem_cons_of_mem _ (zu_M w h)) ⟨rfl, rfl, rfl⟩ (List.mem_cons_of_mem _ zf_M_19) rfl (fun _ => rfl) (by decide +kernel)) ?_
  refine zt_cons (zs_aload_n (k := 0) (by decide +kernel) rfl) ?_
  refine zt_cons (zs_gc (j := 24) (C := "CaseTreeModel") (T := zT_M) (N := 30) (by decide) rfl rfl (by decide) (fun w h => List.mem_cons_of_mem _ (zu_M w h)) ⟨rfl, rfl, rfl⟩ (List.mem_cons_of_mem _ zf_M_46) rfl (fun _ => rfl) (by decide +kernel)) ?_
  refine zt_cons (zs_iload (by decide +kernel)) ?_
  refine zt_cons (zs_ia (by decide +kernel)) ?_
  refine zt_cons (zs_ia (by decide +kernel)) ?_
  refine zt_cons (zs_iflt (off := 16) (by decide +kernel) (by decide)) ?_
  refine zt_cons (zs_aload_n (k := 0) (by decide +kernel) rfl) ?_
  refine zt_cons (zs_aload_n (k := 0) (by decide +kernel) rfl) ?_
  refine zt_cons (zs_gc (j := 24) (C := "CaseTreeModel") (T := zT_M) (N := 30) (by decide) rfl rfl (by decide) (fun w h => List.mem_cons_of_mem _ (zu_M w h)) ⟨rfl, rfl, rfl⟩ (List.mem_cons_of_mem _ zf_M_46) rfl (fun _ => rfl) (by decide +kernel)) ?_
  refine zt_cons (zs_iload (by decide +kernel)) ?_
  refine zt_cons (zs_ia (by decide +kernel)) ?_
  refine zt_cons (zs_bipush (n := 96) (by decide +kernel) (by decide)) ?_
  refine zt_cons (zs_cv (n := 2) (x := 164) (C := "CaseTreeModel") (T := zT_M) (N := 30) zI_98 rfl rfl (by decide) rfl zl_M_164 zim_M_sendDown zsel_M_sendDown zl_ini_M zc_M_sendDown (by decide +kernel) (by decide) (by decide) (by decide +kernel)) ?_
  refine zt_cons (zs_iinc (n := 1) (by decide +kernel) (by decide) (by decide)) ?_
  refine zt_cons (zs_goto (off := -40) (by decide +kernel) (by decide)) ?_
  refine zt_cons (zs_aload_n (k := 0) (by decide +kernel) rfl) ?_
  refine zt_cons (zs_iload_n (k := 2) (by decide +kernel) rfl) ?_
  refine zt_cons (zs_bipush (n := 96) (by decide +kernel) (by decide)) ?_
  refine zt_cons (zs_iload_n (k := 3) (by decide +kernel) rfl) ?_
  refine zt_cons (zs_cv (n := 3) (x := 191) (C := "CaseTreeModel") (T := zT_M) (N := 30) zI_103 rfl rfl (by decide) rfl zl_M_191 zim_M_errors zsel_M_errors zl_ini_M zc_M_errors (by decide +kernel) (by decide) (by decide) (by decide +kernel)) ?_
  refine zt_cons (zs_ir rfl (by decide +kernel)) ?_
  exact zt_nil
set_option maxRecDepth 20000 in
set_option maxHeartbeats 4000000 in
theorem zok_M_replace {Ex : ze_G → State → Prop} : ∀ pc, ze_snd zI Ex zi_M_replace pc (ze_lk t_M_replace pc) := by
  refine zt_cons (zs_aload_n (k := 0) (by decide +kernel) rfl) ?_
  refine zt_cons (zs_iload_n (k := 2) (by decide +kernel) rfl) ?_
  refine zt_cons (zs_cv (n := 1) (x := 181) (C := "CaseTreeModel") (T := zT_M) (N := 30) zI_101 rfl rfl (by decide) rfl zl_M_181 zim_M_list zsel_M_list zl_ini_M zc_M_list (by decide +kernel) (by decide) (by decide) (by decide +kernel)) ?_
  refine zt_cons (zs_iconst (n := 0) (by decide +kernel) (by decide)) ?_
  refine zt_cons (zs_istore_n (k := 3) (by decide +kernel) rfl (by decide)) ?_
  refine zt_cons (zs_iload_n (k := 3) (by decide +kernel) rfl) ?_
  refine zt_cons (zs_aload_n (k := 0) (by decide +kernel) rfl) ?_
  refine zt_cons (zs_gi (C := "CaseTreeModel") (T := zT_M) (N := 30) (by decide) rfl rfl (by decide) (fun w h => List.mem_cons_of_mem _ (zu_M w h)) ⟨rfl, rfl, rfl⟩ (List.mem_cons_of_mem _ zf_M_178) rfl (by decide +kernel)) ?_
  refine zt_cons (zs_cge (off := 70) (by decide +kernel) (by decide)) ?_
  refine zt_cons (zs_aload_n (k := 0) (by decide +kernel) rfl) ?_
  refine zt_cons (zs_aload_n (k := 0) (by decide +kernel) rfl) ?_
  refine zt_cons (zs_gc (j := 24) (C := "CaseTreeModel") (T := zT_M) (N := 30) (by decide) rfl rfl (by decide) (fun w h => List.mem_cons_of_mem _ (zu_M w h)) ⟨rfl, rfl, rfl⟩ (List.mem_cons_of_mem _ zf_M_46) rfl (fun _ => rfl) (by decide +kernel)) ?_
  refine zt_cons (zs_iload_n (k := 3) (by decide +kernel) rfl) ?_
  refine zt_cons (zs_ia (by decide +kernel)) ?_
  refine zt_cons (zs_bipush (n := 96) (by decide +kernel) (by decide)) ?_
  refine zt_cons (zs_iadd (by decide +kernel)) ?_
  refine zt_cons (zs_aload_n (k := 0) (by decide +kernel) rfl) ?_
  refine zt_cons (zs_gc (j := 24) (C := "CaseTreeModel") (T := zT_M) (N := 30) (by decide) rfl rfl (by decide) (fun w h => List.mem_cons_of_mem _ (zu_M w h)) ⟨rfl, rfl, rfl⟩ (List.mem_cons_of_mem _ zf_M_46) rfl (fun _ => rfl) (by decide +kernel)) ?_
  refine zt_cons (zs_iload_n (k := 3) (by decide +kernel) rfl) ?_
  refine zt_cons (zs_ia (by decide +kernel)) ?_
  refine zt_cons (zs_cv (n := 2) (x := 188) (C := "CaseTreeModel") (T := zT_M) (N := 30) zI_104 rfl rfl (by decide) rfl zl_M_188 zim_M_copyWeights zsel_M_copyWeights zl_ini_M zc_M_copyWeights (by decide +kernel) (by decide) (by decide) (by decide +kernel)) ?_
  refine zt_cons (zs_aload_n (k := 0) (by decide +kernel) rfl) ?_
  refine zt_cons (zs_aload_n (k := 0) (by decide +kernel) rfl) ?_
  refine zt_cons (zs_gc (j := 24) (C := "CaseTreeModel") (T := zT_M) (N := 30) (by decide) rfl rfl (by decide) (fun w h => List.mem_cons_of_mem _ (zu_M w h)) ⟨rfl, rfl, rfl⟩ (List.mem_cons_of_mem _ zf_M_46) rfl (fun _ => rfl) (by decide +kernel)) ?_
  refine zt_cons (zs_iload_n (k := 3) (by decide +kernel) rfl) ?_
  refine zt_cons (zs_ia (by decide +kernel)) ?_
  refine zt_cons (zs_aload_n (k := 0) (by decide +kernel) rfl) ?_
  refine zt_cons (zs_gi (C := "CaseTreeModel") (T := zT_M) (N := 30) (by decide) rfl rfl (by decide) (fun w h => List.mem_cons_of_mem _ (zu_M w h)) ⟨rfl, rfl, rfl⟩ (List.mem_cons_of_mem _ zf_M_142) rfl (by decide +kernel)) ?_
  refine zt_cons (zs_cv (n := 2) (x := 95) (C := "CaseTreeModel") (T := zT_M) (N := 30) zI_86 rfl rfl (by decide) rfl zl_M_95 zim_M_weightOf zsel_M_weightOf zl_ini_M zc_M_weightOf (by decide +kernel) (by decide) (by decide) (by decide +kernel)) ?_
  refine zt_cons (zs_ifle (off := 28) (by decide +kernel) (by decide)) ?_
  refine zt_cons (zs_aload_n (k := 0) (by decide +kernel) rfl) ?_
  refine zt_cons (zs_gc (j := 13) (C := "CaseTreeModel") (T := zT_M) (N := 30) (by decide) rfl rfl (by decide) (fun w h => List.mem_cons_of_mem _ (zu_M w h)) ⟨rfl, rfl, rfl⟩ (List.mem_cons_of_mem _ zf_M_34) rfl (fun _ => rfl) (by decide +kernel)) ?_
  refine zt_cons (zs_aload_n (k := 0) (by decide +kernel) rfl) ?_
  refine zt_cons (zs_gc (j := 24) (C := "CaseTreeModel") (T := zT_M) (N := 30) (by decide) rfl rfl (by decide) (fun w h => List.mem_cons_of_mem _ (zu_M w h)) ⟨rfl, rfl, rfl⟩ (List.mem_cons_of_mem _ zf_M_46) rfl (fun _ => rfl) (by decide +kernel)) ?_
  refine zt_cons (zs_iload_n (k := 3) (by decide +kernel) rfl) ?_
  refine zt_cons (zs_ia (by decide +kernel)) ?_
  refine zt_cons (zs_aload_n (k := 0) (by decide +kernel) rfl) ?_
  refine zt_cons (zs_aload_n (k := 0) (by decide +kernel) rfl) ?_
  refine zt_cons (zs_gc (j := 24) (C := "CaseTreeModel") (T := zT_M) (N := 30) (by decide) rfl rfl (by decide) (fun w h => List.mem_cons_of_mem _ (zu_M w h)) ⟨rfl, rfl, rfl⟩ (List.mem_cons_of_mem _ zf_M_46) rfl (fun _ => rfl) (by decide +kernel)) ?_
  refine zt_cons (zs_iload_n (k := 3) (by decide +kernel) rfl) ?_
  refine zt_cons (zs_ia (by decide +kernel)) ?_
  refine zt_cons (zs_aload_n (k := 0) (by decide +kernel) rfl) ?_
  refine zt_cons (zs_gi (C := "CaseTreeModel") (T := zT_M) (N := 30) (by decide) rfl rfl (by decide) (fun w h => List.mem_cons_of_mem _ (zu_M w h)) ⟨rfl, rfl, rfl⟩ (List.mem_cons_of_mem _ zf_M_142) rfl (by decide +kernel)) ?_
  refine zt_cons (zs_cv (n := 2) (x := 155) (C := "CaseTreeModel") (T := zT_M) (N := 30) zI_87 rfl rfl (by decide) rfl zl_M_155 zim_M_heaviest zsel_M_heaviest zl_ini_M zc_M_heaviest (by decide +kernel) (by decide) (by decide) (by decide +kernel)) ?_
  refine zt_cons (zs_ias (by decide +kernel)) ?_
  refine zt_cons (zs_iinc (n := 1) (by decide +kernel) (by decide) (by decide)) ?_
  refine zt_cons (zs_goto (off := -72) (by decide +kernel) (by decide)) ?_
  refine zt_cons (zs_aload_n (k := 0) (by decide +kernel) rfl) ?_
  refine zt_cons (zs_gc (j := 8) (C := "CaseTreeModel") (T := zT_M) (N := 30) (by decide) rfl rfl (by decide) (fun w h => List.mem_cons_of_mem _ (zu_M w h)) ⟨rfl, rfl, rfl⟩ (List.mem_cons_of_mem _ zf_M_19) rfl (fun _ => rfl) (by decide +kernel)) ?_
  refine zt_cons (zs_iload_n (k := 1) (by decide +kernel) rfl) ?_
  refine zt_cons (zs_aload_n (k := 0) (by decide +kernel) rfl) ?_
  refine zt_cons (zs_gc (j := 8) (C := "CaseTreeModel") (T := zT_M) (N := 30) (by decide) rfl rfl (by decide) (fun w h => List.mem_cons_of_mem _ (zu_M w h)) ⟨rfl, rfl, rfl⟩ (List.mem_cons_of_mem _ zf_M_19) rfl (fun _ => rfl) (by decide +kernel)) ?_
  refine zt_cons (zs_iload_n (k := 2) (by decide +kernel) rfl) ?_
  refine zt_cons (zs_ia (by decide +kernel)) ?_
  refine zt_cons (zs_ias (by decide +kernel)) ?_
  refine zt_cons (zs_aload_n (k := 0) (by decide +kernel) rfl) ?_
  refine zt_cons (zs_gc (j := 9) (C := "CaseTreeModel") (T := zT_M) (N := 30) (by decide) rfl rfl (by decide) (fun w h => List.mem_cons_of_mem _ (zu_M w h)) ⟨rfl, rfl, rfl⟩ (List.mem_cons_of_mem _ zf_M_22) rfl (fun _ => rfl) (by decide +kernel)) ?_
  refine zt_cons (zs_iload_n (k := 1) (by decide +kernel) rfl) ?_
  refine zt_cons (zs_aload_n (k := 0) (by decide +kernel) rfl) ?_
  refine zt_cons (zs_gc (j := 9) (C := "CaseTreeModel") (T := zT_M) (N := 30) (by decide) rfl rfl (by decide) (fun w h => List.mem_cons_of_mem _ (zu_M w h)) ⟨rfl, rfl, rfl⟩ (List.mem_cons_of_mem _ zf_M_22) rfl (fun _ => rfl) (by decide +kernel)) ?_
  refine zt_cons (zs_iload_n (k := 2) (by decide +kernel) rfl) ?_
  refine zt_cons (zs_ia (by decide +kernel)) ?_
  refine zt_cons (zs_ias (by decide +kernel)) ?_
  refine zt_cons (zs_aload_n (k := 0) (by decide +kernel) rfl) ?_
  refine zt_cons (zs_gc (j := 13) (C := "CaseTreeModel") (T := zT_M) (N := 30) (by decide) rfl rfl (by decide) (fun w h => List.mem_cons_of_mem _ (zu_M w h)) ⟨rfl, rfl, rfl⟩ (List.mem_cons_of_mem _ zf_M_34) rfl (fun _ => rfl) (by decide +kernel)) ?_
  refine zt_cons (zs_iload_n (k := 1) (by decide +kernel) rfl) ?_
  refine zt_cons (zs_aload_n (k := 0) (by decide +kernel) rfl) ?_
  refine zt_cons (zs_gc (j := 13) (C := "CaseTreeModel") (T := zT_M) (N := 30) (by decide) rfl rfl (by decide) (fun w h => List.mem_cons_of_mem _ (zu_M w h)) ⟨rfl, rfl, rfl⟩ (List.mem_cons_of_mem _ zf_M_34) rfl (fun _ => rfl) (by decide +kernel)) ?_
  refine zt_cons (zs_iload_n (k := 2) (by decide +kernel) rfl) ?_
  refine zt_cons (zs_ia (by decide +kernel)) ?_
  refine zt_cons (zs_ias (by decide +kernel)) ?_
  refine zt_cons (zs_iconst (n := 0) (by decide +kernel) (by decide)) ?_
  refine zt_cons (zs_istore_n (k := 3) (by decide +kernel) rfl (by decide)) ?_
  refine zt_cons (zs_iload_n (k := 3) (by decide +kernel) rfl) ?_
  refine zt_cons (zs_iconst (n := 4) (by decide +kernel) (by decide)) ?_
  refine zt_cons (zs_cge (off := 29) (by decide +kernel) (by decide)) ?_
  refine zt_cons (zs_aload_n (k := 0) (by decide +kernel) rfl) ?_
  refine zt_cons (zs_gc (j := 10) (C := "CaseTreeModel") (T := zT_M) (N := 30) (by decide) rfl rfl (by decide) (fun w h => List.mem_cons_of_mem _ (zu_M w h)) ⟨rfl, rfl, rfl⟩ (List.mem_cons_of_mem _ zf_M_25) rfl (fun _ => rfl) (by decide +kernel)) ?_
  refine zt_cons (zs_iconst (n := 4) (by decide +kernel) (by decide)) ?_
  refine zt_cons (zs_iload_n (k := 1) (by decide +kernel) rfl) ?_
  refine zt_cons (zs_imul (by decide +kernel)) ?_
  refine zt_cons (zs_iload_n (k := 3) (by decide +kernel) rfl) ?_
  refine zt_cons (zs_iadd (by decide +kernel)) ?_
  refine zt_cons (zs_aload_n (k := 0) (by decide +kernel) rfl) ?_
  refine zt_cons (zs_gc (j := 10) (C := "CaseTreeModel") (T := zT_M) (N := 30) (by decide) rfl rfl (by decide) (fun w h => List.mem_cons_of_mem _ (zu_M w h)) ⟨rfl, rfl, rfl⟩ (List.mem_cons_of_mem _ zf_M_25) rfl (fun _ => rfl) (by decide +kernel)) ?_
  refine zt_cons (zs_iconst (n := 4) (by decide +kernel) (by decide)) ?_
  refine zt_cons (zs_iload_n (k := 2) (by decide +kernel) rfl) ?_
  refine zt_cons (zs_imul (by decide +kernel)) ?_
  refine zt_cons (zs_iload_n (k := 3) (by decide +kernel) rfl) ?_
  refine zt_cons (zs_iadd (by decide +kernel)) ?_
  refine zt_cons (zs_ia (by decide +kernel)) ?_
  refine zt_cons (zs_ias (by decide +kernel)) ?_
  refine zt_cons (zs_iinc (n := 1) (by decide +kernel) (by decide) (by decide)) ?_
  refine zt_cons (zs_goto (off := -28) (by decide +kernel) (by decide)) ?_
  refine zt_cons (zs_vr rfl (by decide +kernel)) ?_
  exact zt_nil
set_option maxRecDepth 20000 in
set_option maxHeartbeats 4000000 in
theorem zok_M_lookAt {Ex : ze_G → State → Prop} : ∀ pc, ze_snd zI Ex zi_M_lookAt pc (ze_lk t_M_lookAt pc) := by
  refine zt_cons (zs_iconst (n := 0) (by decide +kernel) (by decide)) ?_
  refine zt_cons (zs_istore_n (k := 3) (by decide +kernel) rfl (by decide)) ?_
  refine zt_cons (zs_iconst (n := 1) (by decide +kernel) (by decide)) ?_
  refine zt_cons (zs_istore (by decide +kernel) (by decide)) ?_
  refine zt_cons (zs_iload (by decide +kernel)) ?_
  refine zt_cons (zs_aload_n (k := 0) (by decide +kernel) rfl) ?_
  refine zt_cons (zs_aload_n (k := 0) (by decide +kernel) rfl) ?_
  refine zt_cons (zs_gc (j := 8) (C := "CaseTreeModel") (T := zT_M) (N := 30) (by decide) rfl rfl (by decide) (fun w h => List.mem_cons_of_mem _ (zu_M w h)) ⟨rfl, rfl, rfl⟩ (List.mem_cons_of_mem _ zf_M_19) rfl (fun _ => rfl) (by decide +kernel)) ?_
  refine zt_cons (zs_iload_n (k := 1) (by decide +kernel) rfl) ?_
  refine zt_cons (zs_ia (by decide +kernel)) ?_
  refine zt_cons (zs_cv (n := 1) (x := 152) (C := "CaseTreeModel") (T := zT_M) (N := 30) zI_88 rfl rfl (by decide) rfl zl_M_152 zim_M_branches zsel_M_branches zl_ini_M zc_M_branches (by decide +kernel) (by decide) (by decide) (by decide +kernel)) ?_
  refine zt_cons (zs_cge (off := 60) (by decide +kernel) (by decide)) ?_
  refine zt_cons (zs_aload_n (k := 0) (by decide +kernel) rfl) ?_
  refine zt_cons (zs_aload_n (k := 0) (by decide +kernel) rfl) ?_
  refine zt_cons (zs_gc (j := 10) (C := "CaseTreeModel") (T := zT_M) (N := 30) (by decide) rfl rfl (by decide) (fun w h => List.mem_cons_of_mem _ (zu_M w h)) ⟨rfl, rfl, rfl⟩ (List.mem_cons_of_mem _ zf_M_25) rfl (fun _ => rfl) (by decide +kernel)) ?_
  refine zt_cons (zs_iconst (n := 4) (by decide +kernel) (by decide)) ?_
  refine zt_cons (zs_iload_n (k := 1) (by decide +kernel) rfl) ?_
  refine zt_cons (zs_imul (by decide +kernel)) ?_
  refine zt_cons (zs_iload (by decide +kernel)) ?_
  refine zt_cons (zs_iadd (by decide +kernel)) ?_
  refine zt_cons (zs_ia (by decide +kernel)) ?_
  refine zt_cons (zs_aload_n (k := 0) (by decide +kernel) rfl) ?_
  refine zt_cons (zs_gi (C := "CaseTreeModel") (T := zT_M) (N := 30) (by decide) rfl rfl (by decide) (fun w h => List.mem_cons_of_mem _ (zu_M w h)) ⟨rfl, rfl, rfl⟩ (List.mem_cons_of_mem _ zf_M_142) rfl (by decide +kernel)) ?_
  refine zt_cons (zs_cv (n := 2) (x := 95) (C := "CaseTreeModel") (T := zT_M) (N := 30) zI_86 rfl rfl (by decide) rfl zl_M_95 zim_M_weightOf zsel_M_weightOf zl_ini_M zc_M_weightOf (by decide +kernel) (by decide) (by decide) (by decide +kernel)) ?_
  refine zt_cons (zs_istore (by decide +kernel) (by decide)) ?_
  refine zt_cons (zs_iload (by decide +kernel)) ?_
  refine zt_cons (zs_aload_n (k := 0) (by decide +kernel) rfl) ?_
  refine zt_cons (zs_aload_n (k := 0) (by decide +kernel) rfl) ?_
  refine zt_cons (zs_gc (j := 10) (C := "CaseTreeModel") (T := zT_M) (N := 30) (by decide) rfl rfl (by decide) (fun w h => List.mem_cons_of_mem _ (zu_M w h)) ⟨rfl, rfl, rfl⟩ (List.mem_cons_of_mem _ zf_M_25) rfl (fun _ => rfl) (by decide +kernel)) ?_
  refine zt_cons (zs_iconst (n := 4) (by decide +kernel) (by decide)) ?_
  refine zt_cons (zs_iload_n (k := 1) (by decide +kernel) rfl) ?_
  refine zt_cons (zs_imul (by decide +kernel)) ?_
  refine zt_cons (zs_iload_n (k := 3) (by decide +kernel) rfl) ?_
  refine zt_cons (zs_iadd (by decide +kernel)) ?_
  refine zt_cons (zs_ia (by decide +kernel)) ?_
  refine zt_cons (zs_aload_n (k := 0) (by decide +kernel) rfl) ?_
  refine zt_cons (zs_gi (C := "CaseTreeModel") (T := zT_M) (N := 30) (by decide) rfl rfl (by decide) (fun w h => List.mem_cons_of_mem _ (zu_M w h)) ⟨rfl, rfl, rfl⟩ (List.mem_cons_of_mem _ zf_M_142) rfl (by decide +kernel)) ?_
  refine zt_cons (zs_cv (n := 2) (x := 95) (C := "CaseTreeModel") (T := zT_M) (N := 30) zI_86 rfl rfl (by decide) rfl zl_M_95 zim_M_weightOf zsel_M_weightOf zl_ini_M zc_M_weightOf (by decide +kernel) (by decide) (by decide) (by decide +kernel)) ?_
  refine zt_cons (zs_cle (off := 8) (by decide +kernel) (by decide)) ?_
  refine zt_cons (zs_iload (by decide +kernel)) ?_
  refine zt_cons (zs_goto (off := 4) (by decide +kernel) (by decide)) ?_
  refine zt_cons (zs_iload_n (k := 3) (by decide +kernel) rfl) ?_
  refine zt_cons (zs_istore_n (k := 3) (by decide +kernel) rfl (by decide)) ?_
  refine zt_cons (zs_iinc (n := 1) (by decide +kernel) (by decide) (by decide)) ?_
  refine zt_cons (zs_goto (off := -69) (by decide +kernel) (by decide)) ?_
  refine zt_cons (zs_aload_n (k := 0) (by decide +kernel) rfl) ?_
  refine zt_cons (zs_gc (j := 10) (C := "CaseTreeModel") (T := zT_M) (N := 30) (by decide) rfl rfl (by decide) (fun w h => List.mem_cons_of_mem _ (zu_M w h)) ⟨rfl, rfl, rfl⟩ (List.mem_cons_of_mem _ zf_M_25) rfl (fun _ => rfl) (by decide +kernel)) ?_
  refine zt_cons (zs_iconst (n := 4) (by decide +kernel) (by decide)) ?_
  refine zt_cons (zs_iload_n (k := 1) (by decide +kernel) rfl) ?_
  refine zt_cons (zs_imul (by decide +kernel)) ?_
  refine zt_cons (zs_iload_n (k := 3) (by decide +kernel) rfl) ?_
  refine zt_cons (zs_iadd (by decide +kernel)) ?_
  refine zt_cons (zs_ia (by decide +kernel)) ?_
  refine zt_cons (zs_istore (by decide +kernel) (by decide)) ?_
  refine zt_cons (zs_aload_n (k := 0) (by decide +kernel) rfl) ?_
  refine zt_cons (zs_iload_n (k := 1) (by decide +kernel) rfl) ?_
  refine zt_cons (zs_iconst (n := 0) (by decide +kernel) (by decide)) ?_
  refine zt_cons (zs_iload_n (k := 2) (by decide +kernel) rfl) ?_
  refine zt_cons (zs_cv (n := 3) (x := 191) (C := "CaseTreeModel") (T := zT_M) (N := 30) zI_103 rfl rfl (by decide) rfl zl_M_191 zim_M_errors zsel_M_errors zl_ini_M zc_M_errors (by decide +kernel) (by decide) (by decide) (by decide +kernel)) ?_
  refine zt_cons (zs_istore (by decide +kernel) (by decide)) ?_
  refine zt_cons (zs_aload_n (k := 0) (by decide +kernel) rfl) ?_
  refine zt_cons (zs_iload_n (k := 1) (by decide +kernel) rfl) ?_
  refine zt_cons (zs_iload_n (k := 2) (by decide +kernel) rfl) ?_
  refine zt_cons (zs_cv (n := 2) (x := 185) (C := "CaseTreeModel") (T := zT_M) (N := 30) zI_102 rfl rfl (by decide) rfl zl_M_185 zim_M_leafErrors zsel_M_leafErrors zl_ini_M zc_M_leafErrors (by decide +kernel) (by decide) (by decide) (by decide +kernel)) ?_
  refine zt_cons (zs_istore (by decide +kernel) (by decide)) ?_
  refine zt_cons (zs_aload_n (k := 0) (by decide +kernel) rfl) ?_
  refine zt_cons (zs_iload_n (k := 1) (by decide +kernel) rfl) ?_
  refine zt_cons (zs_iload (by decide +kernel)) ?_
  refine zt_cons (zs_iload_n (k := 2) (by decide +kernel) rfl) ?_
  refine zt_cons (zs_cv (n := 3) (x := 194) (C := "CaseTreeModel") (T := zT_M) (N := 30) zI_105 rfl rfl (by decide) rfl zl_M_194 zim_M_wouldBe zsel_M_wouldBe zl_ini_M zc_M_wouldBe (by decide +kernel) (by decide) (by decide) (by decide +kernel)) ?_
  refine zt_cons (zs_istore (by decide +kernel) (by decide)) ?_
  refine zt_cons (zs_iload (by decide +kernel)) ?_
  refine zt_cons (zs_iload (by decide +kernel)) ?_
  refine zt_cons (zs_cgt (off := 20) (by decide +kernel) (by decide)) ?_
  refine zt_cons (zs_iload (by decide +kernel)) ?_
  refine zt_cons (zs_iload (by decide +kernel)) ?_
  refine zt_cons (zs_cgt (off := 13) (by decide +kernel) (by decide)) ?_
  refine zt_cons (zs_aload_n (k := 0) (by decide +kernel) rfl) ?_
  refine zt_cons (zs_gc (j := 8) (C := "CaseTreeModel") (T := zT_M) (N := 30) (by decide) rfl rfl (by decide) (fun w h => List.mem_cons_of_mem _ (zu_M w h)) ⟨rfl, rfl, rfl⟩ (List.mem_cons_of_mem _ zf_M_19) rfl (fun _ => rfl) (by decide +kernel)) ?_
  refine zt_cons (zs_iload_n (k := 1) (by decide +kernel) rfl) ?_
  refine zt_cons (zs_iconst (n := (-1)) (by decide +kernel) (by decide)) ?_
  refine zt_cons (zs_ias (by decide +kernel)) ?_
  refine zt_cons (zs_goto (off := 17) (by decide +kernel) (by decide)) ?_
  refine zt_cons (zs_iload (by decide +kernel)) ?_
  refine zt_cons (zs_iload (by decide +kernel)) ?_
  refine zt_cons (zs_cgt (off := 10) (by decide +kernel) (by decide)) ?_
  refine zt_cons (zs_aload_n (k := 0) (by decide +kernel) rfl) ?_
  refine zt_cons (zs_iload_n (k := 1) (by decide +kernel) rfl) ?_
  refine zt_cons (zs_iload (by decide +kernel)) ?_
  refine zt_cons (zs_cv (n := 2) (x := 197) (C := "CaseTreeModel") (T := zT_M) (N := 30) zI_106 rfl rfl (by decide) rfl zl_M_197 zim_M_replace zsel_M_replace zl_ini_M zc_M_replace (by decide +kernel) (by decide) (by decide) (by decide +kernel)) ?_
  refine zt_cons (zs_vr rfl (by decide +kernel)) ?_
  exact zt_nil
set_option maxRecDepth 20000 in
set_option maxHeartbeats 4000000 in
theorem zok_M_prune {Ex : ze_G → State → Prop} : ∀ pc, ze_snd zI Ex zi_M_prune pc (ze_lk t_M_prune pc) := by
  refine zt_cons (zs_iload_n (k := 1) (by decide +kernel) rfl) ?_
  refine zt_cons (zs_iflt (off := 10) (by decide +kernel) (by decide)) ?_
  refine zt_cons (zs_iload_n (k := 1) (by decide +kernel) rfl) ?_
  refine zt_cons (zs_sipush (n := 2000) (by decide +kernel) (by decide)) ?_
  refine zt_cons (zs_cle (off := 5) (by decide +kernel) (by decide)) ?_
  refine zt_cons (zs_iconst (n := (-1)) (by decide +kernel) (by decide)) ?_
  refine zt_cons (zs_ir rfl (by decide +kernel)) ?_
  refine zt_cons (zs_aload_n (k := 0) (by decide +kernel) rfl) ?_
  refine zt_cons (zs_gi (C := "CaseTreeModel") (T := zT_M) (N := 30) (by decide) rfl rfl (by decide) (fun w h => List.mem_cons_of_mem _ (zu_M w h)) ⟨rfl, rfl, rfl⟩ (List.mem_cons_of_mem _ zf_M_168) rfl (by decide +kernel)) ?_
  refine zt_cons (zs_ifne (off := 6) (by decide +kernel) (by decide)) ?_
  refine zt_cons (zs_bipush (n := (-3)) (by decide +kernel) (by decide)) ?_
  refine zt_cons (zs_ir rfl (by decide +kernel)) ?_
  refine zt_cons (zs_aload_n (k := 0) (by decide +kernel) rfl) ?_
  refine zt_cons (zs_gi (C := "CaseTreeModel") (T := zT_M) (N := 30) (by decide) rfl rfl (by decide) (fun w h => List.mem_cons_of_mem _ (zu_M w h)) ⟨rfl, rfl, rfl⟩ (List.mem_cons_of_mem _ zf_M_161) rfl (by decide +kernel)) ?_
  refine zt_cons (zs_iconst (n := 1) (by decide +kernel) (by decide)) ?_
  refine zt_cons (zs_isub (by decide +kernel)) ?_
  refine zt_cons (zs_istore_n (k := 2) (by decide +kernel) rfl (by decide)) ?_
  refine zt_cons (zs_iload_n (k := 2) (by decide +kernel) rfl) ?_
  refine zt_cons (zs_iflt (off := 32) (by decide +kernel) (by decide)) ?_
  refine zt_cons (zs_aload_n (k := 0) (by decide +kernel) rfl) ?_
  refine zt_cons (zs_gc (j := 8) (C := "CaseTreeModel") (T := zT_M) (N := 30) (by decide) rfl rfl (by decide) (fun w h => List.mem_cons_of_mem _ (zu_M w h)) ⟨rfl, rfl, rfl⟩ (List.mem_cons_of_mem _ zf_M_19) rfl (fun _ => rfl) (by decide +kernel)) ?_
  refine zt_cons (zs_iload_n (k := 2) (by decide +kernel) rfl) ?_
  refine zt_cons (zs_ia (by decide +kernel)) ?_
  refine zt_cons (zs_iflt (off := 17) (by decide +kernel) (by decide)) ?_
  refine zt_cons (zs_aload_n (k := 0) (by decide +kernel) rfl) ?_
  refine zt_cons (zs_iload_n (k := 2) (by decide +kernel) rfl) ?_
  refine zt_cons (zs_cv (n := 1) (x := 200) (C := "CaseTreeModel") (T := zT_M) (N := 30) zI_109 rfl rfl (by decide) rfl zl_M_200 zim_M_inTree zsel_M_inTree zl_ini_M zc_M_inTree (by decide +kernel) (by decide) (by decide) (by decide +kernel)) ?_
  refine zt_cons (zs_ifeq (off := 9) (by decide +kernel) (by decide)) ?_
  refine zt_cons (zs_aload_n (k := 0) (by decide +kernel) rfl) ?_
  refine zt_cons (zs_iload_n (k := 2) (by decide +kernel) rfl) ?_
  refine zt_cons (zs_iload_n (k := 1) (by decide +kernel) rfl) ?_
  refine zt_cons (zs_cv (n := 2) (x := 204) (C := "CaseTreeModel") (T := zT_M) (N := 30) zI_107 rfl rfl (by decide) rfl zl_M_204 zim_M_lookAt zsel_M_lookAt zl_ini_M zc_M_lookAt (by decide +kernel) (by decide) (by decide) (by decide +kernel)) ?_
  refine zt_cons (zs_iinc (n := (-1)) (by decide +kernel) (by decide) (by decide)) ?_
  refine zt_cons (zs_goto (off := -30) (by decide +kernel) (by decide)) ?_
  refine zt_cons (zs_aload_n (k := 0) (by decide +kernel) rfl) ?_
  refine zt_cons (zs_cv (n := 0) (x := 174) (C := "CaseTreeModel") (T := zT_M) (N := 30) zI_120 rfl rfl (by decide) rfl zl_M_174 zim_M_nodes zsel_M_nodes zl_ini_M zc_M_nodes (by decide +kernel) (by decide) (by decide) (by decide +kernel)) ?_
  refine zt_cons (zs_ir rfl (by decide +kernel)) ?_
  exact zt_nil
set_option maxRecDepth 20000 in
set_option maxHeartbeats 4000000 in
theorem zok_M_inTree {Ex : ze_G → State → Prop} : ∀ pc, ze_snd zI Ex zi_M_inTree pc (ze_lk t_M_inTree pc) := by
  refine zt_cons (zs_aload_n (k := 0) (by decide +kernel) rfl) ?_
  refine zt_cons (zs_iconst (n := 0) (by decide +kernel) (by decide)) ?_
  refine zt_cons (zs_cv (n := 1) (x := 181) (C := "CaseTreeModel") (T := zT_M) (N := 30) zI_101 rfl rfl (by decide) rfl zl_M_181 zim_M_list zsel_M_list zl_ini_M zc_M_list (by decide +kernel) (by decide) (by decide) (by decide +kernel)) ?_
  refine zt_cons (zs_iconst (n := 0) (by decide +kernel) (by decide)) ?_
  refine zt_cons (zs_istore_n (k := 2) (by decide +kernel) rfl (by decide)) ?_
  refine zt_cons (zs_iload_n (k := 2) (by decide +kernel) rfl) ?_
  refine zt_cons (zs_aload_n (k := 0) (by decide +kernel) rfl) ?_
  refine zt_cons (zs_gi (C := "CaseTreeModel") (T := zT_M) (N := 30) (by decide) rfl rfl (by decide) (fun w h => List.mem_cons_of_mem _ (zu_M w h)) ⟨rfl, rfl, rfl⟩ (List.mem_cons_of_mem _ zf_M_178) rfl (by decide +kernel)) ?_
  refine zt_cons (zs_cge (off := 21) (by decide +kernel) (by decide)) ?_
  refine zt_cons (zs_aload_n (k := 0) (by decide +kernel) rfl) ?_
  refine zt_cons (zs_gc (j := 24) (C := "CaseTreeModel") (T := zT_M) (N := 30) (by decide) rfl rfl (by decide) (fun w h => List.mem_cons_of_mem _ (zu_M w h)) ⟨rfl, rfl, rfl⟩ (List.mem_cons_of_mem _ zf_M_46) rfl (fun _ => rfl) (by decide +kernel)) ?_
  refine zt_cons (zs_iload_n (k := 2) (by decide +kernel) rfl) ?_
  refine zt_cons (zs_ia (by decide +kernel)) ?_
  refine zt_cons (zs_iload_n (k := 1) (by decide +kernel) rfl) ?_
  refine zt_cons (zs_cne (off := 5) (by decide +kernel) (by decide)) ?_
  refine zt_cons (zs_iconst (n := 1) (by decide +kernel) (by decide)) ?_
  refine zt_cons (zs_zr rfl (by decide +kernel)) ?_
  refine zt_cons (zs_iinc (n := 1) (by decide +kernel) (by decide) (by decide)) ?_
  refine zt_cons (zs_goto (off := -23) (by decide +kernel) (by decide)) ?_
  refine zt_cons (zs_iconst (n := 0) (by decide +kernel) (by decide)) ?_
  refine zt_cons (zs_zr rfl (by decide +kernel)) ?_
  exact zt_nil
