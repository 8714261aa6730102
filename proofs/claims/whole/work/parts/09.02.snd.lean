set_option maxRecDepth 20000 in
set_option maxHeartbeats 4000000 in
theorem zok_Gr_growFrom {Ex : ze_G → State → Prop} : ∀ pc, ze_snd zI Ex zi_Gr_growFrom pc (ze_lk t_Gr_growFrom pc) := by
  refine zt_cons (zs_aload_n (k := 0) (by decide +kernel) rfl) ?_
  refine zt_cons (zs_gc (j := 2) (C := "CaseTree$Grower") (T := zT_Gr) (N := 5) (by decide) rfl rfl (by decide) (fun w h => List.mem_cons_of_mem _ (zu_Gr w h)) ⟨rfl, rfl, rfl⟩ (List.mem_cons_of_mem _ zf_Gr_23) rfl (fun _ => rfl) (by decide +kernel)) ?_
  refine zt_cons (zs_iload_n (k := 2) (by decide +kernel) rfl) ?_
  refine zt_cons (zs_cv (n := 1) (x := 59) (C := "CaseTree$Path") (T := zT_Pa) (N := 4) zI_51 rfl rfl (by decide) rfl zl_Gr_59 zim_Pa_tallyClasses zsel_Pa_tallyClasses zl_ini_Pa zc_Pa_tallyClasses (by decide +kernel) (by decide) (by decide) (by decide +kernel)) ?_
  refine zt_cons (zs_aload_n (k := 0) (by decide +kernel) rfl) ?_
  refine zt_cons (zs_gc (j := 1) (C := "CaseTree$Grower") (T := zT_Gr) (N := 5) (by decide) rfl rfl (by decide) (fun w h => List.mem_cons_of_mem _ (zu_Gr w h)) ⟨rfl, rfl, rfl⟩ (List.mem_cons_of_mem _ zf_Gr_19) rfl (fun _ => rfl) (by decide +kernel)) ?_
  refine zt_cons (zs_iload_n (k := 1) (by decide +kernel) rfl) ?_
  refine zt_cons (zs_aload_n (k := 0) (by decide +kernel) rfl) ?_
  refine zt_cons (zs_gc (j := 2) (C := "CaseTree$Grower") (T := zT_Gr) (N := 5) (by decide) rfl rfl (by decide) (fun w h => List.mem_cons_of_mem _ (zu_Gr w h)) ⟨rfl, rfl, rfl⟩ (List.mem_cons_of_mem _ zf_Gr_23) rfl (fun _ => rfl) (by decide +kernel)) ?_
  refine zt_cons (zs_gc (j := 3) (C := "CaseTree$Path") (T := zT_Pa) (N := 4) (by decide) rfl rfl (by decide) (fun w h => List.mem_cons_of_mem _ (zu_Pa w h)) ⟨rfl, rfl, rfl⟩ (List.mem_cons_of_mem _ zf_Gr_62) rfl (fun _ => rfl) (by decide +kernel)) ?_
  refine zt_cons (zs_cv (n := 2) (x := 66) (C := "CaseTree$Tree") (T := zT_Tr) (N := 12) zI_72 rfl rfl (by decide) rfl zl_Gr_66 zim_Tr_keepWeights zsel_Tr_keepWeights zl_ini_Tr zc_Tr_keepWeights (by decide +kernel) (by decide) (by decide) (by decide +kernel)) ?_
  refine zt_cons (zs_iload_n (k := 2) (by decide +kernel) rfl) ?_
  refine zt_cons (zs_iconst (n := 3) (by decide +kernel) (by decide)) ?_
  refine zt_cons (zs_cge (off := 10) (by decide +kernel) (by decide)) ?_
  refine zt_cons (zs_aload_n (k := 0) (by decide +kernel) rfl) ?_
  refine zt_cons (zs_cv (n := 0) (x := 70) (C := "CaseTree$Grower") (T := zT_Gr) (N := 5) zI_45 rfl rfl (by decide) rfl zl_Gr_70 zim_Gr_hasTooLittle zsel_Gr_hasTooLittle zl_ini_Gr zc_Gr_hasTooLittle (by decide +kernel) (by decide) (by decide) (by decide +kernel)) ?_
  refine zt_cons (zs_ifeq (off := 4) (by decide +kernel) (by decide)) ?_
  refine zt_cons (zs_vr rfl (by decide +kernel)) ?_
  refine zt_cons (zs_iconst (n := 0) (by decide +kernel) (by decide)) ?_
  refine zt_cons (zs_istore (by decide +kernel) (by decide)) ?_
  refine zt_cons (zs_iload (by decide +kernel)) ?_
  refine zt_cons (zs_aload_n (k := 0) (by decide +kernel) rfl) ?_
  refine zt_cons (zs_gc (j := 0) (C := "CaseTree$Grower") (T := zT_Gr) (N := 5) (by decide) rfl rfl (by decide) (fun w h => List.mem_cons_of_mem _ (zu_Gr w h)) ⟨rfl, rfl, rfl⟩ (List.mem_cons_of_mem _ zf_Gr_15) rfl (fun _ => rfl) (by decide +kernel)) ?_
  refine zt_cons (zs_gi (C := "CaseTree$Cases") (T := zT_Cs) (N := 5) (by decide) rfl rfl (by decide) (fun w h => List.mem_cons_of_mem _ (zu_Cs w h)) ⟨rfl, rfl, rfl⟩ (List.mem_cons_of_mem _ zf_Gr_74) rfl (by decide +kernel)) ?_
  refine zt_cons (zs_cge (off := 58) (by decide +kernel) (by decide)) ?_
  refine zt_cons (zs_iload_n (k := 3) (by decide +kernel) rfl) ?_
  refine zt_cons (zs_iload (by decide +kernel)) ?_
  refine zt_cons (zs_ishr (by decide +kernel)) ?_
  refine zt_cons (zs_iconst (n := 1) (by decide +kernel) (by decide)) ?_
  refine zt_cons (zs_iand (by decide +kernel)) ?_
  refine zt_cons (zs_iconst (n := 1) (by decide +kernel) (by decide)) ?_
  refine zt_cons (zs_cne (off := 20) (by decide +kernel) (by decide)) ?_
  refine zt_cons (zs_aload_n (k := 0) (by decide +kernel) rfl) ?_
  refine zt_cons (zs_gc (j := 3) (C := "CaseTree$Grower") (T := zT_Gr) (N := 5) (by decide) rfl rfl (by decide) (fun w h => List.mem_cons_of_mem _ (zu_Gr w h)) ⟨rfl, rfl, rfl⟩ (List.mem_cons_of_mem _ zf_Gr_27) rfl (fun _ => rfl) (by decide +kernel)) ?_
  refine zt_cons (zs_gc (j := 1) (C := "CaseTree$Tester") (T := zT_Te) (N := 5) (by decide) rfl rfl (by decide) (fun w h => List.mem_cons_of_mem _ (zu_Te w h)) ⟨rfl, rfl, rfl⟩ (List.mem_cons_of_mem _ zf_Gr_77) rfl (fun _ => rfl) (by decide +kernel)) ?_
  refine zt_cons (zs_iload (by decide +kernel)) ?_
  refine zt_cons (zs_aq rfl rfl (by decide +kernel)) ?_
  refine zt_cons (zs_iconst (n := 0) (by decide +kernel) (by decide)) ?_
  refine zt_cons (zs_pz (C := "CaseTree$Finding") (T := zT_Fi) (N := 4) (by decide) rfl rfl (by decide) (fun w h => List.mem_cons_of_mem _ (zu_Fi w h)) zy_Fi_ok zn_Fi ⟨rfl, rfl, rfl, rfl⟩ (by decide +kernel) (List.mem_cons_of_mem _ zf_Gr_83) rfl (by decide +kernel)) ?_
  refine zt_cons (zs_goto (off := 25) (by decide +kernel) (by decide)) ?_
  refine zt_cons (zs_aload_n (k := 0) (by decide +kernel) rfl) ?_
  refine zt_cons (zs_gc (j := 3) (C := "CaseTree$Grower") (T := zT_Gr) (N := 5) (by decide) rfl rfl (by decide) (fun w h => List.mem_cons_of_mem _ (zu_Gr w h)) ⟨rfl, rfl, rfl⟩ (List.mem_cons_of_mem _ zf_Gr_27) rfl (fun _ => rfl) (by decide +kernel)) ?_
  refine zt_cons (zs_iload (by decide +kernel)) ?_
  refine zt_cons (zs_aload_n (k := 0) (by decide +kernel) rfl) ?_
  refine zt_cons (zs_gc (j := 2) (C := "CaseTree$Grower") (T := zT_Gr) (N := 5) (by decide) rfl rfl (by decide) (fun w h => List.mem_cons_of_mem _ (zu_Gr w h)) ⟨rfl, rfl, rfl⟩ (List.mem_cons_of_mem _ zf_Gr_23) rfl (fun _ => rfl) (by decide +kernel)) ?_
  refine zt_cons (zs_gc (j := 1) (C := "CaseTree$Path") (T := zT_Pa) (N := 4) (by decide) rfl rfl (by decide) (fun w h => List.mem_cons_of_mem _ (zu_Pa w h)) ⟨rfl, rfl, rfl⟩ (List.mem_cons_of_mem _ zf_Gr_89) rfl (fun _ => rfl) (by decide +kernel)) ?_
  refine zt_cons (zs_iload_n (k := 2) (by decide +kernel) rfl) ?_
  refine zt_cons (zs_aq rfl rfl (by decide +kernel)) ?_
  refine zt_cons (zs_aload_n (k := 0) (by decide +kernel) rfl) ?_
  refine zt_cons (zs_gi (C := "CaseTree$Grower") (T := zT_Gr) (N := 5) (by decide) rfl rfl (by decide) (fun w h => List.mem_cons_of_mem _ (zu_Gr w h)) ⟨rfl, rfl, rfl⟩ (List.mem_cons_of_mem _ zf_Gr_9) rfl (by decide +kernel)) ?_
  refine zt_cons (zs_cv (n := 3) (x := 93) (C := "CaseTree$Tester") (T := zT_Te) (N := 5) zI_58 rfl rfl (by decide) rfl zl_Gr_93 zim_Te_examine zsel_Te_examine zl_ini_Te zc_Te_examine (by decide +kernel) (by decide) (by decide) (by decide +kernel)) ?_
  refine zt_cons (zs_iinc (n := 1) (by decide +kernel) (by decide) (by decide)) ?_
  refine zt_cons (zs_goto (off := -64) (by decide +kernel) (by decide)) ?_
  refine zt_cons (zs_aload_n (k := 0) (by decide +kernel) rfl) ?_
  refine zt_cons (zs_gc (j := 3) (C := "CaseTree$Grower") (T := zT_Gr) (N := 5) (by decide) rfl rfl (by decide) (fun w h => List.mem_cons_of_mem _ (zu_Gr w h)) ⟨rfl, rfl, rfl⟩ (List.mem_cons_of_mem _ zf_Gr_27) rfl (fun _ => rfl) (by decide +kernel)) ?_
  refine zt_cons (zs_cv (n := 0) (x := 97) (C := "CaseTree$Tester") (T := zT_Te) (N := 5) zI_62 rfl rfl (by decide) rfl zl_Gr_97 zim_Te_chosen zsel_Te_chosen zl_ini_Te zc_Te_chosen (by decide +kernel) (by decide) (by decide) (by decide +kernel)) ?_
  refine zt_cons (zs_istore (by decide +kernel) (by decide)) ?_
  refine zt_cons (zs_iload (by decide +kernel)) ?_
  refine zt_cons (zs_iconst (n := (-1)) (by decide +kernel) (by decide)) ?_
  refine zt_cons (zs_cne (off := 4) (by decide +kernel) (by decide)) ?_
  refine zt_cons (zs_vr rfl (by decide +kernel)) ?_
  refine zt_cons (zs_aload_n (k := 0) (by decide +kernel) rfl) ?_
  refine zt_cons (zs_iload_n (k := 1) (by decide +kernel) rfl) ?_
  refine zt_cons (zs_iload_n (k := 2) (by decide +kernel) rfl) ?_
  refine zt_cons (zs_iload (by decide +kernel)) ?_
  refine zt_cons (zs_cv (n := 3) (x := 101) (C := "CaseTree$Grower") (T := zT_Gr) (N := 5) zI_46 rfl rfl (by decide) rfl zl_Gr_101 zim_Gr_fork zsel_Gr_fork zl_ini_Gr zc_Gr_fork (by decide +kernel) (by decide) (by decide) (by decide +kernel)) ?_
  refine zt_cons (zs_aload_n (k := 0) (by decide +kernel) rfl) ?_
  refine zt_cons (zs_gc (j := 0) (C := "CaseTree$Grower") (T := zT_Gr) (N := 5) (by decide) rfl rfl (by decide) (fun w h => List.mem_cons_of_mem _ (zu_Gr w h)) ⟨rfl, rfl, rfl⟩ (List.mem_cons_of_mem _ zf_Gr_15) rfl (fun _ => rfl) (by decide +kernel)) ?_
  refine zt_cons (zs_iload (by decide +kernel)) ?_
  refine zt_cons (zs_cv (n := 1) (x := 104) (C := "CaseTree$Cases") (T := zT_Cs) (N := 5) zI_33 rfl rfl (by decide) rfl zl_Gr_104 zim_Cs_isContinuous zsel_Cs_isContinuous zl_ini_Cs zc_Cs_isContinuous (by decide +kernel) (by decide) (by decide) (by decide +kernel)) ?_
  refine zt_cons (zs_ifeq (off := 7) (by decide +kernel) (by decide)) ?_
  refine zt_cons (zs_iload_n (k := 3) (by decide +kernel) rfl) ?_
  refine zt_cons (zs_goto (off := 9) (by decide +kernel) (by decide)) ?_
  refine zt_cons (zs_iload_n (k := 3) (by decide +kernel) rfl) ?_
  refine zt_cons (zs_iconst (n := 1) (by decide +kernel) (by decide)) ?_
  refine zt_cons (zs_iload (by decide +kernel)) ?_
  refine zt_cons (zs_ishl (by decide +kernel)) ?_
  refine zt_cons (zs_ior (by decide +kernel)) ?_
  refine zt_cons (zs_istore (by decide +kernel) (by decide)) ?_
  refine zt_cons (zs_iconst (n := 0) (by decide +kernel) (by decide)) ?_
  refine zt_cons (zs_istore (by decide +kernel) (by decide)) ?_
  refine zt_cons (zs_iload (by decide +kernel)) ?_
  refine zt_cons (zs_aload_n (k := 0) (by decide +kernel) rfl) ?_
  refine zt_cons (zs_gc (j := 1) (C := "CaseTree$Grower") (T := zT_Gr) (N := 5) (by decide) rfl rfl (by decide) (fun w h => List.mem_cons_of_mem _ (zu_Gr w h)) ⟨rfl, rfl, rfl⟩ (List.mem_cons_of_mem _ zf_Gr_19) rfl (fun _ => rfl) (by decide +kernel)) ?_
  refine zt_cons (zs_gc (j := 2) (C := "CaseTree$Tree") (T := zT_Tr) (N := 12) (by decide) rfl rfl (by decide) (fun w h => List.mem_cons_of_mem _ (zu_Tr w h)) ⟨rfl, rfl, rfl⟩ (List.mem_cons_of_mem _ zf_Gr_108) rfl (fun _ => rfl) (by decide +kernel)) ?_
  refine zt_cons (zs_iload_n (k := 1) (by decide +kernel) rfl) ?_
  refine zt_cons (zs_ia (by decide +kernel)) ?_
  refine zt_cons (zs_cge (off := 64) (by decide +kernel) (by decide)) ?_
  refine zt_cons (zs_aload_n (k := 0) (by decide +kernel) rfl) ?_
  refine zt_cons (zs_gc (j := 1) (C := "CaseTree$Grower") (T := zT_Gr) (N := 5) (by decide) rfl rfl (by decide) (fun w h => List.mem_cons_of_mem _ (zu_Gr w h)) ⟨rfl, rfl, rfl⟩ (List.mem_cons_of_mem _ zf_Gr_19) rfl (fun _ => rfl) (by decide +kernel)) ?_
  refine zt_cons (zs_aload_n (k := 0) (by decide +kernel) rfl) ?_
  refine zt_cons (zs_gc (j := 1) (C := "CaseTree$Grower") (T := zT_Gr) (N := 5) (by decide) rfl rfl (by decide) (fun w h => List.mem_cons_of_mem _ (zu_Gr w h)) ⟨rfl, rfl, rfl⟩ (List.mem_cons_of_mem _ zf_Gr_19) rfl (fun _ => rfl) (by decide +kernel)) ?_
  refine zt_cons (zs_gc (j := 3) (C := "CaseTree$Tree") (T := zT_Tr) (N := 12) (by decide) rfl rfl (by decide) (fun w h => List.mem_cons_of_mem _ (zu_Tr w h)) ⟨rfl, rfl, rfl⟩ (List.mem_cons_of_mem _ zf_Gr_111) rfl (fun _ => rfl) (by decide +kernel)) ?_
  refine zt_cons (zs_iload_n (k := 1) (by decide +kernel) rfl) ?_
  refine zt_cons (zs_ia (by decide +kernel)) ?_
  refine zt_cons (zs_cv (n := 1) (x := 48) (C := "CaseTree$Tree") (T := zT_Tr) (N := 12) zI_68 rfl rfl (by decide) rfl zl_Gr_48 zim_Tr_makeNode zsel_Tr_makeNode zl_ini_Tr zc_Tr_makeNode (by decide +kernel) (by decide) (by decide) (by decide +kernel)) ?_
  refine zt_cons (zs_istore (by decide +kernel) (by decide)) ?_
  refine zt_cons (zs_aload_n (k := 0) (by decide +kernel) rfl) ?_
  refine zt_cons (zs_gc (j := 1) (C := "CaseTree$Grower") (T := zT_Gr) (N := 5) (by decide) rfl rfl (by decide) (fun w h => List.mem_cons_of_mem _ (zu_Gr w h)) ⟨rfl, rfl, rfl⟩ (List.mem_cons_of_mem _ zf_Gr_19) rfl (fun _ => rfl) (by decide +kernel)) ?_
  refine zt_cons (zs_gc (j := 6) (C := "CaseTree$Tree") (T := zT_Tr) (N := 12) (by decide) rfl rfl (by decide) (fun w h => List.mem_cons_of_mem _ (zu_Tr w h)) ⟨rfl, rfl, rfl⟩ (List.mem_cons_of_mem _ zf_Gr_114) rfl (fun _ => rfl) (by decide +kernel)) ?_
  refine zt_cons (zs_iload_n (k := 1) (by decide +kernel) rfl) ?_
  refine zt_cons (zs_iconst (n := 4) (by decide +kernel) (by decide)) ?_
  refine zt_cons (zs_imul (by decide +kernel)) ?_
  refine zt_cons (zs_iload (by decide +kernel)) ?_
  refine zt_cons (zs_iadd (by decide +kernel)) ?_
  refine zt_cons (zs_iload (by decide +kernel)) ?_
  refine zt_cons (zs_ias (by decide +kernel)) ?_
  refine zt_cons (zs_aload_n (k := 0) (by decide +kernel) rfl) ?_
  refine zt_cons (zs_gc (j := 2) (C := "CaseTree$Grower") (T := zT_Gr) (N := 5) (by decide) rfl rfl (by decide) (fun w h => List.mem_cons_of_mem _ (zu_Gr w h)) ⟨rfl, rfl, rfl⟩ (List.mem_cons_of_mem _ zf_Gr_23) rfl (fun _ => rfl) (by decide +kernel)) ?_
  refine zt_cons (zs_iload_n (k := 2) (by decide +kernel) rfl) ?_
  refine zt_cons (zs_iload (by decide +kernel)) ?_
  refine zt_cons (zs_cv (n := 2) (x := 117) (C := "CaseTree$Path") (T := zT_Pa) (N := 4) zI_53 rfl rfl (by decide) rfl zl_Gr_117 zim_Pa_goDown zsel_Pa_goDown zl_ini_Pa zc_Pa_goDown (by decide +kernel) (by decide) (by decide) (by decide +kernel)) ?_
  refine zt_cons (zs_aload_n (k := 0) (by decide +kernel) rfl) ?_
  refine zt_cons (zs_iload (by decide +kernel)) ?_
  refine zt_cons (zs_iload_n (k := 2) (by decide +kernel) rfl) ?_
  refine zt_cons (zs_iconst (n := 1) (by decide +kernel) (by decide)) ?_
  refine zt_cons (zs_iadd (by decide +kernel)) ?_
  refine zt_cons (zs_iload (by decide +kernel)) ?_
  refine zt_cons (zs_cv (n := 3) (x := 52) (C := "CaseTree$Grower") (T := zT_Gr) (N := 5) zI_44 rfl rfl (by decide) rfl zl_Gr_52 zim_Gr_growFrom zsel_Gr_growFrom zl_ini_Gr zc_Gr_growFrom (by decide +kernel) (by decide) (by decide) (by decide +kernel)) ?_
  refine zt_cons (zs_iinc (n := 1) (by decide +kernel) (by decide) (by decide)) ?_
  refine zt_cons (zs_goto (off := -72) (by decide +kernel) (by decide)) ?_
  refine zt_cons (zs_vr rfl (by decide +kernel)) ?_
  exact zt_nil
set_option maxRecDepth 20000 in
set_option maxHeartbeats 4000000 in
theorem zok_Gr_hasTooLittle {Ex : ze_G → State → Prop} : ∀ pc, ze_snd zI Ex zi_Gr_hasTooLittle pc (ze_lk t_Gr_hasTooLittle pc) := by
  refine zt_cons (zs_iconst (n := 0) (by decide +kernel) (by decide)) ?_
  refine zt_cons (zs_istore_n (k := 1) (by decide +kernel) rfl (by decide)) ?_
  refine zt_cons (zs_iconst (n := 0) (by decide +kernel) (by decide)) ?_
  refine zt_cons (zs_istore_n (k := 2) (by decide +kernel) rfl (by decide)) ?_
  refine zt_cons (zs_iload_n (k := 2) (by decide +kernel) rfl) ?_
  refine zt_cons (zs_iconst (n := 3) (by decide +kernel) (by decide)) ?_
  refine zt_cons (zs_cge (off := 24) (by decide +kernel) (by decide)) ?_
  refine zt_cons (zs_aload_n (k := 0) (by decide +kernel) rfl) ?_
  refine zt_cons (zs_gc (j := 2) (C := "CaseTree$Grower") (T := zT_Gr) (N := 5) (by decide) rfl rfl (by decide) (fun w h => List.mem_cons_of_mem _ (zu_Gr w h)) ⟨rfl, rfl, rfl⟩ (List.mem_cons_of_mem _ zf_Gr_23) rfl (fun _ => rfl) (by decide +kernel)) ?_
  refine zt_cons (zs_gc (j := 3) (C := "CaseTree$Path") (T := zT_Pa) (N := 4) (by decide) rfl rfl (by decide) (fun w h => List.mem_cons_of_mem _ (zu_Pa w h)) ⟨rfl, rfl, rfl⟩ (List.mem_cons_of_mem _ zf_Gr_62) rfl (fun _ => rfl) (by decide +kernel)) ?_
  refine zt_cons (zs_iload_n (k := 2) (by decide +kernel) rfl) ?_
  refine zt_cons (zs_ia (by decide +kernel)) ?_
  refine zt_cons (zs_ifle (off := 6) (by decide +kernel) (by decide)) ?_
  refine zt_cons (zs_iinc (n := 1) (by decide +kernel) (by decide) (by decide)) ?_
  refine zt_cons (zs_iinc (n := 1) (by decide +kernel) (by decide) (by decide)) ?_
  refine zt_cons (zs_goto (off := -23) (by decide +kernel) (by decide)) ?_
  refine zt_cons (zs_iload_n (k := 1) (by decide +kernel) rfl) ?_
  refine zt_cons (zs_iconst (n := 1) (by decide +kernel) (by decide)) ?_
  refine zt_cons (zs_cle (off := 26) (by decide +kernel) (by decide)) ?_
  refine zt_cons (zs_aload_n (k := 0) (by decide +kernel) rfl) ?_
  refine zt_cons (zs_gc (j := 2) (C := "CaseTree$Grower") (T := zT_Gr) (N := 5) (by decide) rfl rfl (by decide) (fun w h => List.mem_cons_of_mem _ (zu_Gr w h)) ⟨rfl, rfl, rfl⟩ (List.mem_cons_of_mem _ zf_Gr_23) rfl (fun _ => rfl) (by decide +kernel)) ?_
  refine zt_cons (zs_gc (j := 3) (C := "CaseTree$Path") (T := zT_Pa) (N := 4) (by decide) rfl rfl (by decide) (fun w h => List.mem_cons_of_mem _ (zu_Pa w h)) ⟨rfl, rfl, rfl⟩ (List.mem_cons_of_mem _ zf_Gr_62) rfl (fun _ => rfl) (by decide +kernel)) ?_
  refine zt_cons (zs_iconst (n := 0) (by decide +kernel) (by decide)) ?_
  refine zt_cons (zs_iconst (n := 3) (by decide +kernel) (by decide)) ?_
  refine zt_cons (zs_csN (x := 121) zI_26 rfl rfl zs_static_C_sum zl_ini_C zc_C_sum 3 rfl (by decide +kernel) (by decide) (by decide) (by decide +kernel)) ?_
  refine zt_cons (zs_sipush (n := 1440) (by decide +kernel) (by decide)) ?_
  refine zt_cons (zs_aload_n (k := 0) (by decide +kernel) rfl) ?_
  refine zt_cons (zs_gi (C := "CaseTree$Grower") (T := zT_Gr) (N := 5) (by decide) rfl rfl (by decide) (fun w h => List.mem_cons_of_mem _ (zu_Gr w h)) ⟨rfl, rfl, rfl⟩ (List.mem_cons_of_mem _ zf_Gr_9) rfl (by decide +kernel)) ?_
  refine zt_cons (zs_imul (by decide +kernel)) ?_
  refine zt_cons (zs_cge (off := 7) (by decide +kernel) (by decide)) ?_
  refine zt_cons (zs_iconst (n := 1) (by decide +kernel) (by decide)) ?_
  refine zt_cons (zs_goto (off := 4) (by decide +kernel) (by decide)) ?_
  refine zt_cons (zs_iconst (n := 0) (by decide +kernel) (by decide)) ?_
  refine zt_cons (zs_zr rfl (by decide +kernel)) ?_
  exact zt_nil
set_option maxRecDepth 20000 in
set_option maxHeartbeats 4000000 in
theorem zok_Gr_fork {Ex : ze_G → State → Prop} : ∀ pc, ze_snd zI Ex zi_Gr_fork pc (ze_lk t_Gr_fork pc) := by
  refine zt_cons (zs_aload_n (k := 0) (by decide +kernel) rfl) ?_
  refine zt_cons (zs_gc (j := 3) (C := "CaseTree$Grower") (T := zT_Gr) (N := 5) (by decide) rfl rfl (by decide) (fun w h => List.mem_cons_of_mem _ (zu_Gr w h)) ⟨rfl, rfl, rfl⟩ (List.mem_cons_of_mem _ zf_Gr_27) rfl (fun _ => rfl) (by decide +kernel)) ?_
  refine zt_cons (zs_gc (j := 1) (C := "CaseTree$Tester") (T := zT_Te) (N := 5) (by decide) rfl rfl (by decide) (fun w h => List.mem_cons_of_mem _ (zu_Te w h)) ⟨rfl, rfl, rfl⟩ (List.mem_cons_of_mem _ zf_Gr_77) rfl (fun _ => rfl) (by decide +kernel)) ?_
  refine zt_cons (zs_iload_n (k := 3) (by decide +kernel) rfl) ?_
  refine zt_cons (zs_aq rfl rfl (by decide +kernel)) ?_
  refine zt_cons (zs_gi (C := "CaseTree$Finding") (T := zT_Fi) (N := 4) (by decide) rfl rfl (by decide) (fun w h => List.mem_cons_of_mem _ (zu_Fi w h)) ⟨rfl, rfl, rfl⟩ (List.mem_cons_of_mem _ zf_Gr_125) rfl (by decide +kernel)) ?_
  refine zt_cons (zs_istore (by decide +kernel) (by decide)) ?_
  refine zt_cons (zs_aload_n (k := 0) (by decide +kernel) rfl) ?_
  refine zt_cons (zs_gc (j := 2) (C := "CaseTree$Grower") (T := zT_Gr) (N := 5) (by decide) rfl rfl (by decide) (fun w h => List.mem_cons_of_mem _ (zu_Gr w h)) ⟨rfl, rfl, rfl⟩ (List.mem_cons_of_mem _ zf_Gr_23) rfl (fun _ => rfl) (by decide +kernel)) ?_
  refine zt_cons (zs_gc (j := 2) (C := "CaseTree$Path") (T := zT_Pa) (N := 4) (by decide) rfl rfl (by decide) (fun w h => List.mem_cons_of_mem _ (zu_Pa w h)) ⟨rfl, rfl, rfl⟩ (List.mem_cons_of_mem _ zf_Gr_128) rfl (fun _ => rfl) (by decide +kernel)) ?_
  refine zt_cons (zs_iload_n (k := 2) (by decide +kernel) rfl) ?_
  refine zt_cons (zs_aq rfl rfl (by decide +kernel)) ?_
  refine zt_cons (zs_iload_n (k := 3) (by decide +kernel) rfl) ?_
  refine zt_cons (zs_iload (by decide +kernel)) ?_
  refine zt_cons (zs_aload_n (k := 0) (by decide +kernel) rfl) ?_
  refine zt_cons (zs_gc (j := 0) (C := "CaseTree$Grower") (T := zT_Gr) (N := 5) (by decide) rfl rfl (by decide) (fun w h => List.mem_cons_of_mem _ (zu_Gr w h)) ⟨rfl, rfl, rfl⟩ (List.mem_cons_of_mem _ zf_Gr_15) rfl (fun _ => rfl) (by decide +kernel)) ?_
  refine zt_cons (zs_iload_n (k := 3) (by decide +kernel) rfl) ?_
  refine zt_cons (zs_cv (n := 1) (x := 132) (C := "CaseTree$Cases") (T := zT_Cs) (N := 5) zI_34 rfl rfl (by decide) rfl zl_Gr_132 zim_Cs_branchesOf zsel_Cs_branchesOf zl_ini_Cs zc_Cs_branchesOf (by decide +kernel) (by decide) (by decide) (by decide +kernel)) ?_
  refine zt_cons (zs_cv (n := 3) (x := 135) (C := "CaseTree$Fork") (T := zT_Fo) (N := 6) zI_40 rfl rfl (by decide) rfl zl_Gr_135 zim_Fo_setTest zsel_Fo_setTest zl_ini_Fo zc_Fo_setTest (by decide +kernel) (by decide) (by decide) (by decide +kernel)) ?_
  refine zt_cons (zs_aload_n (k := 0) (by decide +kernel) rfl) ?_
  refine zt_cons (zs_gc (j := 2) (C := "CaseTree$Grower") (T := zT_Gr) (N := 5) (by decide) rfl rfl (by decide) (fun w h => List.mem_cons_of_mem _ (zu_Gr w h)) ⟨rfl, rfl, rfl⟩ (List.mem_cons_of_mem _ zf_Gr_23) rfl (fun _ => rfl) (by decide +kernel)) ?_
  refine zt_cons (zs_iload_n (k := 2) (by decide +kernel) rfl) ?_
  refine zt_cons (zs_cv (n := 1) (x := 140) (C := "CaseTree$Path") (T := zT_Pa) (N := 4) zI_52 rfl rfl (by decide) rfl zl_Gr_140 zim_Pa_tallyParts zsel_Pa_tallyParts zl_ini_Pa zc_Pa_tallyParts (by decide +kernel) (by decide) (by decide) (by decide +kernel)) ?_
  refine zt_cons (zs_aload_n (k := 0) (by decide +kernel) rfl) ?_
  refine zt_cons (zs_gc (j := 1) (C := "CaseTree$Grower") (T := zT_Gr) (N := 5) (by decide) rfl rfl (by decide) (fun w h => List.mem_cons_of_mem _ (zu_Gr w h)) ⟨rfl, rfl, rfl⟩ (List.mem_cons_of_mem _ zf_Gr_19) rfl (fun _ => rfl) (by decide +kernel)) ?_
  refine zt_cons (zs_iload_n (k := 1) (by decide +kernel) rfl) ?_
  refine zt_cons (zs_aload_n (k := 0) (by decide +kernel) rfl) ?_
  refine zt_cons (zs_gc (j := 2) (C := "CaseTree$Grower") (T := zT_Gr) (N := 5) (by decide) rfl rfl (by decide) (fun w h => List.mem_cons_of_mem _ (zu_Gr w h)) ⟨rfl, rfl, rfl⟩ (List.mem_cons_of_mem _ zf_Gr_23) rfl (fun _ => rfl) (by decide +kernel)) ?_
  refine zt_cons (zs_gc (j := 2) (C := "CaseTree$Path") (T := zT_Pa) (N := 4) (by decide) rfl rfl (by decide) (fun w h => List.mem_cons_of_mem _ (zu_Pa w h)) ⟨rfl, rfl, rfl⟩ (List.mem_cons_of_mem _ zf_Gr_128) rfl (fun _ => rfl) (by decide +kernel)) ?_
  refine zt_cons (zs_iload_n (k := 2) (by decide +kernel) rfl) ?_
  refine zt_cons (zs_aq rfl rfl (by decide +kernel)) ?_
  refine zt_cons (zs_cv (n := 2) (x := 143) (C := "CaseTree$Tree") (T := zT_Tr) (N := 12) zI_70 rfl rfl (by decide) rfl zl_Gr_143 zim_Tr_keepTest zsel_Tr_keepTest zl_ini_Tr zc_Tr_keepTest (by decide +kernel) (by decide) (by decide) (by decide +kernel)) ?_
  refine zt_cons (zs_vr rfl (by decide +kernel)) ?_
  exact zt_nil
set_option maxRecDepth 20000 in
set_option maxHeartbeats 4000000 in
theorem zok_Ju_classFor {Ex : ze_G → State → Prop} : ∀ pc, ze_snd zI Ex zi_Ju_classFor pc (ze_lk t_Ju_classFor pc) := by
  refine zt_cons (zs_aload_n (k := 0) (by decide +kernel) rfl) ?_
  refine zt_cons (zs_gc (j := 2) (C := "CaseTree$Judge") (T := zT_Ju) (N := 3) (by decide) rfl rfl (by decide) (fun w h => List.mem_cons_of_mem _ (zu_Ju w h)) ⟨rfl, rfl, rfl⟩ (List.mem_cons_of_mem _ zf_Ju_9) rfl (fun _ => rfl) (by decide +kernel)) ?_
  refine zt_cons (zs_iconst (n := 0) (by decide +kernel) (by decide)) ?_
  refine zt_cons (zs_cs (x := 23) zI_0 rfl rfl zl_Ju_23 zs_static_A_fill zl_ini_A zc_A_fill (by decide +kernel) (by decide) (by decide) (by decide +kernel)) ?_
  refine zt_cons (zs_aload_n (k := 0) (by decide +kernel) rfl) ?_
  refine zt_cons (zs_iconst (n := 0) (by decide +kernel) (by decide)) ?_
  refine zt_cons (zs_iconst (n := 0) (by decide +kernel) (by decide)) ?_
  refine zt_cons (zs_sipush (n := 720) (by decide +kernel) (by decide)) ?_
  refine zt_cons (zs_aload_n (k := 1) (by decide +kernel) rfl) ?_
  refine zt_cons (zs_cv (n := 4) (x := 29) (C := "CaseTree$Judge") (T := zT_Ju) (N := 3) zI_48 rfl rfl (by decide) rfl zl_Ju_29 zim_Ju_giveFrom zsel_Ju_giveFrom zl_ini_Ju zc_Ju_giveFrom (by decide +kernel) (by decide) (by decide) (by decide +kernel)) ?_
  refine zt_cons (zs_aload_n (k := 0) (by decide +kernel) rfl) ?_
  refine zt_cons (zs_gc (j := 2) (C := "CaseTree$Judge") (T := zT_Ju) (N := 3) (by decide) rfl rfl (by decide) (fun w h => List.mem_cons_of_mem _ (zu_Ju w h)) ⟨rfl, rfl, rfl⟩ (List.mem_cons_of_mem _ zf_Ju_9) rfl (fun _ => rfl) (by decide +kernel)) ?_
  refine zt_cons (zs_iconst (n := 0) (by decide +kernel) (by decide)) ?_
  refine zt_cons (zs_iconst (n := 3) (by decide +kernel) (by decide)) ?_
  refine zt_cons (zs_csN (x := 33) zI_27 rfl rfl zs_static_C_firstGreatest zl_ini_C zc_C_firstGreatest 4 rfl (by decide +kernel) (by decide) (by decide) (by decide +kernel)) ?_
  refine zt_cons (zs_ir rfl (by decide +kernel)) ?_
  exact zt_nil
set_option maxRecDepth 20000 in
set_option maxHeartbeats 4000000 in
theorem zok_Ju_giveFrom {Ex : ze_G → State → Prop} : ∀ pc, ze_snd zI Ex zi_Ju_giveFrom pc (ze_lk t_Ju_giveFrom pc) := by
  refine zt_cons (zs_aload_n (k := 0) (by decide +kernel) rfl) ?_
  refine zt_cons (zs_gc (j := 0) (C := "CaseTree$Judge") (T := zT_Ju) (N := 3) (by decide) rfl rfl (by decide) (fun w h => List.mem_cons_of_mem _ (zu_Ju w h)) ⟨rfl, rfl, rfl⟩ (List.mem_cons_of_mem _ zf_Ju_15) rfl (fun _ => rfl) (by decide +kernel)) ?_
  refine zt_cons (zs_iload_n (k := 1) (by decide +kernel) rfl) ?_
  refine zt_cons (zs_cv (n := 1) (x := 37) (C := "CaseTree$Tree") (T := zT_Tr) (N := 12) zI_65 rfl rfl (by decide) rfl zl_Ju_37 zim_Tr_isLeaf zsel_Tr_isLeaf zl_ini_Tr zc_Tr_isLeaf (by decide +kernel) (by decide) (by decide) (by decide +kernel)) ?_
  refine zt_cons (zs_ifne (off := 8) (by decide +kernel) (by decide)) ?_
  refine zt_cons (zs_iload_n (k := 2) (by decide +kernel) rfl) ?_
  refine zt_cons (zs_iconst (n := 3) (by decide +kernel) (by decide)) ?_
  refine zt_cons (zs_clt (off := 10) (by decide +kernel) (by decide)) ?_
  refine zt_cons (zs_aload_n (k := 0) (by decide +kernel) rfl) ?_
  refine zt_cons (zs_iload_n (k := 1) (by decide +kernel) rfl) ?_
  refine zt_cons (zs_iload_n (k := 3) (by decide +kernel) rfl) ?_
  refine zt_cons (zs_cv (n := 2) (x := 43) (C := "CaseTree$Judge") (T := zT_Ju) (N := 3) zI_49 rfl rfl (by decide) rfl zl_Ju_43 zim_Ju_shareOut zsel_Ju_shareOut zl_ini_Ju zc_Ju_shareOut (by decide +kernel) (by decide) (by decide) (by decide +kernel)) ?_
  refine zt_cons (zs_vr rfl (by decide +kernel)) ?_
  refine zt_cons (zs_aload_n (k := 0) (by decide +kernel) rfl) ?_
  refine zt_cons (zs_gc (j := 1) (C := "CaseTree$Judge") (T := zT_Ju) (N := 3) (by decide) rfl rfl (by decide) (fun w h => List.mem_cons_of_mem _ (zu_Ju w h)) ⟨rfl, rfl, rfl⟩ (List.mem_cons_of_mem _ zf_Ju_19) rfl (fun _ => rfl) (by decide +kernel)) ?_
  refine zt_cons (zs_gc (j := 2) (C := "CaseTree$Path") (T := zT_Pa) (N := 4) (by decide) rfl rfl (by decide) (fun w h => List.mem_cons_of_mem _ (zu_Pa w h)) ⟨rfl, rfl, rfl⟩ (List.mem_cons_of_mem _ zf_Ju_47) rfl (fun _ => rfl) (by decide +kernel)) ?_
  refine zt_cons (zs_iload_n (k := 2) (by decide +kernel) rfl) ?_
  refine zt_cons (zs_aq rfl rfl (by decide +kernel)) ?_
  refine zt_cons (zs_astore (by decide +kernel) (by decide)) ?_
  refine zt_cons (zs_aload_n (k := 0) (by decide +kernel) rfl) ?_
  refine zt_cons (zs_gc (j := 0) (C := "CaseTree$Judge") (T := zT_Ju) (N := 3) (by decide) rfl rfl (by decide) (fun w h => List.mem_cons_of_mem _ (zu_Ju w h)) ⟨rfl, rfl, rfl⟩ (List.mem_cons_of_mem _ zf_Ju_15) rfl (fun _ => rfl) (by decide +kernel)) ?_
  refine zt_cons (zs_iload_n (k := 1) (by decide +kernel) rfl) ?_
  refine zt_cons (zs_aload (by decide +kernel)) ?_
  refine zt_cons (zs_cv (n := 2) (x := 53) (C := "CaseTree$Tree") (T := zT_Tr) (N := 12) zI_71 rfl rfl (by decide) rfl zl_Ju_53 zim_Tr_readTest zsel_Tr_readTest zl_ini_Tr zc_Tr_readTest (by decide +kernel) (by decide) (by decide) (by decide +kernel)) ?_
  refine zt_cons (zs_iconst (n := 0) (by decide +kernel) (by decide)) ?_
  refine zt_cons (zs_istore (by decide +kernel) (by decide)) ?_
  refine zt_cons (zs_iload (by decide +kernel)) ?_
  refine zt_cons (zs_aload (by decide +kernel)) ?_
  refine zt_cons (zs_gi (C := "CaseTree$Fork") (T := zT_Fo) (N := 6) (by decide) rfl rfl (by decide) (fun w h => List.mem_cons_of_mem _ (zu_Fo w h)) ⟨rfl, rfl, rfl⟩ (List.mem_cons_of_mem _ zf_Ju_57) rfl (by decide +kernel)) ?_
  refine zt_cons (zs_cge (off := 53) (by decide +kernel) (by decide)) ?_
  refine zt_cons (zs_aload (by decide +kernel)) ?_
  refine zt_cons (zs_iload_n (k := 3) (by decide +kernel) rfl) ?_
  refine zt_cons (zs_aload (by decide +kernel)) ?_
  refine zt_cons (zs_aload (by decide +kernel)) ?_
  refine zt_cons (zs_gi (C := "CaseTree$Fork") (T := zT_Fo) (N := 6) (by decide) rfl rfl (by decide) (fun w h => List.mem_cons_of_mem _ (zu_Fo w h)) ⟨rfl, rfl, rfl⟩ (List.mem_cons_of_mem _ zf_Ju_63) rfl (by decide +kernel)) ?_
  refine zt_cons (zs_ia (by decide +kernel)) ?_
  refine zt_cons (zs_iload (by decide +kernel)) ?_
  refine zt_cons (zs_cv (n := 3) (x := 66) (C := "CaseTree$Fork") (T := zT_Fo) (N := 6) zI_42 rfl rfl (by decide) rfl zl_Ju_66 zim_Fo_passed zsel_Fo_passed zl_ini_Fo zc_Fo_passed (by decide +kernel) (by decide) (by decide) (by decide +kernel)) ?_
  refine zt_cons (zs_istore (by decide +kernel) (by decide)) ?_
  refine zt_cons (zs_iload (by decide +kernel)) ?_
  refine zt_cons (zs_ifle (off := 24) (by decide +kernel) (by decide)) ?_
  refine zt_cons (zs_aload_n (k := 0) (by decide +kernel) rfl) ?_
  refine zt_cons (zs_aload_n (k := 0) (by decide +kernel) rfl) ?_
  refine zt_cons (zs_gc (j := 0) (C := "CaseTree$Judge") (T := zT_Ju) (N := 3) (by decide) rfl rfl (by decide) (fun w h => List.mem_cons_of_mem _ (zu_Ju w h)) ⟨rfl, rfl, rfl⟩ (List.mem_cons_of_mem _ zf_Ju_15) rfl (fun _ => rfl) (by decide +kernel)) ?_
  refine zt_cons (zs_iload_n (k := 1) (by decide +kernel) rfl) ?_
  refine zt_cons (zs_iload (by decide +kernel)) ?_
  refine zt_cons (zs_cv (n := 2) (x := 70) (C := "CaseTree$Tree") (T := zT_Tr) (N := 12) zI_66 rfl rfl (by decide) rfl zl_Ju_70 zim_Tr_below zsel_Tr_below zl_ini_Tr zc_Tr_below (by decide +kernel) (by decide) (by decide) (by decide +kernel)) ?_
  refine zt_cons (zs_iload_n (k := 2) (by decide +kernel) rfl) ?_
  refine zt_cons (zs_iconst (n := 1) (by decide +kernel) (by decide)) ?_
  refine zt_cons (zs_iadd (by decide +kernel)) ?_
  refine zt_cons (zs_iload (by decide +kernel)) ?_
  refine zt_cons (zs_aload (by decide +kernel)) ?_
  refine zt_cons (zs_cv (n := 4) (x := 29) (C := "CaseTree$Judge") (T := zT_Ju) (N := 3) zI_48 rfl rfl (by decide) rfl zl_Ju_29 zim_Ju_giveFrom zsel_Ju_giveFrom zl_ini_Ju zc_Ju_giveFrom (by decide +kernel) (by decide) (by decide) (by decide +kernel)) ?_
  refine zt_cons (zs_iinc (n := 1) (by decide +kernel) (by decide) (by decide)) ?_
  refine zt_cons (zs_goto (off := -57) (by decide +kernel) (by decide)) ?_
  refine zt_cons (zs_vr rfl (by decide +kernel)) ?_
  exact zt_nil
set_option maxRecDepth 20000 in
set_option maxHeartbeats 4000000 in
theorem zok_Ju_shareOut {Ex : ze_G → State → Prop} : ∀ pc, ze_snd zI Ex zi_Ju_shareOut pc (ze_lk t_Ju_shareOut pc) := by
  refine zt_cons (zs_aload_n (k := 0) (by decide +kernel) rfl) ?_
  refine zt_cons (zs_gc (j := 0) (C := "CaseTree$Judge") (T := zT_Ju) (N := 3) (by decide) rfl rfl (by decide) (fun w h => List.mem_cons_of_mem _ (zu_Ju w h)) ⟨rfl, rfl, rfl⟩ (List.mem_cons_of_mem _ zf_Ju_15) rfl (fun _ => rfl) (by decide +kernel)) ?_
  refine zt_cons (zs_iload_n (k := 1) (by decide +kernel) rfl) ?_
  refine zt_cons (zs_cv (n := 1) (x := 74) (C := "CaseTree$Tree") (T := zT_Tr) (N := 12) zI_67 rfl rfl (by decide) rfl zl_Ju_74 zim_Tr_totalWeight zsel_Tr_totalWeight zl_ini_Tr zc_Tr_totalWeight (by decide +kernel) (by decide) (by decide) (by decide +kernel)) ?_
  refine zt_cons (zs_istore_n (k := 3) (by decide +kernel) rfl (by decide)) ?_
  refine zt_cons (zs_iload_n (k := 2) (by decide +kernel) rfl) ?_
  refine zt_cons (zs_istore (by decide +kernel) (by decide)) ?_
  refine zt_cons (zs_iconst (n := 0) (by decide +kernel) (by decide)) ?_
  refine zt_cons (zs_istore (by decide +kernel) (by decide)) ?_
  refine zt_cons (zs_iload (by decide +kernel)) ?_
  refine zt_cons (zs_iconst (n := 3) (by decide +kernel) (by decide)) ?_
  refine zt_cons (zs_cge (off := 52) (by decide +kernel) (by decide)) ?_
  refine zt_cons (zs_iload_n (k := 3) (by decide +kernel) rfl) ?_
  refine zt_cons (zs_ifle (off := 48) (by decide +kernel) (by decide)) ?_
  refine zt_cons (zs_iload_n (k := 2) (by decide +kernel) rfl) ?_
  refine zt_cons (zs_aload_n (k := 0) (by decide +kernel) rfl) ?_
  refine zt_cons (zs_gc (j := 0) (C := "CaseTree$Judge") (T := zT_Ju) (N := 3) (by decide) rfl rfl (by decide) (fun w h => List.mem_cons_of_mem _ (zu_Ju w h)) ⟨rfl, rfl, rfl⟩ (List.mem_cons_of_mem _ zf_Ju_15) rfl (fun _ => rfl) (by decide +kernel)) ?_
  refine zt_cons (zs_gc (j := 4) (C := "CaseTree$Tree") (T := zT_Tr) (N := 12) (by decide) rfl rfl (by decide) (fun w h => List.mem_cons_of_mem _ (zu_Tr w h)) ⟨rfl, rfl, rfl⟩ (List.mem_cons_of_mem _ zf_Ju_78) rfl (fun _ => rfl) (by decide +kernel)) ?_
  refine zt_cons (zs_iload_n (k := 1) (by decide +kernel) rfl) ?_
  refine zt_cons (zs_iconst (n := 3) (by decide +kernel) (by decide)) ?_
  refine zt_cons (zs_imul (by decide +kernel)) ?_
  refine zt_cons (zs_iload (by decide +kernel)) ?_
  refine zt_cons (zs_iadd (by decide +kernel)) ?_
  refine zt_cons (zs_ia (by decide +kernel)) ?_
  refine zt_cons (zs_imul (by decide +kernel)) ?_
  refine zt_cons (zs_iload_n (k := 3) (by decide +kernel) rfl) ?_
  refine zt_cons (zs_idiv (by decide +kernel)) ?_
  refine zt_cons (zs_istore (by decide +kernel) (by decide)) ?_
  refine zt_cons (zs_aload_n (k := 0) (by decide +kernel) rfl) ?_
  refine zt_cons (zs_gc (j := 2) (C := "CaseTree$Judge") (T := zT_Ju) (N := 3) (by decide) rfl rfl (by decide) (fun w h => List.mem_cons_of_mem _ (zu_Ju w h)) ⟨rfl, rfl, rfl⟩ (List.mem_cons_of_mem _ zf_Ju_9) rfl (fun _ => rfl) (by decide +kernel)) ?_
  refine zt_cons (zs_iload (by decide +kernel)) ?_
  refine zt_cons (zs_dup2 (by decide +kernel)) ?_
  refine zt_cons (zs_ia (by decide +kernel)) ?_
  refine zt_cons (zs_iload (by decide +kernel)) ?_
  refine zt_cons (zs_iadd (by decide +kernel)) ?_
  refine zt_cons (zs_ias (by decide +kernel)) ?_
  refine zt_cons (zs_iload (by decide +kernel)) ?_
  refine zt_cons (zs_iload (by decide +kernel)) ?_
  refine zt_cons (zs_isub (by decide +kernel)) ?_
  refine zt_cons (zs_istore (by decide +kernel) (by decide)) ?_
  refine zt_cons (zs_iinc (n := 1) (by decide +kernel) (by decide) (by decide)) ?_
  refine zt_cons (zs_goto (off := -52) (by decide +kernel) (by decide)) ?_
  refine zt_cons (zs_aload_n (k := 0) (by decide +kernel) rfl) ?_
  refine zt_cons (zs_gc (j := 2) (C := "CaseTree$Judge") (T := zT_Ju) (N := 3) (by decide) rfl rfl (by decide) (fun w h => List.mem_cons_of_mem _ (zu_Ju w h)) ⟨rfl, rfl, rfl⟩ (List.mem_cons_of_mem _ zf_Ju_9) rfl (fun _ => rfl) (by decide +kernel)) ?_
  refine zt_cons (zs_aload_n (k := 0) (by decide +kernel) rfl) ?_
  refine zt_cons (zs_gc (j := 0) (C := "CaseTree$Judge") (T := zT_Ju) (N := 3) (by decide) rfl rfl (by decide) (fun w h => List.mem_cons_of_mem _ (zu_Ju w h)) ⟨rfl, rfl, rfl⟩ (List.mem_cons_of_mem _ zf_Ju_15) rfl (fun _ => rfl) (by decide +kernel)) ?_
  refine zt_cons (zs_gc (j := 3) (C := "CaseTree$Tree") (T := zT_Tr) (N := 12) (by decide) rfl rfl (by decide) (fun w h => List.mem_cons_of_mem _ (zu_Tr w h)) ⟨rfl, rfl, rfl⟩ (List.mem_cons_of_mem _ zf_Ju_81) rfl (fun _ => rfl) (by decide +kernel)) ?_
  refine zt_cons (zs_iload_n (k := 1) (by decide +kernel) rfl) ?_
  refine zt_cons (zs_ia (by decide +kernel)) ?_
  refine zt_cons (zs_dup2 (by decide +kernel)) ?_
  refine zt_cons (zs_ia (by decide +kernel)) ?_
  refine zt_cons (zs_iload (by decide +kernel)) ?_
  refine zt_cons (zs_iadd (by decide +kernel)) ?_
  refine zt_cons (zs_ias (by decide +kernel)) ?_
  refine zt_cons (zs_vr rfl (by decide +kernel)) ?_
  exact zt_nil
set_option maxRecDepth 20000 in
set_option maxHeartbeats 4000000 in
theorem zok_Pa_start {Ex : ze_G → State → Prop} : ∀ pc, ze_snd zI Ex zi_Pa_start pc (ze_lk t_Pa_start pc) := by
  refine zt_cons (zs_iconst (n := 0) (by decide +kernel) (by decide)) ?_
  refine zt_cons (zs_istore_n (k := 2) (by decide +kernel) rfl (by decide)) ?_
  refine zt_cons (zs_iload_n (k := 2) (by decide +kernel) rfl) ?_
  refine zt_cons (zs_bipush (n := 24) (by decide +kernel) (by decide)) ?_
  refine zt_cons (zs_cge (off := 29) (by decide +kernel) (by decide)) ?_
  refine zt_cons (zs_aload_n (k := 0) (by decide +kernel) rfl) ?_
  refine zt_cons (zs_gc (j := 1) (C := "CaseTree$Path") (T := zT_Pa) (N := 4) (by decide) rfl rfl (by decide) (fun w h => List.mem_cons_of_mem _ (zu_Pa w h)) ⟨rfl, rfl, rfl⟩ (List.mem_cons_of_mem _ zf_Pa_11) rfl (fun _ => rfl) (by decide +kernel)) ?_
  refine zt_cons (zs_iconst (n := 0) (by decide +kernel) (by decide)) ?_
  refine zt_cons (zs_aq rfl rfl (by decide +kernel)) ?_
  refine zt_cons (zs_iload_n (k := 2) (by decide +kernel) rfl) ?_
  refine zt_cons (zs_iload_n (k := 2) (by decide +kernel) rfl) ?_
  refine zt_cons (zs_iload_n (k := 1) (by decide +kernel) rfl) ?_
  refine zt_cons (zs_cge (off := 9) (by decide +kernel) (by decide)) ?_
  refine zt_cons (zs_sipush (n := 720) (by decide +kernel) (by decide)) ?_
  refine zt_cons (zs_goto (off := 4) (by decide +kernel) (by decide)) ?_
  refine zt_cons (zs_iconst (n := 0) (by decide +kernel) (by decide)) ?_
  refine zt_cons (zs_ias (by decide +kernel)) ?_
  refine zt_cons (zs_iinc (n := 1) (by decide +kernel) (by decide) (by decide)) ?_
  refine zt_cons (zs_goto (off := -29) (by decide +kernel) (by decide)) ?_
  refine zt_cons (zs_vr rfl (by decide +kernel)) ?_
  exact zt_nil
set_option maxRecDepth 20000 in
set_option maxHeartbeats 4000000 in
theorem zok_Pa_tallyClasses {Ex : ze_G → State → Prop} : ∀ pc, ze_snd zI Ex zi_Pa_tallyClasses pc (ze_lk t_Pa_tallyClasses pc) := by
  refine zt_cons (zs_aload_n (k := 0) (by decide +kernel) rfl) ?_
  refine zt_cons (zs_gc (j := 3) (C := "CaseTree$Path") (T := zT_Pa) (N := 4) (by decide) rfl rfl (by decide) (fun w h => List.mem_cons_of_mem _ (zu_Pa w h)) ⟨rfl, rfl, rfl⟩ (List.mem_cons_of_mem _ zf_Pa_22) rfl (fun _ => rfl) (by decide +kernel)) ?_
  refine zt_cons (zs_iconst (n := 0) (by decide +kernel) (by decide)) ?_
  refine zt_cons (zs_cs (x := 31) zI_0 rfl rfl zl_Pa_31 zs_static_A_fill zl_ini_A zc_A_fill (by decide +kernel) (by decide) (by decide) (by decide +kernel)) ?_
  refine zt_cons (zs_iconst (n := 0) (by decide +kernel) (by decide)) ?_
  refine zt_cons (zs_istore_n (k := 2) (by decide +kernel) rfl (by decide)) ?_
  refine zt_cons (zs_iload_n (k := 2) (by decide +kernel) rfl) ?_
  refine zt_cons (zs_aload_n (k := 0) (by decide +kernel) rfl) ?_
  refine zt_cons (zs_gc (j := 0) (C := "CaseTree$Path") (T := zT_Pa) (N := 4) (by decide) rfl rfl (by decide) (fun w h => List.mem_cons_of_mem _ (zu_Pa w h)) ⟨rfl, rfl, rfl⟩ (List.mem_cons_of_mem _ zf_Pa_26) rfl (fun _ => rfl) (by decide +kernel)) ?_
  refine zt_cons (zs_gi (C := "CaseTree$Cases") (T := zT_Cs) (N := 5) (by decide) rfl rfl (by decide) (fun w h => List.mem_cons_of_mem _ (zu_Cs w h)) ⟨rfl, rfl, rfl⟩ (List.mem_cons_of_mem _ zf_Pa_37) rfl (by decide +kernel)) ?_
  refine zt_cons (zs_cge (off := 34) (by decide +kernel) (by decide)) ?_
  refine zt_cons (zs_aload_n (k := 0) (by decide +kernel) rfl) ?_
  refine zt_cons (zs_gc (j := 3) (C := "CaseTree$Path") (T := zT_Pa) (N := 4) (by decide) rfl rfl (by decide) (fun w h => List.mem_cons_of_mem _ (zu_Pa w h)) ⟨rfl, rfl, rfl⟩ (List.mem_cons_of_mem _ zf_Pa_22) rfl (fun _ => rfl) (by decide +kernel)) ?_
  refine zt_cons (zs_aload_n (k := 0) (by decide +kernel) rfl) ?_
  refine zt_cons (zs_gc (j := 0) (C := "CaseTree$Path") (T := zT_Pa) (N := 4) (by decide) rfl rfl (by decide) (fun w h => List.mem_cons_of_mem _ (zu_Pa w h)) ⟨rfl, rfl, rfl⟩ (List.mem_cons_of_mem _ zf_Pa_26) rfl (fun _ => rfl) (by decide +kernel)) ?_
  refine zt_cons (zs_gc (j := 1) (C := "CaseTree$Cases") (T := zT_Cs) (N := 5) (by decide) rfl rfl (by decide) (fun w h => List.mem_cons_of_mem _ (zu_Cs w h)) ⟨rfl, rfl, rfl⟩ (List.mem_cons_of_mem _ zf_Pa_43) rfl (fun _ => rfl) (by decide +kernel)) ?_
  refine zt_cons (zs_iload_n (k := 2) (by decide +kernel) rfl) ?_
  refine zt_cons (zs_ia (by decide +kernel)) ?_
  refine zt_cons (zs_dup2 (by decide +kernel)) ?_
  refine zt_cons (zs_ia (by decide +kernel)) ?_
  refine zt_cons (zs_aload_n (k := 0) (by decide +kernel) rfl) ?_
  refine zt_cons (zs_gc (j := 1) (C := "CaseTree$Path") (T := zT_Pa) (N := 4) (by decide) rfl rfl (by decide) (fun w h => List.mem_cons_of_mem _ (zu_Pa w h)) ⟨rfl, rfl, rfl⟩ (List.mem_cons_of_mem _ zf_Pa_11) rfl (fun _ => rfl) (by decide +kernel)) ?_
  refine zt_cons (zs_iload_n (k := 1) (by decide +kernel) rfl) ?_
  refine zt_cons (zs_aq rfl rfl (by decide +kernel)) ?_
  refine zt_cons (zs_iload_n (k := 2) (by decide +kernel) rfl) ?_
  refine zt_cons (zs_ia (by decide +kernel)) ?_
  refine zt_cons (zs_iadd (by decide +kernel)) ?_
  refine zt_cons (zs_ias (by decide +kernel)) ?_
  refine zt_cons (zs_iinc (n := 1) (by decide +kernel) (by decide) (by decide)) ?_
  refine zt_cons (zs_goto (off := -39) (by decide +kernel) (by decide)) ?_
  refine zt_cons (zs_vr rfl (by decide +kernel)) ?_
  exact zt_nil
set_option maxRecDepth 20000 in
set_option maxHeartbeats 4000000 in
theorem zok_Pa_tallyParts {Ex : ze_G → State → Prop} : ∀ pc, ze_snd zI Ex zi_Pa_tallyParts pc (ze_lk t_Pa_tallyParts pc) := by
  refine zt_cons (zs_aload_n (k := 0) (by decide +kernel) rfl) ?_
  refine zt_cons (zs_gc (j := 2) (C := "CaseTree$Path") (T := zT_Pa) (N := 4) (by decide) rfl rfl (by decide) (fun w h => List.mem_cons_of_mem _ (zu_Pa w h)) ⟨rfl, rfl, rfl⟩ (List.mem_cons_of_mem _ zf_Pa_18) rfl (fun _ => rfl) (by decide +kernel)) ?_
  refine zt_cons (zs_iload_n (k := 1) (by decide +kernel) rfl) ?_
  refine zt_cons (zs_aq rfl rfl (by decide +kernel)) ?_
  refine zt_cons (zs_astore_n (k := 2) (by decide +kernel) rfl (by decide)) ?_
  refine zt_cons (zs_iconst (n := 0) (by decide +kernel) (by decide)) ?_
  refine zt_cons (zs_istore_n (k := 3) (by decide +kernel) rfl (by decide)) ?_
  refine zt_cons (zs_iload_n (k := 3) (by decide +kernel) rfl) ?_
  refine zt_cons (zs_aload_n (k := 0) (by decide +kernel) rfl) ?_
  refine zt_cons (zs_gc (j := 0) (C := "CaseTree$Path") (T := zT_Pa) (N := 4) (by decide) rfl rfl (by decide) (fun w h => List.mem_cons_of_mem _ (zu_Pa w h)) ⟨rfl, rfl, rfl⟩ (List.mem_cons_of_mem _ zf_Pa_26) rfl (fun _ => rfl) (by decide +kernel)) ?_
  refine zt_cons (zs_gi (C := "CaseTree$Cases") (T := zT_Cs) (N := 5) (by decide) rfl rfl (by decide) (fun w h => List.mem_cons_of_mem _ (zu_Cs w h)) ⟨rfl, rfl, rfl⟩ (List.mem_cons_of_mem _ zf_Pa_37) rfl (by decide +kernel)) ?_
  refine zt_cons (zs_cge (off := 54) (by decide +kernel) (by decide)) ?_
  refine zt_cons (zs_aload_n (k := 0) (by decide +kernel) rfl) ?_
  refine zt_cons (zs_gc (j := 0) (C := "CaseTree$Path") (T := zT_Pa) (N := 4) (by decide) rfl rfl (by decide) (fun w h => List.mem_cons_of_mem _ (zu_Pa w h)) ⟨rfl, rfl, rfl⟩ (List.mem_cons_of_mem _ zf_Pa_26) rfl (fun _ => rfl) (by decide +kernel)) ?_
  refine zt_cons (zs_iload_n (k := 3) (by decide +kernel) rfl) ?_
  refine zt_cons (zs_aload_n (k := 2) (by decide +kernel) rfl) ?_
  refine zt_cons (zs_gi (C := "CaseTree$Fork") (T := zT_Fo) (N := 6) (by decide) rfl rfl (by decide) (fun w h => List.mem_cons_of_mem _ (zu_Fo w h)) ⟨rfl, rfl, rfl⟩ (List.mem_cons_of_mem _ zf_Pa_46) rfl (by decide +kernel)) ?_
  refine zt_cons (zs_cv (n := 2) (x := 49) (C := "CaseTree$Cases") (T := zT_Cs) (N := 5) zI_32 rfl rfl (by decide) rfl zl_Pa_49 zim_Cs_valueOf zsel_Cs_valueOf zl_ini_Cs zc_Cs_valueOf (by decide +kernel) (by decide) (by decide) (by decide +kernel)) ?_
  refine zt_cons (zs_istore (by decide +kernel) (by decide)) ?_
  refine zt_cons (zs_iload (by decide +kernel)) ?_
  refine zt_cons (zs_iconst (n := (-1)) (by decide +kernel) (by decide)) ?_
  refine zt_cons (zs_ceq (off := 28) (by decide +kernel) (by decide)) ?_
  refine zt_cons (zs_aload_n (k := 2) (by decide +kernel) rfl) ?_
  refine zt_cons (zs_gf (j := 0) (C := "CaseTree$Fork") (T := zT_Fo) (N := 6) (by decide) rfl rfl (by decide) (fun w h => List.mem_cons_of_mem _ (zu_Fo w h)) ⟨rfl, rfl, rfl⟩ (List.mem_cons_of_mem _ zf_Pa_53) rfl (fun _ => rfl) (by decide +kernel)) ?_
  refine zt_cons (zs_iload (by decide +kernel)) ?_
  refine zt_cons (zs_aload_n (k := 2) (by decide +kernel) rfl) ?_
  refine zt_cons (zs_gi (C := "CaseTree$Fork") (T := zT_Fo) (N := 6) (by decide) rfl rfl (by decide) (fun w h => List.mem_cons_of_mem _ (zu_Fo w h)) ⟨rfl, rfl, rfl⟩ (List.mem_cons_of_mem _ zf_Pa_56) rfl (by decide +kernel)) ?_
  refine zt_cons (zs_csN (x := 59) zI_28 rfl rfl zs_static_C_branchFor zl_ini_C zc_C_branchFor 5 rfl (by decide +kernel) (by decide) (by decide) (by decide +kernel)) ?_
  refine zt_cons (zs_dup2 (by decide +kernel)) ?_
  refine zt_cons (zs_ia (by decide +kernel)) ?_
  refine zt_cons (zs_aload_n (k := 0) (by decide +kernel) rfl) ?_
  refine zt_cons (zs_gc (j := 1) (C := "CaseTree$Path") (T := zT_Pa) (N := 4) (by decide) rfl rfl (by decide) (fun w h => List.mem_cons_of_mem _ (zu_Pa w h)) ⟨rfl, rfl, rfl⟩ (List.mem_cons_of_mem _ zf_Pa_11) rfl (fun _ => rfl) (by decide +kernel)) ?_
  refine zt_cons (zs_iload_n (k := 1) (by decide +kernel) rfl) ?_
  refine zt_cons (zs_aq rfl rfl (by decide +kernel)) ?_
  refine zt_cons (zs_iload_n (k := 3) (by decide +kernel) rfl) ?_
  refine zt_cons (zs_ia (by decide +kernel)) ?_
  refine zt_cons (zs_iadd (by decide +kernel)) ?_
  refine zt_cons (zs_ias (by decide +kernel)) ?_
  refine zt_cons (zs_iinc (n := 1) (by decide +kernel) (by decide) (by decide)) ?_
  refine zt_cons (zs_goto (off := -59) (by decide +kernel) (by decide)) ?_
  refine zt_cons (zs_aload_n (k := 2) (by decide +kernel) rfl) ?_
  refine zt_cons (zs_cv (n := 0) (x := 62) (C := "CaseTree$Fork") (T := zT_Fo) (N := 6) zI_41 rfl rfl (by decide) rfl zl_Pa_62 zim_Fo_settleParts zsel_Fo_settleParts zl_ini_Fo zc_Fo_settleParts (by decide +kernel) (by decide) (by decide) (by decide +kernel)) ?_
  refine zt_cons (zs_vr rfl (by decide +kernel)) ?_
  exact zt_nil
set_option maxRecDepth 20000 in
set_option maxHeartbeats 4000000 in
theorem zok_Pa_goDown {Ex : ze_G → State → Prop} : ∀ pc, ze_snd zI Ex zi_Pa_goDown pc (ze_lk t_Pa_goDown pc) := by
  refine zt_cons (zs_aload_n (k := 0) (by decide +kernel) rfl) ?_
  refine zt_cons (zs_gc (j := 2) (C := "CaseTree$Path") (T := zT_Pa) (N := 4) (by decide) rfl rfl (by decide) (fun w h => List.mem_cons_of_mem _ (zu_Pa w h)) ⟨rfl, rfl, rfl⟩ (List.mem_cons_of_mem _ zf_Pa_18) rfl (fun _ => rfl) (by decide +kernel)) ?_
  refine zt_cons (zs_iload_n (k := 1) (by decide +kernel) rfl) ?_
  refine zt_cons (zs_aq rfl rfl (by decide +kernel)) ?_
  refine zt_cons (zs_astore_n (k := 3) (by decide +kernel) rfl (by decide)) ?_
  refine zt_cons (zs_iconst (n := 0) (by decide +kernel) (by decide)) ?_
  refine zt_cons (zs_istore (by decide +kernel) (by decide)) ?_
  refine zt_cons (zs_iload (by decide +kernel)) ?_
  refine zt_cons (zs_aload_n (k := 0) (by decide +kernel) rfl) ?_
  refine zt_cons (zs_gc (j := 0) (C := "CaseTree$Path") (T := zT_Pa) (N := 4) (by decide) rfl rfl (by decide) (fun w h => List.mem_cons_of_mem _ (zu_Pa w h)) ⟨rfl, rfl, rfl⟩ (List.mem_cons_of_mem _ zf_Pa_26) rfl (fun _ => rfl) (by decide +kernel)) ?_
  refine zt_cons (zs_gi (C := "CaseTree$Cases") (T := zT_Cs) (N := 5) (by decide) rfl rfl (by decide) (fun w h => List.mem_cons_of_mem _ (zu_Cs w h)) ⟨rfl, rfl, rfl⟩ (List.mem_cons_of_mem _ zf_Pa_37) rfl (by decide +kernel)) ?_
  refine zt_cons (zs_cge (off := 51) (by decide +kernel) (by decide)) ?_
  refine zt_cons (zs_aload_n (k := 0) (by decide +kernel) rfl) ?_
  refine zt_cons (zs_gc (j := 0) (C := "CaseTree$Path") (T := zT_Pa) (N := 4) (by decide) rfl rfl (by decide) (fun w h => List.mem_cons_of_mem _ (zu_Pa w h)) ⟨rfl, rfl, rfl⟩ (List.mem_cons_of_mem _ zf_Pa_26) rfl (fun _ => rfl) (by decide +kernel)) ?_
  refine zt_cons (zs_iload (by decide +kernel)) ?_
  refine zt_cons (zs_aload_n (k := 3) (by decide +kernel) rfl) ?_
  refine zt_cons (zs_gi (C := "CaseTree$Fork") (T := zT_Fo) (N := 6) (by decide) rfl rfl (by decide) (fun w h => List.mem_cons_of_mem _ (zu_Fo w h)) ⟨rfl, rfl, rfl⟩ (List.mem_cons_of_mem _ zf_Pa_46) rfl (by decide +kernel)) ?_
  refine zt_cons (zs_cv (n := 2) (x := 49) (C := "CaseTree$Cases") (T := zT_Cs) (N := 5) zI_32 rfl rfl (by decide) rfl zl_Pa_49 zim_Cs_valueOf zsel_Cs_valueOf zl_ini_Cs zc_Cs_valueOf (by decide +kernel) (by decide) (by decide) (by decide +kernel)) ?_
  refine zt_cons (zs_istore (by decide +kernel) (by decide)) ?_
  refine zt_cons (zs_aload_n (k := 0) (by decide +kernel) rfl) ?_
  refine zt_cons (zs_gc (j := 1) (C := "CaseTree$Path") (T := zT_Pa) (N := 4) (by decide) rfl rfl (by decide) (fun w h => List.mem_cons_of_mem _ (zu_Pa w h)) ⟨rfl, rfl, rfl⟩ (List.mem_cons_of_mem _ zf_Pa_11) rfl (fun _ => rfl) (by decide +kernel)) ?_
  refine zt_cons (zs_iload_n (k := 1) (by decide +kernel) rfl) ?_
  refine zt_cons (zs_iconst (n := 1) (by decide +kernel) (by decide)) ?_
  refine zt_cons (zs_iadd (by decide +kernel)) ?_
  refine zt_cons (zs_aq rfl rfl (by decide +kernel)) ?_
  refine zt_cons (zs_iload (by decide +kernel)) ?_
  refine zt_cons (zs_aload_n (k := 3) (by decide +kernel) rfl) ?_
  refine zt_cons (zs_aload_n (k := 0) (by decide +kernel) rfl) ?_
  refine zt_cons (zs_gc (j := 1) (C := "CaseTree$Path") (T := zT_Pa) (N := 4) (by decide) rfl rfl (by decide) (fun w h => List.mem_cons_of_mem _ (zu_Pa w h)) ⟨rfl, rfl, rfl⟩ (List.mem_cons_of_mem _ zf_Pa_11) rfl (fun _ => rfl) (by decide +kernel)) ?_
  refine zt_cons (zs_iload_n (k := 1) (by decide +kernel) rfl) ?_
  refine zt_cons (zs_aq rfl rfl (by decide +kernel)) ?_
  refine zt_cons (zs_iload (by decide +kernel)) ?_
  refine zt_cons (zs_ia (by decide +kernel)) ?_
  refine zt_cons (zs_iload (by decide +kernel)) ?_
  refine zt_cons (zs_iload_n (k := 2) (by decide +kernel) rfl) ?_
  refine zt_cons (zs_cv (n := 3) (x := 65) (C := "CaseTree$Fork") (T := zT_Fo) (N := 6) zI_42 rfl rfl (by decide) rfl zl_Pa_65 zim_Fo_passed zsel_Fo_passed zl_ini_Fo zc_Fo_passed (by decide +kernel) (by decide) (by decide) (by decide +kernel)) ?_
  refine zt_cons (zs_ias (by decide +kernel)) ?_
  refine zt_cons (zs_iinc (n := 1) (by decide +kernel) (by decide) (by decide)) ?_
  refine zt_cons (zs_goto (off := -57) (by decide +kernel) (by decide)) ?_
  refine zt_cons (zs_vr rfl (by decide +kernel)) ?_
  exact zt_nil
set_option maxRecDepth 20000 in
set_option maxHeartbeats 4000000 in
theorem zok_Pr_pruneAll {Ex : ze_G → State → Prop} : ∀ pc, ze_snd zI Ex zi_Pr_pruneAll pc (ze_lk t_Pr_pruneAll pc) := by
  refine zt_cons (zs_aload_n (k := 0) (by decide +kernel) rfl) ?_
  refine zt_cons (zs_iload_n (k := 1) (by decide +kernel) rfl) ?_
  refine zt_cons (zs_pi (C := "CaseTree$Pruner") (T := zT_Pr) (N := 3) (by decide) rfl rfl (by decide) (fun w h => List.mem_cons_of_mem _ (zu_Pr w h)) zy_Pr_ok zn_Pr ⟨rfl, rfl, rfl, rfl⟩ (by decide +kernel) (List.mem_cons_of_mem _ zf_Pr_9) rfl (by decide +kernel)) ?_
  refine zt_cons (zs_aload_n (k := 0) (by decide +kernel) rfl) ?_
  refine zt_cons (zs_gc (j := 1) (C := "CaseTree$Pruner") (T := zT_Pr) (N := 3) (by decide) rfl rfl (by decide) (fun w h => List.mem_cons_of_mem _ (zu_Pr w h)) ⟨rfl, rfl, rfl⟩ (List.mem_cons_of_mem _ zf_Pr_19) rfl (fun _ => rfl) (by decide +kernel)) ?_
  refine zt_cons (zs_aload_n (k := 0) (by decide +kernel) rfl) ?_
  refine zt_cons (zs_gc (j := 0) (C := "CaseTree$Pruner") (T := zT_Pr) (N := 3) (by decide) rfl rfl (by decide) (fun w h => List.mem_cons_of_mem _ (zu_Pr w h)) ⟨rfl, rfl, rfl⟩ (List.mem_cons_of_mem _ zf_Pr_15) rfl (fun _ => rfl) (by decide +kernel)) ?_
  refine zt_cons (zs_gi (C := "CaseTree$Tree") (T := zT_Tr) (N := 12) (by decide) rfl rfl (by decide) (fun w h => List.mem_cons_of_mem _ (zu_Tr w h)) ⟨rfl, rfl, rfl⟩ (List.mem_cons_of_mem _ zf_Pr_23) rfl (by decide +kernel)) ?_
  refine zt_cons (zs_cv (n := 1) (x := 28) (C := "CaseTree$Path") (T := zT_Pa) (N := 4) zI_50 rfl rfl (by decide) rfl zl_Pr_28 zim_Pa_start zsel_Pa_start zl_ini_Pa zc_Pa_start (by decide +kernel) (by decide) (by decide) (by decide +kernel)) ?_
  refine zt_cons (zs_aload_n (k := 0) (by decide +kernel) rfl) ?_
  refine zt_cons (zs_iconst (n := 0) (by decide +kernel) (by decide)) ?_
  refine zt_cons (zs_iconst (n := 0) (by decide +kernel) (by decide)) ?_
  refine zt_cons (zs_iconst (n := 1) (by decide +kernel) (by decide)) ?_
  refine zt_cons (zs_cv (n := 3) (x := 34) (C := "CaseTree$Pruner") (T := zT_Pr) (N := 3) zI_55 rfl rfl (by decide) rfl zl_Pr_34 zim_Pr_sendFrom zsel_Pr_sendFrom zl_ini_Pr zc_Pr_sendFrom (by decide +kernel) (by decide) (by decide) (by decide +kernel)) ?_
  refine zt_cons (zs_pop (by decide +kernel)) ?_
  refine zt_cons (zs_aload_n (k := 0) (by decide +kernel) rfl) ?_
  refine zt_cons (zs_iconst (n := 0) (by decide +kernel) (by decide)) ?_
  refine zt_cons (zs_iconst (n := 0) (by decide +kernel) (by decide)) ?_
  refine zt_cons (zs_cv (n := 2) (x := 38) (C := "CaseTree$Pruner") (T := zT_Pr) (N := 3) zI_56 rfl rfl (by decide) rfl zl_Pr_38 zim_Pr_pruneFrom zsel_Pr_pruneFrom zl_ini_Pr zc_Pr_pruneFrom (by decide +kernel) (by decide) (by decide) (by decide +kernel)) ?_
  refine zt_cons (zs_pop (by decide +kernel)) ?_
  refine zt_cons (zs_aload_n (k := 0) (by decide +kernel) rfl) ?_
  refine zt_cons (zs_gc (j := 0) (C := "CaseTree$Pruner") (T := zT_Pr) (N := 3) (by decide) rfl rfl (by decide) (fun w h => List.mem_cons_of_mem _ (zu_Pr w h)) ⟨rfl, rfl, rfl⟩ (List.mem_cons_of_mem _ zf_Pr_15) rfl (fun _ => rfl) (by decide +kernel)) ?_
  refine zt_cons (zs_cv (n := 0) (x := 42) (C := "CaseTree$Tree") (T := zT_Tr) (N := 12) zI_75 rfl rfl (by decide) rfl zl_Pr_42 zim_Tr_numberNodes zsel_Tr_numberNodes zl_ini_Tr zc_Tr_numberNodes (by decide +kernel) (by decide) (by decide) (by decide +kernel)) ?_
  refine zt_cons (zs_vr rfl (by decide +kernel)) ?_
  exact zt_nil
