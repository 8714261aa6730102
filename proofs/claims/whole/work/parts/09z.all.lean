def zt_all2 (Ex : ze_G → State → Prop) : List ze_I → List ze_T → Prop
  | [], [] => True
  | a :: l, b :: m => (∀ pc, ze_snd zI Ex a pc (ze_lk b pc)) ∧ zt_all2 Ex l m
  | _, _ => False
theorem zt_all2_at {Ex : ze_G → State → Prop} {d : ze_I} : ∀ (l : List ze_I) (m : List ze_T), zt_all2 Ex l m → ∀ mi pc, ze_snd zI Ex (l.getD mi d) pc (ze_lk (m.getD mi []) pc)
  | [], [], _, _, pc => zt_nil pc
  | _ :: _, _ :: _, h, 0, pc => h.1 pc
  | _ :: l, _ :: m, h, mi + 1, pc => zt_all2_at l m h.2 mi pc
theorem zok {Ex : ze_G → State → Prop} : ∀ mi pc, ze_snd zI Ex (zI mi) pc (ze_lk (ztb mi) pc) := zt_all2_at zIl zTl ⟨zok_A_fill, zok_C_attribute, zok_C_add, zok_C_grow, zok_C_prune, zok_C_classify, zok_C_share, zok_C_wrong, zok_C_gain, zok_C_split, zok_C_cut, zok_C_cases, zok_C_nodes, zok_C_tested, zok_C_threshold, zok_C_child, zok_C_classOf, zok_C_weight, zok_C_part, zok_C_log, zok_C_ask, zok_C_hasRootTest, zok_C_isClass, zok_C_isMinimum, zok_C_logarithm, zok_C_information, zok_C_sum, zok_C_firstGreatest, zok_C_branchFor, zok_Cs_putAttribute, zok_Cs_putCase, zok_Cs_copyValues, zok_Cs_valueOf, zok_Cs_isContinuous, zok_Cs_branchesOf, zok_Cs_fits, zok_Cs_nextValue, zok_Cs_valueUpTo, zok_Fi_hasGain, zok_Fi_hasGreaterRatio, zok_Fo_setTest, zok_Fo_settleParts, zok_Fo_passed, zok_Gr_plant, zok_Gr_growFrom, zok_Gr_hasTooLittle, zok_Gr_fork, zok_Ju_classFor, zok_Ju_giveFrom, zok_Ju_shareOut, zok_Pa_start, zok_Pa_tallyClasses, zok_Pa_tallyParts, zok_Pa_goDown, zok_Pr_pruneAll, zok_Pr_sendFrom, zok_Pr_pruneFrom, zok_Pr_leafErrors, zok_Te_examine, zok_Te_tally, zok_Te_isValid, zok_Te_offer, zok_Te_chosen, zok_Tr_has, zok_Tr_hasBranch, zok_Tr_isLeaf, zok_Tr_below, zok_Tr_totalWeight, zok_Tr_makeNode, zok_Tr_becomeLeaf, zok_Tr_keepTest, zok_Tr_readTest, zok_Tr_keepWeights, zok_Tr_moveNode, zok_Tr_heaviestBelow, zok_Tr_numberNodes, zok_Tr_numberFrom, zok_M_logOf, zok_M_term, zok_M_information, zok_M_log, zok_M_attribute, zok_M_fits, zok_M_allFit, zok_M_add, zok_M_classWeight, zok_M_weightOf, zok_M_heaviest, zok_M_branches, zok_M_branch, zok_M_measure, zok_M_nextValue, zok_M_valueUpTo, zok_M_measureCuts, zok_M_measureTest, zok_M_usedAbove, zok_M_useful, zok_M_choose, zok_M_sendDown, zok_M_settle, zok_M_grow, zok_M_list, zok_M_leafErrors, zok_M_errors, zok_M_copyWeights, zok_M_wouldBe, zok_M_replace, zok_M_lookAt, zok_M_prune, zok_M_inTree, zok_M_arrive, zok_M_classifyAsked, zok_M_classify, zok_M_share, zok_M_wrong, zok_M_rootTest, zok_M_gain, zok_M_split, zok_M_cut, zok_M_cases, zok_M_nodes, zok_M_at, zok_M_tested, zok_M_threshold, zok_M_child, zok_M_classOf, zok_M_weight, zok_M_part, trivial⟩
theorem zplain : ∀ mi, plainName (zI mi).1.cls = true := by
  have h : ∀ (l : List ze_I), (l.all fun i => plainName i.1.cls) = true → ∀ mi, plainName (l.getD mi zi_A_fill).1.cls = true := by
    intro l
    induction l with
    | nil => intro _ mi; show plainName zi_A_fill.1.cls = true; decide +kernel
    | cons a l ih =>
      intro h mi
      rw [List.all_cons, Bool.and_eq_true] at h
      cases mi with
      | zero => exact h.1
      | succ mi => exact ih h.2 mi
  exact h zIl (by decide +kernel)
abbrev zM (d mi : Nat) (as : List Value) (σ : ze_S) (Q : ze_P) : Prop := ze_M ztb (fun mi => (zI mi).2.2.1) d mi as σ Q
abbrev zE (d : Nat) (t : ze_T) (Q : ze_P) (f : ze_F) : Prop := ze_ev (ze_M ztb (fun mi => (zI mi).2.2.1) d) (ze_op t) Q f
theorem zM_sound (l : Launch) {G : ze_G} (hi : ze_inj G) {d mi : Nat} {as : List Value} {σ : ze_S} {Q : ze_P} (h : zM d mi as σ Q) (h1 : ze_c1 as = true) (h2 : as.length ≤ (zI mi).2.2.1) : ze_Met zI l d mi G as σ Q := ze_sound zplain (fun mi pc => zok mi pc) l hi d mi as σ Q h h1 h2
theorem zM_in {d mi : Nat} {as : List Value} {σ : ze_S} {Q : ze_P} (t : ze_T) (L : List (Option Value)) (ht : ztb mi = t) (hL : ze_ent (zI mi).2.2.1 as = L) (h : zE d t Q (0, L, [], σ)) : zM (d + 1) mi as σ Q := by
  subst ht
  subst hL
  exact h
