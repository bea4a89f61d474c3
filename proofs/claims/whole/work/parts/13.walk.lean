/-! ===== walks ===== -/
def tb_Jd_min : List (Nat × Instr × Nat) := [(0, .iload_n 0, 1), (1, .iload_n 1, 1), (2, .if_icmp .gt 7, 3), (5, .iload_n 0, 1), (6, .goto 4, 3), (9, .iload_n 1, 1), (10, .ireturn, 1)]
theorem dt_Jd_min (i : Nat) (q : Nat × Instr × Nat) (h : tb_Jd_min[i]? = some q) : decode prog_16_method_69_code q.1 = .ok q.2 := jdt (by decide +kernel : tb_Jd_min.all (fun q => decide (decode prog_16_method_69_code q.1 = .ok q.2)) = true) h
theorem ok_Jd_min : jOKS M_Jd_min 2 := ⟨⟨gt5 121 rfl rfl, gt1 20 rfl rfl, (by decide : "java/lang/Math" ≠ "java/lang/invoke/MethodHandle"), (by decide : "java/lang/Math" ≠ "java/lang/invoke/VarHandle"), (by decide +kernel : (parseMethodDescriptor "(II)I").map (fun d => d.parameters.length) = some 2)⟩, gt5 120 rfl rfl⟩
set_option maxRecDepth 100000 in
set_option maxHeartbeats 4000000 in
theorem c_Jd_min {G : jG} {S : hS} {V : hV} {v0 : Int32} {v1 : Int32} {res : Int32} (hf : Jd_min v0 v1 = res) : jC G M_Jd_min [ai v0, ai v1] (S, V) (some (ai res)) (S, V) := by
  unfold Jd_min at hf
  refine jC_of (by decide +kernel) rfl (nle rfl) ?_
  show jJ G M_Jd_min (jEnd G M_Jd_min (some (ai res)) (S, V)) 0 0 0 [(0, ai v0), (1, ai v1)] [] (S, V)
  refine j_iload_n (dt_Jd_min 0 (0, .iload_n 0, 1) rfl) rfl ?_
  refine j_iload_n (dt_Jd_min 1 (1, .iload_n 1, 1) rfl) rfl ?_
  refine jite hf (fun hc hf => ?_) (fun hc hf => ?_)
  · refine j_icmp_gt (dt_Jd_min 2 (2, .if_icmp .gt 7, 3) rfl) rfl (fun _ => ?_) (fun q => absurd hc q)
    refine j_iload_n (dt_Jd_min 5 (9, .iload_n 1, 1) rfl) rfl ?_
    cases hf
    exact j_iret (dt_Jd_min 6 (10, .ireturn, 1) rfl) rfl
  · refine j_icmp_gt (dt_Jd_min 2 (2, .if_icmp .gt 7, 3) rfl) rfl (fun q => absurd q hc) (fun _ => ?_)
    refine j_iload_n (dt_Jd_min 3 (5, .iload_n 0, 1) rfl) rfl ?_
    refine j_goto (dt_Jd_min 4 (6, .goto 4, 3) rfl) rfl ?_
    cases hf
    exact j_iret (dt_Jd_min 6 (10, .ireturn, 1) rfl) rfl
def tb_Mo_groups : List (Nat × Instr × Nat) := [(0, .iconst 0, 1), (1, .istore_n 1, 1), (2, .iload_n 1, 1), (3, .bipush 10, 2), (5, .if_icmp .ge 16, 3), (8, .aload_n 0, 1), (9, .getfield 121, 3), (12, .iload_n 1, 1), (13, .iload_n 1, 1), (14, .iastore, 1), (15, .iinc 1 1, 3), (18, .goto (-16), 3), (21, .iconst 0, 1), (22, .istore_n 1, 1), (23, .iload_n 1, 1), (24, .bipush 10, 2), (26, .if_icmp .ge 80, 3), (29, .iconst 0, 1), (30, .istore_n 2, 1), (31, .iload_n 2, 1), (32, .aload_n 0, 1), (33, .getfield 44, 3), (36, .iconst 0, 1), (37, .iaload, 1), (38, .if_icmp .ge 62, 3), (41, .iconst 0, 1), (42, .istore_n 3, 1), (43, .iload_n 3, 1), (44, .aload_n 0, 1), (45, .getfield 44, 3), (48, .iconst 0, 1), (49, .iaload, 1), (50, .if_icmp .ge 44, 3), (53, .aload_n 0, 1), (54, .getfield 113, 3), (57, .bipush 10, 2), (59, .iload_n 2, 1), (60, .imul, 1), (61, .iload_n 3, 1), (62, .iadd, 1), (63, .baload, 1), (64, .ifCond .eq 24, 3), (67, .aload_n 0, 1), (68, .getfield 121, 3), (71, .iload_n 2, 1), (72, .aload_n 0, 1), (73, .getfield 121, 3), (76, .iload_n 2, 1), (77, .iaload, 1), (78, .aload_n 0, 1), (79, .getfield 121, 3), (82, .iload_n 3, 1), (83, .iaload, 1), (84, .invokestatic 370, 3), (87, .iastore, 1), (88, .iinc 3 1, 3), (91, .goto (-48), 3), (94, .iinc 2 1, 3), (97, .goto (-66), 3), (100, .iinc 1 1, 3), (103, .goto (-80), 3), (106, .iconst 0, 1), (107, .istore_n 1, 1), (108, .iconst 0, 1), (109, .istore_n 2, 1), (110, .iload_n 2, 1), (111, .aload_n 0, 1), (112, .getfield 44, 3), (115, .iconst 0, 1), (116, .iaload, 1), (117, .if_icmp .ge 94, 3), (120, .aload_n 0, 1), (121, .getfield 81, 3), (124, .iload_n 2, 1), (125, .baload, 1), (126, .ifCond .eq 79, 3), (129, .aload_n 0, 1), (130, .getfield 121, 3), (133, .iload_n 2, 1), (134, .iaload, 1), (135, .iload_n 2, 1), (136, .if_icmp .eq 6, 3), (139, .goto 66, 3), (142, .aload_n 0, 1), (143, .getfield 124, 3), (146, .iload_n 1, 1), (147, .iconst 0, 1), (148, .iastore, 1), (149, .iconst 0, 1), (150, .istore_n 3, 1), (151, .iload_n 3, 1), (152, .aload_n 0, 1), (153, .getfield 44, 3), (156, .iconst 0, 1), (157, .iaload, 1), (158, .if_icmp .ge 44, 3), (161, .aload_n 0, 1), (162, .getfield 124, 3), (165, .iload_n 1, 1), (166, .dup2, 1), (167, .iaload, 1), (168, .aload_n 0, 1), (169, .getfield 81, 3), (172, .iload_n 3, 1), (173, .baload, 1), (174, .ifCond .eq 19, 3), (177, .aload_n 0, 1), (178, .getfield 121, 3), (181, .iload_n 3, 1), (182, .iaload, 1), (183, .iload_n 2, 1), (184, .if_icmp .ne 9, 3), (187, .iconst 1, 1), (188, .iload_n 3, 1), (189, .ishl, 1), (190, .goto 4, 3), (193, .iconst 0, 1), (194, .ior, 1), (195, .iastore, 1), (196, .iinc 3 1, 3), (199, .goto (-48), 3), (202, .iinc 1 1, 3), (205, .iinc 2 1, 3), (208, .goto (-98), 3), (211, .iload_n 1, 1), (212, .ireturn, 1)]
theorem dt_Mo_groups (i : Nat) (q : Nat × Instr × Nat) (h : tb_Mo_groups[i]? = some q) : decode prog_14_method_63_code q.1 = .ok q.2 := jdt (by decide +kernel : tb_Mo_groups.all (fun q => decide (decode prog_14_method_63_code q.1 = .ok q.2)) = true) h
theorem ok_Mo_groups : jOKV M_Mo_groups 0 := ⟨⟨gt7 237 rfl rfl, gt1 17 rfl rfl, (by decide : "FirstInModel" ≠ "java/lang/invoke/MethodHandle"), (by decide : "FirstInModel" ≠ "java/lang/invoke/VarHandle"), (by decide +kernel : (parseMethodDescriptor "()I").map (fun d => d.parameters.length) = some 0)⟩, gt7 236 rfl rfl, gs_in 43 rfl, rfl, nlt rfl⟩
set_option maxRecDepth 100000 in
set_option maxHeartbeats 4000000 in
theorem c_Mo_groups {G : jG} {S : hS} {V : hV} {v0 : Option Nat} {res : Int32 × hV} (hf : Mo_groups S v0 V = some res) : jC G M_Mo_groups [ar v0] (S, V) (some (ai res.1)) (S, res.2) := by
  unfold Mo_groups at hf
  obtain ⟨_, _, hf⟩ := jbind hf
  refine jC_of (pf_X12 _ _) rfl (nle rfl) ?_
  show jJ G M_Mo_groups (jEnd G M_Mo_groups (some (ai res.1)) (S, res.2)) 0 0 0 [(0, ar v0)] [] (S, V)
  refine j_iconst (dt_Mo_groups 0 (0, .iconst 0, 1) rfl) ic_0 ?_
  refine j_istore_n (dt_Mo_groups 1 (1, .istore_n 1, 1) rfl) (nlt rfl) ?_
  obtain ⟨t2, ht2, hf⟩ := jbind hf
  have hX2 : ∀ q2 : hV, q2 = t2 → jJ G M_Mo_groups (jEnd G M_Mo_groups (some (ai res.1)) (S, res.2)) 0 0 21 [(0, ar v0)] [] (S, q2) := by
    intro q2 hq2
    subst hq2
    refine j_iconst (dt_Mo_groups 12 (21, .iconst 0, 1) rfl) ic_0 ?_
    refine j_istore_n (dt_Mo_groups 13 (22, .istore_n 1, 1) rfl) (nlt rfl) ?_
    obtain ⟨t23, ht23, hf⟩ := jbind hf
    have hX23 : ∀ q23 : hV, q23 = t23 → jJ G M_Mo_groups (jEnd G M_Mo_groups (some (ai res.1)) (S, res.2)) 0 0 106 [(0, ar v0)] [] (S, q23) := by
      intro q23 hq23
      subst hq23
      refine j_iconst (dt_Mo_groups 61 (106, .iconst 0, 1) rfl) ic_0 ?_
      refine j_istore_n (dt_Mo_groups 62 (107, .istore_n 1, 1) rfl) (nlt rfl) ?_
      refine j_iconst (dt_Mo_groups 63 (108, .iconst 0, 1) rfl) ic_0 ?_
      refine j_istore_n (dt_Mo_groups 64 (109, .istore_n 2, 1) rfl) (nlt rfl) ?_
      obtain ⟨t110, ht110, hf⟩ := jbind hf
      have hX110 : ∀ q110 : Int32 × hV, q110 = t110 → jJ G M_Mo_groups (jEnd G M_Mo_groups (some (ai res.1)) (S, res.2)) 0 0 211 [(1, ai q110.1)] [] (S, q110.2) := by
        intro q110 hq110
        subst hq110
        refine j_iload_n (dt_Mo_groups 124 (211, .iload_n 1, 1) rfl) rfl ?_
        cases hf
        exact j_iret (dt_Mo_groups 125 (212, .ireturn, 1) rfl) rfl
      refine j_sub (ls' := [(0, ar v0), (1, ai 0), (2, ai 0)]) rfl ?_
      refine jloop_J (C := fun s110 => jJ G M_Mo_groups (jEnd G M_Mo_groups (some (ai res.1)) (S, res.2)) 0 0 110 [(0, ar v0), (1, ai s110.1), (2, ai s110.2.1)] [] (S, s110.2.2)) (fun s110 z110_ hy110 hin110 hout110 => ?_) _ _ ht110
      unfold Mo_groups_L110 at hy110
      refine j_iload_n (dt_Mo_groups 65 (110, .iload_n 2, 1) rfl) rfl ?_
      refine j_aload_n (dt_Mo_groups 66 (111, .aload_n 0, 1) rfl) rfl ?_
      obtain ⟨x15, hx15, hy110⟩ := jbind hy110
      refine j_getR (dt_Mo_groups 67 (112, .getfield 44, 3) rfl) fl_X12_44 hx15 (fun _ _ => rfl) ?_
      refine j_iconst (dt_Mo_groups 68 (115, .iconst 0, 1) rfl) ic_0 ?_
      obtain ⟨x16, hx16, hy110⟩ := jbind hy110
      refine j_aldI (dt_Mo_groups 69 (116, .iaload, 1) rfl) hx16 ?_
      refine jite hy110 (fun hc hy110 => ?_) (fun hc hy110 => ?_)
      · refine j_icmp_ge (dt_Mo_groups 70 (117, .if_icmp .ge 94, 3) rfl) rfl (fun _ => ?_) (fun q => absurd hc q)
        cases hy110
        have hz := hX110 _ (hout110 _ rfl)
        exact j_sub rfl hz
      · refine j_icmp_ge (dt_Mo_groups 70 (117, .if_icmp .ge 94, 3) rfl) rfl (fun q => absurd q hc) (fun _ => ?_)
        refine j_aload_n (dt_Mo_groups 71 (120, .aload_n 0, 1) rfl) rfl ?_
        obtain ⟨x17, hx17, hy110⟩ := jbind hy110
        refine j_getR (dt_Mo_groups 72 (121, .getfield 81, 3) rfl) fl_X12_81 hx17 (fun _ _ => rfl) ?_
        refine j_iload_n (dt_Mo_groups 73 (124, .iload_n 2, 1) rfl) rfl ?_
        obtain ⟨x18, hx18, hy110⟩ := jbind hy110
        refine j_aldZ (dt_Mo_groups 74 (125, .baload, 1) rfl) hx18 ?_
        refine jite hy110 (fun hc hy110 => ?_) (fun hc hy110 => ?_)
        · refine j_if_eq (dt_Mo_groups 75 (126, .ifCond .eq 79, 3) rfl) rfl (fun _ => ?_) (fun q => absurd hc q)
          refine j_iinc (dt_Mo_groups 122 (205, .iinc 2 1, 3) rfl) rfl (nlt rfl) (ii_1 _) ?_
          refine j_goto (dt_Mo_groups 123 (208, .goto (-98), 3) rfl) rfl ?_
          cases hy110
          have hz := hin110 _ rfl
          exact j_sub rfl hz
        · refine j_if_eq (dt_Mo_groups 75 (126, .ifCond .eq 79, 3) rfl) rfl (fun q => absurd q hc) (fun _ => ?_)
          refine j_aload_n (dt_Mo_groups 76 (129, .aload_n 0, 1) rfl) rfl ?_
          obtain ⟨x19, hx19, hy110⟩ := jbind hy110
          refine j_getR (dt_Mo_groups 77 (130, .getfield 121, 3) rfl) fl_X12_121 hx19 (fun _ _ => rfl) ?_
          refine j_iload_n (dt_Mo_groups 78 (133, .iload_n 2, 1) rfl) rfl ?_
          obtain ⟨x20, hx20, hy110⟩ := jbind hy110
          refine j_aldI (dt_Mo_groups 79 (134, .iaload, 1) rfl) hx20 ?_
          refine j_iload_n (dt_Mo_groups 80 (135, .iload_n 2, 1) rfl) rfl ?_
          refine jite hy110 (fun hc hy110 => ?_) (fun hc hy110 => ?_)
          · refine j_icmp_eq (dt_Mo_groups 81 (136, .if_icmp .eq 6, 3) rfl) rfl (fun _ => ?_) (fun q => absurd hc q)
            refine j_aload_n (dt_Mo_groups 83 (142, .aload_n 0, 1) rfl) rfl ?_
            obtain ⟨x21, hx21, hy110⟩ := jbind hy110
            refine j_getR (dt_Mo_groups 84 (143, .getfield 124, 3) rfl) fl_X12_124 hx21 (fun _ _ => rfl) ?_
            refine j_iload_n (dt_Mo_groups 85 (146, .iload_n 1, 1) rfl) rfl ?_
            refine j_iconst (dt_Mo_groups 86 (147, .iconst 0, 1) rfl) ic_0 ?_
            obtain ⟨V22, hV22, hy110⟩ := jbind hy110
            refine j_astI (dt_Mo_groups 87 (148, .iastore, 1) rfl) hV22 ?_
            refine j_iconst (dt_Mo_groups 88 (149, .iconst 0, 1) rfl) ic_0 ?_
            refine j_istore_n (dt_Mo_groups 89 (150, .istore_n 3, 1) rfl) (nlt rfl) ?_
            obtain ⟨t151, ht151, hy110⟩ := jbind hy110
            have hX151 : ∀ q151 : hV, q151 = t151 → jJ G M_Mo_groups (jEnd G M_Mo_groups (some (ai res.1)) (S, res.2)) 0 0 202 [(0, ar v0), (1, ai s110.1), (2, ai s110.2.1)] [] (S, q151) := by
              intro q151 hq151
              subst hq151
              refine j_iinc (dt_Mo_groups 121 (202, .iinc 1 1, 3) rfl) rfl (nlt rfl) (ii_1 _) ?_
              refine j_iinc (dt_Mo_groups 122 (205, .iinc 2 1, 3) rfl) rfl (nlt rfl) (ii_1 _) ?_
              refine j_goto (dt_Mo_groups 123 (208, .goto (-98), 3) rfl) rfl ?_
              cases hy110
              have hz := hin110 _ rfl
              exact j_sub rfl hz
            refine j_sub (ls' := [(0, ar v0), (1, ai s110.1), (2, ai s110.2.1), (3, ai 0)]) rfl ?_
            refine jloop_J (C := fun s151 => jJ G M_Mo_groups (jEnd G M_Mo_groups (some (ai res.1)) (S, res.2)) 0 0 151 [(0, ar v0), (1, ai s110.1), (2, ai s110.2.1), (3, ai s151.1)] [] (S, s151.2)) (fun s151 z151_ hy151 hin151 hout151 => ?_) _ _ ht151
            unfold Mo_groups_L151 at hy151
            refine j_iload_n (dt_Mo_groups 90 (151, .iload_n 3, 1) rfl) rfl ?_
            refine j_aload_n (dt_Mo_groups 91 (152, .aload_n 0, 1) rfl) rfl ?_
            obtain ⟨x23, hx23, hy151⟩ := jbind hy151
            refine j_getR (dt_Mo_groups 92 (153, .getfield 44, 3) rfl) fl_X12_44 hx23 (fun _ _ => rfl) ?_
            refine j_iconst (dt_Mo_groups 93 (156, .iconst 0, 1) rfl) ic_0 ?_
            obtain ⟨x24, hx24, hy151⟩ := jbind hy151
            refine j_aldI (dt_Mo_groups 94 (157, .iaload, 1) rfl) hx24 ?_
            refine jite hy151 (fun hc hy151 => ?_) (fun hc hy151 => ?_)
            · refine j_icmp_ge (dt_Mo_groups 95 (158, .if_icmp .ge 44, 3) rfl) rfl (fun _ => ?_) (fun q => absurd hc q)
              cases hy151
              have hz := hX151 _ (hout151 _ rfl)
              exact j_sub rfl hz
            · refine j_icmp_ge (dt_Mo_groups 95 (158, .if_icmp .ge 44, 3) rfl) rfl (fun q => absurd q hc) (fun _ => ?_)
              refine j_aload_n (dt_Mo_groups 96 (161, .aload_n 0, 1) rfl) rfl ?_
              obtain ⟨x25, hx25, hy151⟩ := jbind hy151
              refine j_getR (dt_Mo_groups 97 (162, .getfield 124, 3) rfl) fl_X12_124 hx25 (fun _ _ => rfl) ?_
              refine j_iload_n (dt_Mo_groups 98 (165, .iload_n 1, 1) rfl) rfl ?_
              refine j_dup2 (dt_Mo_groups 99 (166, .dup2, 1) rfl) rfl rfl ?_
              obtain ⟨x26, hx26, hy151⟩ := jbind hy151
              refine j_aldI (dt_Mo_groups 100 (167, .iaload, 1) rfl) hx26 ?_
              refine j_aload_n (dt_Mo_groups 101 (168, .aload_n 0, 1) rfl) rfl ?_
              obtain ⟨x27, hx27, hy151⟩ := jbind hy151
              refine j_getR (dt_Mo_groups 102 (169, .getfield 81, 3) rfl) fl_X12_81 hx27 (fun _ _ => rfl) ?_
              refine j_iload_n (dt_Mo_groups 103 (172, .iload_n 3, 1) rfl) rfl ?_
              obtain ⟨x28, hx28, hy151⟩ := jbind hy151
              refine j_aldZ (dt_Mo_groups 104 (173, .baload, 1) rfl) hx28 ?_
              obtain ⟨j174, hj174, hy151⟩ := jbind hy151
              have hP174 : jJ G M_Mo_groups (jEnd G M_Mo_groups (some (ai res.1)) (S, res.2)) 0 0 194 [(0, ar v0), (1, ai s110.1), (2, ai s110.2.1), (3, ai s151.1)] [ai j174, ai x26, ai s110.1, ar x25] (S, s151.2) := by
                refine j_ior (dt_Mo_groups 117 (194, .ior, 1) rfl) ?_
                obtain ⟨V29, hV29, hy151⟩ := jbind hy151
                refine j_astI (dt_Mo_groups 118 (195, .iastore, 1) rfl) hV29 ?_
                refine j_iinc (dt_Mo_groups 119 (196, .iinc 3 1, 3) rfl) rfl (nlt rfl) (ii_1 _) ?_
                refine j_goto (dt_Mo_groups 120 (199, .goto (-48), 3) rfl) rfl ?_
                cases hy151
                have hz := hin151 _ rfl
                exact j_sub rfl hz
              refine jite hj174 (fun hc hj174 => ?_) (fun hc hj174 => ?_)
              · refine j_if_eq (dt_Mo_groups 105 (174, .ifCond .eq 19, 3) rfl) rfl (fun _ => ?_) (fun q => absurd hc q)
                refine j_iconst (dt_Mo_groups 116 (193, .iconst 0, 1) rfl) ic_0 ?_
                cases hj174
                exact j_sub rfl hP174
              · refine j_if_eq (dt_Mo_groups 105 (174, .ifCond .eq 19, 3) rfl) rfl (fun q => absurd q hc) (fun _ => ?_)
                refine j_aload_n (dt_Mo_groups 106 (177, .aload_n 0, 1) rfl) rfl ?_
                obtain ⟨x30, hx30, hj174⟩ := jbind hj174
                refine j_getR (dt_Mo_groups 107 (178, .getfield 121, 3) rfl) fl_X12_121 hx30 (fun _ _ => rfl) ?_
                refine j_iload_n (dt_Mo_groups 108 (181, .iload_n 3, 1) rfl) rfl ?_
                obtain ⟨x31, hx31, hj174⟩ := jbind hj174
                refine j_aldI (dt_Mo_groups 109 (182, .iaload, 1) rfl) hx31 ?_
                refine j_iload_n (dt_Mo_groups 110 (183, .iload_n 2, 1) rfl) rfl ?_
                refine jite hj174 (fun hc hj174 => ?_) (fun hc hj174 => ?_)
                · refine j_icmp_ne (dt_Mo_groups 111 (184, .if_icmp .ne 9, 3) rfl) rfl (fun q => absurd hc q) (fun _ => ?_)
                  refine j_iconst (dt_Mo_groups 112 (187, .iconst 1, 1) rfl) ic_1 ?_
                  refine j_iload_n (dt_Mo_groups 113 (188, .iload_n 3, 1) rfl) rfl ?_
                  refine j_ishl (dt_Mo_groups 114 (189, .ishl, 1) rfl) ?_
                  refine j_goto (dt_Mo_groups 115 (190, .goto 4, 3) rfl) rfl ?_
                  cases hj174
                  exact j_sub rfl hP174
                · refine j_icmp_ne (dt_Mo_groups 111 (184, .if_icmp .ne 9, 3) rfl) rfl (fun _ => ?_) (fun q => absurd q hc)
                  refine j_iconst (dt_Mo_groups 116 (193, .iconst 0, 1) rfl) ic_0 ?_
                  cases hj174
                  exact j_sub rfl hP174
          · refine j_icmp_eq (dt_Mo_groups 81 (136, .if_icmp .eq 6, 3) rfl) rfl (fun q => absurd q hc) (fun _ => ?_)
            refine j_goto (dt_Mo_groups 82 (139, .goto 66, 3) rfl) rfl ?_
            refine j_iinc (dt_Mo_groups 122 (205, .iinc 2 1, 3) rfl) rfl (nlt rfl) (ii_1 _) ?_
            refine j_goto (dt_Mo_groups 123 (208, .goto (-98), 3) rfl) rfl ?_
            cases hy110
            have hz := hin110 _ rfl
            exact j_sub rfl hz
    refine j_sub (ls' := [(0, ar v0), (1, ai 0)]) rfl ?_
    refine jloop_J (C := fun s23 => jJ G M_Mo_groups (jEnd G M_Mo_groups (some (ai res.1)) (S, res.2)) 0 0 23 [(0, ar v0), (1, ai s23.1)] [] (S, s23.2)) (fun s23 z23_ hy23 hin23 hout23 => ?_) _ _ ht23
    unfold Mo_groups_L23 at hy23
    refine j_iload_n (dt_Mo_groups 14 (23, .iload_n 1, 1) rfl) rfl ?_
    refine j_bipush (dt_Mo_groups 15 (24, .bipush 10, 2) rfl) bp_10 ?_
    refine jite hy23 (fun hc hy23 => ?_) (fun hc hy23 => ?_)
    · refine j_icmp_ge (dt_Mo_groups 16 (26, .if_icmp .ge 80, 3) rfl) rfl (fun _ => ?_) (fun q => absurd hc q)
      cases hy23
      have hz := hX23 _ (hout23 _ rfl)
      exact j_sub rfl hz
    · refine j_icmp_ge (dt_Mo_groups 16 (26, .if_icmp .ge 80, 3) rfl) rfl (fun q => absurd q hc) (fun _ => ?_)
      refine j_iconst (dt_Mo_groups 17 (29, .iconst 0, 1) rfl) ic_0 ?_
      refine j_istore_n (dt_Mo_groups 18 (30, .istore_n 2, 1) rfl) (nlt rfl) ?_
      obtain ⟨t31, ht31, hy23⟩ := jbind hy23
      have hX31 : ∀ q31 : hV, q31 = t31 → jJ G M_Mo_groups (jEnd G M_Mo_groups (some (ai res.1)) (S, res.2)) 0 0 100 [(0, ar v0), (1, ai s23.1)] [] (S, q31) := by
        intro q31 hq31
        subst hq31
        refine j_iinc (dt_Mo_groups 59 (100, .iinc 1 1, 3) rfl) rfl (nlt rfl) (ii_1 _) ?_
        refine j_goto (dt_Mo_groups 60 (103, .goto (-80), 3) rfl) rfl ?_
        cases hy23
        have hz := hin23 _ rfl
        exact j_sub rfl hz
      refine j_sub (ls' := [(0, ar v0), (1, ai s23.1), (2, ai 0)]) rfl ?_
      refine jloop_J (C := fun s31 => jJ G M_Mo_groups (jEnd G M_Mo_groups (some (ai res.1)) (S, res.2)) 0 0 31 [(0, ar v0), (1, ai s23.1), (2, ai s31.1)] [] (S, s31.2)) (fun s31 z31_ hy31 hin31 hout31 => ?_) _ _ ht31
      unfold Mo_groups_L31 at hy31
      refine j_iload_n (dt_Mo_groups 19 (31, .iload_n 2, 1) rfl) rfl ?_
      refine j_aload_n (dt_Mo_groups 20 (32, .aload_n 0, 1) rfl) rfl ?_
      obtain ⟨x3, hx3, hy31⟩ := jbind hy31
      refine j_getR (dt_Mo_groups 21 (33, .getfield 44, 3) rfl) fl_X12_44 hx3 (fun _ _ => rfl) ?_
      refine j_iconst (dt_Mo_groups 22 (36, .iconst 0, 1) rfl) ic_0 ?_
      obtain ⟨x4, hx4, hy31⟩ := jbind hy31
      refine j_aldI (dt_Mo_groups 23 (37, .iaload, 1) rfl) hx4 ?_
      refine jite hy31 (fun hc hy31 => ?_) (fun hc hy31 => ?_)
      · refine j_icmp_ge (dt_Mo_groups 24 (38, .if_icmp .ge 62, 3) rfl) rfl (fun _ => ?_) (fun q => absurd hc q)
        cases hy31
        have hz := hX31 _ (hout31 _ rfl)
        exact j_sub rfl hz
      · refine j_icmp_ge (dt_Mo_groups 24 (38, .if_icmp .ge 62, 3) rfl) rfl (fun q => absurd q hc) (fun _ => ?_)
        refine j_iconst (dt_Mo_groups 25 (41, .iconst 0, 1) rfl) ic_0 ?_
        refine j_istore_n (dt_Mo_groups 26 (42, .istore_n 3, 1) rfl) (nlt rfl) ?_
        obtain ⟨t43, ht43, hy31⟩ := jbind hy31
        have hX43 : ∀ q43 : hV, q43 = t43 → jJ G M_Mo_groups (jEnd G M_Mo_groups (some (ai res.1)) (S, res.2)) 0 0 94 [(0, ar v0), (1, ai s23.1), (2, ai s31.1)] [] (S, q43) := by
          intro q43 hq43
          subst hq43
          refine j_iinc (dt_Mo_groups 57 (94, .iinc 2 1, 3) rfl) rfl (nlt rfl) (ii_1 _) ?_
          refine j_goto (dt_Mo_groups 58 (97, .goto (-66), 3) rfl) rfl ?_
          cases hy31
          have hz := hin31 _ rfl
          exact j_sub rfl hz
        refine j_sub (ls' := [(0, ar v0), (1, ai s23.1), (2, ai s31.1), (3, ai 0)]) rfl ?_
        refine jloop_J (C := fun s43 => jJ G M_Mo_groups (jEnd G M_Mo_groups (some (ai res.1)) (S, res.2)) 0 0 43 [(0, ar v0), (1, ai s23.1), (2, ai s31.1), (3, ai s43.1)] [] (S, s43.2)) (fun s43 z43_ hy43 hin43 hout43 => ?_) _ _ ht43
        unfold Mo_groups_L43 at hy43
        refine j_iload_n (dt_Mo_groups 27 (43, .iload_n 3, 1) rfl) rfl ?_
        refine j_aload_n (dt_Mo_groups 28 (44, .aload_n 0, 1) rfl) rfl ?_
        obtain ⟨x5, hx5, hy43⟩ := jbind hy43
        refine j_getR (dt_Mo_groups 29 (45, .getfield 44, 3) rfl) fl_X12_44 hx5 (fun _ _ => rfl) ?_
        refine j_iconst (dt_Mo_groups 30 (48, .iconst 0, 1) rfl) ic_0 ?_
        obtain ⟨x6, hx6, hy43⟩ := jbind hy43
        refine j_aldI (dt_Mo_groups 31 (49, .iaload, 1) rfl) hx6 ?_
        refine jite hy43 (fun hc hy43 => ?_) (fun hc hy43 => ?_)
        · refine j_icmp_ge (dt_Mo_groups 32 (50, .if_icmp .ge 44, 3) rfl) rfl (fun _ => ?_) (fun q => absurd hc q)
          cases hy43
          have hz := hX43 _ (hout43 _ rfl)
          exact j_sub rfl hz
        · refine j_icmp_ge (dt_Mo_groups 32 (50, .if_icmp .ge 44, 3) rfl) rfl (fun q => absurd q hc) (fun _ => ?_)
          refine j_aload_n (dt_Mo_groups 33 (53, .aload_n 0, 1) rfl) rfl ?_
          obtain ⟨x7, hx7, hy43⟩ := jbind hy43
          refine j_getR (dt_Mo_groups 34 (54, .getfield 113, 3) rfl) fl_X12_113 hx7 (fun _ _ => rfl) ?_
          refine j_bipush (dt_Mo_groups 35 (57, .bipush 10, 2) rfl) bp_10 ?_
          refine j_iload_n (dt_Mo_groups 36 (59, .iload_n 2, 1) rfl) rfl ?_
          refine j_imul (dt_Mo_groups 37 (60, .imul, 1) rfl) ?_
          refine j_iload_n (dt_Mo_groups 38 (61, .iload_n 3, 1) rfl) rfl ?_
          refine j_iadd (dt_Mo_groups 39 (62, .iadd, 1) rfl) ?_
          obtain ⟨x8, hx8, hy43⟩ := jbind hy43
          refine j_aldZ (dt_Mo_groups 40 (63, .baload, 1) rfl) hx8 ?_
          refine jite hy43 (fun hc hy43 => ?_) (fun hc hy43 => ?_)
          · refine j_if_eq (dt_Mo_groups 41 (64, .ifCond .eq 24, 3) rfl) rfl (fun _ => ?_) (fun q => absurd hc q)
            refine j_iinc (dt_Mo_groups 55 (88, .iinc 3 1, 3) rfl) rfl (nlt rfl) (ii_1 _) ?_
            refine j_goto (dt_Mo_groups 56 (91, .goto (-48), 3) rfl) rfl ?_
            cases hy43
            have hz := hin43 _ rfl
            exact j_sub rfl hz
          · refine j_if_eq (dt_Mo_groups 41 (64, .ifCond .eq 24, 3) rfl) rfl (fun q => absurd q hc) (fun _ => ?_)
            refine j_aload_n (dt_Mo_groups 42 (67, .aload_n 0, 1) rfl) rfl ?_
            obtain ⟨x9, hx9, hy43⟩ := jbind hy43
            refine j_getR (dt_Mo_groups 43 (68, .getfield 121, 3) rfl) fl_X12_121 hx9 (fun _ _ => rfl) ?_
            refine j_iload_n (dt_Mo_groups 44 (71, .iload_n 2, 1) rfl) rfl ?_
            refine j_aload_n (dt_Mo_groups 45 (72, .aload_n 0, 1) rfl) rfl ?_
            obtain ⟨x10, hx10, hy43⟩ := jbind hy43
            refine j_getR (dt_Mo_groups 46 (73, .getfield 121, 3) rfl) fl_X12_121 hx10 (fun _ _ => rfl) ?_
            refine j_iload_n (dt_Mo_groups 47 (76, .iload_n 2, 1) rfl) rfl ?_
            obtain ⟨x11, hx11, hy43⟩ := jbind hy43
            refine j_aldI (dt_Mo_groups 48 (77, .iaload, 1) rfl) hx11 ?_
            refine j_aload_n (dt_Mo_groups 49 (78, .aload_n 0, 1) rfl) rfl ?_
            obtain ⟨x12, hx12, hy43⟩ := jbind hy43
            refine j_getR (dt_Mo_groups 50 (79, .getfield 121, 3) rfl) fl_X12_121 hx12 (fun _ _ => rfl) ?_
            refine j_iload_n (dt_Mo_groups 51 (82, .iload_n 3, 1) rfl) rfl ?_
            obtain ⟨x13, hx13, hy43⟩ := jbind hy43
            refine j_aldI (dt_Mo_groups 52 (83, .iaload, 1) rfl) hx13 ?_
            refine j_callS M_Jd_min 2 [ai x11, ai x13] (rest := [ai s31.1, ar x9]) (dt_Mo_groups 53 (84, .invokestatic 370, 3) rfl) ml_X12_370 ok_Jd_min (jfit rfl rfl ⟨rfl, rfl⟩ (nle rfl) (nlt rfl)) rfl rfl (nle rfl) ⟨rfl, rfl⟩ (c_Jd_min rfl) ?_
            obtain ⟨V14, hV14, hy43⟩ := jbind hy43
            refine j_astI (dt_Mo_groups 54 (87, .iastore, 1) rfl) hV14 ?_
            refine j_iinc (dt_Mo_groups 55 (88, .iinc 3 1, 3) rfl) rfl (nlt rfl) (ii_1 _) ?_
            refine j_goto (dt_Mo_groups 56 (91, .goto (-48), 3) rfl) rfl ?_
            cases hy43
            have hz := hin43 _ rfl
            exact j_sub rfl hz
  refine j_sub (ls' := [(0, ar v0), (1, ai 0)]) rfl ?_
  refine jloop_J (C := fun s2 => jJ G M_Mo_groups (jEnd G M_Mo_groups (some (ai res.1)) (S, res.2)) 0 0 2 [(0, ar v0), (1, ai s2.1)] [] (S, s2.2)) (fun s2 z2_ hy2 hin2 hout2 => ?_) _ _ ht2
  unfold Mo_groups_L2 at hy2
  refine j_iload_n (dt_Mo_groups 2 (2, .iload_n 1, 1) rfl) rfl ?_
  refine j_bipush (dt_Mo_groups 3 (3, .bipush 10, 2) rfl) bp_10 ?_
  refine jite hy2 (fun hc hy2 => ?_) (fun hc hy2 => ?_)
  · refine j_icmp_ge (dt_Mo_groups 4 (5, .if_icmp .ge 16, 3) rfl) rfl (fun _ => ?_) (fun q => absurd hc q)
    cases hy2
    have hz := hX2 _ (hout2 _ rfl)
    exact j_sub rfl hz
  · refine j_icmp_ge (dt_Mo_groups 4 (5, .if_icmp .ge 16, 3) rfl) rfl (fun q => absurd q hc) (fun _ => ?_)
    refine j_aload_n (dt_Mo_groups 5 (8, .aload_n 0, 1) rfl) rfl ?_
    obtain ⟨x1, hx1, hy2⟩ := jbind hy2
    refine j_getR (dt_Mo_groups 6 (9, .getfield 121, 3) rfl) fl_X12_121 hx1 (fun _ _ => rfl) ?_
    refine j_iload_n (dt_Mo_groups 7 (12, .iload_n 1, 1) rfl) rfl ?_
    refine j_iload_n (dt_Mo_groups 8 (13, .iload_n 1, 1) rfl) rfl ?_
    obtain ⟨V2, hV2, hy2⟩ := jbind hy2
    refine j_astI (dt_Mo_groups 9 (14, .iastore, 1) rfl) hV2 ?_
    refine j_iinc (dt_Mo_groups 10 (15, .iinc 1 1, 3) rfl) rfl (nlt rfl) (ii_1 _) ?_
    refine j_goto (dt_Mo_groups 11 (18, .goto (-16), 3) rfl) rfl ?_
    cases hy2
    have hz := hin2 _ rfl
    exact j_sub rfl hz
theorem r_Mo_groups {S : hS} {V : hV} {v0 : Option Nat} {res : Int32 × hV} (hf : Mo_groups S v0 V = some res) : ∃ b, rc S 12 v0 = some b := by
  unfold Mo_groups at hf
  obtain ⟨b, hb, _⟩ := jbind hf
  exact ⟨b, hb⟩
def tb_Mo_bitsOf : List (Nat × Instr × Nat) := [(0, .iconst 0, 1), (1, .istore_n 3, 1), (2, .iconst 0, 1), (3, .istore 4, 2), (5, .iload 4, 2), (7, .iload_n 2, 1), (8, .if_icmp .ge 33, 3), (11, .iload_n 3, 1), (12, .iload_n 1, 1), (13, .iload 4, 2), (15, .ishr, 1), (16, .iconst 1, 1), (17, .iand, 1), (18, .iconst 1, 1), (19, .if_icmp .ne 13, 3), (22, .aload_n 0, 1), (23, .getfield 124, 3), (26, .iload 4, 2), (28, .iaload, 1), (29, .goto 4, 3), (32, .iconst 0, 1), (33, .ior, 1), (34, .istore_n 3, 1), (35, .iinc 4 1, 3), (38, .goto (-33), 3), (41, .iload_n 3, 1), (42, .ireturn, 1)]
theorem dt_Mo_bitsOf (i : Nat) (q : Nat × Instr × Nat) (h : tb_Mo_bitsOf[i]? = some q) : decode prog_14_method_64_code q.1 = .ok q.2 := jdt (by decide +kernel : tb_Mo_bitsOf.all (fun q => decide (decode prog_14_method_64_code q.1 = .ok q.2)) = true) h
theorem ok_Mo_bitsOf : jOKV M_Mo_bitsOf 2 := ⟨⟨gt8 2 rfl rfl, gt1 17 rfl rfl, (by decide : "FirstInModel" ≠ "java/lang/invoke/MethodHandle"), (by decide : "FirstInModel" ≠ "java/lang/invoke/VarHandle"), (by decide +kernel : (parseMethodDescriptor "(II)I").map (fun d => d.parameters.length) = some 2)⟩, gt8 1 rfl rfl, gs_in 44 rfl, rfl, nlt rfl⟩
set_option maxRecDepth 100000 in
set_option maxHeartbeats 4000000 in
theorem c_Mo_bitsOf {G : jG} {S : hS} {V : hV} {v0 : Option Nat} {v1 : Int32} {v2 : Int32} {res : Int32} (hf : Mo_bitsOf S v0 v1 v2 V = some res) : jC G M_Mo_bitsOf [ar v0, ai v1, ai v2] (S, V) (some (ai res)) (S, V) := by
  unfold Mo_bitsOf at hf
  obtain ⟨_, _, hf⟩ := jbind hf
  refine jC_of (pf_X12 _ _) rfl (nle rfl) ?_
  show jJ G M_Mo_bitsOf (jEnd G M_Mo_bitsOf (some (ai res)) (S, V)) 0 0 0 [(0, ar v0), (1, ai v1), (2, ai v2)] [] (S, V)
  refine j_iconst (dt_Mo_bitsOf 0 (0, .iconst 0, 1) rfl) ic_0 ?_
  refine j_istore_n (dt_Mo_bitsOf 1 (1, .istore_n 3, 1) rfl) (nlt rfl) ?_
  refine j_iconst (dt_Mo_bitsOf 2 (2, .iconst 0, 1) rfl) ic_0 ?_
  refine j_istore (dt_Mo_bitsOf 3 (3, .istore 4, 2) rfl) (nlt rfl) ?_
  obtain ⟨t5, ht5, hf⟩ := jbind hf
  have hX5 : ∀ q5 : Int32, q5 = t5 → jJ G M_Mo_bitsOf (jEnd G M_Mo_bitsOf (some (ai res)) (S, V)) 0 0 41 [(3, ai q5)] [] (S, V) := by
    intro q5 hq5
    subst hq5
    refine j_iload_n (dt_Mo_bitsOf 25 (41, .iload_n 3, 1) rfl) rfl ?_
    cases hf
    exact j_iret (dt_Mo_bitsOf 26 (42, .ireturn, 1) rfl) rfl
  refine j_sub (ls' := [(0, ar v0), (1, ai v1), (2, ai v2), (3, ai 0), (4, ai 0)]) rfl ?_
  refine jloop_J (C := fun s5 => jJ G M_Mo_bitsOf (jEnd G M_Mo_bitsOf (some (ai res)) (S, V)) 0 0 5 [(0, ar v0), (1, ai v1), (2, ai v2), (3, ai s5.1), (4, ai s5.2)] [] (S, V)) (fun s5 z5_ hy5 hin5 hout5 => ?_) _ _ ht5
  unfold Mo_bitsOf_L5 at hy5
  refine j_iload (dt_Mo_bitsOf 4 (5, .iload 4, 2) rfl) rfl ?_
  refine j_iload_n (dt_Mo_bitsOf 5 (7, .iload_n 2, 1) rfl) rfl ?_
  refine jite hy5 (fun hc hy5 => ?_) (fun hc hy5 => ?_)
  · refine j_icmp_ge (dt_Mo_bitsOf 6 (8, .if_icmp .ge 33, 3) rfl) rfl (fun _ => ?_) (fun q => absurd hc q)
    cases hy5
    have hz := hX5 _ (hout5 _ rfl)
    exact j_sub rfl hz
  · refine j_icmp_ge (dt_Mo_bitsOf 6 (8, .if_icmp .ge 33, 3) rfl) rfl (fun q => absurd q hc) (fun _ => ?_)
    refine j_iload_n (dt_Mo_bitsOf 7 (11, .iload_n 3, 1) rfl) rfl ?_
    refine j_iload_n (dt_Mo_bitsOf 8 (12, .iload_n 1, 1) rfl) rfl ?_
    refine j_iload (dt_Mo_bitsOf 9 (13, .iload 4, 2) rfl) rfl ?_
    refine j_ishr (dt_Mo_bitsOf 10 (15, .ishr, 1) rfl) ?_
    refine j_iconst (dt_Mo_bitsOf 11 (16, .iconst 1, 1) rfl) ic_1 ?_
    refine j_iand (dt_Mo_bitsOf 12 (17, .iand, 1) rfl) ?_
    refine j_iconst (dt_Mo_bitsOf 13 (18, .iconst 1, 1) rfl) ic_1 ?_
    refine jite hy5 (fun hc hy5 => ?_) (fun hc hy5 => ?_)
    · refine j_icmp_ne (dt_Mo_bitsOf 14 (19, .if_icmp .ne 13, 3) rfl) rfl (fun q => absurd hc q) (fun _ => ?_)
      refine j_aload_n (dt_Mo_bitsOf 15 (22, .aload_n 0, 1) rfl) rfl ?_
      obtain ⟨x1, hx1, hy5⟩ := jbind hy5
      refine j_getR (dt_Mo_bitsOf 16 (23, .getfield 124, 3) rfl) fl_X12_124 hx1 (fun _ _ => rfl) ?_
      refine j_iload (dt_Mo_bitsOf 17 (26, .iload 4, 2) rfl) rfl ?_
      obtain ⟨x2, hx2, hy5⟩ := jbind hy5
      refine j_aldI (dt_Mo_bitsOf 18 (28, .iaload, 1) rfl) hx2 ?_
      refine j_goto (dt_Mo_bitsOf 19 (29, .goto 4, 3) rfl) rfl ?_
      refine j_ior (dt_Mo_bitsOf 21 (33, .ior, 1) rfl) ?_
      refine j_istore_n (dt_Mo_bitsOf 22 (34, .istore_n 3, 1) rfl) (nlt rfl) ?_
      refine j_iinc (dt_Mo_bitsOf 23 (35, .iinc 4 1, 3) rfl) rfl (nlt rfl) (ii_1 _) ?_
      refine j_goto (dt_Mo_bitsOf 24 (38, .goto (-33), 3) rfl) rfl ?_
      cases hy5
      have hz := hin5 _ rfl
      exact j_sub rfl hz
    · refine j_icmp_ne (dt_Mo_bitsOf 14 (19, .if_icmp .ne 13, 3) rfl) rfl (fun _ => ?_) (fun q => absurd q hc)
      refine j_iconst (dt_Mo_bitsOf 20 (32, .iconst 0, 1) rfl) ic_0 ?_
      refine j_ior (dt_Mo_bitsOf 21 (33, .ior, 1) rfl) ?_
      refine j_istore_n (dt_Mo_bitsOf 22 (34, .istore_n 3, 1) rfl) (nlt rfl) ?_
      refine j_iinc (dt_Mo_bitsOf 23 (35, .iinc 4 1, 3) rfl) rfl (nlt rfl) (ii_1 _) ?_
      refine j_goto (dt_Mo_bitsOf 24 (38, .goto (-33), 3) rfl) rfl ?_
      cases hy5
      have hz := hin5 _ rfl
      exact j_sub rfl hz
theorem r_Mo_bitsOf {S : hS} {V : hV} {v0 : Option Nat} {v1 : Int32} {v2 : Int32} {res : Int32} (hf : Mo_bitsOf S v0 v1 v2 V = some res) : ∃ b, rc S 12 v0 = some b := by
  unfold Mo_bitsOf at hf
  obtain ⟨b, hb, _⟩ := jbind hf
  exact ⟨b, hb⟩
def tb_Mo_mayGo : List (Nat × Instr × Nat) := [(0, .iconst 0, 1), (1, .istore_n 3, 1), (2, .iload_n 3, 1), (3, .aload_n 0, 1), (4, .getfield 44, 3), (7, .iconst 0, 1), (8, .iaload, 1), (9, .if_icmp .ge 29, 3), (12, .iload_n 1, 1), (13, .iload_n 3, 1), (14, .ishr, 1), (15, .iconst 1, 1), (16, .iand, 1), (17, .iconst 1, 1), (18, .if_icmp .ne 14, 3), (21, .aload_n 0, 1), (22, .iload_n 3, 1), (23, .iload_n 2, 1), (24, .invokevirtual 367, 3), (27, .ifCond .ne 5, 3), (30, .iconst 0, 1), (31, .ireturn, 1), (32, .iinc 3 1, 3), (35, .goto (-33), 3), (38, .iconst 1, 1), (39, .ireturn, 1)]
theorem dt_Mo_mayGo (i : Nat) (q : Nat × Instr × Nat) (h : tb_Mo_mayGo[i]? = some q) : decode prog_14_method_65_code q.1 = .ok q.2 := jdt (by decide +kernel : tb_Mo_mayGo.all (fun q => decide (decode prog_14_method_65_code q.1 = .ok q.2)) = true) h
theorem ok_Mo_mayGo : jOKV M_Mo_mayGo 2 := ⟨⟨gt8 6 rfl rfl, gt1 17 rfl rfl, (by decide : "FirstInModel" ≠ "java/lang/invoke/MethodHandle"), (by decide : "FirstInModel" ≠ "java/lang/invoke/VarHandle"), (by decide +kernel : (parseMethodDescriptor "(II)Z").map (fun d => d.parameters.length) = some 2)⟩, gt8 5 rfl rfl, gs_in 45 rfl, rfl, nlt rfl⟩
set_option maxRecDepth 100000 in
set_option maxHeartbeats 4000000 in
theorem c_Mo_mayGo {G : jG} {S : hS} {V : hV} {v0 : Option Nat} {v1 : Int32} {v2 : Int32} {res : Int32} (hf : Mo_mayGo S v0 v1 v2 V = some res) : jC G M_Mo_mayGo [ar v0, ai v1, ai v2] (S, V) (some (ai res)) (S, V) := by
  unfold Mo_mayGo at hf
  obtain ⟨_, _, hf⟩ := jbind hf
  refine jC_of (pf_X12 _ _) rfl (nle rfl) ?_
  show jJ G M_Mo_mayGo (jEnd G M_Mo_mayGo (some (ai res)) (S, V)) 0 0 0 [(0, ar v0), (1, ai v1), (2, ai v2)] [] (S, V)
  refine j_iconst (dt_Mo_mayGo 0 (0, .iconst 0, 1) rfl) ic_0 ?_
  refine j_istore_n (dt_Mo_mayGo 1 (1, .istore_n 3, 1) rfl) (nlt rfl) ?_
  obtain ⟨t2, ht2, hf⟩ := jbind hf
  have hX2 : ∀ q2 : Unit, t2 = .inl q2 → jJ G M_Mo_mayGo (jEnd G M_Mo_mayGo (some (ai res)) (S, V)) 0 0 38 [] [] (S, V) := by
    intro q2 hq2
    subst hq2
    refine j_iconst (dt_Mo_mayGo 24 (38, .iconst 1, 1) rfl) ic_1 ?_
    cases hf
    exact j_zret (x := 1) (dt_Mo_mayGo 25 (39, .ireturn, 1) rfl) rfl rfl
  have hR2 : ∀ v : Int32, t2 = .inr v → v = res := by
    intro v hv
    subst hv
    cases hf
    rfl
  refine j_sub (ls' := [(0, ar v0), (1, ai v1), (2, ai v2), (3, ai 0)]) rfl ?_
  refine jloop_J (C := fun s2 => jJ G M_Mo_mayGo (jEnd G M_Mo_mayGo (some (ai res)) (S, V)) 0 0 2 [(0, ar v0), (1, ai v1), (2, ai v2), (3, ai s2)] [] (S, V)) (fun s2 z2_ hy2 hin2 hout2 => ?_) _ _ ht2
  unfold Mo_mayGo_L2 at hy2
  refine j_iload_n (dt_Mo_mayGo 2 (2, .iload_n 3, 1) rfl) rfl ?_
  refine j_aload_n (dt_Mo_mayGo 3 (3, .aload_n 0, 1) rfl) rfl ?_
  obtain ⟨x1, hx1, hy2⟩ := jbind hy2
  refine j_getR (dt_Mo_mayGo 4 (4, .getfield 44, 3) rfl) fl_X12_44 hx1 (fun _ _ => rfl) ?_
  refine j_iconst (dt_Mo_mayGo 5 (7, .iconst 0, 1) rfl) ic_0 ?_
  obtain ⟨x2, hx2, hy2⟩ := jbind hy2
  refine j_aldI (dt_Mo_mayGo 6 (8, .iaload, 1) rfl) hx2 ?_
  refine jite hy2 (fun hc hy2 => ?_) (fun hc hy2 => ?_)
  · refine j_icmp_ge (dt_Mo_mayGo 7 (9, .if_icmp .ge 29, 3) rfl) rfl (fun _ => ?_) (fun q => absurd hc q)
    cases hy2
    have hz := hX2 _ (hout2 _ rfl).symm
    exact j_sub rfl hz
  · refine j_icmp_ge (dt_Mo_mayGo 7 (9, .if_icmp .ge 29, 3) rfl) rfl (fun q => absurd q hc) (fun _ => ?_)
    refine j_iload_n (dt_Mo_mayGo 8 (12, .iload_n 1, 1) rfl) rfl ?_
    refine j_iload_n (dt_Mo_mayGo 9 (13, .iload_n 3, 1) rfl) rfl ?_
    refine j_ishr (dt_Mo_mayGo 10 (14, .ishr, 1) rfl) ?_
    refine j_iconst (dt_Mo_mayGo 11 (15, .iconst 1, 1) rfl) ic_1 ?_
    refine j_iand (dt_Mo_mayGo 12 (16, .iand, 1) rfl) ?_
    refine j_iconst (dt_Mo_mayGo 13 (17, .iconst 1, 1) rfl) ic_1 ?_
    refine jite hy2 (fun hc hy2 => ?_) (fun hc hy2 => ?_)
    · refine j_icmp_ne (dt_Mo_mayGo 14 (18, .if_icmp .ne 14, 3) rfl) rfl (fun q => absurd hc q) (fun _ => ?_)
      refine j_aload_n (dt_Mo_mayGo 15 (21, .aload_n 0, 1) rfl) rfl ?_
      refine j_iload_n (dt_Mo_mayGo 16 (22, .iload_n 3, 1) rfl) rfl ?_
      refine j_iload_n (dt_Mo_mayGo 17 (23, .iload_n 2, 1) rfl) rfl ?_
      obtain ⟨x3, hx3, hy2⟩ := jbind hy2
      obtain ⟨b4, hb4⟩ := r_Mo_isFree hx3
      refine j_callV M_Mo_isFree 2 [ai s2, ai v2] (rest := []) (dt_Mo_mayGo 18 (24, .invokevirtual 367, 3) rfl) ml_X12_367 ok_Mo_isFree (jfit rfl rfl ⟨rfl, rfl⟩ (nle rfl) (nlt rfl)) rfl rfl (nle rfl) ⟨rfl, rfl⟩ hb4 ((c_Mo_isFree hx3)) ?_
      refine jite hy2 (fun hc hy2 => ?_) (fun hc hy2 => ?_)
      · refine j_if_ne (dt_Mo_mayGo 19 (27, .ifCond .ne 5, 3) rfl) rfl (fun q => absurd hc q) (fun _ => ?_)
        refine j_iconst (dt_Mo_mayGo 20 (30, .iconst 0, 1) rfl) ic_0 ?_
        cases hy2
        obtain rfl := hR2 _ (hout2 _ rfl).symm
        exact j_zret (x := 0) (dt_Mo_mayGo 21 (31, .ireturn, 1) rfl) rfl rfl
      · refine j_if_ne (dt_Mo_mayGo 19 (27, .ifCond .ne 5, 3) rfl) rfl (fun _ => ?_) (fun q => absurd q hc)
        refine j_iinc (dt_Mo_mayGo 22 (32, .iinc 3 1, 3) rfl) rfl (nlt rfl) (ii_1 _) ?_
        refine j_goto (dt_Mo_mayGo 23 (35, .goto (-33), 3) rfl) rfl ?_
        cases hy2
        have hz := hin2 _ rfl
        exact j_sub rfl hz
    · refine j_icmp_ne (dt_Mo_mayGo 14 (18, .if_icmp .ne 14, 3) rfl) rfl (fun _ => ?_) (fun q => absurd q hc)
      refine j_iinc (dt_Mo_mayGo 22 (32, .iinc 3 1, 3) rfl) rfl (nlt rfl) (ii_1 _) ?_
      refine j_goto (dt_Mo_mayGo 23 (35, .goto (-33), 3) rfl) rfl ?_
      cases hy2
      have hz := hin2 _ rfl
      exact j_sub rfl hz
theorem r_Mo_mayGo {S : hS} {V : hV} {v0 : Option Nat} {v1 : Int32} {v2 : Int32} {res : Int32} (hf : Mo_mayGo S v0 v1 v2 V = some res) : ∃ b, rc S 12 v0 = some b := by
  unfold Mo_mayGo at hf
  obtain ⟨b, hb, _⟩ := jbind hf
  exact ⟨b, hb⟩
def tb_Mo_rounds : List (Nat × Instr × Nat) := [(0, .aload_n 0, 1), (1, .iload_n 1, 1), (2, .invokevirtual 297, 3), (5, .ifCond .eq 15, 3), (8, .iload_n 2, 1), (9, .i2l, 1), (10, .lconst 1, 1), (11, .ldc2_w 271, 3), (14, .invokestatic 183, 3), (17, .ifCond .ne 5, 3), (20, .iconst (-1), 1), (21, .ireturn, 1), (22, .aload_n 0, 1), (23, .iload_n 1, 1), (24, .iconst 0, 1), (25, .invokevirtual 350, 3), (28, .aload_n 0, 1), (29, .invokevirtual 373, 3), (32, .istore_n 3, 1), (33, .iconst 0, 1), (34, .istore 4, 2), (36, .iload 4, 2), (38, .iconst 1, 1), (39, .iload_n 3, 1), (40, .ishl, 1), (41, .if_icmp .ge 26, 3), (44, .aload_n 0, 1), (45, .getfield 127, 3), (48, .iload 4, 2), (50, .iload 4, 2), (52, .ifCond .ne 7, 3), (55, .iconst 0, 1), (56, .goto 4, 3), (59, .iconst (-1), 1), (60, .iastore, 1), (61, .iinc 4 1, 3), (64, .goto (-28), 3), (67, .iconst 0, 1), (68, .istore 4, 2), (70, .iload 4, 2), (72, .iconst 1, 1), (73, .iload_n 3, 1), (74, .ishl, 1), (75, .if_icmp .ge 148, 3), (78, .aload_n 0, 1), (79, .getfield 127, 3), (82, .iload 4, 2), (84, .iaload, 1), (85, .iconst (-1), 1), (86, .if_icmp .ne 6, 3), (89, .goto 128, 3), (92, .iconst 1, 1), (93, .iload_n 3, 1), (94, .ishl, 1), (95, .iconst 1, 1), (96, .isub, 1), (97, .iload 4, 2), (99, .iconst (-1), 1), (100, .ixor, 1), (101, .iand, 1), (102, .istore 5, 2), (104, .iload 5, 2), (106, .istore 6, 2), (108, .iload 6, 2), (110, .ifCond .le 107, 3), (113, .aload_n 0, 1), (114, .iload 6, 2), (116, .iload_n 3, 1), (117, .invokevirtual 376, 3), (120, .istore 7, 2), (122, .iload 7, 2), (124, .invokestatic 356, 3), (127, .iload_n 2, 1), (128, .if_icmp .gt 77, 3), (131, .aload_n 0, 1), (132, .iload 7, 2), (134, .aload_n 0, 1), (135, .iload 4, 2), (137, .iload_n 3, 1), (138, .invokevirtual 376, 3), (141, .invokevirtual 379, 3), (144, .ifCond .ne 6, 3), (147, .goto 58, 3), (150, .aload_n 0, 1), (151, .getfield 127, 3), (154, .iload 4, 2), (156, .iload 6, 2), (158, .ior, 1), (159, .iaload, 1), (160, .iconst (-1), 1), (161, .if_icmp .eq 25, 3), (164, .aload_n 0, 1), (165, .getfield 127, 3), (168, .iload 4, 2), (170, .iaload, 1), (171, .iconst 1, 1), (172, .iadd, 1), (173, .aload_n 0, 1), (174, .getfield 127, 3), (177, .iload 4, 2), (179, .iload 6, 2), (181, .ior, 1), (182, .iaload, 1), (183, .if_icmp .ge 22, 3), (186, .aload_n 0, 1), (187, .getfield 127, 3), (190, .iload 4, 2), (192, .iload 6, 2), (194, .ior, 1), (195, .aload_n 0, 1), (196, .getfield 127, 3), (199, .iload 4, 2), (201, .iaload, 1), (202, .iconst 1, 1), (203, .iadd, 1), (204, .iastore, 1), (205, .iload 6, 2), (207, .iconst 1, 1), (208, .isub, 1), (209, .iload 5, 2), (211, .iand, 1), (212, .istore 6, 2), (214, .goto (-106), 3), (217, .iinc 4 1, 3), (220, .goto (-150), 3), (223, .aload_n 0, 1), (224, .getfield 127, 3), (227, .iconst 1, 1), (228, .iload_n 3, 1), (229, .ishl, 1), (230, .iconst 1, 1), (231, .isub, 1), (232, .iaload, 1), (233, .ireturn, 1)]
theorem dt_Mo_rounds (i : Nat) (q : Nat × Instr × Nat) (h : tb_Mo_rounds[i]? = some q) : decode prog_14_method_66_code q.1 = .ok q.2 := jdt (by decide +kernel : tb_Mo_rounds.all (fun q => decide (decode prog_14_method_66_code q.1 = .ok q.2)) = true) h
theorem ok_Mo_rounds : jOKV M_Mo_rounds 2 := ⟨⟨gt7 233 rfl rfl, gt1 17 rfl rfl, (by decide : "FirstInModel" ≠ "java/lang/invoke/MethodHandle"), (by decide : "FirstInModel" ≠ "java/lang/invoke/VarHandle"), (by decide +kernel : (parseMethodDescriptor "(II)I").map (fun d => d.parameters.length) = some 2)⟩, gt7 231 rfl rfl, gt7 232 rfl rfl, rfl, nlt rfl⟩
set_option maxRecDepth 100000 in
set_option maxHeartbeats 4000000 in
theorem c_Mo_rounds {G : jG} {S : hS} {V : hV} {v0 : Option Nat} {v1 : Int32} {v2 : Int32} {res : Int32 × hV} (hf : Mo_rounds S v0 v1 v2 V = some res) : jC G M_Mo_rounds [ar v0, ai v1, ai v2] (S, V) (some (ai res.1)) (S, res.2) := by
  unfold Mo_rounds at hf
  obtain ⟨_, _, hf⟩ := jbind hf
  refine jC_of (pf_X12 _ _) rfl (nle rfl) ?_
  show jJ G M_Mo_rounds (jEnd G M_Mo_rounds (some (ai res.1)) (S, res.2)) 0 0 0 [(0, ar v0), (1, ai v1), (2, ai v2)] [] (S, V)
  refine j_aload_n (dt_Mo_rounds 0 (0, .aload_n 0, 1) rfl) rfl ?_
  refine j_iload_n (dt_Mo_rounds 1 (1, .iload_n 1, 1) rfl) rfl ?_
  obtain ⟨x1, hx1, hf⟩ := jbind hf
  obtain ⟨b2, hb2⟩ := r_Mo_isRoom hx1
  refine j_callV M_Mo_isRoom 1 [ai v1] (rest := []) (dt_Mo_rounds 2 (2, .invokevirtual 297, 3) rfl) ml_X12_297 ok_Mo_isRoom (jfit rfl rfl ⟨rfl, rfl⟩ (nle rfl) (nlt rfl)) rfl rfl (nle rfl) ⟨rfl, rfl⟩ hb2 ((c_Mo_isRoom hx1)) ?_
  refine jite hf (fun hc hf => ?_) (fun hc hf => ?_)
  · refine j_if_eq (dt_Mo_rounds 3 (5, .ifCond .eq 15, 3) rfl) rfl (fun _ => ?_) (fun q => absurd hc q)
    refine j_iconst (dt_Mo_rounds 10 (20, .iconst (-1), 1) rfl) ic_m1 ?_
    cases hf
    exact j_iret (dt_Mo_rounds 11 (21, .ireturn, 1) rfl) rfl
  · refine j_if_eq (dt_Mo_rounds 3 (5, .ifCond .eq 15, 3) rfl) rfl (fun q => absurd q hc) (fun _ => ?_)
    refine j_iload_n (dt_Mo_rounds 4 (8, .iload_n 2, 1) rfl) rfl ?_
    refine j_i2l (dt_Mo_rounds 5 (9, .i2l, 1) rfl) ?_
    refine j_lconst (dt_Mo_rounds 6 (10, .lconst 1, 1) rfl) lc_1 ?_
    refine j_ldc2 4 (dt_Mo_rounds 7 (11, .ldc2_w 271, 3) rfl) (gt7 70 rfl rfl) ?_
    refine j_callS M_Mo_in 3 [al ((v2 : Int32).toInt64), al 1, al 4] (rest := []) (dt_Mo_rounds 8 (14, .invokestatic 183, 3) rfl) ml_X12_183 ok_Mo_in (jfit rfl rfl ⟨rfl, rfl⟩ (nle rfl) (nlt rfl)) rfl rfl (nle rfl) ⟨rfl, rfl⟩ (c_Mo_in rfl) ?_
    refine jite hf (fun hc hf => ?_) (fun hc hf => ?_)
    · refine j_if_ne (dt_Mo_rounds 9 (17, .ifCond .ne 5, 3) rfl) rfl (fun q => absurd hc q) (fun _ => ?_)
      refine j_iconst (dt_Mo_rounds 10 (20, .iconst (-1), 1) rfl) ic_m1 ?_
      cases hf
      exact j_iret (dt_Mo_rounds 11 (21, .ireturn, 1) rfl) rfl
    · refine j_if_ne (dt_Mo_rounds 9 (17, .ifCond .ne 5, 3) rfl) rfl (fun _ => ?_) (fun q => absurd q hc)
      refine j_aload_n (dt_Mo_rounds 12 (22, .aload_n 0, 1) rfl) rfl ?_
      refine j_iload_n (dt_Mo_rounds 13 (23, .iload_n 1, 1) rfl) rfl ?_
      refine j_iconst (dt_Mo_rounds 14 (24, .iconst 0, 1) rfl) ic_0 ?_
      obtain ⟨V3, hV3, hf⟩ := jbind hf
      obtain ⟨b4, hb4⟩ := r_Mo_ranks hV3
      refine j_callV M_Mo_ranks 2 [ai v1, ai 0] (rest := []) (dt_Mo_rounds 15 (25, .invokevirtual 350, 3) rfl) ml_X12_350 ok_Mo_ranks (jfit rfl rfl ⟨rfl, rfl⟩ (nle rfl) (nlt rfl)) rfl rfl (nle rfl) ⟨rfl, rfl⟩ hb4 ((c_Mo_ranks hV3)) ?_
      refine j_aload_n (dt_Mo_rounds 16 (28, .aload_n 0, 1) rfl) rfl ?_
      obtain ⟨w5, hw5, hf⟩ := jbind hf
      obtain ⟨b6, hb6⟩ := r_Mo_groups hw5
      refine j_callV M_Mo_groups 0 [] (rest := []) (dt_Mo_rounds 17 (29, .invokevirtual 373, 3) rfl) ml_X12_373 ok_Mo_groups (jfit rfl rfl ⟨rfl, rfl⟩ (nle rfl) (nlt rfl)) rfl rfl (nle rfl) ⟨rfl, rfl⟩ hb6 ((c_Mo_groups hw5)) ?_
      refine j_istore_n (dt_Mo_rounds 18 (32, .istore_n 3, 1) rfl) (nlt rfl) ?_
      refine j_iconst (dt_Mo_rounds 19 (33, .iconst 0, 1) rfl) ic_0 ?_
      refine j_istore (dt_Mo_rounds 20 (34, .istore 4, 2) rfl) (nlt rfl) ?_
      obtain ⟨t36, ht36, hf⟩ := jbind hf
      have hX36 : ∀ q36 : hV, q36 = t36 → jJ G M_Mo_rounds (jEnd G M_Mo_rounds (some (ai res.1)) (S, res.2)) 0 0 67 [(0, ar v0), (2, ai v2), (3, ai w5.1)] [] (S, q36) := by
        intro q36 hq36
        subst hq36
        refine j_iconst (dt_Mo_rounds 37 (67, .iconst 0, 1) rfl) ic_0 ?_
        refine j_istore (dt_Mo_rounds 38 (68, .istore 4, 2) rfl) (nlt rfl) ?_
        obtain ⟨t70, ht70, hf⟩ := jbind hf
        have hX70 : ∀ q70 : hV, q70 = t70 → jJ G M_Mo_rounds (jEnd G M_Mo_rounds (some (ai res.1)) (S, res.2)) 0 0 223 [(0, ar v0), (3, ai w5.1)] [] (S, q70) := by
          intro q70 hq70
          subst hq70
          refine j_aload_n (dt_Mo_rounds 125 (223, .aload_n 0, 1) rfl) rfl ?_
          obtain ⟨x27, hx27, hf⟩ := jbind hf
          refine j_getR (dt_Mo_rounds 126 (224, .getfield 127, 3) rfl) fl_X12_127 hx27 (fun _ _ => rfl) ?_
          refine j_iconst (dt_Mo_rounds 127 (227, .iconst 1, 1) rfl) ic_1 ?_
          refine j_iload_n (dt_Mo_rounds 128 (228, .iload_n 3, 1) rfl) rfl ?_
          refine j_ishl (dt_Mo_rounds 129 (229, .ishl, 1) rfl) ?_
          refine j_iconst (dt_Mo_rounds 130 (230, .iconst 1, 1) rfl) ic_1 ?_
          refine j_isub (dt_Mo_rounds 131 (231, .isub, 1) rfl) ?_
          obtain ⟨x28, hx28, hf⟩ := jbind hf
          refine j_aldI (dt_Mo_rounds 132 (232, .iaload, 1) rfl) hx28 ?_
          cases hf
          exact j_iret (dt_Mo_rounds 133 (233, .ireturn, 1) rfl) rfl
        refine j_sub (ls' := [(0, ar v0), (2, ai v2), (3, ai w5.1), (4, ai 0)]) rfl ?_
        refine jloop_J (C := fun s70 => jJ G M_Mo_rounds (jEnd G M_Mo_rounds (some (ai res.1)) (S, res.2)) 0 0 70 [(0, ar v0), (2, ai v2), (3, ai w5.1), (4, ai s70.1)] [] (S, s70.2)) (fun s70 z70_ hy70 hin70 hout70 => ?_) _ _ ht70
        unfold Mo_rounds_L70 at hy70
        refine j_iload (dt_Mo_rounds 39 (70, .iload 4, 2) rfl) rfl ?_
        refine j_iconst (dt_Mo_rounds 40 (72, .iconst 1, 1) rfl) ic_1 ?_
        refine j_iload_n (dt_Mo_rounds 41 (73, .iload_n 3, 1) rfl) rfl ?_
        refine j_ishl (dt_Mo_rounds 42 (74, .ishl, 1) rfl) ?_
        refine jite hy70 (fun hc hy70 => ?_) (fun hc hy70 => ?_)
        · refine j_icmp_ge (dt_Mo_rounds 43 (75, .if_icmp .ge 148, 3) rfl) rfl (fun _ => ?_) (fun q => absurd hc q)
          cases hy70
          have hz := hX70 _ (hout70 _ rfl)
          exact j_sub rfl hz
        · refine j_icmp_ge (dt_Mo_rounds 43 (75, .if_icmp .ge 148, 3) rfl) rfl (fun q => absurd q hc) (fun _ => ?_)
          refine j_aload_n (dt_Mo_rounds 44 (78, .aload_n 0, 1) rfl) rfl ?_
          obtain ⟨x9, hx9, hy70⟩ := jbind hy70
          refine j_getR (dt_Mo_rounds 45 (79, .getfield 127, 3) rfl) fl_X12_127 hx9 (fun _ _ => rfl) ?_
          refine j_iload (dt_Mo_rounds 46 (82, .iload 4, 2) rfl) rfl ?_
          obtain ⟨x10, hx10, hy70⟩ := jbind hy70
          refine j_aldI (dt_Mo_rounds 47 (84, .iaload, 1) rfl) hx10 ?_
          refine j_iconst (dt_Mo_rounds 48 (85, .iconst (-1), 1) rfl) ic_m1 ?_
          refine jite hy70 (fun hc hy70 => ?_) (fun hc hy70 => ?_)
          · refine j_icmp_ne (dt_Mo_rounds 49 (86, .if_icmp .ne 6, 3) rfl) rfl (fun q => absurd hc q) (fun _ => ?_)
            refine j_goto (dt_Mo_rounds 50 (89, .goto 128, 3) rfl) rfl ?_
            refine j_iinc (dt_Mo_rounds 123 (217, .iinc 4 1, 3) rfl) rfl (nlt rfl) (ii_1 _) ?_
            refine j_goto (dt_Mo_rounds 124 (220, .goto (-150), 3) rfl) rfl ?_
            cases hy70
            have hz := hin70 _ rfl
            exact j_sub rfl hz
          · refine j_icmp_ne (dt_Mo_rounds 49 (86, .if_icmp .ne 6, 3) rfl) rfl (fun _ => ?_) (fun q => absurd q hc)
            refine j_iconst (dt_Mo_rounds 51 (92, .iconst 1, 1) rfl) ic_1 ?_
            refine j_iload_n (dt_Mo_rounds 52 (93, .iload_n 3, 1) rfl) rfl ?_
            refine j_ishl (dt_Mo_rounds 53 (94, .ishl, 1) rfl) ?_
            refine j_iconst (dt_Mo_rounds 54 (95, .iconst 1, 1) rfl) ic_1 ?_
            refine j_isub (dt_Mo_rounds 55 (96, .isub, 1) rfl) ?_
            refine j_iload (dt_Mo_rounds 56 (97, .iload 4, 2) rfl) rfl ?_
            refine j_iconst (dt_Mo_rounds 57 (99, .iconst (-1), 1) rfl) ic_m1 ?_
            refine j_ixor (dt_Mo_rounds 58 (100, .ixor, 1) rfl) ?_
            refine j_iand (dt_Mo_rounds 59 (101, .iand, 1) rfl) ?_
            refine j_istore (dt_Mo_rounds 60 (102, .istore 5, 2) rfl) (nlt rfl) ?_
            refine j_iload (dt_Mo_rounds 61 (104, .iload 5, 2) rfl) rfl ?_
            refine j_istore (dt_Mo_rounds 62 (106, .istore 6, 2) rfl) (nlt rfl) ?_
            obtain ⟨t108, ht108, hy70⟩ := jbind hy70
            have hX108 : ∀ q108 : hV, q108 = t108 → jJ G M_Mo_rounds (jEnd G M_Mo_rounds (some (ai res.1)) (S, res.2)) 0 0 217 [(0, ar v0), (2, ai v2), (3, ai w5.1), (4, ai s70.1)] [] (S, q108) := by
              intro q108 hq108
              subst hq108
              refine j_iinc (dt_Mo_rounds 123 (217, .iinc 4 1, 3) rfl) rfl (nlt rfl) (ii_1 _) ?_
              refine j_goto (dt_Mo_rounds 124 (220, .goto (-150), 3) rfl) rfl ?_
              cases hy70
              have hz := hin70 _ rfl
              exact j_sub rfl hz
            refine j_sub (ls' := [(0, ar v0), (2, ai v2), (3, ai w5.1), (4, ai s70.1), (5, ai (((shl 1 w5.1) - 1) &&& (s70.1 ^^^ (-1)))), (6, ai (((shl 1 w5.1) - 1) &&& (s70.1 ^^^ (-1))))]) rfl ?_
            refine jloop_J (C := fun s108 => jJ G M_Mo_rounds (jEnd G M_Mo_rounds (some (ai res.1)) (S, res.2)) 0 0 108 [(0, ar v0), (2, ai v2), (3, ai w5.1), (4, ai s70.1), (5, ai (((shl 1 w5.1) - 1) &&& (s70.1 ^^^ (-1)))), (6, ai s108.1)] [] (S, s108.2)) (fun s108 z108_ hy108 hin108 hout108 => ?_) _ _ ht108
            unfold Mo_rounds_L108 at hy108
            refine j_iload (dt_Mo_rounds 63 (108, .iload 6, 2) rfl) rfl ?_
            refine jite hy108 (fun hc hy108 => ?_) (fun hc hy108 => ?_)
            · refine j_if_le (dt_Mo_rounds 64 (110, .ifCond .le 107, 3) rfl) rfl (fun _ => ?_) (fun q => absurd hc q)
              cases hy108
              have hz := hX108 _ (hout108 _ rfl)
              exact j_sub rfl hz
            · refine j_if_le (dt_Mo_rounds 64 (110, .ifCond .le 107, 3) rfl) rfl (fun q => absurd q hc) (fun _ => ?_)
              refine j_aload_n (dt_Mo_rounds 65 (113, .aload_n 0, 1) rfl) rfl ?_
              refine j_iload (dt_Mo_rounds 66 (114, .iload 6, 2) rfl) rfl ?_
              refine j_iload_n (dt_Mo_rounds 67 (116, .iload_n 3, 1) rfl) rfl ?_
              obtain ⟨x11, hx11, hy108⟩ := jbind hy108
              obtain ⟨b12, hb12⟩ := r_Mo_bitsOf hx11
              refine j_callV M_Mo_bitsOf 2 [ai s108.1, ai w5.1] (rest := []) (dt_Mo_rounds 68 (117, .invokevirtual 376, 3) rfl) ml_X12_376 ok_Mo_bitsOf (jfit rfl rfl ⟨rfl, rfl⟩ (nle rfl) (nlt rfl)) rfl rfl (nle rfl) ⟨rfl, rfl⟩ hb12 ((c_Mo_bitsOf hx11)) ?_
              refine j_istore (dt_Mo_rounds 69 (120, .istore 7, 2) rfl) (nlt rfl) ?_
              refine j_iload (dt_Mo_rounds 70 (122, .iload 7, 2) rfl) rfl ?_
              refine j_callS M_Jd_bitCount 1 [ai x11] (rest := []) (dt_Mo_rounds 71 (124, .invokestatic 356, 3) rfl) ml_X12_356 ok_Jd_bitCount (jfit rfl rfl ⟨rfl, rfl⟩ (nle rfl) (nlt rfl)) rfl rfl (nle rfl) ⟨rfl, rfl⟩ (c_Jd_bitCount rfl) ?_
              refine j_iload_n (dt_Mo_rounds 72 (127, .iload_n 2, 1) rfl) rfl ?_
              obtain ⟨j128, hj128, hy108⟩ := jbind hy108
              have hP128 : jJ G M_Mo_rounds (jEnd G M_Mo_rounds (some (ai res.1)) (S, res.2)) 0 0 205 [(0, ar v0), (2, ai v2), (3, ai w5.1), (4, ai s70.1), (5, ai (((shl 1 w5.1) - 1) &&& (s70.1 ^^^ (-1)))), (6, ai s108.1)] [] (S, j128) := by
                refine j_iload (dt_Mo_rounds 116 (205, .iload 6, 2) rfl) rfl ?_
                refine j_iconst (dt_Mo_rounds 117 (207, .iconst 1, 1) rfl) ic_1 ?_
                refine j_isub (dt_Mo_rounds 118 (208, .isub, 1) rfl) ?_
                refine j_iload (dt_Mo_rounds 119 (209, .iload 5, 2) rfl) rfl ?_
                refine j_iand (dt_Mo_rounds 120 (211, .iand, 1) rfl) ?_
                refine j_istore (dt_Mo_rounds 121 (212, .istore 6, 2) rfl) (nlt rfl) ?_
                refine j_goto (dt_Mo_rounds 122 (214, .goto (-106), 3) rfl) rfl ?_
                cases hy108
                have hz := hin108 _ rfl
                exact j_sub rfl hz
              refine jite hj128 (fun hc hj128 => ?_) (fun hc hj128 => ?_)
              · refine j_icmp_gt (dt_Mo_rounds 73 (128, .if_icmp .gt 77, 3) rfl) rfl (fun _ => ?_) (fun q => absurd hc q)
                cases hj128
                exact j_sub rfl hP128
              · refine j_icmp_gt (dt_Mo_rounds 73 (128, .if_icmp .gt 77, 3) rfl) rfl (fun q => absurd q hc) (fun _ => ?_)
                refine j_aload_n (dt_Mo_rounds 74 (131, .aload_n 0, 1) rfl) rfl ?_
                refine j_iload (dt_Mo_rounds 75 (132, .iload 7, 2) rfl) rfl ?_
                refine j_aload_n (dt_Mo_rounds 76 (134, .aload_n 0, 1) rfl) rfl ?_
                refine j_iload (dt_Mo_rounds 77 (135, .iload 4, 2) rfl) rfl ?_
                refine j_iload_n (dt_Mo_rounds 78 (137, .iload_n 3, 1) rfl) rfl ?_
                obtain ⟨x13, hx13, hj128⟩ := jbind hj128
                obtain ⟨b14, hb14⟩ := r_Mo_bitsOf hx13
                refine j_callV M_Mo_bitsOf 2 [ai s70.1, ai w5.1] (rest := [ai x11, ar v0]) (dt_Mo_rounds 79 (138, .invokevirtual 376, 3) rfl) ml_X12_376 ok_Mo_bitsOf (jfit rfl rfl ⟨rfl, rfl⟩ (nle rfl) (nlt rfl)) rfl rfl (nle rfl) ⟨rfl, rfl⟩ hb14 ((c_Mo_bitsOf hx13)) ?_
                obtain ⟨x15, hx15, hj128⟩ := jbind hj128
                obtain ⟨b16, hb16⟩ := r_Mo_mayGo hx15
                refine j_callV M_Mo_mayGo 2 [ai x11, ai x13] (rest := []) (dt_Mo_rounds 80 (141, .invokevirtual 379, 3) rfl) ml_X12_379 ok_Mo_mayGo (jfit rfl rfl ⟨rfl, rfl⟩ (nle rfl) (nlt rfl)) rfl rfl (nle rfl) ⟨rfl, rfl⟩ hb16 ((c_Mo_mayGo hx15)) ?_
                refine jite hj128 (fun hc hj128 => ?_) (fun hc hj128 => ?_)
                · refine j_if_ne (dt_Mo_rounds 81 (144, .ifCond .ne 6, 3) rfl) rfl (fun q => absurd hc q) (fun _ => ?_)
                  refine j_goto (dt_Mo_rounds 82 (147, .goto 58, 3) rfl) rfl ?_
                  cases hj128
                  exact j_sub rfl hP128
                · refine j_if_ne (dt_Mo_rounds 81 (144, .ifCond .ne 6, 3) rfl) rfl (fun _ => ?_) (fun q => absurd q hc)
                  refine j_aload_n (dt_Mo_rounds 83 (150, .aload_n 0, 1) rfl) rfl ?_
                  obtain ⟨x17, hx17, hj128⟩ := jbind hj128
                  refine j_getR (dt_Mo_rounds 84 (151, .getfield 127, 3) rfl) fl_X12_127 hx17 (fun _ _ => rfl) ?_
                  refine j_iload (dt_Mo_rounds 85 (154, .iload 4, 2) rfl) rfl ?_
                  refine j_iload (dt_Mo_rounds 86 (156, .iload 6, 2) rfl) rfl ?_
                  refine j_ior (dt_Mo_rounds 87 (158, .ior, 1) rfl) ?_
                  obtain ⟨x18, hx18, hj128⟩ := jbind hj128
                  refine j_aldI (dt_Mo_rounds 88 (159, .iaload, 1) rfl) hx18 ?_
                  refine j_iconst (dt_Mo_rounds 89 (160, .iconst (-1), 1) rfl) ic_m1 ?_
                  obtain ⟨k161, hk161, hj128⟩ := jbind hj128
                  have hE161 : ∀ e161 : Unit, k161 = .inl e161 → jJ G M_Mo_rounds (jEnd G M_Mo_rounds (some (ai res.1)) (S, res.2)) 0 0 186 [(0, ar v0), (2, ai v2), (3, ai w5.1), (4, ai s70.1), (5, ai (((shl 1 w5.1) - 1) &&& (s70.1 ^^^ (-1)))), (6, ai s108.1)] [] (S, s108.2) := by
                    intro e161 he161
                    subst he161
                    refine j_aload_n (dt_Mo_rounds 104 (186, .aload_n 0, 1) rfl) rfl ?_
                    obtain ⟨x19, hx19, hj128⟩ := jbind hj128
                    refine j_getR (dt_Mo_rounds 105 (187, .getfield 127, 3) rfl) fl_X12_127 hx19 (fun _ _ => rfl) ?_
                    refine j_iload (dt_Mo_rounds 106 (190, .iload 4, 2) rfl) rfl ?_
                    refine j_iload (dt_Mo_rounds 107 (192, .iload 6, 2) rfl) rfl ?_
                    refine j_ior (dt_Mo_rounds 108 (194, .ior, 1) rfl) ?_
                    refine j_aload_n (dt_Mo_rounds 109 (195, .aload_n 0, 1) rfl) rfl ?_
                    obtain ⟨x20, hx20, hj128⟩ := jbind hj128
                    refine j_getR (dt_Mo_rounds 110 (196, .getfield 127, 3) rfl) fl_X12_127 hx20 (fun _ _ => rfl) ?_
                    refine j_iload (dt_Mo_rounds 111 (199, .iload 4, 2) rfl) rfl ?_
                    obtain ⟨x21, hx21, hj128⟩ := jbind hj128
                    refine j_aldI (dt_Mo_rounds 112 (201, .iaload, 1) rfl) hx21 ?_
                    refine j_iconst (dt_Mo_rounds 113 (202, .iconst 1, 1) rfl) ic_1 ?_
                    refine j_iadd (dt_Mo_rounds 114 (203, .iadd, 1) rfl) ?_
                    obtain ⟨V22, hV22, hj128⟩ := jbind hj128
                    refine j_astI (dt_Mo_rounds 115 (204, .iastore, 1) rfl) hV22 ?_
                    cases hj128
                    exact j_sub rfl hP128
                  refine jite hk161 (fun hc hk161 => ?_) (fun hc hk161 => ?_)
                  · refine j_icmp_eq (dt_Mo_rounds 90 (161, .if_icmp .eq 25, 3) rfl) rfl (fun _ => ?_) (fun q => absurd hc q)
                    cases hk161
                    have hz := hE161 _ rfl
                    exact j_sub rfl hz
                  · refine j_icmp_eq (dt_Mo_rounds 90 (161, .if_icmp .eq 25, 3) rfl) rfl (fun q => absurd q hc) (fun _ => ?_)
                    refine j_aload_n (dt_Mo_rounds 91 (164, .aload_n 0, 1) rfl) rfl ?_
                    obtain ⟨x23, hx23, hk161⟩ := jbind hk161
                    refine j_getR (dt_Mo_rounds 92 (165, .getfield 127, 3) rfl) fl_X12_127 hx23 (fun _ _ => rfl) ?_
                    refine j_iload (dt_Mo_rounds 93 (168, .iload 4, 2) rfl) rfl ?_
                    obtain ⟨x24, hx24, hk161⟩ := jbind hk161
                    refine j_aldI (dt_Mo_rounds 94 (170, .iaload, 1) rfl) hx24 ?_
                    refine j_iconst (dt_Mo_rounds 95 (171, .iconst 1, 1) rfl) ic_1 ?_
                    refine j_iadd (dt_Mo_rounds 96 (172, .iadd, 1) rfl) ?_
                    refine j_aload_n (dt_Mo_rounds 97 (173, .aload_n 0, 1) rfl) rfl ?_
                    obtain ⟨x25, hx25, hk161⟩ := jbind hk161
                    refine j_getR (dt_Mo_rounds 98 (174, .getfield 127, 3) rfl) fl_X12_127 hx25 (fun _ _ => rfl) ?_
                    refine j_iload (dt_Mo_rounds 99 (177, .iload 4, 2) rfl) rfl ?_
                    refine j_iload (dt_Mo_rounds 100 (179, .iload 6, 2) rfl) rfl ?_
                    refine j_ior (dt_Mo_rounds 101 (181, .ior, 1) rfl) ?_
                    obtain ⟨x26, hx26, hk161⟩ := jbind hk161
                    refine j_aldI (dt_Mo_rounds 102 (182, .iaload, 1) rfl) hx26 ?_
                    refine jite hk161 (fun hc hk161 => ?_) (fun hc hk161 => ?_)
                    · refine j_icmp_ge (dt_Mo_rounds 103 (183, .if_icmp .ge 22, 3) rfl) rfl (fun _ => ?_) (fun q => absurd hc q)
                      cases hk161
                      cases hj128
                      exact j_sub rfl hP128
                    · refine j_icmp_ge (dt_Mo_rounds 103 (183, .if_icmp .ge 22, 3) rfl) rfl (fun q => absurd q hc) (fun _ => ?_)
                      cases hk161
                      have hz := hE161 _ rfl
                      exact j_sub rfl hz
      refine j_sub (ls' := [(0, ar v0), (2, ai v2), (3, ai w5.1), (4, ai 0)]) rfl ?_
      refine jloop_J (C := fun s36 => jJ G M_Mo_rounds (jEnd G M_Mo_rounds (some (ai res.1)) (S, res.2)) 0 0 36 [(0, ar v0), (2, ai v2), (3, ai w5.1), (4, ai s36.1)] [] (S, s36.2)) (fun s36 z36_ hy36 hin36 hout36 => ?_) _ _ ht36
      unfold Mo_rounds_L36 at hy36
      refine j_iload (dt_Mo_rounds 21 (36, .iload 4, 2) rfl) rfl ?_
      refine j_iconst (dt_Mo_rounds 22 (38, .iconst 1, 1) rfl) ic_1 ?_
      refine j_iload_n (dt_Mo_rounds 23 (39, .iload_n 3, 1) rfl) rfl ?_
      refine j_ishl (dt_Mo_rounds 24 (40, .ishl, 1) rfl) ?_
      refine jite hy36 (fun hc hy36 => ?_) (fun hc hy36 => ?_)
      · refine j_icmp_ge (dt_Mo_rounds 25 (41, .if_icmp .ge 26, 3) rfl) rfl (fun _ => ?_) (fun q => absurd hc q)
        cases hy36
        have hz := hX36 _ (hout36 _ rfl)
        exact j_sub rfl hz
      · refine j_icmp_ge (dt_Mo_rounds 25 (41, .if_icmp .ge 26, 3) rfl) rfl (fun q => absurd q hc) (fun _ => ?_)
        refine j_aload_n (dt_Mo_rounds 26 (44, .aload_n 0, 1) rfl) rfl ?_
        obtain ⟨x7, hx7, hy36⟩ := jbind hy36
        refine j_getR (dt_Mo_rounds 27 (45, .getfield 127, 3) rfl) fl_X12_127 hx7 (fun _ _ => rfl) ?_
        refine j_iload (dt_Mo_rounds 28 (48, .iload 4, 2) rfl) rfl ?_
        refine j_iload (dt_Mo_rounds 29 (50, .iload 4, 2) rfl) rfl ?_
        obtain ⟨j52, hj52, hy36⟩ := jbind hy36
        have hP52 : jJ G M_Mo_rounds (jEnd G M_Mo_rounds (some (ai res.1)) (S, res.2)) 0 0 60 [(0, ar v0), (2, ai v2), (3, ai w5.1), (4, ai s36.1)] [ai j52, ai s36.1, ar x7] (S, s36.2) := by
          obtain ⟨V8, hV8, hy36⟩ := jbind hy36
          refine j_astI (dt_Mo_rounds 34 (60, .iastore, 1) rfl) hV8 ?_
          refine j_iinc (dt_Mo_rounds 35 (61, .iinc 4 1, 3) rfl) rfl (nlt rfl) (ii_1 _) ?_
          refine j_goto (dt_Mo_rounds 36 (64, .goto (-28), 3) rfl) rfl ?_
          cases hy36
          have hz := hin36 _ rfl
          exact j_sub rfl hz
        refine jite hj52 (fun hc hj52 => ?_) (fun hc hj52 => ?_)
        · refine j_if_ne (dt_Mo_rounds 30 (52, .ifCond .ne 7, 3) rfl) rfl (fun q => absurd hc q) (fun _ => ?_)
          refine j_iconst (dt_Mo_rounds 31 (55, .iconst 0, 1) rfl) ic_0 ?_
          refine j_goto (dt_Mo_rounds 32 (56, .goto 4, 3) rfl) rfl ?_
          cases hj52
          exact j_sub rfl hP52
        · refine j_if_ne (dt_Mo_rounds 30 (52, .ifCond .ne 7, 3) rfl) rfl (fun _ => ?_) (fun q => absurd q hc)
          refine j_iconst (dt_Mo_rounds 33 (59, .iconst (-1), 1) rfl) ic_m1 ?_
          cases hj52
          exact j_sub rfl hP52
theorem r_Mo_rounds {S : hS} {V : hV} {v0 : Option Nat} {v1 : Int32} {v2 : Int32} {res : Int32 × hV} (hf : Mo_rounds S v0 v1 v2 V = some res) : ∃ b, rc S 12 v0 = some b := by
  unfold Mo_rounds at hf
  obtain ⟨b, hb, _⟩ := jbind hf
  exact ⟨b, hb⟩
def tb_Mo_isQuiet : List (Nat × Instr × Nat) := [(0, .iconst 0, 1), (1, .istore_n 2, 1), (2, .iload_n 2, 1), (3, .aload_n 0, 1), (4, .getfield 44, 3), (7, .iconst 0, 1), (8, .iaload, 1), (9, .if_icmp .ge 75, 3), (12, .iconst 0, 1), (13, .istore_n 3, 1), (14, .iload_n 3, 1), (15, .aload_n 0, 1), (16, .getfield 44, 3), (19, .iconst 0, 1), (20, .iaload, 1), (21, .if_icmp .ge 57, 3), (24, .iload_n 1, 1), (25, .iload_n 2, 1), (26, .ishr, 1), (27, .iconst 1, 1), (28, .iand, 1), (29, .iconst 1, 1), (30, .if_icmp .ne 42, 3), (33, .iload_n 1, 1), (34, .iload_n 3, 1), (35, .ishr, 1), (36, .iconst 1, 1), (37, .iand, 1), (38, .iconst 1, 1), (39, .if_icmp .ne 33, 3), (42, .aload_n 0, 1), (43, .getfield 113, 3), (46, .bipush 10, 2), (48, .iload_n 2, 1), (49, .imul, 1), (50, .iload_n 3, 1), (51, .iadd, 1), (52, .baload, 1), (53, .ifCond .eq 19, 3), (56, .aload_n 0, 1), (57, .getfield 111, 3), (60, .bipush 10, 2), (62, .iload_n 2, 1), (63, .imul, 1), (64, .iload_n 3, 1), (65, .iadd, 1), (66, .baload, 1), (67, .ifCond .eq 5, 3), (70, .iconst 0, 1), (71, .ireturn, 1), (72, .iinc 3 1, 3), (75, .goto (-61), 3), (78, .iinc 2 1, 3), (81, .goto (-79), 3), (84, .aload_n 0, 1), (85, .iload_n 1, 1), (86, .invokevirtual 361, 3), (89, .ifCond .ne 7, 3), (92, .iconst 1, 1), (93, .goto 4, 3), (96, .iconst 0, 1), (97, .ireturn, 1)]
theorem dt_Mo_isQuiet (i : Nat) (q : Nat × Instr × Nat) (h : tb_Mo_isQuiet[i]? = some q) : decode prog_14_method_67_code q.1 = .ok q.2 := jdt (by decide +kernel : tb_Mo_isQuiet.all (fun q => decide (decode prog_14_method_67_code q.1 = .ok q.2)) = true) h
theorem ok_Mo_isQuiet : jOKV M_Mo_isQuiet 1 := ⟨⟨gt8 14 rfl rfl, gt1 17 rfl rfl, (by decide : "FirstInModel" ≠ "java/lang/invoke/MethodHandle"), (by decide : "FirstInModel" ≠ "java/lang/invoke/VarHandle"), (by decide +kernel : (parseMethodDescriptor "(I)Z").map (fun d => d.parameters.length) = some 1)⟩, gt8 13 rfl rfl, gs_in 46 rfl, rfl, nlt rfl⟩
set_option maxRecDepth 100000 in
set_option maxHeartbeats 4000000 in
theorem c_Mo_isQuiet {G : jG} {S : hS} {V : hV} {v0 : Option Nat} {v1 : Int32} {res : Int32 × hV} (hf : Mo_isQuiet S v0 v1 V = some res) : jC G M_Mo_isQuiet [ar v0, ai v1] (S, V) (some (ai res.1)) (S, res.2) := by
  unfold Mo_isQuiet at hf
  obtain ⟨_, _, hf⟩ := jbind hf
  refine jC_of (pf_X12 _ _) rfl (nle rfl) ?_
  show jJ G M_Mo_isQuiet (jEnd G M_Mo_isQuiet (some (ai res.1)) (S, res.2)) 0 0 0 [(0, ar v0), (1, ai v1)] [] (S, V)
  refine j_iconst (dt_Mo_isQuiet 0 (0, .iconst 0, 1) rfl) ic_0 ?_
  refine j_istore_n (dt_Mo_isQuiet 1 (1, .istore_n 2, 1) rfl) (nlt rfl) ?_
  obtain ⟨t2, ht2, hf⟩ := jbind hf
  have hX2 : ∀ q2 : Unit, t2 = .inl q2 → jJ G M_Mo_isQuiet (jEnd G M_Mo_isQuiet (some (ai res.1)) (S, res.2)) 0 0 84 [(0, ar v0), (1, ai v1)] [] (S, V) := by
    intro q2 hq2
    subst hq2
    refine j_aload_n (dt_Mo_isQuiet 54 (84, .aload_n 0, 1) rfl) rfl ?_
    refine j_iload_n (dt_Mo_isQuiet 55 (85, .iload_n 1, 1) rfl) rfl ?_
    obtain ⟨w9, hw9, hf⟩ := jbind hf
    obtain ⟨b10, hb10⟩ := r_Mo_hasRing hw9
    refine j_callV M_Mo_hasRing 1 [ai v1] (rest := []) (dt_Mo_isQuiet 56 (86, .invokevirtual 361, 3) rfl) ml_X12_361 ok_Mo_hasRing (jfit rfl rfl ⟨rfl, rfl⟩ (nle rfl) (nlt rfl)) rfl rfl (nle rfl) ⟨rfl, rfl⟩ hb10 ((c_Mo_hasRing hw9)) ?_
    refine jite hf (fun hc hf => ?_) (fun hc hf => ?_)
    · refine j_if_ne (dt_Mo_isQuiet 57 (89, .ifCond .ne 7, 3) rfl) rfl (fun q => absurd hc q) (fun _ => ?_)
      refine j_iconst (dt_Mo_isQuiet 58 (92, .iconst 1, 1) rfl) ic_1 ?_
      refine j_goto (dt_Mo_isQuiet 59 (93, .goto 4, 3) rfl) rfl ?_
      cases hf
      exact j_zret (x := 1) (dt_Mo_isQuiet 61 (97, .ireturn, 1) rfl) rfl rfl
    · refine j_if_ne (dt_Mo_isQuiet 57 (89, .ifCond .ne 7, 3) rfl) rfl (fun _ => ?_) (fun q => absurd q hc)
      refine j_iconst (dt_Mo_isQuiet 60 (96, .iconst 0, 1) rfl) ic_0 ?_
      cases hf
      exact j_zret (x := 0) (dt_Mo_isQuiet 61 (97, .ireturn, 1) rfl) rfl rfl
  have hR2 : ∀ v : Int32 × hV, t2 = .inr v → v = res := by
    intro v hv
    subst hv
    cases hf
    rfl
  refine j_sub (ls' := [(0, ar v0), (1, ai v1), (2, ai 0)]) rfl ?_
  refine jloop_J (C := fun s2 => jJ G M_Mo_isQuiet (jEnd G M_Mo_isQuiet (some (ai res.1)) (S, res.2)) 0 0 2 [(0, ar v0), (1, ai v1), (2, ai s2)] [] (S, V)) (fun s2 z2_ hy2 hin2 hout2 => ?_) _ _ ht2
  unfold Mo_isQuiet_L2 at hy2
  refine j_iload_n (dt_Mo_isQuiet 2 (2, .iload_n 2, 1) rfl) rfl ?_
  refine j_aload_n (dt_Mo_isQuiet 3 (3, .aload_n 0, 1) rfl) rfl ?_
  obtain ⟨x1, hx1, hy2⟩ := jbind hy2
  refine j_getR (dt_Mo_isQuiet 4 (4, .getfield 44, 3) rfl) fl_X12_44 hx1 (fun _ _ => rfl) ?_
  refine j_iconst (dt_Mo_isQuiet 5 (7, .iconst 0, 1) rfl) ic_0 ?_
  obtain ⟨x2, hx2, hy2⟩ := jbind hy2
  refine j_aldI (dt_Mo_isQuiet 6 (8, .iaload, 1) rfl) hx2 ?_
  refine jite hy2 (fun hc hy2 => ?_) (fun hc hy2 => ?_)
  · refine j_icmp_ge (dt_Mo_isQuiet 7 (9, .if_icmp .ge 75, 3) rfl) rfl (fun _ => ?_) (fun q => absurd hc q)
    cases hy2
    have hz := hX2 _ (hout2 _ rfl).symm
    exact j_sub rfl hz
  · refine j_icmp_ge (dt_Mo_isQuiet 7 (9, .if_icmp .ge 75, 3) rfl) rfl (fun q => absurd q hc) (fun _ => ?_)
    refine j_iconst (dt_Mo_isQuiet 8 (12, .iconst 0, 1) rfl) ic_0 ?_
    refine j_istore_n (dt_Mo_isQuiet 9 (13, .istore_n 3, 1) rfl) (nlt rfl) ?_
    obtain ⟨t14, ht14, hy2⟩ := jbind hy2
    have hX14 : ∀ q14 : Unit, t14 = .inl q14 → jJ G M_Mo_isQuiet (jEnd G M_Mo_isQuiet (some (ai res.1)) (S, res.2)) 0 0 78 [(0, ar v0), (1, ai v1), (2, ai s2)] [] (S, V) := by
      intro q14 hq14
      subst hq14
      refine j_iinc (dt_Mo_isQuiet 52 (78, .iinc 2 1, 3) rfl) rfl (nlt rfl) (ii_1 _) ?_
      refine j_goto (dt_Mo_isQuiet 53 (81, .goto (-79), 3) rfl) rfl ?_
      cases hy2
      have hz := hin2 _ rfl
      exact j_sub rfl hz
    have hR14 : ∀ v : Int32 × hV, t14 = .inr v → v = res := by
      intro v hv
      subst hv
      cases hy2
      exact hR2 _ (hout2 _ rfl).symm
    refine j_sub (ls' := [(0, ar v0), (1, ai v1), (2, ai s2), (3, ai 0)]) rfl ?_
    refine jloop_J (C := fun s14 => jJ G M_Mo_isQuiet (jEnd G M_Mo_isQuiet (some (ai res.1)) (S, res.2)) 0 0 14 [(0, ar v0), (1, ai v1), (2, ai s2), (3, ai s14)] [] (S, V)) (fun s14 z14_ hy14 hin14 hout14 => ?_) _ _ ht14
    unfold Mo_isQuiet_L14 at hy14
    refine j_iload_n (dt_Mo_isQuiet 10 (14, .iload_n 3, 1) rfl) rfl ?_
    refine j_aload_n (dt_Mo_isQuiet 11 (15, .aload_n 0, 1) rfl) rfl ?_
    obtain ⟨x3, hx3, hy14⟩ := jbind hy14
    refine j_getR (dt_Mo_isQuiet 12 (16, .getfield 44, 3) rfl) fl_X12_44 hx3 (fun _ _ => rfl) ?_
    refine j_iconst (dt_Mo_isQuiet 13 (19, .iconst 0, 1) rfl) ic_0 ?_
    obtain ⟨x4, hx4, hy14⟩ := jbind hy14
    refine j_aldI (dt_Mo_isQuiet 14 (20, .iaload, 1) rfl) hx4 ?_
    refine jite hy14 (fun hc hy14 => ?_) (fun hc hy14 => ?_)
    · refine j_icmp_ge (dt_Mo_isQuiet 15 (21, .if_icmp .ge 57, 3) rfl) rfl (fun _ => ?_) (fun q => absurd hc q)
      cases hy14
      have hz := hX14 _ (hout14 _ rfl).symm
      exact j_sub rfl hz
    · refine j_icmp_ge (dt_Mo_isQuiet 15 (21, .if_icmp .ge 57, 3) rfl) rfl (fun q => absurd q hc) (fun _ => ?_)
      refine j_iload_n (dt_Mo_isQuiet 16 (24, .iload_n 1, 1) rfl) rfl ?_
      refine j_iload_n (dt_Mo_isQuiet 17 (25, .iload_n 2, 1) rfl) rfl ?_
      refine j_ishr (dt_Mo_isQuiet 18 (26, .ishr, 1) rfl) ?_
      refine j_iconst (dt_Mo_isQuiet 19 (27, .iconst 1, 1) rfl) ic_1 ?_
      refine j_iand (dt_Mo_isQuiet 20 (28, .iand, 1) rfl) ?_
      refine j_iconst (dt_Mo_isQuiet 21 (29, .iconst 1, 1) rfl) ic_1 ?_
      refine jite hy14 (fun hc hy14 => ?_) (fun hc hy14 => ?_)
      · refine j_icmp_ne (dt_Mo_isQuiet 22 (30, .if_icmp .ne 42, 3) rfl) rfl (fun q => absurd hc q) (fun _ => ?_)
        refine j_iload_n (dt_Mo_isQuiet 23 (33, .iload_n 1, 1) rfl) rfl ?_
        refine j_iload_n (dt_Mo_isQuiet 24 (34, .iload_n 3, 1) rfl) rfl ?_
        refine j_ishr (dt_Mo_isQuiet 25 (35, .ishr, 1) rfl) ?_
        refine j_iconst (dt_Mo_isQuiet 26 (36, .iconst 1, 1) rfl) ic_1 ?_
        refine j_iand (dt_Mo_isQuiet 27 (37, .iand, 1) rfl) ?_
        refine j_iconst (dt_Mo_isQuiet 28 (38, .iconst 1, 1) rfl) ic_1 ?_
        refine jite hy14 (fun hc hy14 => ?_) (fun hc hy14 => ?_)
        · refine j_icmp_ne (dt_Mo_isQuiet 29 (39, .if_icmp .ne 33, 3) rfl) rfl (fun q => absurd hc q) (fun _ => ?_)
          refine j_aload_n (dt_Mo_isQuiet 30 (42, .aload_n 0, 1) rfl) rfl ?_
          obtain ⟨x5, hx5, hy14⟩ := jbind hy14
          refine j_getR (dt_Mo_isQuiet 31 (43, .getfield 113, 3) rfl) fl_X12_113 hx5 (fun _ _ => rfl) ?_
          refine j_bipush (dt_Mo_isQuiet 32 (46, .bipush 10, 2) rfl) bp_10 ?_
          refine j_iload_n (dt_Mo_isQuiet 33 (48, .iload_n 2, 1) rfl) rfl ?_
          refine j_imul (dt_Mo_isQuiet 34 (49, .imul, 1) rfl) ?_
          refine j_iload_n (dt_Mo_isQuiet 35 (50, .iload_n 3, 1) rfl) rfl ?_
          refine j_iadd (dt_Mo_isQuiet 36 (51, .iadd, 1) rfl) ?_
          obtain ⟨x6, hx6, hy14⟩ := jbind hy14
          refine j_aldZ (dt_Mo_isQuiet 37 (52, .baload, 1) rfl) hx6 ?_
          refine jite hy14 (fun hc hy14 => ?_) (fun hc hy14 => ?_)
          · refine j_if_eq (dt_Mo_isQuiet 38 (53, .ifCond .eq 19, 3) rfl) rfl (fun _ => ?_) (fun q => absurd hc q)
            refine j_iinc (dt_Mo_isQuiet 50 (72, .iinc 3 1, 3) rfl) rfl (nlt rfl) (ii_1 _) ?_
            refine j_goto (dt_Mo_isQuiet 51 (75, .goto (-61), 3) rfl) rfl ?_
            cases hy14
            have hz := hin14 _ rfl
            exact j_sub rfl hz
          · refine j_if_eq (dt_Mo_isQuiet 38 (53, .ifCond .eq 19, 3) rfl) rfl (fun q => absurd q hc) (fun _ => ?_)
            refine j_aload_n (dt_Mo_isQuiet 39 (56, .aload_n 0, 1) rfl) rfl ?_
            obtain ⟨x7, hx7, hy14⟩ := jbind hy14
            refine j_getR (dt_Mo_isQuiet 40 (57, .getfield 111, 3) rfl) fl_X12_111 hx7 (fun _ _ => rfl) ?_
            refine j_bipush (dt_Mo_isQuiet 41 (60, .bipush 10, 2) rfl) bp_10 ?_
            refine j_iload_n (dt_Mo_isQuiet 42 (62, .iload_n 2, 1) rfl) rfl ?_
            refine j_imul (dt_Mo_isQuiet 43 (63, .imul, 1) rfl) ?_
            refine j_iload_n (dt_Mo_isQuiet 44 (64, .iload_n 3, 1) rfl) rfl ?_
            refine j_iadd (dt_Mo_isQuiet 45 (65, .iadd, 1) rfl) ?_
            obtain ⟨x8, hx8, hy14⟩ := jbind hy14
            refine j_aldZ (dt_Mo_isQuiet 46 (66, .baload, 1) rfl) hx8 ?_
            refine jite hy14 (fun hc hy14 => ?_) (fun hc hy14 => ?_)
            · refine j_if_eq (dt_Mo_isQuiet 47 (67, .ifCond .eq 5, 3) rfl) rfl (fun _ => ?_) (fun q => absurd hc q)
              refine j_iinc (dt_Mo_isQuiet 50 (72, .iinc 3 1, 3) rfl) rfl (nlt rfl) (ii_1 _) ?_
              refine j_goto (dt_Mo_isQuiet 51 (75, .goto (-61), 3) rfl) rfl ?_
              cases hy14
              have hz := hin14 _ rfl
              exact j_sub rfl hz
            · refine j_if_eq (dt_Mo_isQuiet 47 (67, .ifCond .eq 5, 3) rfl) rfl (fun q => absurd q hc) (fun _ => ?_)
              refine j_iconst (dt_Mo_isQuiet 48 (70, .iconst 0, 1) rfl) ic_0 ?_
              cases hy14
              obtain rfl := hR14 _ (hout14 _ rfl).symm
              exact j_zret (x := 0) (dt_Mo_isQuiet 49 (71, .ireturn, 1) rfl) rfl rfl
        · refine j_icmp_ne (dt_Mo_isQuiet 29 (39, .if_icmp .ne 33, 3) rfl) rfl (fun _ => ?_) (fun q => absurd q hc)
          refine j_iinc (dt_Mo_isQuiet 50 (72, .iinc 3 1, 3) rfl) rfl (nlt rfl) (ii_1 _) ?_
          refine j_goto (dt_Mo_isQuiet 51 (75, .goto (-61), 3) rfl) rfl ?_
          cases hy14
          have hz := hin14 _ rfl
          exact j_sub rfl hz
      · refine j_icmp_ne (dt_Mo_isQuiet 22 (30, .if_icmp .ne 42, 3) rfl) rfl (fun _ => ?_) (fun q => absurd q hc)
        refine j_iinc (dt_Mo_isQuiet 50 (72, .iinc 3 1, 3) rfl) rfl (nlt rfl) (ii_1 _) ?_
        refine j_goto (dt_Mo_isQuiet 51 (75, .goto (-61), 3) rfl) rfl ?_
        cases hy14
        have hz := hin14 _ rfl
        exact j_sub rfl hz
theorem r_Mo_isQuiet {S : hS} {V : hV} {v0 : Option Nat} {v1 : Int32} {res : Int32 × hV} (hf : Mo_isQuiet S v0 v1 V = some res) : ∃ b, rc S 12 v0 = some b := by
  unfold Mo_isQuiet at hf
  obtain ⟨b, hb, _⟩ := jbind hf
  exact ⟨b, hb⟩
def tb_Mo_parts : List (Nat × Instr × Nat) := [(0, .iload_n 1, 1), (1, .aload_n 0, 1), (2, .getfield 382, 3), (5, .if_icmp .ne 5, 3), (8, .iconst 1, 1), (9, .ireturn, 1), (10, .iconst 0, 1), (11, .istore 4, 2), (13, .iload 4, 2), (15, .iload_n 2, 1), (16, .if_icmp .gt 110, 3), (19, .iload 4, 2), (21, .iload_n 3, 1), (22, .if_icmp .ge 104, 3), (25, .iload 4, 2), (27, .iload_n 2, 1), (28, .if_icmp .ne 7, 3), (31, .iconst 0, 1), (32, .goto 10, 3), (35, .aload_n 0, 1), (36, .getfield 133, 3), (39, .iload 4, 2), (41, .iaload, 1), (42, .istore 5, 2), (44, .aload_n 0, 1), (45, .getfield 133, 3), (48, .iload 4, 2), (50, .iload 5, 2), (52, .iconst 1, 1), (53, .aload_n 0, 1), (54, .getfield 136, 3), (57, .iload_n 1, 1), (58, .iaload, 1), (59, .ishl, 1), (60, .ior, 1), (61, .iastore, 1), (62, .aload_n 0, 1), (63, .getfield 130, 3), (66, .aload_n 0, 1), (67, .getfield 136, 3), (70, .iload_n 1, 1), (71, .iaload, 1), (72, .iload 4, 2), (74, .iastore, 1), (75, .aload_n 0, 1), (76, .getfield 139, 3), (79, .aload_n 0, 1), (80, .getfield 133, 3), (83, .iload 4, 2), (85, .iaload, 1), (86, .baload, 1), (87, .ifCond .eq 24, 3), (90, .aload_n 0, 1), (91, .iload_n 1, 1), (92, .iconst 1, 1), (93, .iadd, 1), (94, .iload_n 2, 1), (95, .iload 4, 2), (97, .iconst 1, 1), (98, .iadd, 1), (99, .invokestatic 334, 3), (102, .iload_n 3, 1), (103, .invokevirtual 385, 3), (106, .ifCond .eq 5, 3), (109, .iconst 1, 1), (110, .ireturn, 1), (111, .aload_n 0, 1), (112, .getfield 133, 3), (115, .iload 4, 2), (117, .iload 5, 2), (119, .iastore, 1), (120, .iinc 4 1, 3), (123, .goto (-110), 3), (126, .iconst 0, 1), (127, .ireturn, 1)]
theorem dt_Mo_parts (i : Nat) (q : Nat × Instr × Nat) (h : tb_Mo_parts[i]? = some q) : decode prog_14_method_68_code q.1 = .ok q.2 := jdt (by decide +kernel : tb_Mo_parts.all (fun q => decide (decode prog_14_method_68_code q.1 = .ok q.2)) = true) h
theorem ok_Mo_parts {n : Nat} : jOKV (M_Mo_parts n) 3 := ⟨⟨gt8 18 rfl rfl, gt1 17 rfl rfl, (by decide : "FirstInModel" ≠ "java/lang/invoke/MethodHandle"), (by decide : "FirstInModel" ≠ "java/lang/invoke/VarHandle"), (by decide +kernel : (parseMethodDescriptor "(III)Z").map (fun d => d.parameters.length) = some 3)⟩, gt8 17 rfl rfl, gs_in 47 rfl, rfl, nlt rfl⟩
set_option maxRecDepth 100000 in
set_option maxHeartbeats 4000000 in
theorem c_Mo_parts_B {G : jG} {S : hS} {n : Nat} {F : (Option Nat) → Int32 → Int32 → Int32 → hV → Option (Int32 × hV)} (hF : ∀ {V : hV} {v0 : Option Nat} {v1 : Int32} {v2 : Int32} {v3 : Int32} {res : Int32 × hV}, F v0 v1 v2 v3 V = some res → jC G (M_Mo_parts n) [ar v0, ai v1, ai v2, ai v3] (S, V) (some (ai res.1)) (S, res.2)) (hFr : ∀ {V : hV} {v0 : Option Nat} {v1 : Int32} {v2 : Int32} {v3 : Int32} {res : Int32 × hV}, F v0 v1 v2 v3 V = some res → ∃ b, rc S 12 v0 = some b) {V : hV} {v0 : Option Nat} {v1 : Int32} {v2 : Int32} {v3 : Int32} {res : Int32 × hV} (hf : Mo_parts_B S F v0 v1 v2 v3 V = some res) : jC G (M_Mo_parts (n + 1)) [ar v0, ai v1, ai v2, ai v3] (S, V) (some (ai res.1)) (S, res.2) := by
  unfold Mo_parts_B at hf
  obtain ⟨_, _, hf⟩ := jbind hf
  refine jC_of (pf_X12 _ _) rfl (nle rfl) ?_
  show jJ G (M_Mo_parts (n + 1)) (jEnd G (M_Mo_parts (n + 1)) (some (ai res.1)) (S, res.2)) 0 0 0 [(0, ar v0), (1, ai v1), (2, ai v2), (3, ai v3)] [] (S, V)
  refine j_iload_n (dt_Mo_parts 0 (0, .iload_n 1, 1) rfl) rfl ?_
  refine j_aload_n (dt_Mo_parts 1 (1, .aload_n 0, 1) rfl) rfl ?_
  obtain ⟨x1, hx1, hf⟩ := jbind hf
  refine j_getI (dt_Mo_parts 2 (2, .getfield 382, 3) rfl) fl_X12_382 hx1 (fun _ _ => rfl) ?_
  refine jite hf (fun hc hf => ?_) (fun hc hf => ?_)
  · refine j_icmp_ne (dt_Mo_parts 3 (5, .if_icmp .ne 5, 3) rfl) rfl (fun q => absurd hc q) (fun _ => ?_)
    refine j_iconst (dt_Mo_parts 4 (8, .iconst 1, 1) rfl) ic_1 ?_
    cases hf
    exact j_zret (x := 1) (dt_Mo_parts 5 (9, .ireturn, 1) rfl) rfl rfl
  · refine j_icmp_ne (dt_Mo_parts 3 (5, .if_icmp .ne 5, 3) rfl) rfl (fun _ => ?_) (fun q => absurd q hc)
    refine j_iconst (dt_Mo_parts 6 (10, .iconst 0, 1) rfl) ic_0 ?_
    refine j_istore (dt_Mo_parts 7 (11, .istore 4, 2) rfl) (nlt rfl) ?_
    obtain ⟨t13, ht13, hf⟩ := jbind hf
    have hX13 : ∀ q13 : hV, t13 = .inl q13 → jJ G (M_Mo_parts (n + 1)) (jEnd G (M_Mo_parts (n + 1)) (some (ai res.1)) (S, res.2)) 0 0 126 [] [] (S, q13) := by
      intro q13 hq13
      subst hq13
      refine j_iconst (dt_Mo_parts 73 (126, .iconst 0, 1) rfl) ic_0 ?_
      cases hf
      exact j_zret (x := 0) (dt_Mo_parts 74 (127, .ireturn, 1) rfl) rfl rfl
    have hR13 : ∀ v : Int32 × hV, t13 = .inr v → v = res := by
      intro v hv
      subst hv
      cases hf
      rfl
    refine j_sub (ls' := [(0, ar v0), (1, ai v1), (2, ai v2), (3, ai v3), (4, ai 0)]) rfl ?_
    refine jloop_J (C := fun s13 => jJ G (M_Mo_parts (n + 1)) (jEnd G (M_Mo_parts (n + 1)) (some (ai res.1)) (S, res.2)) 0 0 13 [(0, ar v0), (1, ai v1), (2, ai v2), (3, ai v3), (4, ai s13.1)] [] (S, s13.2)) (fun s13 z13_ hy13 hin13 hout13 => ?_) _ _ ht13
    unfold Mo_parts_L13 at hy13
    refine j_iload (dt_Mo_parts 8 (13, .iload 4, 2) rfl) rfl ?_
    refine j_iload_n (dt_Mo_parts 9 (15, .iload_n 2, 1) rfl) rfl ?_
    refine jite hy13 (fun hc hy13 => ?_) (fun hc hy13 => ?_)
    · refine j_icmp_gt (dt_Mo_parts 10 (16, .if_icmp .gt 110, 3) rfl) rfl (fun _ => ?_) (fun q => absurd hc q)
      cases hy13
      have hz := hX13 _ (hout13 _ rfl).symm
      exact j_sub rfl hz
    · refine j_icmp_gt (dt_Mo_parts 10 (16, .if_icmp .gt 110, 3) rfl) rfl (fun q => absurd q hc) (fun _ => ?_)
      refine j_iload (dt_Mo_parts 11 (19, .iload 4, 2) rfl) rfl ?_
      refine j_iload_n (dt_Mo_parts 12 (21, .iload_n 3, 1) rfl) rfl ?_
      refine jite hy13 (fun hc hy13 => ?_) (fun hc hy13 => ?_)
      · refine j_icmp_ge (dt_Mo_parts 13 (22, .if_icmp .ge 104, 3) rfl) rfl (fun _ => ?_) (fun q => absurd hc q)
        cases hy13
        have hz := hX13 _ (hout13 _ rfl).symm
        exact j_sub rfl hz
      · refine j_icmp_ge (dt_Mo_parts 13 (22, .if_icmp .ge 104, 3) rfl) rfl (fun q => absurd q hc) (fun _ => ?_)
        refine j_iload (dt_Mo_parts 14 (25, .iload 4, 2) rfl) rfl ?_
        refine j_iload_n (dt_Mo_parts 15 (27, .iload_n 2, 1) rfl) rfl ?_
        obtain ⟨j28, hj28, hy13⟩ := jbind hy13
        have hP28 : jJ G (M_Mo_parts (n + 1)) (jEnd G (M_Mo_parts (n + 1)) (some (ai res.1)) (S, res.2)) 0 0 42 [(0, ar v0), (1, ai v1), (2, ai v2), (3, ai v3), (4, ai s13.1)] [ai j28] (S, s13.2) := by
          refine j_istore (dt_Mo_parts 23 (42, .istore 5, 2) rfl) (nlt rfl) ?_
          refine j_aload_n (dt_Mo_parts 24 (44, .aload_n 0, 1) rfl) rfl ?_
          obtain ⟨x2, hx2, hy13⟩ := jbind hy13
          refine j_getR (dt_Mo_parts 25 (45, .getfield 133, 3) rfl) fl_X12_133 hx2 (fun _ _ => rfl) ?_
          refine j_iload (dt_Mo_parts 26 (48, .iload 4, 2) rfl) rfl ?_
          refine j_iload (dt_Mo_parts 27 (50, .iload 5, 2) rfl) rfl ?_
          refine j_iconst (dt_Mo_parts 28 (52, .iconst 1, 1) rfl) ic_1 ?_
          refine j_aload_n (dt_Mo_parts 29 (53, .aload_n 0, 1) rfl) rfl ?_
          obtain ⟨x3, hx3, hy13⟩ := jbind hy13
          refine j_getR (dt_Mo_parts 30 (54, .getfield 136, 3) rfl) fl_X12_136 hx3 (fun _ _ => rfl) ?_
          refine j_iload_n (dt_Mo_parts 31 (57, .iload_n 1, 1) rfl) rfl ?_
          obtain ⟨x4, hx4, hy13⟩ := jbind hy13
          refine j_aldI (dt_Mo_parts 32 (58, .iaload, 1) rfl) hx4 ?_
          refine j_ishl (dt_Mo_parts 33 (59, .ishl, 1) rfl) ?_
          refine j_ior (dt_Mo_parts 34 (60, .ior, 1) rfl) ?_
          obtain ⟨V5, hV5, hy13⟩ := jbind hy13
          refine j_astI (dt_Mo_parts 35 (61, .iastore, 1) rfl) hV5 ?_
          refine j_aload_n (dt_Mo_parts 36 (62, .aload_n 0, 1) rfl) rfl ?_
          obtain ⟨x6, hx6, hy13⟩ := jbind hy13
          refine j_getR (dt_Mo_parts 37 (63, .getfield 130, 3) rfl) fl_X12_130 hx6 (fun _ _ => rfl) ?_
          refine j_aload_n (dt_Mo_parts 38 (66, .aload_n 0, 1) rfl) rfl ?_
          obtain ⟨x7, hx7, hy13⟩ := jbind hy13
          refine j_getR (dt_Mo_parts 39 (67, .getfield 136, 3) rfl) fl_X12_136 hx7 (fun _ _ => rfl) ?_
          refine j_iload_n (dt_Mo_parts 40 (70, .iload_n 1, 1) rfl) rfl ?_
          obtain ⟨x8, hx8, hy13⟩ := jbind hy13
          refine j_aldI (dt_Mo_parts 41 (71, .iaload, 1) rfl) hx8 ?_
          refine j_iload (dt_Mo_parts 42 (72, .iload 4, 2) rfl) rfl ?_
          obtain ⟨V9, hV9, hy13⟩ := jbind hy13
          refine j_astI (dt_Mo_parts 43 (74, .iastore, 1) rfl) hV9 ?_
          refine j_aload_n (dt_Mo_parts 44 (75, .aload_n 0, 1) rfl) rfl ?_
          obtain ⟨x10, hx10, hy13⟩ := jbind hy13
          refine j_getR (dt_Mo_parts 45 (76, .getfield 139, 3) rfl) fl_X12_139 hx10 (fun _ _ => rfl) ?_
          refine j_aload_n (dt_Mo_parts 46 (79, .aload_n 0, 1) rfl) rfl ?_
          obtain ⟨x11, hx11, hy13⟩ := jbind hy13
          refine j_getR (dt_Mo_parts 47 (80, .getfield 133, 3) rfl) fl_X12_133 hx11 (fun _ _ => rfl) ?_
          refine j_iload (dt_Mo_parts 48 (83, .iload 4, 2) rfl) rfl ?_
          obtain ⟨x12, hx12, hy13⟩ := jbind hy13
          refine j_aldI (dt_Mo_parts 49 (85, .iaload, 1) rfl) hx12 ?_
          obtain ⟨x13, hx13, hy13⟩ := jbind hy13
          refine j_aldZ (dt_Mo_parts 50 (86, .baload, 1) rfl) hx13 ?_
          obtain ⟨k87, hk87, hy13⟩ := jbind hy13
          have hE87 : ∀ e87 : hV, k87 = .inl e87 → jJ G (M_Mo_parts (n + 1)) (jEnd G (M_Mo_parts (n + 1)) (some (ai res.1)) (S, res.2)) 0 0 111 [(0, ar v0), (1, ai v1), (2, ai v2), (3, ai v3), (4, ai s13.1), (5, ai j28)] [] (S, e87) := by
            intro e87 he87
            subst he87
            refine j_aload_n (dt_Mo_parts 66 (111, .aload_n 0, 1) rfl) rfl ?_
            obtain ⟨x14, hx14, hy13⟩ := jbind hy13
            refine j_getR (dt_Mo_parts 67 (112, .getfield 133, 3) rfl) fl_X12_133 hx14 (fun _ _ => rfl) ?_
            refine j_iload (dt_Mo_parts 68 (115, .iload 4, 2) rfl) rfl ?_
            refine j_iload (dt_Mo_parts 69 (117, .iload 5, 2) rfl) rfl ?_
            obtain ⟨V15, hV15, hy13⟩ := jbind hy13
            refine j_astI (dt_Mo_parts 70 (119, .iastore, 1) rfl) hV15 ?_
            refine j_iinc (dt_Mo_parts 71 (120, .iinc 4 1, 3) rfl) rfl (nlt rfl) (ii_1 _) ?_
            refine j_goto (dt_Mo_parts 72 (123, .goto (-110), 3) rfl) rfl ?_
            cases hy13
            have hz := hin13 _ rfl
            exact j_sub rfl hz
          refine jite hk87 (fun hc hk87 => ?_) (fun hc hk87 => ?_)
          · refine j_if_eq (dt_Mo_parts 51 (87, .ifCond .eq 24, 3) rfl) rfl (fun _ => ?_) (fun q => absurd hc q)
            cases hk87
            have hz := hE87 _ rfl
            exact j_sub rfl hz
          · refine j_if_eq (dt_Mo_parts 51 (87, .ifCond .eq 24, 3) rfl) rfl (fun q => absurd q hc) (fun _ => ?_)
            refine j_aload_n (dt_Mo_parts 52 (90, .aload_n 0, 1) rfl) rfl ?_
            refine j_iload_n (dt_Mo_parts 53 (91, .iload_n 1, 1) rfl) rfl ?_
            refine j_iconst (dt_Mo_parts 54 (92, .iconst 1, 1) rfl) ic_1 ?_
            refine j_iadd (dt_Mo_parts 55 (93, .iadd, 1) rfl) ?_
            refine j_iload_n (dt_Mo_parts 56 (94, .iload_n 2, 1) rfl) rfl ?_
            refine j_iload (dt_Mo_parts 57 (95, .iload 4, 2) rfl) rfl ?_
            refine j_iconst (dt_Mo_parts 58 (97, .iconst 1, 1) rfl) ic_1 ?_
            refine j_iadd (dt_Mo_parts 59 (98, .iadd, 1) rfl) ?_
            refine j_callS M_Jd_max 2 [ai v2, ai (s13.1 + 1)] (rest := [ai (v1 + 1), ar v0]) (dt_Mo_parts 60 (99, .invokestatic 334, 3) rfl) ml_X12_334 ok_Jd_max (jfit rfl rfl ⟨rfl, rfl⟩ (nle rfl) (by omega)) rfl rfl (nle rfl) ⟨rfl, rfl⟩ (c_Jd_max rfl) ?_
            refine j_iload_n (dt_Mo_parts 61 (102, .iload_n 3, 1) rfl) rfl ?_
            obtain ⟨w16, hw16, hk87⟩ := jbind hk87
            obtain ⟨b17, hb17⟩ := hFr hw16
            refine j_callV (M_Mo_parts n) 3 [ai (v1 + 1), ai (Jd_max v2 (s13.1 + 1)), ai v3] (rest := []) (dt_Mo_parts 62 (103, .invokevirtual 385, 3) rfl) ml_X12_385 ok_Mo_parts (jfit rfl rfl ⟨rfl, rfl⟩ (nle rfl) (by omega)) rfl rfl (nle rfl) ⟨rfl, rfl⟩ hb17 (hF hw16) ?_
            refine jite hk87 (fun hc hk87 => ?_) (fun hc hk87 => ?_)
            · refine j_if_eq (dt_Mo_parts 63 (106, .ifCond .eq 5, 3) rfl) rfl (fun _ => ?_) (fun q => absurd hc q)
              cases hk87
              have hz := hE87 _ rfl
              exact j_sub rfl hz
            · refine j_if_eq (dt_Mo_parts 63 (106, .ifCond .eq 5, 3) rfl) rfl (fun q => absurd q hc) (fun _ => ?_)
              refine j_iconst (dt_Mo_parts 64 (109, .iconst 1, 1) rfl) ic_1 ?_
              cases hk87
              cases hy13
              obtain rfl := hR13 _ (hout13 _ rfl).symm
              exact j_zret (x := 1) (dt_Mo_parts 65 (110, .ireturn, 1) rfl) rfl rfl
        refine jite hj28 (fun hc hj28 => ?_) (fun hc hj28 => ?_)
        · refine j_icmp_ne (dt_Mo_parts 16 (28, .if_icmp .ne 7, 3) rfl) rfl (fun q => absurd hc q) (fun _ => ?_)
          refine j_iconst (dt_Mo_parts 17 (31, .iconst 0, 1) rfl) ic_0 ?_
          refine j_goto (dt_Mo_parts 18 (32, .goto 10, 3) rfl) rfl ?_
          cases hj28
          exact j_sub rfl hP28
        · refine j_icmp_ne (dt_Mo_parts 16 (28, .if_icmp .ne 7, 3) rfl) rfl (fun _ => ?_) (fun q => absurd q hc)
          refine j_aload_n (dt_Mo_parts 19 (35, .aload_n 0, 1) rfl) rfl ?_
          obtain ⟨x18, hx18, hj28⟩ := jbind hj28
          refine j_getR (dt_Mo_parts 20 (36, .getfield 133, 3) rfl) fl_X12_133 hx18 (fun _ _ => rfl) ?_
          refine j_iload (dt_Mo_parts 21 (39, .iload 4, 2) rfl) rfl ?_
          obtain ⟨x19, hx19, hj28⟩ := jbind hj28
          refine j_aldI (dt_Mo_parts 22 (41, .iaload, 1) rfl) hx19 ?_
          cases hj28
          exact j_sub rfl hP28
theorem r_Mo_parts {S : hS} (n : Nat) {V : hV} {v0 : Option Nat} {v1 : Int32} {v2 : Int32} {v3 : Int32} {res : Int32 × hV} (hf : Mo_parts S n v0 v1 v2 v3 V = some res) : ∃ b, rc S 12 v0 = some b := by
  cases n with
  | zero => cases hf
  | succ n =>
    have hf : Mo_parts_B S (Mo_parts S n) v0 v1 v2 v3 V = some res := hf
    unfold Mo_parts_B at hf
    obtain ⟨b, hb, _⟩ := jbind hf
    exact ⟨b, hb⟩
theorem c_Mo_parts {G : jG} {S : hS} : ∀ (n : Nat) {V : hV} {v0 : Option Nat} {v1 : Int32} {v2 : Int32} {v3 : Int32} {res : Int32 × hV}, Mo_parts S n v0 v1 v2 v3 V = some res → jC G (M_Mo_parts n) [ar v0, ai v1, ai v2, ai v3] (S, V) (some (ai res.1)) (S, res.2)
  | 0, _, _, _, _, _, _, h => by cases h
  | n + 1, _, _, _, _, _, _, h => c_Mo_parts_B (fun h => c_Mo_parts n h) (fun h => r_Mo_parts n h) h
def tb_Jd_numberOfTrailingZeros : List (Nat × Instr × Nat) := [(0, .iload_n 0, 1), (1, .iconst (-1), 1), (2, .ixor, 1), (3, .iload_n 0, 1), (4, .iconst 1, 1), (5, .isub, 1), (6, .iand, 1), (7, .istore_n 0, 1), (8, .iload_n 0, 1), (9, .ifCond .gt 8, 3), (12, .iload_n 0, 1), (13, .bipush 32, 2), (15, .iand, 1), (16, .ireturn, 1), (17, .iconst 1, 1), (18, .istore_n 1, 1), (19, .iload_n 0, 1), (20, .ldc_w 264, 3), (23, .if_icmp .le 11, 3), (26, .iinc 1 16, 3), (29, .iload_n 0, 1), (30, .bipush 16, 2), (32, .iushr, 1), (33, .istore_n 0, 1), (34, .iload_n 0, 1), (35, .sipush 256, 3), (38, .if_icmp .le 11, 3), (41, .iinc 1 8, 3), (44, .iload_n 0, 1), (45, .bipush 8, 2), (47, .iushr, 1), (48, .istore_n 0, 1), (49, .iload_n 0, 1), (50, .bipush 16, 2), (52, .if_icmp .le 10, 3), (55, .iinc 1 4, 3), (58, .iload_n 0, 1), (59, .iconst 4, 1), (60, .iushr, 1), (61, .istore_n 0, 1), (62, .iload_n 0, 1), (63, .iconst 4, 1), (64, .if_icmp .le 10, 3), (67, .iinc 1 2, 3), (70, .iload_n 0, 1), (71, .iconst 2, 1), (72, .iushr, 1), (73, .istore_n 0, 1), (74, .iload_n 1, 1), (75, .iload_n 0, 1), (76, .iconst 1, 1), (77, .iushr, 1), (78, .iadd, 1), (79, .ireturn, 1)]
theorem dt_Jd_numberOfTrailingZeros (i : Nat) (q : Nat × Instr × Nat) (h : tb_Jd_numberOfTrailingZeros[i]? = some q) : decode prog_15_method_48_code q.1 = .ok q.2 := jdt (by decide +kernel : tb_Jd_numberOfTrailingZeros.all (fun q => decide (decode prog_15_method_48_code q.1 = .ok q.2)) = true) h
theorem ok_Jd_numberOfTrailingZeros : jOKS M_Jd_numberOfTrailingZeros 1 := ⟨⟨gt8 21 rfl rfl, gt1 19 rfl rfl, (by decide : "java/lang/Integer" ≠ "java/lang/invoke/MethodHandle"), (by decide : "java/lang/Integer" ≠ "java/lang/invoke/VarHandle"), (by decide +kernel : (parseMethodDescriptor "(I)I").map (fun d => d.parameters.length) = some 1)⟩, gt8 20 rfl rfl⟩
set_option maxRecDepth 100000 in
set_option maxHeartbeats 4000000 in
theorem c_Jd_numberOfTrailingZeros {G : jG} {S : hS} {V : hV} {v0 : Int32} {res : Int32} (hf : Jd_numberOfTrailingZeros v0 = some res) : jC G M_Jd_numberOfTrailingZeros [ai v0] (S, V) (some (ai res)) (S, V) := by
  unfold Jd_numberOfTrailingZeros at hf
  refine jC_of (by decide +kernel) rfl (nle rfl) ?_
  show jJ G M_Jd_numberOfTrailingZeros (jEnd G M_Jd_numberOfTrailingZeros (some (ai res)) (S, V)) 0 0 0 [(0, ai v0)] [] (S, V)
  refine j_iload_n (dt_Jd_numberOfTrailingZeros 0 (0, .iload_n 0, 1) rfl) rfl ?_
  refine j_iconst (dt_Jd_numberOfTrailingZeros 1 (1, .iconst (-1), 1) rfl) ic_m1 ?_
  refine j_ixor (dt_Jd_numberOfTrailingZeros 2 (2, .ixor, 1) rfl) ?_
  refine j_iload_n (dt_Jd_numberOfTrailingZeros 3 (3, .iload_n 0, 1) rfl) rfl ?_
  refine j_iconst (dt_Jd_numberOfTrailingZeros 4 (4, .iconst 1, 1) rfl) ic_1 ?_
  refine j_isub (dt_Jd_numberOfTrailingZeros 5 (5, .isub, 1) rfl) ?_
  refine j_iand (dt_Jd_numberOfTrailingZeros 6 (6, .iand, 1) rfl) ?_
  refine j_istore_n (dt_Jd_numberOfTrailingZeros 7 (7, .istore_n 0, 1) rfl) (nlt rfl) ?_
  refine j_iload_n (dt_Jd_numberOfTrailingZeros 8 (8, .iload_n 0, 1) rfl) rfl ?_
  refine jite hf (fun hc hf => ?_) (fun hc hf => ?_)
  · refine j_if_gt (dt_Jd_numberOfTrailingZeros 9 (9, .ifCond .gt 8, 3) rfl) rfl (fun _ => ?_) (fun q => absurd hc q)
    refine j_iconst (dt_Jd_numberOfTrailingZeros 14 (17, .iconst 1, 1) rfl) ic_1 ?_
    refine j_istore_n (dt_Jd_numberOfTrailingZeros 15 (18, .istore_n 1, 1) rfl) (nlt rfl) ?_
    refine j_iload_n (dt_Jd_numberOfTrailingZeros 16 (19, .iload_n 0, 1) rfl) rfl ?_
    refine j_ldcw 65536 (dt_Jd_numberOfTrailingZeros 17 (20, .ldc_w 264, 3) rfl) (gt8 22 rfl rfl) ?_
    obtain ⟨j23, hj23, hf⟩ := jbind hf
    have hP23 : jJ G M_Jd_numberOfTrailingZeros (jEnd G M_Jd_numberOfTrailingZeros (some (ai res)) (S, V)) 0 0 34 [(0, ai j23.1), (1, ai j23.2)] [] (S, V) := by
      refine j_iload_n (dt_Jd_numberOfTrailingZeros 24 (34, .iload_n 0, 1) rfl) rfl ?_
      refine j_sipush (dt_Jd_numberOfTrailingZeros 25 (35, .sipush 256, 3) rfl) sp_256 ?_
      obtain ⟨j38, hj38, hf⟩ := jbind hf
      have hP38 : jJ G M_Jd_numberOfTrailingZeros (jEnd G M_Jd_numberOfTrailingZeros (some (ai res)) (S, V)) 0 0 49 [(0, ai j38.1), (1, ai j38.2)] [] (S, V) := by
        refine j_iload_n (dt_Jd_numberOfTrailingZeros 32 (49, .iload_n 0, 1) rfl) rfl ?_
        refine j_bipush (dt_Jd_numberOfTrailingZeros 33 (50, .bipush 16, 2) rfl) bp_16 ?_
        obtain ⟨j52, hj52, hf⟩ := jbind hf
        have hP52 : jJ G M_Jd_numberOfTrailingZeros (jEnd G M_Jd_numberOfTrailingZeros (some (ai res)) (S, V)) 0 0 62 [(0, ai j52.1), (1, ai j52.2)] [] (S, V) := by
          refine j_iload_n (dt_Jd_numberOfTrailingZeros 40 (62, .iload_n 0, 1) rfl) rfl ?_
          refine j_iconst (dt_Jd_numberOfTrailingZeros 41 (63, .iconst 4, 1) rfl) ic_4 ?_
          refine jite hf (fun hc hf => ?_) (fun hc hf => ?_)
          · refine j_icmp_le (dt_Jd_numberOfTrailingZeros 42 (64, .if_icmp .le 10, 3) rfl) rfl (fun _ => ?_) (fun q => absurd hc q)
            refine j_iload_n (dt_Jd_numberOfTrailingZeros 48 (74, .iload_n 1, 1) rfl) rfl ?_
            refine j_iload_n (dt_Jd_numberOfTrailingZeros 49 (75, .iload_n 0, 1) rfl) rfl ?_
            refine j_iconst (dt_Jd_numberOfTrailingZeros 50 (76, .iconst 1, 1) rfl) ic_1 ?_
            refine j_iushr (dt_Jd_numberOfTrailingZeros 51 (77, .iushr, 1) rfl) ?_
            refine j_iadd (dt_Jd_numberOfTrailingZeros 52 (78, .iadd, 1) rfl) ?_
            cases hf
            exact j_iret (dt_Jd_numberOfTrailingZeros 53 (79, .ireturn, 1) rfl) rfl
          · refine j_icmp_le (dt_Jd_numberOfTrailingZeros 42 (64, .if_icmp .le 10, 3) rfl) rfl (fun q => absurd q hc) (fun _ => ?_)
            refine j_iinc (dt_Jd_numberOfTrailingZeros 43 (67, .iinc 1 2, 3) rfl) rfl (nlt rfl) (ii_2 _) ?_
            refine j_iload_n (dt_Jd_numberOfTrailingZeros 44 (70, .iload_n 0, 1) rfl) rfl ?_
            refine j_iconst (dt_Jd_numberOfTrailingZeros 45 (71, .iconst 2, 1) rfl) ic_2 ?_
            refine j_iushr (dt_Jd_numberOfTrailingZeros 46 (72, .iushr, 1) rfl) ?_
            refine j_istore_n (dt_Jd_numberOfTrailingZeros 47 (73, .istore_n 0, 1) rfl) (nlt rfl) ?_
            refine j_iload_n (dt_Jd_numberOfTrailingZeros 48 (74, .iload_n 1, 1) rfl) rfl ?_
            refine j_iload_n (dt_Jd_numberOfTrailingZeros 49 (75, .iload_n 0, 1) rfl) rfl ?_
            refine j_iconst (dt_Jd_numberOfTrailingZeros 50 (76, .iconst 1, 1) rfl) ic_1 ?_
            refine j_iushr (dt_Jd_numberOfTrailingZeros 51 (77, .iushr, 1) rfl) ?_
            refine j_iadd (dt_Jd_numberOfTrailingZeros 52 (78, .iadd, 1) rfl) ?_
            cases hf
            exact j_iret (dt_Jd_numberOfTrailingZeros 53 (79, .ireturn, 1) rfl) rfl
        refine jite hj52 (fun hc hj52 => ?_) (fun hc hj52 => ?_)
        · refine j_icmp_le (dt_Jd_numberOfTrailingZeros 34 (52, .if_icmp .le 10, 3) rfl) rfl (fun _ => ?_) (fun q => absurd hc q)
          cases hj52
          exact j_sub rfl hP52
        · refine j_icmp_le (dt_Jd_numberOfTrailingZeros 34 (52, .if_icmp .le 10, 3) rfl) rfl (fun q => absurd q hc) (fun _ => ?_)
          refine j_iinc (dt_Jd_numberOfTrailingZeros 35 (55, .iinc 1 4, 3) rfl) rfl (nlt rfl) (ii_4 _) ?_
          refine j_iload_n (dt_Jd_numberOfTrailingZeros 36 (58, .iload_n 0, 1) rfl) rfl ?_
          refine j_iconst (dt_Jd_numberOfTrailingZeros 37 (59, .iconst 4, 1) rfl) ic_4 ?_
          refine j_iushr (dt_Jd_numberOfTrailingZeros 38 (60, .iushr, 1) rfl) ?_
          refine j_istore_n (dt_Jd_numberOfTrailingZeros 39 (61, .istore_n 0, 1) rfl) (nlt rfl) ?_
          cases hj52
          exact j_sub rfl hP52
      refine jite hj38 (fun hc hj38 => ?_) (fun hc hj38 => ?_)
      · refine j_icmp_le (dt_Jd_numberOfTrailingZeros 26 (38, .if_icmp .le 11, 3) rfl) rfl (fun _ => ?_) (fun q => absurd hc q)
        cases hj38
        exact j_sub rfl hP38
      · refine j_icmp_le (dt_Jd_numberOfTrailingZeros 26 (38, .if_icmp .le 11, 3) rfl) rfl (fun q => absurd q hc) (fun _ => ?_)
        refine j_iinc (dt_Jd_numberOfTrailingZeros 27 (41, .iinc 1 8, 3) rfl) rfl (nlt rfl) (ii_8 _) ?_
        refine j_iload_n (dt_Jd_numberOfTrailingZeros 28 (44, .iload_n 0, 1) rfl) rfl ?_
        refine j_bipush (dt_Jd_numberOfTrailingZeros 29 (45, .bipush 8, 2) rfl) bp_8 ?_
        refine j_iushr (dt_Jd_numberOfTrailingZeros 30 (47, .iushr, 1) rfl) ?_
        refine j_istore_n (dt_Jd_numberOfTrailingZeros 31 (48, .istore_n 0, 1) rfl) (nlt rfl) ?_
        cases hj38
        exact j_sub rfl hP38
    refine jite hj23 (fun hc hj23 => ?_) (fun hc hj23 => ?_)
    · refine j_icmp_le (dt_Jd_numberOfTrailingZeros 18 (23, .if_icmp .le 11, 3) rfl) rfl (fun _ => ?_) (fun q => absurd hc q)
      cases hj23
      exact j_sub rfl hP23
    · refine j_icmp_le (dt_Jd_numberOfTrailingZeros 18 (23, .if_icmp .le 11, 3) rfl) rfl (fun q => absurd q hc) (fun _ => ?_)
      refine j_iinc (dt_Jd_numberOfTrailingZeros 19 (26, .iinc 1 16, 3) rfl) rfl (nlt rfl) (ii_16 _) ?_
      refine j_iload_n (dt_Jd_numberOfTrailingZeros 20 (29, .iload_n 0, 1) rfl) rfl ?_
      refine j_bipush (dt_Jd_numberOfTrailingZeros 21 (30, .bipush 16, 2) rfl) bp_16 ?_
      refine j_iushr (dt_Jd_numberOfTrailingZeros 22 (32, .iushr, 1) rfl) ?_
      refine j_istore_n (dt_Jd_numberOfTrailingZeros 23 (33, .istore_n 0, 1) rfl) (nlt rfl) ?_
      cases hj23
      exact j_sub rfl hP23
  · refine j_if_gt (dt_Jd_numberOfTrailingZeros 9 (9, .ifCond .gt 8, 3) rfl) rfl (fun q => absurd q hc) (fun _ => ?_)
    refine j_iload_n (dt_Jd_numberOfTrailingZeros 10 (12, .iload_n 0, 1) rfl) rfl ?_
    refine j_bipush (dt_Jd_numberOfTrailingZeros 11 (13, .bipush 32, 2) rfl) bp_32 ?_
    refine j_iand (dt_Jd_numberOfTrailingZeros 12 (15, .iand, 1) rfl) ?_
    cases hf
    exact j_iret (dt_Jd_numberOfTrailingZeros 13 (16, .ireturn, 1) rfl) rfl
def tb_Mo_few : List (Nat × Instr × Nat) := [(0, .aload_n 0, 1), (1, .iload_n 1, 1), (2, .invokevirtual 297, 3), (5, .ifCond .eq 25, 3), (8, .iload_n 2, 1), (9, .iconst (-1), 1), (10, .if_icmp .eq 22, 3), (13, .aload_n 0, 1), (14, .iload_n 2, 1), (15, .invokevirtual 275, 3), (18, .ifCond .eq 12, 3), (21, .aload_n 0, 1), (22, .getfield 81, 3), (25, .iload_n 2, 1), (26, .baload, 1), (27, .ifCond .ne 5, 3), (30, .iconst (-1), 1), (31, .ireturn, 1), (32, .aload_n 0, 1), (33, .iload_n 1, 1), (34, .iconst 0, 1), (35, .invokevirtual 350, 3), (38, .aload_n 0, 1), (39, .iconst 0, 1), (40, .putfield 382, 3), (43, .iconst 0, 1), (44, .istore_n 3, 1), (45, .iload_n 3, 1), (46, .aload_n 0, 1), (47, .getfield 44, 3), (50, .iconst 0, 1), (51, .iaload, 1), (52, .if_icmp .ge 41, 3), (55, .aload_n 0, 1), (56, .getfield 81, 3), (59, .iload_n 3, 1), (60, .baload, 1), (61, .ifCond .ne 6, 3), (64, .goto 23, 3), (67, .aload_n 0, 1), (68, .getfield 136, 3), (71, .aload_n 0, 1), (72, .getfield 382, 3), (75, .iload_n 3, 1), (76, .iastore, 1), (77, .aload_n 0, 1), (78, .dup, 1), (79, .getfield 382, 3), (82, .iconst 1, 1), (83, .iadd, 1), (84, .putfield 382, 3), (87, .iinc 3 1, 3), (90, .goto (-45), 3), (93, .iconst 0, 1), (94, .istore_n 3, 1), (95, .iload_n 3, 1), (96, .iconst 1, 1), (97, .aload_n 0, 1), (98, .getfield 44, 3), (101, .iconst 0, 1), (102, .iaload, 1), (103, .ishl, 1), (104, .if_icmp .ge 20, 3), (107, .aload_n 0, 1), (108, .getfield 139, 3), (111, .iload_n 3, 1), (112, .aload_n 0, 1), (113, .iload_n 3, 1), (114, .invokevirtual 388, 3), (117, .bastore, 1), (118, .iinc 3 1, 3), (121, .goto (-26), 3), (124, .iconst 0, 1), (125, .istore_n 3, 1), (126, .aload_n 0, 1), (127, .iconst 0, 1), (128, .iconst 0, 1), (129, .iload_n 3, 1), (130, .invokevirtual 385, 3), (133, .ifCond .ne 9, 3), (136, .iinc 3 1, 3), (139, .goto (-13), 3), (142, .iload_n 2, 1), (143, .iconst (-1), 1), (144, .if_icmp .ne 7, 3), (147, .iload_n 3, 1), (148, .goto 17, 3), (151, .aload_n 0, 1), (152, .getfield 133, 3), (155, .aload_n 0, 1), (156, .getfield 130, 3), (159, .iload_n 2, 1), (160, .iaload, 1), (161, .iaload, 1), (162, .invokestatic 391, 3), (165, .ireturn, 1)]
theorem dt_Mo_few (i : Nat) (q : Nat × Instr × Nat) (h : tb_Mo_few[i]? = some q) : decode prog_14_method_69_code q.1 = .ok q.2 := jdt (by decide +kernel : tb_Mo_few.all (fun q => decide (decode prog_14_method_69_code q.1 = .ok q.2)) = true) h
theorem ok_Mo_few : jOKV M_Mo_few 2 := ⟨⟨gt8 10 rfl rfl, gt1 17 rfl rfl, (by decide : "FirstInModel" ≠ "java/lang/invoke/MethodHandle"), (by decide : "FirstInModel" ≠ "java/lang/invoke/VarHandle"), (by decide +kernel : (parseMethodDescriptor "(II)I").map (fun d => d.parameters.length) = some 2)⟩, gt8 8 rfl rfl, gt8 9 rfl rfl, rfl, nlt rfl⟩
set_option maxRecDepth 100000 in
set_option maxHeartbeats 4000000 in
theorem c_Mo_few {G : jG} {S : hS} {V : hV} {v0 : Option Nat} {v1 : Int32} {v2 : Int32} {res : Int32 × hV} (hf : Mo_few S v0 v1 v2 V = some res) : jC G M_Mo_few [ar v0, ai v1, ai v2] (S, V) (some (ai res.1)) (S, res.2) := by
  unfold Mo_few at hf
  obtain ⟨_, _, hf⟩ := jbind hf
  refine jC_of (pf_X12 _ _) rfl (nle rfl) ?_
  show jJ G M_Mo_few (jEnd G M_Mo_few (some (ai res.1)) (S, res.2)) 0 0 0 [(0, ar v0), (1, ai v1), (2, ai v2)] [] (S, V)
  refine j_aload_n (dt_Mo_few 0 (0, .aload_n 0, 1) rfl) rfl ?_
  refine j_iload_n (dt_Mo_few 1 (1, .iload_n 1, 1) rfl) rfl ?_
  obtain ⟨x1, hx1, hf⟩ := jbind hf
  obtain ⟨b2, hb2⟩ := r_Mo_isRoom hx1
  refine j_callV M_Mo_isRoom 1 [ai v1] (rest := []) (dt_Mo_few 2 (2, .invokevirtual 297, 3) rfl) ml_X12_297 ok_Mo_isRoom (jfit rfl rfl ⟨rfl, rfl⟩ (nle rfl) (nlt rfl)) rfl rfl (nle rfl) ⟨rfl, rfl⟩ hb2 ((c_Mo_isRoom hx1)) ?_
  refine jite hf (fun hc hf => ?_) (fun hc hf => ?_)
  · refine j_if_eq (dt_Mo_few 3 (5, .ifCond .eq 25, 3) rfl) rfl (fun _ => ?_) (fun q => absurd hc q)
    refine j_iconst (dt_Mo_few 16 (30, .iconst (-1), 1) rfl) ic_m1 ?_
    cases hf
    exact j_iret (dt_Mo_few 17 (31, .ireturn, 1) rfl) rfl
  · refine j_if_eq (dt_Mo_few 3 (5, .ifCond .eq 25, 3) rfl) rfl (fun q => absurd q hc) (fun _ => ?_)
    refine j_iload_n (dt_Mo_few 4 (8, .iload_n 2, 1) rfl) rfl ?_
    refine j_iconst (dt_Mo_few 5 (9, .iconst (-1), 1) rfl) ic_m1 ?_
    obtain ⟨k10, hk10, hf⟩ := jbind hf
    have hE10 : ∀ e10 : Unit, k10 = .inl e10 → jJ G M_Mo_few (jEnd G M_Mo_few (some (ai res.1)) (S, res.2)) 0 0 32 [(0, ar v0), (1, ai v1), (2, ai v2)] [] (S, V) := by
      intro e10 he10
      subst he10
      refine j_aload_n (dt_Mo_few 18 (32, .aload_n 0, 1) rfl) rfl ?_
      refine j_iload_n (dt_Mo_few 19 (33, .iload_n 1, 1) rfl) rfl ?_
      refine j_iconst (dt_Mo_few 20 (34, .iconst 0, 1) rfl) ic_0 ?_
      obtain ⟨V3, hV3, hf⟩ := jbind hf
      obtain ⟨b4, hb4⟩ := r_Mo_ranks hV3
      refine j_callV M_Mo_ranks 2 [ai v1, ai 0] (rest := []) (dt_Mo_few 21 (35, .invokevirtual 350, 3) rfl) ml_X12_350 ok_Mo_ranks (jfit rfl rfl ⟨rfl, rfl⟩ (nle rfl) (nlt rfl)) rfl rfl (nle rfl) ⟨rfl, rfl⟩ hb4 ((c_Mo_ranks hV3)) ?_
      refine j_aload_n (dt_Mo_few 22 (38, .aload_n 0, 1) rfl) rfl ?_
      refine j_iconst (dt_Mo_few 23 (39, .iconst 0, 1) rfl) ic_0 ?_
      obtain ⟨V5, hV5, hf⟩ := jbind hf
      refine j_putI (dt_Mo_few 24 (40, .putfield 382, 3) rfl) fl_X12_382 hV5 rfl (Or.inl rfl) ?_
      refine j_iconst (dt_Mo_few 25 (43, .iconst 0, 1) rfl) ic_0 ?_
      refine j_istore_n (dt_Mo_few 26 (44, .istore_n 3, 1) rfl) (nlt rfl) ?_
      obtain ⟨t45, ht45, hf⟩ := jbind hf
      have hX45 : ∀ q45 : hV, q45 = t45 → jJ G M_Mo_few (jEnd G M_Mo_few (some (ai res.1)) (S, res.2)) 0 0 93 [(0, ar v0), (2, ai v2)] [] (S, q45) := by
        intro q45 hq45
        subst hq45
        refine j_iconst (dt_Mo_few 53 (93, .iconst 0, 1) rfl) ic_0 ?_
        refine j_istore_n (dt_Mo_few 54 (94, .istore_n 3, 1) rfl) (nlt rfl) ?_
        obtain ⟨t95, ht95, hf⟩ := jbind hf
        have hX95 : ∀ q95 : hV, q95 = t95 → jJ G M_Mo_few (jEnd G M_Mo_few (some (ai res.1)) (S, res.2)) 0 0 124 [(0, ar v0), (2, ai v2)] [] (S, q95) := by
          intro q95 hq95
          subst hq95
          refine j_iconst (dt_Mo_few 72 (124, .iconst 0, 1) rfl) ic_0 ?_
          refine j_istore_n (dt_Mo_few 73 (125, .istore_n 3, 1) rfl) (nlt rfl) ?_
          obtain ⟨t126, ht126, hf⟩ := jbind hf
          have hX126 : ∀ q126 : Int32 × hV, q126 = t126 → jJ G M_Mo_few (jEnd G M_Mo_few (some (ai res.1)) (S, res.2)) 0 0 142 [(0, ar v0), (2, ai v2), (3, ai q126.1)] [] (S, q126.2) := by
            intro q126 hq126
            subst hq126
            refine j_iload_n (dt_Mo_few 82 (142, .iload_n 2, 1) rfl) rfl ?_
            refine j_iconst (dt_Mo_few 83 (143, .iconst (-1), 1) rfl) ic_m1 ?_
            refine jite hf (fun hc hf => ?_) (fun hc hf => ?_)
            · refine j_icmp_ne (dt_Mo_few 84 (144, .if_icmp .ne 7, 3) rfl) rfl (fun q => absurd hc q) (fun _ => ?_)
              refine j_iload_n (dt_Mo_few 85 (147, .iload_n 3, 1) rfl) rfl ?_
              refine j_goto (dt_Mo_few 86 (148, .goto 17, 3) rfl) rfl ?_
              cases hf
              exact j_iret (dt_Mo_few 95 (165, .ireturn, 1) rfl) rfl
            · refine j_icmp_ne (dt_Mo_few 84 (144, .if_icmp .ne 7, 3) rfl) rfl (fun _ => ?_) (fun q => absurd q hc)
              refine j_aload_n (dt_Mo_few 87 (151, .aload_n 0, 1) rfl) rfl ?_
              obtain ⟨x23, hx23, hf⟩ := jbind hf
              refine j_getR (dt_Mo_few 88 (152, .getfield 133, 3) rfl) fl_X12_133 hx23 (fun _ _ => rfl) ?_
              refine j_aload_n (dt_Mo_few 89 (155, .aload_n 0, 1) rfl) rfl ?_
              obtain ⟨x24, hx24, hf⟩ := jbind hf
              refine j_getR (dt_Mo_few 90 (156, .getfield 130, 3) rfl) fl_X12_130 hx24 (fun _ _ => rfl) ?_
              refine j_iload_n (dt_Mo_few 91 (159, .iload_n 2, 1) rfl) rfl ?_
              obtain ⟨x25, hx25, hf⟩ := jbind hf
              refine j_aldI (dt_Mo_few 92 (160, .iaload, 1) rfl) hx25 ?_
              obtain ⟨x26, hx26, hf⟩ := jbind hf
              refine j_aldI (dt_Mo_few 93 (161, .iaload, 1) rfl) hx26 ?_
              obtain ⟨x27, hx27, hf⟩ := jbind hf
              refine j_callS M_Jd_numberOfTrailingZeros 1 [ai x26] (rest := []) (dt_Mo_few 94 (162, .invokestatic 391, 3) rfl) ml_X12_391 ok_Jd_numberOfTrailingZeros (jfit rfl rfl ⟨rfl, rfl⟩ (nle rfl) (nlt rfl)) rfl rfl (nle rfl) ⟨rfl, rfl⟩ ((c_Jd_numberOfTrailingZeros hx27)) ?_
              cases hf
              exact j_iret (dt_Mo_few 95 (165, .ireturn, 1) rfl) rfl
          refine j_sub (ls' := [(0, ar v0), (2, ai v2), (3, ai 0)]) rfl ?_
          refine jloop_J (C := fun s126 => jJ G M_Mo_few (jEnd G M_Mo_few (some (ai res.1)) (S, res.2)) 0 0 126 [(0, ar v0), (2, ai v2), (3, ai s126.1)] [] (S, s126.2)) (fun s126 z126_ hy126 hin126 hout126 => ?_) _ _ ht126
          unfold Mo_few_L126 at hy126
          refine j_aload_n (dt_Mo_few 74 (126, .aload_n 0, 1) rfl) rfl ?_
          refine j_iconst (dt_Mo_few 75 (127, .iconst 0, 1) rfl) ic_0 ?_
          refine j_iconst (dt_Mo_few 76 (128, .iconst 0, 1) rfl) ic_0 ?_
          refine j_iload_n (dt_Mo_few 77 (129, .iload_n 3, 1) rfl) rfl ?_
          obtain ⟨w21, hw21, hy126⟩ := jbind hy126
          obtain ⟨b22, hb22⟩ := r_Mo_parts RD hw21
          refine j_callV (M_Mo_parts RD) 3 [ai 0, ai 0, ai s126.1] (rest := []) (dt_Mo_few 78 (130, .invokevirtual 385, 3) rfl) ml_X12_385 ok_Mo_parts (jfit rfl rfl ⟨rfl, rfl⟩ (nle rfl) (nlt rfl)) rfl rfl (nle rfl) ⟨rfl, rfl⟩ hb22 ((c_Mo_parts RD hw21)) ?_
          refine jite hy126 (fun hc hy126 => ?_) (fun hc hy126 => ?_)
          · refine j_if_ne (dt_Mo_few 79 (133, .ifCond .ne 9, 3) rfl) rfl (fun q => absurd hc q) (fun _ => ?_)
            refine j_iinc (dt_Mo_few 80 (136, .iinc 3 1, 3) rfl) rfl (nlt rfl) (ii_1 _) ?_
            refine j_goto (dt_Mo_few 81 (139, .goto (-13), 3) rfl) rfl ?_
            cases hy126
            have hz := hin126 _ rfl
            exact j_sub rfl hz
          · refine j_if_ne (dt_Mo_few 79 (133, .ifCond .ne 9, 3) rfl) rfl (fun _ => ?_) (fun q => absurd q hc)
            cases hy126
            have hz := hX126 _ (hout126 _ rfl)
            exact j_sub rfl hz
        refine j_sub (ls' := [(0, ar v0), (2, ai v2), (3, ai 0)]) rfl ?_
        refine jloop_J (C := fun s95 => jJ G M_Mo_few (jEnd G M_Mo_few (some (ai res.1)) (S, res.2)) 0 0 95 [(0, ar v0), (2, ai v2), (3, ai s95.1)] [] (S, s95.2)) (fun s95 z95_ hy95 hin95 hout95 => ?_) _ _ ht95
        unfold Mo_few_L95 at hy95
        refine j_iload_n (dt_Mo_few 55 (95, .iload_n 3, 1) rfl) rfl ?_
        refine j_iconst (dt_Mo_few 56 (96, .iconst 1, 1) rfl) ic_1 ?_
        refine j_aload_n (dt_Mo_few 57 (97, .aload_n 0, 1) rfl) rfl ?_
        obtain ⟨x15, hx15, hy95⟩ := jbind hy95
        refine j_getR (dt_Mo_few 58 (98, .getfield 44, 3) rfl) fl_X12_44 hx15 (fun _ _ => rfl) ?_
        refine j_iconst (dt_Mo_few 59 (101, .iconst 0, 1) rfl) ic_0 ?_
        obtain ⟨x16, hx16, hy95⟩ := jbind hy95
        refine j_aldI (dt_Mo_few 60 (102, .iaload, 1) rfl) hx16 ?_
        refine j_ishl (dt_Mo_few 61 (103, .ishl, 1) rfl) ?_
        refine jite hy95 (fun hc hy95 => ?_) (fun hc hy95 => ?_)
        · refine j_icmp_ge (dt_Mo_few 62 (104, .if_icmp .ge 20, 3) rfl) rfl (fun _ => ?_) (fun q => absurd hc q)
          cases hy95
          have hz := hX95 _ (hout95 _ rfl)
          exact j_sub rfl hz
        · refine j_icmp_ge (dt_Mo_few 62 (104, .if_icmp .ge 20, 3) rfl) rfl (fun q => absurd q hc) (fun _ => ?_)
          refine j_aload_n (dt_Mo_few 63 (107, .aload_n 0, 1) rfl) rfl ?_
          obtain ⟨x17, hx17, hy95⟩ := jbind hy95
          refine j_getR (dt_Mo_few 64 (108, .getfield 139, 3) rfl) fl_X12_139 hx17 (fun _ _ => rfl) ?_
          refine j_iload_n (dt_Mo_few 65 (111, .iload_n 3, 1) rfl) rfl ?_
          refine j_aload_n (dt_Mo_few 66 (112, .aload_n 0, 1) rfl) rfl ?_
          refine j_iload_n (dt_Mo_few 67 (113, .iload_n 3, 1) rfl) rfl ?_
          obtain ⟨w18, hw18, hy95⟩ := jbind hy95
          obtain ⟨b19, hb19⟩ := r_Mo_isQuiet hw18
          refine j_callV M_Mo_isQuiet 1 [ai s95.1] (rest := [ai s95.1, ar x17]) (dt_Mo_few 68 (114, .invokevirtual 388, 3) rfl) ml_X12_388 ok_Mo_isQuiet (jfit rfl rfl ⟨rfl, rfl⟩ (nle rfl) (nlt rfl)) rfl rfl (nle rfl) ⟨rfl, rfl⟩ hb19 ((c_Mo_isQuiet hw18)) ?_
          obtain ⟨V20, hV20, hy95⟩ := jbind hy95
          refine j_astZ (dt_Mo_few 69 (117, .bastore, 1) rfl) hV20 ?_
          refine j_iinc (dt_Mo_few 70 (118, .iinc 3 1, 3) rfl) rfl (nlt rfl) (ii_1 _) ?_
          refine j_goto (dt_Mo_few 71 (121, .goto (-26), 3) rfl) rfl ?_
          cases hy95
          have hz := hin95 _ rfl
          exact j_sub rfl hz
      refine j_sub (ls' := [(0, ar v0), (2, ai v2), (3, ai 0)]) rfl ?_
      refine jloop_J (C := fun s45 => jJ G M_Mo_few (jEnd G M_Mo_few (some (ai res.1)) (S, res.2)) 0 0 45 [(0, ar v0), (2, ai v2), (3, ai s45.1)] [] (S, s45.2)) (fun s45 z45_ hy45 hin45 hout45 => ?_) _ _ ht45
      unfold Mo_few_L45 at hy45
      refine j_iload_n (dt_Mo_few 27 (45, .iload_n 3, 1) rfl) rfl ?_
      refine j_aload_n (dt_Mo_few 28 (46, .aload_n 0, 1) rfl) rfl ?_
      obtain ⟨x6, hx6, hy45⟩ := jbind hy45
      refine j_getR (dt_Mo_few 29 (47, .getfield 44, 3) rfl) fl_X12_44 hx6 (fun _ _ => rfl) ?_
      refine j_iconst (dt_Mo_few 30 (50, .iconst 0, 1) rfl) ic_0 ?_
      obtain ⟨x7, hx7, hy45⟩ := jbind hy45
      refine j_aldI (dt_Mo_few 31 (51, .iaload, 1) rfl) hx7 ?_
      refine jite hy45 (fun hc hy45 => ?_) (fun hc hy45 => ?_)
      · refine j_icmp_ge (dt_Mo_few 32 (52, .if_icmp .ge 41, 3) rfl) rfl (fun _ => ?_) (fun q => absurd hc q)
        cases hy45
        have hz := hX45 _ (hout45 _ rfl)
        exact j_sub rfl hz
      · refine j_icmp_ge (dt_Mo_few 32 (52, .if_icmp .ge 41, 3) rfl) rfl (fun q => absurd q hc) (fun _ => ?_)
        refine j_aload_n (dt_Mo_few 33 (55, .aload_n 0, 1) rfl) rfl ?_
        obtain ⟨x8, hx8, hy45⟩ := jbind hy45
        refine j_getR (dt_Mo_few 34 (56, .getfield 81, 3) rfl) fl_X12_81 hx8 (fun _ _ => rfl) ?_
        refine j_iload_n (dt_Mo_few 35 (59, .iload_n 3, 1) rfl) rfl ?_
        obtain ⟨x9, hx9, hy45⟩ := jbind hy45
        refine j_aldZ (dt_Mo_few 36 (60, .baload, 1) rfl) hx9 ?_
        refine jite hy45 (fun hc hy45 => ?_) (fun hc hy45 => ?_)
        · refine j_if_ne (dt_Mo_few 37 (61, .ifCond .ne 6, 3) rfl) rfl (fun q => absurd hc q) (fun _ => ?_)
          refine j_goto (dt_Mo_few 38 (64, .goto 23, 3) rfl) rfl ?_
          refine j_iinc (dt_Mo_few 51 (87, .iinc 3 1, 3) rfl) rfl (nlt rfl) (ii_1 _) ?_
          refine j_goto (dt_Mo_few 52 (90, .goto (-45), 3) rfl) rfl ?_
          cases hy45
          have hz := hin45 _ rfl
          exact j_sub rfl hz
        · refine j_if_ne (dt_Mo_few 37 (61, .ifCond .ne 6, 3) rfl) rfl (fun _ => ?_) (fun q => absurd q hc)
          refine j_aload_n (dt_Mo_few 39 (67, .aload_n 0, 1) rfl) rfl ?_
          obtain ⟨x10, hx10, hy45⟩ := jbind hy45
          refine j_getR (dt_Mo_few 40 (68, .getfield 136, 3) rfl) fl_X12_136 hx10 (fun _ _ => rfl) ?_
          refine j_aload_n (dt_Mo_few 41 (71, .aload_n 0, 1) rfl) rfl ?_
          obtain ⟨x11, hx11, hy45⟩ := jbind hy45
          refine j_getI (dt_Mo_few 42 (72, .getfield 382, 3) rfl) fl_X12_382 hx11 (fun _ _ => rfl) ?_
          refine j_iload_n (dt_Mo_few 43 (75, .iload_n 3, 1) rfl) rfl ?_
          obtain ⟨V12, hV12, hy45⟩ := jbind hy45
          refine j_astI (dt_Mo_few 44 (76, .iastore, 1) rfl) hV12 ?_
          refine j_aload_n (dt_Mo_few 45 (77, .aload_n 0, 1) rfl) rfl ?_
          refine j_dup (dt_Mo_few 46 (78, .dup, 1) rfl) rfl ?_
          obtain ⟨x13, hx13, hy45⟩ := jbind hy45
          refine j_getI (dt_Mo_few 47 (79, .getfield 382, 3) rfl) fl_X12_382 hx13 (fun _ _ => rfl) ?_
          refine j_iconst (dt_Mo_few 48 (82, .iconst 1, 1) rfl) ic_1 ?_
          refine j_iadd (dt_Mo_few 49 (83, .iadd, 1) rfl) ?_
          obtain ⟨V14, hV14, hy45⟩ := jbind hy45
          refine j_putI (dt_Mo_few 50 (84, .putfield 382, 3) rfl) fl_X12_382 hV14 rfl (Or.inl rfl) ?_
          refine j_iinc (dt_Mo_few 51 (87, .iinc 3 1, 3) rfl) rfl (nlt rfl) (ii_1 _) ?_
          refine j_goto (dt_Mo_few 52 (90, .goto (-45), 3) rfl) rfl ?_
          cases hy45
          have hz := hin45 _ rfl
          exact j_sub rfl hz
    refine jite hk10 (fun hc hk10 => ?_) (fun hc hk10 => ?_)
    · refine j_icmp_eq (dt_Mo_few 6 (10, .if_icmp .eq 22, 3) rfl) rfl (fun _ => ?_) (fun q => absurd hc q)
      cases hk10
      have hz := hE10 _ rfl
      exact j_sub rfl hz
    · refine j_icmp_eq (dt_Mo_few 6 (10, .if_icmp .eq 22, 3) rfl) rfl (fun q => absurd q hc) (fun _ => ?_)
      refine j_aload_n (dt_Mo_few 7 (13, .aload_n 0, 1) rfl) rfl ?_
      refine j_iload_n (dt_Mo_few 8 (14, .iload_n 2, 1) rfl) rfl ?_
      obtain ⟨x28, hx28, hk10⟩ := jbind hk10
      obtain ⟨b29, hb29⟩ := r_Mo_isGuest hx28
      refine j_callV M_Mo_isGuest 1 [ai v2] (rest := []) (dt_Mo_few 9 (15, .invokevirtual 275, 3) rfl) ml_X12_275 ok_Mo_isGuest (jfit rfl rfl ⟨rfl, rfl⟩ (nle rfl) (nlt rfl)) rfl rfl (nle rfl) ⟨rfl, rfl⟩ hb29 ((c_Mo_isGuest hx28)) ?_
      refine jite hk10 (fun hc hk10 => ?_) (fun hc hk10 => ?_)
      · refine j_if_eq (dt_Mo_few 10 (18, .ifCond .eq 12, 3) rfl) rfl (fun _ => ?_) (fun q => absurd hc q)
        refine j_iconst (dt_Mo_few 16 (30, .iconst (-1), 1) rfl) ic_m1 ?_
        cases hk10
        cases hf
        exact j_iret (dt_Mo_few 17 (31, .ireturn, 1) rfl) rfl
      · refine j_if_eq (dt_Mo_few 10 (18, .ifCond .eq 12, 3) rfl) rfl (fun q => absurd q hc) (fun _ => ?_)
        refine j_aload_n (dt_Mo_few 11 (21, .aload_n 0, 1) rfl) rfl ?_
        obtain ⟨x30, hx30, hk10⟩ := jbind hk10
        refine j_getR (dt_Mo_few 12 (22, .getfield 81, 3) rfl) fl_X12_81 hx30 (fun _ _ => rfl) ?_
        refine j_iload_n (dt_Mo_few 13 (25, .iload_n 2, 1) rfl) rfl ?_
        obtain ⟨x31, hx31, hk10⟩ := jbind hk10
        refine j_aldZ (dt_Mo_few 14 (26, .baload, 1) rfl) hx31 ?_
        refine jite hk10 (fun hc hk10 => ?_) (fun hc hk10 => ?_)
        · refine j_if_ne (dt_Mo_few 15 (27, .ifCond .ne 5, 3) rfl) rfl (fun q => absurd hc q) (fun _ => ?_)
          refine j_iconst (dt_Mo_few 16 (30, .iconst (-1), 1) rfl) ic_m1 ?_
          cases hk10
          cases hf
          exact j_iret (dt_Mo_few 17 (31, .ireturn, 1) rfl) rfl
        · refine j_if_ne (dt_Mo_few 15 (27, .ifCond .ne 5, 3) rfl) rfl (fun _ => ?_) (fun q => absurd q hc)
          cases hk10
          have hz := hE10 _ rfl
          exact j_sub rfl hz
theorem r_Mo_few {S : hS} {V : hV} {v0 : Option Nat} {v1 : Int32} {v2 : Int32} {res : Int32 × hV} (hf : Mo_few S v0 v1 v2 V = some res) : ∃ b, rc S 12 v0 = some b := by
  unfold Mo_few at hf
  obtain ⟨b, hb, _⟩ := jbind hf
  exact ⟨b, hb⟩
def tb_Mo_weighPair : List (Nat × Instr × Nat) := [(0, .bipush 80, 2), (2, .bipush 8, 2), (4, .iload_n 2, 1), (5, .imul, 1), (6, .iload 4, 2), (8, .iadd, 1), (9, .imul, 1), (10, .bipush 8, 2), (12, .iload_n 3, 1), (13, .imul, 1), (14, .iadd, 1), (15, .iload 5, 2), (17, .iadd, 1), (18, .istore 6, 2), (20, .aload_n 0, 1), (21, .getfield 142, 3), (24, .iload 6, 2), (26, .iconst 0, 1), (27, .iastore, 1), (28, .aload_n 0, 1), (29, .getfield 145, 3), (32, .iload 6, 2), (34, .iconst 0, 1), (35, .iastore, 1), (36, .iload_n 2, 1), (37, .iload_n 3, 1), (38, .if_icmp .ge 10, 3), (41, .iload 4, 2), (43, .iload 5, 2), (45, .if_icmp .ne 4, 3), (48, .return_, 1), (49, .aload_n 0, 1), (50, .getfield 136, 3), (53, .iload_n 2, 1), (54, .iaload, 1), (55, .istore 7, 2), (57, .aload_n 0, 1), (58, .getfield 136, 3), (61, .iload_n 3, 1), (62, .iaload, 1), (63, .istore 8, 2), (65, .iconst 0, 1), (66, .istore 9, 2), (68, .iload 9, 2), (70, .aload_n 0, 1), (71, .getfield 51, 3), (74, .iconst 0, 1), (75, .iaload, 1), (76, .if_icmp .ge 207, 3), (79, .iconst 0, 1), (80, .istore 10, 2), (82, .aload_n 0, 1), (83, .getfield 26, 3), (86, .iconst 0, 1), (87, .aaload, 1), (88, .iload 9, 2), (90, .iaload, 1), (91, .ifCond .ne 84, 3), (94, .iload 10, 2), (96, .aload_n 0, 1), (97, .iload 9, 2), (99, .iload_n 1, 1), (100, .iload 7, 2), (102, .iload 8, 2), (104, .invokevirtual 320, 3), (107, .ifCond .eq 22, 3), (110, .aload_n 0, 1), (111, .iload 9, 2), (113, .iload_n 1, 1), (114, .iconst 0, 1), (115, .iload 4, 2), (117, .iload 5, 2), (119, .invokevirtual 324, 3), (122, .ifCond .eq 7, 3), (125, .iconst 1, 1), (126, .goto 4, 3), (129, .iconst 0, 1), (130, .iadd, 1), (131, .istore 10, 2), (133, .iload 10, 2), (135, .aload_n 0, 1), (136, .iload 9, 2), (138, .iload_n 1, 1), (139, .iload 8, 2), (141, .iload 7, 2), (143, .invokevirtual 320, 3), (146, .ifCond .eq 22, 3), (149, .aload_n 0, 1), (150, .iload 9, 2), (152, .iload_n 1, 1), (153, .iconst 0, 1), (154, .iload 5, 2), (156, .iload 4, 2), (158, .invokevirtual 324, 3), (161, .ifCond .eq 7, 3), (164, .iconst 1, 1), (165, .goto 4, 3), (168, .iconst 0, 1), (169, .iadd, 1), (170, .istore 10, 2), (172, .goto 42, 3), (175, .iload 10, 2), (177, .aload_n 0, 1), (178, .iload 9, 2), (180, .iload_n 1, 1), (181, .iload 7, 2), (183, .iload 8, 2), (185, .invokevirtual 320, 3), (188, .ifCond .eq 22, 3), (191, .aload_n 0, 1), (192, .iload 9, 2), (194, .iload_n 1, 1), (195, .iconst 0, 1), (196, .iload 4, 2), (198, .iload 5, 2), (200, .invokevirtual 324, 3), (203, .ifCond .eq 7, 3), (206, .iconst 1, 1), (207, .goto 4, 3), (210, .iconst 0, 1), (211, .iadd, 1), (212, .istore 10, 2), (214, .aload_n 0, 1), (215, .getfield 142, 3), (218, .iload 6, 2), (220, .dup2, 1), (221, .iaload, 1), (222, .iload 10, 2), (224, .aload_n 0, 1), (225, .getfield 35, 3), (228, .iconst 0, 1), (229, .aaload, 1), (230, .iload 9, 2), (232, .iaload, 1), (233, .imul, 1), (234, .iadd, 1), (235, .iastore, 1), (236, .aload_n 0, 1), (237, .getfield 145, 3), (240, .iload 6, 2), (242, .iload 10, 2), (244, .ifCond .le 25, 3), (247, .aload_n 0, 1), (248, .getfield 145, 3), (251, .iload 6, 2), (253, .iaload, 1), (254, .aload_n 0, 1), (255, .getfield 35, 3), (258, .iconst 0, 1), (259, .aaload, 1), (260, .iload 9, 2), (262, .iaload, 1), (263, .invokestatic 334, 3), (266, .goto 10, 3), (269, .aload_n 0, 1), (270, .getfield 145, 3), (273, .iload 6, 2), (275, .iaload, 1), (276, .iastore, 1), (277, .iinc 9 1, 3), (280, .goto (-212), 3), (283, .return_, 1)]
theorem dt_Mo_weighPair (i : Nat) (q : Nat × Instr × Nat) (h : tb_Mo_weighPair[i]? = some q) : decode prog_14_method_71_code q.1 = .ok q.2 := jdt (by decide +kernel : tb_Mo_weighPair.all (fun q => decide (decode prog_14_method_71_code q.1 = .ok q.2)) = true) h
theorem ok_Mo_weighPair : jOKV M_Mo_weighPair 5 := ⟨⟨gt8 38 rfl rfl, gt1 17 rfl rfl, (by decide : "FirstInModel" ≠ "java/lang/invoke/MethodHandle"), (by decide : "FirstInModel" ≠ "java/lang/invoke/VarHandle"), (by decide +kernel : (parseMethodDescriptor "(IIIII)V").map (fun d => d.parameters.length) = some 5)⟩, gt8 37 rfl rfl, gs_in 50 rfl, rfl, nlt rfl⟩
set_option maxRecDepth 100000 in
set_option maxHeartbeats 4000000 in
theorem c_Mo_weighPair {G : jG} {S : hS} {V : hV} {v0 : Option Nat} {v1 : Int32} {v2 : Int32} {v3 : Int32} {v4 : Int32} {v5 : Int32} {res : hV} (hf : Mo_weighPair S v0 v1 v2 v3 v4 v5 V = some res) : jC G M_Mo_weighPair [ar v0, ai v1, ai v2, ai v3, ai v4, ai v5] (S, V) none (S, res) := by
  unfold Mo_weighPair at hf
  obtain ⟨_, _, hf⟩ := jbind hf
  refine jC_of (pf_X12 _ _) rfl (nle rfl) ?_
  show jJ G M_Mo_weighPair (jEnd G M_Mo_weighPair none (S, res)) 0 0 0 [(0, ar v0), (1, ai v1), (2, ai v2), (3, ai v3), (4, ai v4), (5, ai v5)] [] (S, V)
  refine j_bipush (dt_Mo_weighPair 0 (0, .bipush 80, 2) rfl) bp_80 ?_
  refine j_bipush (dt_Mo_weighPair 1 (2, .bipush 8, 2) rfl) bp_8 ?_
  refine j_iload_n (dt_Mo_weighPair 2 (4, .iload_n 2, 1) rfl) rfl ?_
  refine j_imul (dt_Mo_weighPair 3 (5, .imul, 1) rfl) ?_
  refine j_iload (dt_Mo_weighPair 4 (6, .iload 4, 2) rfl) rfl ?_
  refine j_iadd (dt_Mo_weighPair 5 (8, .iadd, 1) rfl) ?_
  refine j_imul (dt_Mo_weighPair 6 (9, .imul, 1) rfl) ?_
  refine j_bipush (dt_Mo_weighPair 7 (10, .bipush 8, 2) rfl) bp_8 ?_
  refine j_iload_n (dt_Mo_weighPair 8 (12, .iload_n 3, 1) rfl) rfl ?_
  refine j_imul (dt_Mo_weighPair 9 (13, .imul, 1) rfl) ?_
  refine j_iadd (dt_Mo_weighPair 10 (14, .iadd, 1) rfl) ?_
  refine j_iload (dt_Mo_weighPair 11 (15, .iload 5, 2) rfl) rfl ?_
  refine j_iadd (dt_Mo_weighPair 12 (17, .iadd, 1) rfl) ?_
  refine j_istore (dt_Mo_weighPair 13 (18, .istore 6, 2) rfl) (nlt rfl) ?_
  refine j_aload_n (dt_Mo_weighPair 14 (20, .aload_n 0, 1) rfl) rfl ?_
  obtain ⟨x1, hx1, hf⟩ := jbind hf
  refine j_getR (dt_Mo_weighPair 15 (21, .getfield 142, 3) rfl) fl_X12_142 hx1 (fun _ _ => rfl) ?_
  refine j_iload (dt_Mo_weighPair 16 (24, .iload 6, 2) rfl) rfl ?_
  refine j_iconst (dt_Mo_weighPair 17 (26, .iconst 0, 1) rfl) ic_0 ?_
  obtain ⟨V2, hV2, hf⟩ := jbind hf
  refine j_astI (dt_Mo_weighPair 18 (27, .iastore, 1) rfl) hV2 ?_
  refine j_aload_n (dt_Mo_weighPair 19 (28, .aload_n 0, 1) rfl) rfl ?_
  obtain ⟨x3, hx3, hf⟩ := jbind hf
  refine j_getR (dt_Mo_weighPair 20 (29, .getfield 145, 3) rfl) fl_X12_145 hx3 (fun _ _ => rfl) ?_
  refine j_iload (dt_Mo_weighPair 21 (32, .iload 6, 2) rfl) rfl ?_
  refine j_iconst (dt_Mo_weighPair 22 (34, .iconst 0, 1) rfl) ic_0 ?_
  obtain ⟨V4, hV4, hf⟩ := jbind hf
  refine j_astI (dt_Mo_weighPair 23 (35, .iastore, 1) rfl) hV4 ?_
  refine j_iload_n (dt_Mo_weighPair 24 (36, .iload_n 2, 1) rfl) rfl ?_
  refine j_iload_n (dt_Mo_weighPair 25 (37, .iload_n 3, 1) rfl) rfl ?_
  refine jite hf (fun hc hf => ?_) (fun hc hf => ?_)
  · refine j_icmp_ge (dt_Mo_weighPair 26 (38, .if_icmp .ge 10, 3) rfl) rfl (fun _ => ?_) (fun q => absurd hc q)
    cases hf
    exact j_vret (dt_Mo_weighPair 30 (48, .return_, 1) rfl) rfl
  · refine j_icmp_ge (dt_Mo_weighPair 26 (38, .if_icmp .ge 10, 3) rfl) rfl (fun q => absurd q hc) (fun _ => ?_)
    refine j_iload (dt_Mo_weighPair 27 (41, .iload 4, 2) rfl) rfl ?_
    refine j_iload (dt_Mo_weighPair 28 (43, .iload 5, 2) rfl) rfl ?_
    refine jite hf (fun hc hf => ?_) (fun hc hf => ?_)
    · refine j_icmp_ne (dt_Mo_weighPair 29 (45, .if_icmp .ne 4, 3) rfl) rfl (fun q => absurd hc q) (fun _ => ?_)
      cases hf
      exact j_vret (dt_Mo_weighPair 30 (48, .return_, 1) rfl) rfl
    · refine j_icmp_ne (dt_Mo_weighPair 29 (45, .if_icmp .ne 4, 3) rfl) rfl (fun _ => ?_) (fun q => absurd q hc)
      refine j_aload_n (dt_Mo_weighPair 31 (49, .aload_n 0, 1) rfl) rfl ?_
      obtain ⟨x5, hx5, hf⟩ := jbind hf
      refine j_getR (dt_Mo_weighPair 32 (50, .getfield 136, 3) rfl) fl_X12_136 hx5 (fun _ _ => rfl) ?_
      refine j_iload_n (dt_Mo_weighPair 33 (53, .iload_n 2, 1) rfl) rfl ?_
      obtain ⟨x6, hx6, hf⟩ := jbind hf
      refine j_aldI (dt_Mo_weighPair 34 (54, .iaload, 1) rfl) hx6 ?_
      refine j_istore (dt_Mo_weighPair 35 (55, .istore 7, 2) rfl) (nlt rfl) ?_
      refine j_aload_n (dt_Mo_weighPair 36 (57, .aload_n 0, 1) rfl) rfl ?_
      obtain ⟨x7, hx7, hf⟩ := jbind hf
      refine j_getR (dt_Mo_weighPair 37 (58, .getfield 136, 3) rfl) fl_X12_136 hx7 (fun _ _ => rfl) ?_
      refine j_iload_n (dt_Mo_weighPair 38 (61, .iload_n 3, 1) rfl) rfl ?_
      obtain ⟨x8, hx8, hf⟩ := jbind hf
      refine j_aldI (dt_Mo_weighPair 39 (62, .iaload, 1) rfl) hx8 ?_
      refine j_istore (dt_Mo_weighPair 40 (63, .istore 8, 2) rfl) (nlt rfl) ?_
      refine j_iconst (dt_Mo_weighPair 41 (65, .iconst 0, 1) rfl) ic_0 ?_
      refine j_istore (dt_Mo_weighPair 42 (66, .istore 9, 2) rfl) (nlt rfl) ?_
      obtain ⟨t68, ht68, hf⟩ := jbind hf
      have hX68 : ∀ q68 : hV, q68 = t68 → jJ G M_Mo_weighPair (jEnd G M_Mo_weighPair none (S, res)) 0 0 283 [] [] (S, q68) := by
        intro q68 hq68
        subst hq68
        cases hf
        exact j_vret (dt_Mo_weighPair 161 (283, .return_, 1) rfl) rfl
      refine j_sub (ls' := [(0, ar v0), (1, ai v1), (4, ai v4), (5, ai v5), (6, ai (((80 * ((8 * v2) + v4)) + (8 * v3)) + v5)), (7, ai x6), (8, ai x8), (9, ai 0)]) rfl ?_
      refine jloop_J (C := fun s68 => jJ G M_Mo_weighPair (jEnd G M_Mo_weighPair none (S, res)) 0 0 68 [(0, ar v0), (1, ai v1), (4, ai v4), (5, ai v5), (6, ai (((80 * ((8 * v2) + v4)) + (8 * v3)) + v5)), (7, ai x6), (8, ai x8), (9, ai s68.1)] [] (S, s68.2)) (fun s68 z68_ hy68 hin68 hout68 => ?_) _ _ ht68
      unfold Mo_weighPair_L68 at hy68
      refine j_iload (dt_Mo_weighPair 43 (68, .iload 9, 2) rfl) rfl ?_
      refine j_aload_n (dt_Mo_weighPair 44 (70, .aload_n 0, 1) rfl) rfl ?_
      obtain ⟨x9, hx9, hy68⟩ := jbind hy68
      refine j_getR (dt_Mo_weighPair 45 (71, .getfield 51, 3) rfl) fl_X12_51 hx9 (fun _ _ => rfl) ?_
      refine j_iconst (dt_Mo_weighPair 46 (74, .iconst 0, 1) rfl) ic_0 ?_
      obtain ⟨x10, hx10, hy68⟩ := jbind hy68
      refine j_aldI (dt_Mo_weighPair 47 (75, .iaload, 1) rfl) hx10 ?_
      refine jite hy68 (fun hc hy68 => ?_) (fun hc hy68 => ?_)
      · refine j_icmp_ge (dt_Mo_weighPair 48 (76, .if_icmp .ge 207, 3) rfl) rfl (fun _ => ?_) (fun q => absurd hc q)
        cases hy68
        have hz := hX68 _ (hout68 _ rfl)
        exact j_sub rfl hz
      · refine j_icmp_ge (dt_Mo_weighPair 48 (76, .if_icmp .ge 207, 3) rfl) rfl (fun q => absurd q hc) (fun _ => ?_)
        refine j_iconst (dt_Mo_weighPair 49 (79, .iconst 0, 1) rfl) ic_0 ?_
        refine j_istore (dt_Mo_weighPair 50 (80, .istore 10, 2) rfl) (nlt rfl) ?_
        refine j_aload_n (dt_Mo_weighPair 51 (82, .aload_n 0, 1) rfl) rfl ?_
        obtain ⟨x11, hx11, hy68⟩ := jbind hy68
        refine j_getR (dt_Mo_weighPair 52 (83, .getfield 26, 3) rfl) fl_X12_26 hx11 (fun _ _ => rfl) ?_
        refine j_iconst (dt_Mo_weighPair 53 (86, .iconst 0, 1) rfl) ic_0 ?_
        obtain ⟨x12, hx12, hy68⟩ := jbind hy68
        refine j_aldR 107 (dt_Mo_weighPair 54 (87, .aaload, 1) rfl) (by decide) hx12 ?_
        refine j_iload (dt_Mo_weighPair 55 (88, .iload 9, 2) rfl) rfl ?_
        obtain ⟨x13, hx13, hy68⟩ := jbind hy68
        refine j_aldI (dt_Mo_weighPair 56 (90, .iaload, 1) rfl) hx13 ?_
        obtain ⟨j91, hj91, hy68⟩ := jbind hy68
        have hP91 : jJ G M_Mo_weighPair (jEnd G M_Mo_weighPair none (S, res)) 0 0 214 [(0, ar v0), (1, ai v1), (4, ai v4), (5, ai v5), (6, ai (((80 * ((8 * v2) + v4)) + (8 * v3)) + v5)), (7, ai x6), (8, ai x8), (9, ai s68.1), (10, ai j91)] [] (S, s68.2) := by
          refine j_aload_n (dt_Mo_weighPair 122 (214, .aload_n 0, 1) rfl) rfl ?_
          obtain ⟨x14, hx14, hy68⟩ := jbind hy68
          refine j_getR (dt_Mo_weighPair 123 (215, .getfield 142, 3) rfl) fl_X12_142 hx14 (fun _ _ => rfl) ?_
          refine j_iload (dt_Mo_weighPair 124 (218, .iload 6, 2) rfl) rfl ?_
          refine j_dup2 (dt_Mo_weighPair 125 (220, .dup2, 1) rfl) rfl rfl ?_
          obtain ⟨x15, hx15, hy68⟩ := jbind hy68
          refine j_aldI (dt_Mo_weighPair 126 (221, .iaload, 1) rfl) hx15 ?_
          refine j_iload (dt_Mo_weighPair 127 (222, .iload 10, 2) rfl) rfl ?_
          refine j_aload_n (dt_Mo_weighPair 128 (224, .aload_n 0, 1) rfl) rfl ?_
          obtain ⟨x16, hx16, hy68⟩ := jbind hy68
          refine j_getR (dt_Mo_weighPair 129 (225, .getfield 35, 3) rfl) fl_X12_35 hx16 (fun _ _ => rfl) ?_
          refine j_iconst (dt_Mo_weighPair 130 (228, .iconst 0, 1) rfl) ic_0 ?_
          obtain ⟨x17, hx17, hy68⟩ := jbind hy68
          refine j_aldR 107 (dt_Mo_weighPair 131 (229, .aaload, 1) rfl) (by decide) hx17 ?_
          refine j_iload (dt_Mo_weighPair 132 (230, .iload 9, 2) rfl) rfl ?_
          obtain ⟨x18, hx18, hy68⟩ := jbind hy68
          refine j_aldI (dt_Mo_weighPair 133 (232, .iaload, 1) rfl) hx18 ?_
          refine j_imul (dt_Mo_weighPair 134 (233, .imul, 1) rfl) ?_
          refine j_iadd (dt_Mo_weighPair 135 (234, .iadd, 1) rfl) ?_
          obtain ⟨V19, hV19, hy68⟩ := jbind hy68
          refine j_astI (dt_Mo_weighPair 136 (235, .iastore, 1) rfl) hV19 ?_
          refine j_aload_n (dt_Mo_weighPair 137 (236, .aload_n 0, 1) rfl) rfl ?_
          obtain ⟨x20, hx20, hy68⟩ := jbind hy68
          refine j_getR (dt_Mo_weighPair 138 (237, .getfield 145, 3) rfl) fl_X12_145 hx20 (fun _ _ => rfl) ?_
          refine j_iload (dt_Mo_weighPair 139 (240, .iload 6, 2) rfl) rfl ?_
          refine j_iload (dt_Mo_weighPair 140 (242, .iload 10, 2) rfl) rfl ?_
          obtain ⟨j244, hj244, hy68⟩ := jbind hy68
          have hP244 : jJ G M_Mo_weighPair (jEnd G M_Mo_weighPair none (S, res)) 0 0 276 [(0, ar v0), (1, ai v1), (4, ai v4), (5, ai v5), (6, ai (((80 * ((8 * v2) + v4)) + (8 * v3)) + v5)), (7, ai x6), (8, ai x8), (9, ai s68.1)] [ai j244, ai (((80 * ((8 * v2) + v4)) + (8 * v3)) + v5), ar x20] (S, V19) := by
            obtain ⟨V21, hV21, hy68⟩ := jbind hy68
            refine j_astI (dt_Mo_weighPair 158 (276, .iastore, 1) rfl) hV21 ?_
            refine j_iinc (dt_Mo_weighPair 159 (277, .iinc 9 1, 3) rfl) rfl (nlt rfl) (ii_1 _) ?_
            refine j_goto (dt_Mo_weighPair 160 (280, .goto (-212), 3) rfl) rfl ?_
            cases hy68
            have hz := hin68 _ rfl
            exact j_sub rfl hz
          refine jite hj244 (fun hc hj244 => ?_) (fun hc hj244 => ?_)
          · refine j_if_le (dt_Mo_weighPair 141 (244, .ifCond .le 25, 3) rfl) rfl (fun _ => ?_) (fun q => absurd hc q)
            refine j_aload_n (dt_Mo_weighPair 154 (269, .aload_n 0, 1) rfl) rfl ?_
            obtain ⟨x22, hx22, hj244⟩ := jbind hj244
            refine j_getR (dt_Mo_weighPair 155 (270, .getfield 145, 3) rfl) fl_X12_145 hx22 (fun _ _ => rfl) ?_
            refine j_iload (dt_Mo_weighPair 156 (273, .iload 6, 2) rfl) rfl ?_
            obtain ⟨x23, hx23, hj244⟩ := jbind hj244
            refine j_aldI (dt_Mo_weighPair 157 (275, .iaload, 1) rfl) hx23 ?_
            cases hj244
            exact j_sub rfl hP244
          · refine j_if_le (dt_Mo_weighPair 141 (244, .ifCond .le 25, 3) rfl) rfl (fun q => absurd q hc) (fun _ => ?_)
            refine j_aload_n (dt_Mo_weighPair 142 (247, .aload_n 0, 1) rfl) rfl ?_
            obtain ⟨x24, hx24, hj244⟩ := jbind hj244
            refine j_getR (dt_Mo_weighPair 143 (248, .getfield 145, 3) rfl) fl_X12_145 hx24 (fun _ _ => rfl) ?_
            refine j_iload (dt_Mo_weighPair 144 (251, .iload 6, 2) rfl) rfl ?_
            obtain ⟨x25, hx25, hj244⟩ := jbind hj244
            refine j_aldI (dt_Mo_weighPair 145 (253, .iaload, 1) rfl) hx25 ?_
            refine j_aload_n (dt_Mo_weighPair 146 (254, .aload_n 0, 1) rfl) rfl ?_
            obtain ⟨x26, hx26, hj244⟩ := jbind hj244
            refine j_getR (dt_Mo_weighPair 147 (255, .getfield 35, 3) rfl) fl_X12_35 hx26 (fun _ _ => rfl) ?_
            refine j_iconst (dt_Mo_weighPair 148 (258, .iconst 0, 1) rfl) ic_0 ?_
            obtain ⟨x27, hx27, hj244⟩ := jbind hj244
            refine j_aldR 107 (dt_Mo_weighPair 149 (259, .aaload, 1) rfl) (by decide) hx27 ?_
            refine j_iload (dt_Mo_weighPair 150 (260, .iload 9, 2) rfl) rfl ?_
            obtain ⟨x28, hx28, hj244⟩ := jbind hj244
            refine j_aldI (dt_Mo_weighPair 151 (262, .iaload, 1) rfl) hx28 ?_
            refine j_callS M_Jd_max 2 [ai x25, ai x28] (rest := [ai (((80 * ((8 * v2) + v4)) + (8 * v3)) + v5), ar x20]) (dt_Mo_weighPair 152 (263, .invokestatic 334, 3) rfl) ml_X12_334 ok_Jd_max (jfit rfl rfl ⟨rfl, rfl⟩ (nle rfl) (nlt rfl)) rfl rfl (nle rfl) ⟨rfl, rfl⟩ (c_Jd_max rfl) ?_
            refine j_goto (dt_Mo_weighPair 153 (266, .goto 10, 3) rfl) rfl ?_
            cases hj244
            exact j_sub rfl hP244
        refine jite hj91 (fun hc hj91 => ?_) (fun hc hj91 => ?_)
        · refine j_if_ne (dt_Mo_weighPair 57 (91, .ifCond .ne 84, 3) rfl) rfl (fun q => absurd hc q) (fun _ => ?_)
          refine j_iload (dt_Mo_weighPair 58 (94, .iload 10, 2) rfl) rfl ?_
          refine j_aload_n (dt_Mo_weighPair 59 (96, .aload_n 0, 1) rfl) rfl ?_
          refine j_iload (dt_Mo_weighPair 60 (97, .iload 9, 2) rfl) rfl ?_
          refine j_iload_n (dt_Mo_weighPair 61 (99, .iload_n 1, 1) rfl) rfl ?_
          refine j_iload (dt_Mo_weighPair 62 (100, .iload 7, 2) rfl) rfl ?_
          refine j_iload (dt_Mo_weighPair 63 (102, .iload 8, 2) rfl) rfl ?_
          obtain ⟨x33, hx33, hj91⟩ := jbind hj91
          obtain ⟨b34, hb34⟩ := r_Mo_countsFor hx33
          refine j_callV M_Mo_countsFor 4 [ai s68.1, ai v1, ai x6, ai x8] (rest := [ai 0]) (dt_Mo_weighPair 64 (104, .invokevirtual 320, 3) rfl) ml_X12_320 ok_Mo_countsFor (jfit rfl rfl ⟨rfl, rfl⟩ (nle rfl) (nlt rfl)) rfl rfl (nle rfl) ⟨rfl, rfl⟩ hb34 ((c_Mo_countsFor hx33)) ?_
          obtain ⟨j107, hj107, hj91⟩ := jbind hj91
          have hP107 : jJ G M_Mo_weighPair (jEnd G M_Mo_weighPair none (S, res)) 0 0 130 [(0, ar v0), (1, ai v1), (4, ai v4), (5, ai v5), (6, ai (((80 * ((8 * v2) + v4)) + (8 * v3)) + v5)), (7, ai x6), (8, ai x8), (9, ai s68.1)] [ai j107, ai 0] (S, s68.2) := by
            refine j_iadd (dt_Mo_weighPair 77 (130, .iadd, 1) rfl) ?_
            refine j_istore (dt_Mo_weighPair 78 (131, .istore 10, 2) rfl) (nlt rfl) ?_
            refine j_iload (dt_Mo_weighPair 79 (133, .iload 10, 2) rfl) rfl ?_
            refine j_aload_n (dt_Mo_weighPair 80 (135, .aload_n 0, 1) rfl) rfl ?_
            refine j_iload (dt_Mo_weighPair 81 (136, .iload 9, 2) rfl) rfl ?_
            refine j_iload_n (dt_Mo_weighPair 82 (138, .iload_n 1, 1) rfl) rfl ?_
            refine j_iload (dt_Mo_weighPair 83 (139, .iload 8, 2) rfl) rfl ?_
            refine j_iload (dt_Mo_weighPair 84 (141, .iload 7, 2) rfl) rfl ?_
            obtain ⟨x35, hx35, hj91⟩ := jbind hj91
            obtain ⟨b36, hb36⟩ := r_Mo_countsFor hx35
            refine j_callV M_Mo_countsFor 4 [ai s68.1, ai v1, ai x8, ai x6] (rest := [ai (0 + j107)]) (dt_Mo_weighPair 85 (143, .invokevirtual 320, 3) rfl) ml_X12_320 ok_Mo_countsFor (jfit rfl rfl ⟨rfl, rfl⟩ (nle rfl) (nlt rfl)) rfl rfl (nle rfl) ⟨rfl, rfl⟩ hb36 ((c_Mo_countsFor hx35)) ?_
            refine jite hj91 (fun hc hj91 => ?_) (fun hc hj91 => ?_)
            · refine j_if_eq (dt_Mo_weighPair 86 (146, .ifCond .eq 22, 3) rfl) rfl (fun _ => ?_) (fun q => absurd hc q)
              refine j_iconst (dt_Mo_weighPair 97 (168, .iconst 0, 1) rfl) ic_0 ?_
              refine j_iadd (dt_Mo_weighPair 98 (169, .iadd, 1) rfl) ?_
              refine j_istore (dt_Mo_weighPair 99 (170, .istore 10, 2) rfl) (nlt rfl) ?_
              refine j_goto (dt_Mo_weighPair 100 (172, .goto 42, 3) rfl) rfl ?_
              cases hj91
              exact j_sub rfl hP91
            · refine j_if_eq (dt_Mo_weighPair 86 (146, .ifCond .eq 22, 3) rfl) rfl (fun q => absurd q hc) (fun _ => ?_)
              refine j_aload_n (dt_Mo_weighPair 87 (149, .aload_n 0, 1) rfl) rfl ?_
              refine j_iload (dt_Mo_weighPair 88 (150, .iload 9, 2) rfl) rfl ?_
              refine j_iload_n (dt_Mo_weighPair 89 (152, .iload_n 1, 1) rfl) rfl ?_
              refine j_iconst (dt_Mo_weighPair 90 (153, .iconst 0, 1) rfl) ic_0 ?_
              refine j_iload (dt_Mo_weighPair 91 (154, .iload 5, 2) rfl) rfl ?_
              refine j_iload (dt_Mo_weighPair 92 (156, .iload 4, 2) rfl) rfl ?_
              obtain ⟨x37, hx37, hj91⟩ := jbind hj91
              obtain ⟨b38, hb38⟩ := r_Mo_whoMinds hx37
              refine j_callV M_Mo_whoMinds 5 [ai s68.1, ai v1, ai 0, ai v5, ai v4] (rest := [ai (0 + j107)]) (dt_Mo_weighPair 93 (158, .invokevirtual 324, 3) rfl) ml_X12_324 ok_Mo_whoMinds (jfit rfl rfl ⟨rfl, rfl⟩ (nle rfl) (nlt rfl)) rfl rfl (nle rfl) ⟨rfl, rfl⟩ hb38 ((c_Mo_whoMinds hx37)) ?_
              refine jite hj91 (fun hc hj91 => ?_) (fun hc hj91 => ?_)
              · refine j_if_eq (dt_Mo_weighPair 94 (161, .ifCond .eq 7, 3) rfl) rfl (fun _ => ?_) (fun q => absurd hc q)
                refine j_iconst (dt_Mo_weighPair 97 (168, .iconst 0, 1) rfl) ic_0 ?_
                refine j_iadd (dt_Mo_weighPair 98 (169, .iadd, 1) rfl) ?_
                refine j_istore (dt_Mo_weighPair 99 (170, .istore 10, 2) rfl) (nlt rfl) ?_
                refine j_goto (dt_Mo_weighPair 100 (172, .goto 42, 3) rfl) rfl ?_
                cases hj91
                exact j_sub rfl hP91
              · refine j_if_eq (dt_Mo_weighPair 94 (161, .ifCond .eq 7, 3) rfl) rfl (fun q => absurd q hc) (fun _ => ?_)
                refine j_iconst (dt_Mo_weighPair 95 (164, .iconst 1, 1) rfl) ic_1 ?_
                refine j_goto (dt_Mo_weighPair 96 (165, .goto 4, 3) rfl) rfl ?_
                refine j_iadd (dt_Mo_weighPair 98 (169, .iadd, 1) rfl) ?_
                refine j_istore (dt_Mo_weighPair 99 (170, .istore 10, 2) rfl) (nlt rfl) ?_
                refine j_goto (dt_Mo_weighPair 100 (172, .goto 42, 3) rfl) rfl ?_
                cases hj91
                exact j_sub rfl hP91
          refine jite hj107 (fun hc hj107 => ?_) (fun hc hj107 => ?_)
          · refine j_if_eq (dt_Mo_weighPair 65 (107, .ifCond .eq 22, 3) rfl) rfl (fun _ => ?_) (fun q => absurd hc q)
            refine j_iconst (dt_Mo_weighPair 76 (129, .iconst 0, 1) rfl) ic_0 ?_
            cases hj107
            exact j_sub rfl hP107
          · refine j_if_eq (dt_Mo_weighPair 65 (107, .ifCond .eq 22, 3) rfl) rfl (fun q => absurd q hc) (fun _ => ?_)
            refine j_aload_n (dt_Mo_weighPair 66 (110, .aload_n 0, 1) rfl) rfl ?_
            refine j_iload (dt_Mo_weighPair 67 (111, .iload 9, 2) rfl) rfl ?_
            refine j_iload_n (dt_Mo_weighPair 68 (113, .iload_n 1, 1) rfl) rfl ?_
            refine j_iconst (dt_Mo_weighPair 69 (114, .iconst 0, 1) rfl) ic_0 ?_
            refine j_iload (dt_Mo_weighPair 70 (115, .iload 4, 2) rfl) rfl ?_
            refine j_iload (dt_Mo_weighPair 71 (117, .iload 5, 2) rfl) rfl ?_
            obtain ⟨x39, hx39, hj107⟩ := jbind hj107
            obtain ⟨b40, hb40⟩ := r_Mo_whoMinds hx39
            refine j_callV M_Mo_whoMinds 5 [ai s68.1, ai v1, ai 0, ai v4, ai v5] (rest := [ai 0]) (dt_Mo_weighPair 72 (119, .invokevirtual 324, 3) rfl) ml_X12_324 ok_Mo_whoMinds (jfit rfl rfl ⟨rfl, rfl⟩ (nle rfl) (nlt rfl)) rfl rfl (nle rfl) ⟨rfl, rfl⟩ hb40 ((c_Mo_whoMinds hx39)) ?_
            refine jite hj107 (fun hc hj107 => ?_) (fun hc hj107 => ?_)
            · refine j_if_eq (dt_Mo_weighPair 73 (122, .ifCond .eq 7, 3) rfl) rfl (fun _ => ?_) (fun q => absurd hc q)
              refine j_iconst (dt_Mo_weighPair 76 (129, .iconst 0, 1) rfl) ic_0 ?_
              cases hj107
              exact j_sub rfl hP107
            · refine j_if_eq (dt_Mo_weighPair 73 (122, .ifCond .eq 7, 3) rfl) rfl (fun q => absurd q hc) (fun _ => ?_)
              refine j_iconst (dt_Mo_weighPair 74 (125, .iconst 1, 1) rfl) ic_1 ?_
              refine j_goto (dt_Mo_weighPair 75 (126, .goto 4, 3) rfl) rfl ?_
              cases hj107
              exact j_sub rfl hP107
        · refine j_if_ne (dt_Mo_weighPair 57 (91, .ifCond .ne 84, 3) rfl) rfl (fun _ => ?_) (fun q => absurd q hc)
          refine j_iload (dt_Mo_weighPair 101 (175, .iload 10, 2) rfl) rfl ?_
          refine j_aload_n (dt_Mo_weighPair 102 (177, .aload_n 0, 1) rfl) rfl ?_
          refine j_iload (dt_Mo_weighPair 103 (178, .iload 9, 2) rfl) rfl ?_
          refine j_iload_n (dt_Mo_weighPair 104 (180, .iload_n 1, 1) rfl) rfl ?_
          refine j_iload (dt_Mo_weighPair 105 (181, .iload 7, 2) rfl) rfl ?_
          refine j_iload (dt_Mo_weighPair 106 (183, .iload 8, 2) rfl) rfl ?_
          obtain ⟨x29, hx29, hj91⟩ := jbind hj91
          obtain ⟨b30, hb30⟩ := r_Mo_countsFor hx29
          refine j_callV M_Mo_countsFor 4 [ai s68.1, ai v1, ai x6, ai x8] (rest := [ai 0]) (dt_Mo_weighPair 107 (185, .invokevirtual 320, 3) rfl) ml_X12_320 ok_Mo_countsFor (jfit rfl rfl ⟨rfl, rfl⟩ (nle rfl) (nlt rfl)) rfl rfl (nle rfl) ⟨rfl, rfl⟩ hb30 ((c_Mo_countsFor hx29)) ?_
          refine jite hj91 (fun hc hj91 => ?_) (fun hc hj91 => ?_)
          · refine j_if_eq (dt_Mo_weighPair 108 (188, .ifCond .eq 22, 3) rfl) rfl (fun _ => ?_) (fun q => absurd hc q)
            refine j_iconst (dt_Mo_weighPair 119 (210, .iconst 0, 1) rfl) ic_0 ?_
            refine j_iadd (dt_Mo_weighPair 120 (211, .iadd, 1) rfl) ?_
            refine j_istore (dt_Mo_weighPair 121 (212, .istore 10, 2) rfl) (nlt rfl) ?_
            cases hj91
            exact j_sub rfl hP91
          · refine j_if_eq (dt_Mo_weighPair 108 (188, .ifCond .eq 22, 3) rfl) rfl (fun q => absurd q hc) (fun _ => ?_)
            refine j_aload_n (dt_Mo_weighPair 109 (191, .aload_n 0, 1) rfl) rfl ?_
            refine j_iload (dt_Mo_weighPair 110 (192, .iload 9, 2) rfl) rfl ?_
            refine j_iload_n (dt_Mo_weighPair 111 (194, .iload_n 1, 1) rfl) rfl ?_
            refine j_iconst (dt_Mo_weighPair 112 (195, .iconst 0, 1) rfl) ic_0 ?_
            refine j_iload (dt_Mo_weighPair 113 (196, .iload 4, 2) rfl) rfl ?_
            refine j_iload (dt_Mo_weighPair 114 (198, .iload 5, 2) rfl) rfl ?_
            obtain ⟨x31, hx31, hj91⟩ := jbind hj91
            obtain ⟨b32, hb32⟩ := r_Mo_whoMinds hx31
            refine j_callV M_Mo_whoMinds 5 [ai s68.1, ai v1, ai 0, ai v4, ai v5] (rest := [ai 0]) (dt_Mo_weighPair 115 (200, .invokevirtual 324, 3) rfl) ml_X12_324 ok_Mo_whoMinds (jfit rfl rfl ⟨rfl, rfl⟩ (nle rfl) (nlt rfl)) rfl rfl (nle rfl) ⟨rfl, rfl⟩ hb32 ((c_Mo_whoMinds hx31)) ?_
            refine jite hj91 (fun hc hj91 => ?_) (fun hc hj91 => ?_)
            · refine j_if_eq (dt_Mo_weighPair 116 (203, .ifCond .eq 7, 3) rfl) rfl (fun _ => ?_) (fun q => absurd hc q)
              refine j_iconst (dt_Mo_weighPair 119 (210, .iconst 0, 1) rfl) ic_0 ?_
              refine j_iadd (dt_Mo_weighPair 120 (211, .iadd, 1) rfl) ?_
              refine j_istore (dt_Mo_weighPair 121 (212, .istore 10, 2) rfl) (nlt rfl) ?_
              cases hj91
              exact j_sub rfl hP91
            · refine j_if_eq (dt_Mo_weighPair 116 (203, .ifCond .eq 7, 3) rfl) rfl (fun q => absurd q hc) (fun _ => ?_)
              refine j_iconst (dt_Mo_weighPair 117 (206, .iconst 1, 1) rfl) ic_1 ?_
              refine j_goto (dt_Mo_weighPair 118 (207, .goto 4, 3) rfl) rfl ?_
              refine j_iadd (dt_Mo_weighPair 120 (211, .iadd, 1) rfl) ?_
              refine j_istore (dt_Mo_weighPair 121 (212, .istore 10, 2) rfl) (nlt rfl) ?_
              cases hj91
              exact j_sub rfl hP91
theorem r_Mo_weighPair {S : hS} {V : hV} {v0 : Option Nat} {v1 : Int32} {v2 : Int32} {v3 : Int32} {v4 : Int32} {v5 : Int32} {res : hV} (hf : Mo_weighPair S v0 v1 v2 v3 v4 v5 V = some res) : ∃ b, rc S 12 v0 = some b := by
  unfold Mo_weighPair at hf
  obtain ⟨b, hb, _⟩ := jbind hf
  exact ⟨b, hb⟩
def tb_Mo_weighPlaces : List (Nat × Instr × Nat) := [(0, .iconst 0, 1), (1, .istore_n 2, 1), (2, .iload_n 2, 1), (3, .aload_n 0, 1), (4, .getfield 382, 3), (7, .if_icmp .ge 72, 3), (10, .iconst 0, 1), (11, .istore_n 3, 1), (12, .iload_n 3, 1), (13, .aload_n 0, 1), (14, .getfield 382, 3), (17, .if_icmp .ge 56, 3), (20, .iconst 0, 1), (21, .istore 4, 2), (23, .iload 4, 2), (25, .aload_n 0, 1), (26, .getfield 394, 3), (29, .if_icmp .ge 38, 3), (32, .iconst 0, 1), (33, .istore 5, 2), (35, .iload 5, 2), (37, .aload_n 0, 1), (38, .getfield 394, 3), (41, .if_icmp .ge 20, 3), (44, .aload_n 0, 1), (45, .iload_n 1, 1), (46, .iload_n 2, 1), (47, .iload_n 3, 1), (48, .iload 4, 2), (50, .iload 5, 2), (52, .invokevirtual 397, 3), (55, .iinc 5 1, 3), (58, .goto (-23), 3), (61, .iinc 4 1, 3), (64, .goto (-41), 3), (67, .iinc 3 1, 3), (70, .goto (-58), 3), (73, .iinc 2 1, 3), (76, .goto (-74), 3), (79, .return_, 1)]
theorem dt_Mo_weighPlaces (i : Nat) (q : Nat × Instr × Nat) (h : tb_Mo_weighPlaces[i]? = some q) : decode prog_14_method_70_code q.1 = .ok q.2 := jdt (by decide +kernel : tb_Mo_weighPlaces.all (fun q => decide (decode prog_14_method_70_code q.1 = .ok q.2)) = true) h
theorem ok_Mo_weighPlaces : jOKV M_Mo_weighPlaces 1 := ⟨⟨gt8 34 rfl rfl, gt1 17 rfl rfl, (by decide : "FirstInModel" ≠ "java/lang/invoke/MethodHandle"), (by decide : "FirstInModel" ≠ "java/lang/invoke/VarHandle"), (by decide +kernel : (parseMethodDescriptor "(I)V").map (fun d => d.parameters.length) = some 1)⟩, gt8 33 rfl rfl, gs_in 49 rfl, rfl, nlt rfl⟩
set_option maxRecDepth 100000 in
set_option maxHeartbeats 4000000 in
theorem c_Mo_weighPlaces {G : jG} {S : hS} {V : hV} {v0 : Option Nat} {v1 : Int32} {res : hV} (hf : Mo_weighPlaces S v0 v1 V = some res) : jC G M_Mo_weighPlaces [ar v0, ai v1] (S, V) none (S, res) := by
  unfold Mo_weighPlaces at hf
  obtain ⟨_, _, hf⟩ := jbind hf
  refine jC_of (pf_X12 _ _) rfl (nle rfl) ?_
  show jJ G M_Mo_weighPlaces (jEnd G M_Mo_weighPlaces none (S, res)) 0 0 0 [(0, ar v0), (1, ai v1)] [] (S, V)
  refine j_iconst (dt_Mo_weighPlaces 0 (0, .iconst 0, 1) rfl) ic_0 ?_
  refine j_istore_n (dt_Mo_weighPlaces 1 (1, .istore_n 2, 1) rfl) (nlt rfl) ?_
  obtain ⟨t2, ht2, hf⟩ := jbind hf
  have hX2 : ∀ q2 : hV, q2 = t2 → jJ G M_Mo_weighPlaces (jEnd G M_Mo_weighPlaces none (S, res)) 0 0 79 [] [] (S, q2) := by
    intro q2 hq2
    subst hq2
    cases hf
    exact j_vret (dt_Mo_weighPlaces 39 (79, .return_, 1) rfl) rfl
  refine j_sub (ls' := [(0, ar v0), (1, ai v1), (2, ai 0)]) rfl ?_
  refine jloop_J (C := fun s2 => jJ G M_Mo_weighPlaces (jEnd G M_Mo_weighPlaces none (S, res)) 0 0 2 [(0, ar v0), (1, ai v1), (2, ai s2.1)] [] (S, s2.2)) (fun s2 z2_ hy2 hin2 hout2 => ?_) _ _ ht2
  unfold Mo_weighPlaces_L2 at hy2
  refine j_iload_n (dt_Mo_weighPlaces 2 (2, .iload_n 2, 1) rfl) rfl ?_
  refine j_aload_n (dt_Mo_weighPlaces 3 (3, .aload_n 0, 1) rfl) rfl ?_
  obtain ⟨x1, hx1, hy2⟩ := jbind hy2
  refine j_getI (dt_Mo_weighPlaces 4 (4, .getfield 382, 3) rfl) fl_X12_382 hx1 (fun _ _ => rfl) ?_
  refine jite hy2 (fun hc hy2 => ?_) (fun hc hy2 => ?_)
  · refine j_icmp_ge (dt_Mo_weighPlaces 5 (7, .if_icmp .ge 72, 3) rfl) rfl (fun _ => ?_) (fun q => absurd hc q)
    cases hy2
    have hz := hX2 _ (hout2 _ rfl)
    exact j_sub rfl hz
  · refine j_icmp_ge (dt_Mo_weighPlaces 5 (7, .if_icmp .ge 72, 3) rfl) rfl (fun q => absurd q hc) (fun _ => ?_)
    refine j_iconst (dt_Mo_weighPlaces 6 (10, .iconst 0, 1) rfl) ic_0 ?_
    refine j_istore_n (dt_Mo_weighPlaces 7 (11, .istore_n 3, 1) rfl) (nlt rfl) ?_
    obtain ⟨t12, ht12, hy2⟩ := jbind hy2
    have hX12 : ∀ q12 : hV, q12 = t12 → jJ G M_Mo_weighPlaces (jEnd G M_Mo_weighPlaces none (S, res)) 0 0 73 [(0, ar v0), (1, ai v1), (2, ai s2.1)] [] (S, q12) := by
      intro q12 hq12
      subst hq12
      refine j_iinc (dt_Mo_weighPlaces 37 (73, .iinc 2 1, 3) rfl) rfl (nlt rfl) (ii_1 _) ?_
      refine j_goto (dt_Mo_weighPlaces 38 (76, .goto (-74), 3) rfl) rfl ?_
      cases hy2
      have hz := hin2 _ rfl
      exact j_sub rfl hz
    refine j_sub (ls' := [(0, ar v0), (1, ai v1), (2, ai s2.1), (3, ai 0)]) rfl ?_
    refine jloop_J (C := fun s12 => jJ G M_Mo_weighPlaces (jEnd G M_Mo_weighPlaces none (S, res)) 0 0 12 [(0, ar v0), (1, ai v1), (2, ai s2.1), (3, ai s12.1)] [] (S, s12.2)) (fun s12 z12_ hy12 hin12 hout12 => ?_) _ _ ht12
    unfold Mo_weighPlaces_L12 at hy12
    refine j_iload_n (dt_Mo_weighPlaces 8 (12, .iload_n 3, 1) rfl) rfl ?_
    refine j_aload_n (dt_Mo_weighPlaces 9 (13, .aload_n 0, 1) rfl) rfl ?_
    obtain ⟨x2, hx2, hy12⟩ := jbind hy12
    refine j_getI (dt_Mo_weighPlaces 10 (14, .getfield 382, 3) rfl) fl_X12_382 hx2 (fun _ _ => rfl) ?_
    refine jite hy12 (fun hc hy12 => ?_) (fun hc hy12 => ?_)
    · refine j_icmp_ge (dt_Mo_weighPlaces 11 (17, .if_icmp .ge 56, 3) rfl) rfl (fun _ => ?_) (fun q => absurd hc q)
      cases hy12
      have hz := hX12 _ (hout12 _ rfl)
      exact j_sub rfl hz
    · refine j_icmp_ge (dt_Mo_weighPlaces 11 (17, .if_icmp .ge 56, 3) rfl) rfl (fun q => absurd q hc) (fun _ => ?_)
      refine j_iconst (dt_Mo_weighPlaces 12 (20, .iconst 0, 1) rfl) ic_0 ?_
      refine j_istore (dt_Mo_weighPlaces 13 (21, .istore 4, 2) rfl) (nlt rfl) ?_
      obtain ⟨t23, ht23, hy12⟩ := jbind hy12
      have hX23 : ∀ q23 : hV, q23 = t23 → jJ G M_Mo_weighPlaces (jEnd G M_Mo_weighPlaces none (S, res)) 0 0 67 [(0, ar v0), (1, ai v1), (2, ai s2.1), (3, ai s12.1)] [] (S, q23) := by
        intro q23 hq23
        subst hq23
        refine j_iinc (dt_Mo_weighPlaces 35 (67, .iinc 3 1, 3) rfl) rfl (nlt rfl) (ii_1 _) ?_
        refine j_goto (dt_Mo_weighPlaces 36 (70, .goto (-58), 3) rfl) rfl ?_
        cases hy12
        have hz := hin12 _ rfl
        exact j_sub rfl hz
      refine j_sub (ls' := [(0, ar v0), (1, ai v1), (2, ai s2.1), (3, ai s12.1), (4, ai 0)]) rfl ?_
      refine jloop_J (C := fun s23 => jJ G M_Mo_weighPlaces (jEnd G M_Mo_weighPlaces none (S, res)) 0 0 23 [(0, ar v0), (1, ai v1), (2, ai s2.1), (3, ai s12.1), (4, ai s23.1)] [] (S, s23.2)) (fun s23 z23_ hy23 hin23 hout23 => ?_) _ _ ht23
      unfold Mo_weighPlaces_L23 at hy23
      refine j_iload (dt_Mo_weighPlaces 14 (23, .iload 4, 2) rfl) rfl ?_
      refine j_aload_n (dt_Mo_weighPlaces 15 (25, .aload_n 0, 1) rfl) rfl ?_
      obtain ⟨x3, hx3, hy23⟩ := jbind hy23
      refine j_getI (dt_Mo_weighPlaces 16 (26, .getfield 394, 3) rfl) fl_X12_394 hx3 (fun _ _ => rfl) ?_
      refine jite hy23 (fun hc hy23 => ?_) (fun hc hy23 => ?_)
      · refine j_icmp_ge (dt_Mo_weighPlaces 17 (29, .if_icmp .ge 38, 3) rfl) rfl (fun _ => ?_) (fun q => absurd hc q)
        cases hy23
        have hz := hX23 _ (hout23 _ rfl)
        exact j_sub rfl hz
      · refine j_icmp_ge (dt_Mo_weighPlaces 17 (29, .if_icmp .ge 38, 3) rfl) rfl (fun q => absurd q hc) (fun _ => ?_)
        refine j_iconst (dt_Mo_weighPlaces 18 (32, .iconst 0, 1) rfl) ic_0 ?_
        refine j_istore (dt_Mo_weighPlaces 19 (33, .istore 5, 2) rfl) (nlt rfl) ?_
        obtain ⟨t35, ht35, hy23⟩ := jbind hy23
        have hX35 : ∀ q35 : hV, q35 = t35 → jJ G M_Mo_weighPlaces (jEnd G M_Mo_weighPlaces none (S, res)) 0 0 61 [(0, ar v0), (1, ai v1), (2, ai s2.1), (3, ai s12.1), (4, ai s23.1)] [] (S, q35) := by
          intro q35 hq35
          subst hq35
          refine j_iinc (dt_Mo_weighPlaces 33 (61, .iinc 4 1, 3) rfl) rfl (nlt rfl) (ii_1 _) ?_
          refine j_goto (dt_Mo_weighPlaces 34 (64, .goto (-41), 3) rfl) rfl ?_
          cases hy23
          have hz := hin23 _ rfl
          exact j_sub rfl hz
        refine j_sub (ls' := [(0, ar v0), (1, ai v1), (2, ai s2.1), (3, ai s12.1), (4, ai s23.1), (5, ai 0)]) rfl ?_
        refine jloop_J (C := fun s35 => jJ G M_Mo_weighPlaces (jEnd G M_Mo_weighPlaces none (S, res)) 0 0 35 [(0, ar v0), (1, ai v1), (2, ai s2.1), (3, ai s12.1), (4, ai s23.1), (5, ai s35.1)] [] (S, s35.2)) (fun s35 z35_ hy35 hin35 hout35 => ?_) _ _ ht35
        unfold Mo_weighPlaces_L35 at hy35
        refine j_iload (dt_Mo_weighPlaces 20 (35, .iload 5, 2) rfl) rfl ?_
        refine j_aload_n (dt_Mo_weighPlaces 21 (37, .aload_n 0, 1) rfl) rfl ?_
        obtain ⟨x4, hx4, hy35⟩ := jbind hy35
        refine j_getI (dt_Mo_weighPlaces 22 (38, .getfield 394, 3) rfl) fl_X12_394 hx4 (fun _ _ => rfl) ?_
        refine jite hy35 (fun hc hy35 => ?_) (fun hc hy35 => ?_)
        · refine j_icmp_ge (dt_Mo_weighPlaces 23 (41, .if_icmp .ge 20, 3) rfl) rfl (fun _ => ?_) (fun q => absurd hc q)
          cases hy35
          have hz := hX35 _ (hout35 _ rfl)
          exact j_sub rfl hz
        · refine j_icmp_ge (dt_Mo_weighPlaces 23 (41, .if_icmp .ge 20, 3) rfl) rfl (fun q => absurd q hc) (fun _ => ?_)
          refine j_aload_n (dt_Mo_weighPlaces 24 (44, .aload_n 0, 1) rfl) rfl ?_
          refine j_iload_n (dt_Mo_weighPlaces 25 (45, .iload_n 1, 1) rfl) rfl ?_
          refine j_iload_n (dt_Mo_weighPlaces 26 (46, .iload_n 2, 1) rfl) rfl ?_
          refine j_iload_n (dt_Mo_weighPlaces 27 (47, .iload_n 3, 1) rfl) rfl ?_
          refine j_iload (dt_Mo_weighPlaces 28 (48, .iload 4, 2) rfl) rfl ?_
          refine j_iload (dt_Mo_weighPlaces 29 (50, .iload 5, 2) rfl) rfl ?_
          obtain ⟨V5, hV5, hy35⟩ := jbind hy35
          obtain ⟨b6, hb6⟩ := r_Mo_weighPair hV5
          refine j_callV M_Mo_weighPair 5 [ai v1, ai s2.1, ai s12.1, ai s23.1, ai s35.1] (rest := []) (dt_Mo_weighPlaces 30 (52, .invokevirtual 397, 3) rfl) ml_X12_397 ok_Mo_weighPair (jfit rfl rfl ⟨rfl, rfl⟩ (nle rfl) (nlt rfl)) rfl rfl (nle rfl) ⟨rfl, rfl⟩ hb6 ((c_Mo_weighPair hV5)) ?_
          refine j_iinc (dt_Mo_weighPlaces 31 (55, .iinc 5 1, 3) rfl) rfl (nlt rfl) (ii_1 _) ?_
          refine j_goto (dt_Mo_weighPlaces 32 (58, .goto (-23), 3) rfl) rfl ?_
          cases hy35
          have hz := hin35 _ rfl
          exact j_sub rfl hz
theorem r_Mo_weighPlaces {S : hS} {V : hV} {v0 : Option Nat} {v1 : Int32} {res : hV} (hf : Mo_weighPlaces S v0 v1 V = some res) : ∃ b, rc S 12 v0 = some b := by
  unfold Mo_weighPlaces at hf
  obtain ⟨b, hb, _⟩ := jbind hf
  exact ⟨b, hb⟩
def tb_Mo_keepsIn : List (Nat × Instr × Nat) := [(0, .iconst 0, 1), (1, .istore_n 2, 1), (2, .iload_n 2, 1), (3, .aload_n 0, 1), (4, .getfield 382, 3), (7, .if_icmp .ge 18, 3), (10, .aload_n 1, 1), (11, .iload_n 2, 1), (12, .aload_n 0, 1), (13, .getfield 148, 3), (16, .iload_n 2, 1), (17, .iaload, 1), (18, .iastore, 1), (19, .iinc 2 1, 3), (22, .goto (-20), 3), (25, .return_, 1)]
theorem dt_Mo_keepsIn (i : Nat) (q : Nat × Instr × Nat) (h : tb_Mo_keepsIn[i]? = some q) : decode prog_14_method_72_code q.1 = .ok q.2 := jdt (by decide +kernel : tb_Mo_keepsIn.all (fun q => decide (decode prog_14_method_72_code q.1 = .ok q.2)) = true) h
theorem ok_Mo_keepsIn : jOKV M_Mo_keepsIn 1 := ⟨⟨gt8 50 rfl rfl, gt1 17 rfl rfl, (by decide : "FirstInModel" ≠ "java/lang/invoke/MethodHandle"), (by decide : "FirstInModel" ≠ "java/lang/invoke/VarHandle"), (by decide +kernel : (parseMethodDescriptor "([I)V").map (fun d => d.parameters.length) = some 1)⟩, gt8 49 rfl rfl, gs_in 53 rfl, rfl, nlt rfl⟩
set_option maxRecDepth 100000 in
set_option maxHeartbeats 4000000 in
theorem c_Mo_keepsIn {G : jG} {S : hS} {V : hV} {v0 : Option Nat} {v1 : Option Nat} {res : hV} (hf : Mo_keepsIn S v0 v1 V = some res) : jC G M_Mo_keepsIn [ar v0, ar v1] (S, V) none (S, res) := by
  unfold Mo_keepsIn at hf
  obtain ⟨_, _, hf⟩ := jbind hf
  refine jC_of (pf_X12 _ _) rfl (nle rfl) ?_
  show jJ G M_Mo_keepsIn (jEnd G M_Mo_keepsIn none (S, res)) 0 0 0 [(0, ar v0), (1, ar v1)] [] (S, V)
  refine j_iconst (dt_Mo_keepsIn 0 (0, .iconst 0, 1) rfl) ic_0 ?_
  refine j_istore_n (dt_Mo_keepsIn 1 (1, .istore_n 2, 1) rfl) (nlt rfl) ?_
  obtain ⟨t2, ht2, hf⟩ := jbind hf
  have hX2 : ∀ q2 : hV, q2 = t2 → jJ G M_Mo_keepsIn (jEnd G M_Mo_keepsIn none (S, res)) 0 0 25 [] [] (S, q2) := by
    intro q2 hq2
    subst hq2
    cases hf
    exact j_vret (dt_Mo_keepsIn 15 (25, .return_, 1) rfl) rfl
  refine j_sub (ls' := [(0, ar v0), (1, ar v1), (2, ai 0)]) rfl ?_
  refine jloop_J (C := fun s2 => jJ G M_Mo_keepsIn (jEnd G M_Mo_keepsIn none (S, res)) 0 0 2 [(0, ar v0), (1, ar v1), (2, ai s2.1)] [] (S, s2.2)) (fun s2 z2_ hy2 hin2 hout2 => ?_) _ _ ht2
  unfold Mo_keepsIn_L2 at hy2
  refine j_iload_n (dt_Mo_keepsIn 2 (2, .iload_n 2, 1) rfl) rfl ?_
  refine j_aload_n (dt_Mo_keepsIn 3 (3, .aload_n 0, 1) rfl) rfl ?_
  obtain ⟨x1, hx1, hy2⟩ := jbind hy2
  refine j_getI (dt_Mo_keepsIn 4 (4, .getfield 382, 3) rfl) fl_X12_382 hx1 (fun _ _ => rfl) ?_
  refine jite hy2 (fun hc hy2 => ?_) (fun hc hy2 => ?_)
  · refine j_icmp_ge (dt_Mo_keepsIn 5 (7, .if_icmp .ge 18, 3) rfl) rfl (fun _ => ?_) (fun q => absurd hc q)
    cases hy2
    have hz := hX2 _ (hout2 _ rfl)
    exact j_sub rfl hz
  · refine j_icmp_ge (dt_Mo_keepsIn 5 (7, .if_icmp .ge 18, 3) rfl) rfl (fun q => absurd q hc) (fun _ => ?_)
    refine j_aload_n (dt_Mo_keepsIn 6 (10, .aload_n 1, 1) rfl) rfl ?_
    refine j_iload_n (dt_Mo_keepsIn 7 (11, .iload_n 2, 1) rfl) rfl ?_
    refine j_aload_n (dt_Mo_keepsIn 8 (12, .aload_n 0, 1) rfl) rfl ?_
    obtain ⟨x2, hx2, hy2⟩ := jbind hy2
    refine j_getR (dt_Mo_keepsIn 9 (13, .getfield 148, 3) rfl) fl_X12_148 hx2 (fun _ _ => rfl) ?_
    refine j_iload_n (dt_Mo_keepsIn 10 (16, .iload_n 2, 1) rfl) rfl ?_
    obtain ⟨x3, hx3, hy2⟩ := jbind hy2
    refine j_aldI (dt_Mo_keepsIn 11 (17, .iaload, 1) rfl) hx3 ?_
    obtain ⟨V4, hV4, hy2⟩ := jbind hy2
    refine j_astI (dt_Mo_keepsIn 12 (18, .iastore, 1) rfl) hV4 ?_
    refine j_iinc (dt_Mo_keepsIn 13 (19, .iinc 2 1, 3) rfl) rfl (nlt rfl) (ii_1 _) ?_
    refine j_goto (dt_Mo_keepsIn 14 (22, .goto (-20), 3) rfl) rfl ?_
    cases hy2
    have hz := hin2 _ rfl
    exact j_sub rfl hz
theorem r_Mo_keepsIn {S : hS} {V : hV} {v0 : Option Nat} {v1 : Option Nat} {res : hV} (hf : Mo_keepsIn S v0 v1 V = some res) : ∃ b, rc S 12 v0 = some b := by
  unfold Mo_keepsIn at hf
  obtain ⟨b, hb, _⟩ := jbind hf
  exact ⟨b, hb⟩
def tb_Mo_meets : List (Nat × Instr × Nat) := [(0, .aload_n 0, 1), (1, .getfield 401, 3), (4, .ifCond .eq 111, 3), (7, .iconst 0, 1), (8, .istore_n 3, 1), (9, .iconst 0, 1), (10, .istore 4, 2), (12, .iload 4, 2), (14, .aload_n 0, 1), (15, .getfield 382, 3), (18, .if_icmp .ge 58, 3), (21, .iload_n 3, 1), (22, .aload_n 0, 1), (23, .getfield 87, 3), (26, .aload_n 0, 1), (27, .getfield 136, 3), (30, .iload 4, 2), (32, .iaload, 1), (33, .iaload, 1), (34, .aload_n 0, 1), (35, .getfield 405, 3), (38, .if_icmp .ne 29, 3), (41, .aload_n 0, 1), (42, .getfield 90, 3), (45, .aload_n 0, 1), (46, .getfield 136, 3), (49, .iload 4, 2), (51, .iaload, 1), (52, .iaload, 1), (53, .aload_n 0, 1), (54, .getfield 148, 3), (57, .iload 4, 2), (59, .iaload, 1), (60, .if_icmp .eq 7, 3), (63, .iconst 1, 1), (64, .goto 4, 3), (67, .iconst 0, 1), (68, .iadd, 1), (69, .istore_n 3, 1), (70, .iinc 4 1, 3), (73, .goto (-61), 3), (76, .iload_n 1, 1), (77, .aload_n 0, 1), (78, .getfield 408, 3), (81, .if_icmp .gt 19, 3), (84, .aload_n 0, 1), (85, .getfield 411, 3), (88, .iconst (-1), 1), (89, .if_icmp .eq 12, 3), (92, .iload_n 3, 1), (93, .aload_n 0, 1), (94, .getfield 411, 3), (97, .if_icmp .lt 4, 3), (100, .return_, 1), (101, .aload_n 0, 1), (102, .iload_n 3, 1), (103, .putfield 411, 3), (106, .aload_n 0, 1), (107, .aload_n 0, 1), (108, .getfield 157, 3), (111, .invokevirtual 414, 3), (114, .return_, 1), (115, .aload_n 0, 1), (116, .getfield 418, 3), (119, .iconst (-1), 1), (120, .if_icmp .eq 27, 3), (123, .iload_n 2, 1), (124, .aload_n 0, 1), (125, .getfield 418, 3), (128, .if_icmp .lt 19, 3), (131, .iload_n 2, 1), (132, .aload_n 0, 1), (133, .getfield 418, 3), (136, .if_icmp .ne 29, 3), (139, .iload_n 1, 1), (140, .aload_n 0, 1), (141, .getfield 421, 3), (144, .if_icmp .ge 21, 3), (147, .aload_n 0, 1), (148, .iload_n 2, 1), (149, .putfield 418, 3), (152, .aload_n 0, 1), (153, .iload_n 1, 1), (154, .putfield 421, 3), (157, .aload_n 0, 1), (158, .aload_n 0, 1), (159, .getfield 154, 3), (162, .invokevirtual 414, 3), (165, .aload_n 0, 1), (166, .getfield 424, 3), (169, .iconst (-1), 1), (170, .if_icmp .eq 11, 3), (173, .iload_n 1, 1), (174, .aload_n 0, 1), (175, .getfield 424, 3), (178, .if_icmp .ge 70, 3), (181, .aload_n 0, 1), (182, .iload_n 1, 1), (183, .putfield 424, 3), (186, .aload_n 0, 1), (187, .iconst 0, 1), (188, .putfield 427, 3), (191, .aload_n 0, 1), (192, .aload_n 0, 1), (193, .getfield 151, 3), (196, .invokevirtual 414, 3), (199, .iconst 0, 1), (200, .istore_n 3, 1), (201, .iload_n 3, 1), (202, .aload_n 0, 1), (203, .getfield 382, 3), (206, .if_icmp .ge 21, 3), (209, .aload_n 0, 1), (210, .getfield 160, 3), (213, .iload_n 3, 1), (214, .aload_n 0, 1), (215, .getfield 148, 3), (218, .iload_n 3, 1), (219, .iaload, 1), (220, .iastore, 1), (221, .iinc 3 1, 3), (224, .goto (-23), 3), (227, .iconst 0, 1), (228, .istore_n 3, 1), (229, .iload_n 3, 1), (230, .bipush 8, 2), (232, .if_icmp .ge 16, 3), (235, .aload_n 0, 1), (236, .getfield 163, 3), (239, .iload_n 3, 1), (240, .iconst 0, 1), (241, .iastore, 1), (242, .iinc 3 1, 3), (245, .goto (-16), 3), (248, .iload_n 1, 1), (249, .aload_n 0, 1), (250, .getfield 424, 3), (253, .if_icmp .le 4, 3), (256, .return_, 1), (257, .aload_n 0, 1), (258, .dup, 1), (259, .getfield 427, 3), (262, .iconst 1, 1), (263, .iadd, 1), (264, .putfield 427, 3), (267, .iconst 0, 1), (268, .istore_n 3, 1), (269, .iload_n 3, 1), (270, .aload_n 0, 1), (271, .getfield 382, 3), (274, .if_icmp .ge 48, 3), (277, .aload_n 0, 1), (278, .getfield 160, 3), (281, .iload_n 3, 1), (282, .iaload, 1), (283, .aload_n 0, 1), (284, .getfield 148, 3), (287, .iload_n 3, 1), (288, .iaload, 1), (289, .if_icmp .eq 10, 3), (292, .aload_n 0, 1), (293, .getfield 160, 3), (296, .iload_n 3, 1), (297, .iconst (-1), 1), (298, .iastore, 1), (299, .aload_n 0, 1), (300, .getfield 163, 3), (303, .aload_n 0, 1), (304, .getfield 148, 3), (307, .iload_n 3, 1), (308, .iaload, 1), (309, .dup2, 1), (310, .iaload, 1), (311, .iconst 1, 1), (312, .iload_n 3, 1), (313, .ishl, 1), (314, .ior, 1), (315, .iastore, 1), (316, .iinc 3 1, 3), (319, .goto (-50), 3), (322, .return_, 1)]
theorem dt_Mo_meets (i : Nat) (q : Nat × Instr × Nat) (h : tb_Mo_meets[i]? = some q) : decode prog_14_method_73_code q.1 = .ok q.2 := jdt (by decide +kernel : tb_Mo_meets.all (fun q => decide (decode prog_14_method_73_code q.1 = .ok q.2)) = true) h
theorem ok_Mo_meets : jOKV M_Mo_meets 2 := ⟨⟨gt8 46 rfl rfl, gt1 17 rfl rfl, (by decide : "FirstInModel" ≠ "java/lang/invoke/MethodHandle"), (by decide : "FirstInModel" ≠ "java/lang/invoke/VarHandle"), (by decide +kernel : (parseMethodDescriptor "(II)V").map (fun d => d.parameters.length) = some 2)⟩, gt8 45 rfl rfl, gs_in 52 rfl, rfl, nlt rfl⟩
set_option maxRecDepth 100000 in
set_option maxHeartbeats 4000000 in
theorem c_Mo_meets {G : jG} {S : hS} {V : hV} {v0 : Option Nat} {v1 : Int32} {v2 : Int32} {res : hV} (hf : Mo_meets S v0 v1 v2 V = some res) : jC G M_Mo_meets [ar v0, ai v1, ai v2] (S, V) none (S, res) := by
  unfold Mo_meets at hf
  obtain ⟨_, _, hf⟩ := jbind hf
  refine jC_of (pf_X12 _ _) rfl (nle rfl) ?_
  show jJ G M_Mo_meets (jEnd G M_Mo_meets none (S, res)) 0 0 0 [(0, ar v0), (1, ai v1), (2, ai v2)] [] (S, V)
  refine j_aload_n (dt_Mo_meets 0 (0, .aload_n 0, 1) rfl) rfl ?_
  obtain ⟨x1, hx1, hf⟩ := jbind hf
  refine j_getI (dt_Mo_meets 1 (1, .getfield 401, 3) rfl) fl_X12_401 hx1 (fun _ _ => rfl) ?_
  refine jite hf (fun hc hf => ?_) (fun hc hf => ?_)
  · refine j_if_eq (dt_Mo_meets 2 (4, .ifCond .eq 111, 3) rfl) rfl (fun _ => ?_) (fun q => absurd hc q)
    refine j_aload_n (dt_Mo_meets 62 (115, .aload_n 0, 1) rfl) rfl ?_
    obtain ⟨x2, hx2, hf⟩ := jbind hf
    refine j_getI (dt_Mo_meets 63 (116, .getfield 418, 3) rfl) fl_X12_418 hx2 (fun _ _ => rfl) ?_
    refine j_iconst (dt_Mo_meets 64 (119, .iconst (-1), 1) rfl) ic_m1 ?_
    obtain ⟨j120, hj120, hf⟩ := jbind hf
    have hP120 : jJ G M_Mo_meets (jEnd G M_Mo_meets none (S, res)) 0 0 165 [(0, ar v0), (1, ai v1)] [] (S, j120) := by
      refine j_aload_n (dt_Mo_meets 88 (165, .aload_n 0, 1) rfl) rfl ?_
      obtain ⟨x3, hx3, hf⟩ := jbind hf
      refine j_getI (dt_Mo_meets 89 (166, .getfield 424, 3) rfl) fl_X12_424 hx3 (fun _ _ => rfl) ?_
      refine j_iconst (dt_Mo_meets 90 (169, .iconst (-1), 1) rfl) ic_m1 ?_
      obtain ⟨j170, hj170, hf⟩ := jbind hf
      have hP170 : jJ G M_Mo_meets (jEnd G M_Mo_meets none (S, res)) 0 0 248 [(0, ar v0), (1, ai v1)] [] (S, j170) := by
        refine j_iload_n (dt_Mo_meets 134 (248, .iload_n 1, 1) rfl) rfl ?_
        refine j_aload_n (dt_Mo_meets 135 (249, .aload_n 0, 1) rfl) rfl ?_
        obtain ⟨x4, hx4, hf⟩ := jbind hf
        refine j_getI (dt_Mo_meets 136 (250, .getfield 424, 3) rfl) fl_X12_424 hx4 (fun _ _ => rfl) ?_
        refine jite hf (fun hc hf => ?_) (fun hc hf => ?_)
        · refine j_icmp_le (dt_Mo_meets 137 (253, .if_icmp .le 4, 3) rfl) rfl (fun _ => ?_) (fun q => absurd hc q)
          refine j_aload_n (dt_Mo_meets 139 (257, .aload_n 0, 1) rfl) rfl ?_
          refine j_dup (dt_Mo_meets 140 (258, .dup, 1) rfl) rfl ?_
          obtain ⟨x5, hx5, hf⟩ := jbind hf
          refine j_getI (dt_Mo_meets 141 (259, .getfield 427, 3) rfl) fl_X12_427 hx5 (fun _ _ => rfl) ?_
          refine j_iconst (dt_Mo_meets 142 (262, .iconst 1, 1) rfl) ic_1 ?_
          refine j_iadd (dt_Mo_meets 143 (263, .iadd, 1) rfl) ?_
          obtain ⟨V6, hV6, hf⟩ := jbind hf
          refine j_putI (dt_Mo_meets 144 (264, .putfield 427, 3) rfl) fl_X12_427 hV6 rfl (Or.inl rfl) ?_
          refine j_iconst (dt_Mo_meets 145 (267, .iconst 0, 1) rfl) ic_0 ?_
          refine j_istore_n (dt_Mo_meets 146 (268, .istore_n 3, 1) rfl) (nlt rfl) ?_
          obtain ⟨t269, ht269, hf⟩ := jbind hf
          have hX269 : ∀ q269 : hV, q269 = t269 → jJ G M_Mo_meets (jEnd G M_Mo_meets none (S, res)) 0 0 322 [] [] (S, q269) := by
            intro q269 hq269
            subst hq269
            cases hf
            exact j_vret (dt_Mo_meets 180 (322, .return_, 1) rfl) rfl
          refine j_sub (ls' := [(0, ar v0), (3, ai 0)]) rfl ?_
          refine jloop_J (C := fun s269 => jJ G M_Mo_meets (jEnd G M_Mo_meets none (S, res)) 0 0 269 [(0, ar v0), (3, ai s269.1)] [] (S, s269.2)) (fun s269 z269_ hy269 hin269 hout269 => ?_) _ _ ht269
          unfold Mo_meets_L269 at hy269
          refine j_iload_n (dt_Mo_meets 147 (269, .iload_n 3, 1) rfl) rfl ?_
          refine j_aload_n (dt_Mo_meets 148 (270, .aload_n 0, 1) rfl) rfl ?_
          obtain ⟨x7, hx7, hy269⟩ := jbind hy269
          refine j_getI (dt_Mo_meets 149 (271, .getfield 382, 3) rfl) fl_X12_382 hx7 (fun _ _ => rfl) ?_
          refine jite hy269 (fun hc hy269 => ?_) (fun hc hy269 => ?_)
          · refine j_icmp_ge (dt_Mo_meets 150 (274, .if_icmp .ge 48, 3) rfl) rfl (fun _ => ?_) (fun q => absurd hc q)
            cases hy269
            have hz := hX269 _ (hout269 _ rfl)
            exact j_sub rfl hz
          · refine j_icmp_ge (dt_Mo_meets 150 (274, .if_icmp .ge 48, 3) rfl) rfl (fun q => absurd q hc) (fun _ => ?_)
            refine j_aload_n (dt_Mo_meets 151 (277, .aload_n 0, 1) rfl) rfl ?_
            obtain ⟨x8, hx8, hy269⟩ := jbind hy269
            refine j_getR (dt_Mo_meets 152 (278, .getfield 160, 3) rfl) fl_X12_160 hx8 (fun _ _ => rfl) ?_
            refine j_iload_n (dt_Mo_meets 153 (281, .iload_n 3, 1) rfl) rfl ?_
            obtain ⟨x9, hx9, hy269⟩ := jbind hy269
            refine j_aldI (dt_Mo_meets 154 (282, .iaload, 1) rfl) hx9 ?_
            refine j_aload_n (dt_Mo_meets 155 (283, .aload_n 0, 1) rfl) rfl ?_
            obtain ⟨x10, hx10, hy269⟩ := jbind hy269
            refine j_getR (dt_Mo_meets 156 (284, .getfield 148, 3) rfl) fl_X12_148 hx10 (fun _ _ => rfl) ?_
            refine j_iload_n (dt_Mo_meets 157 (287, .iload_n 3, 1) rfl) rfl ?_
            obtain ⟨x11, hx11, hy269⟩ := jbind hy269
            refine j_aldI (dt_Mo_meets 158 (288, .iaload, 1) rfl) hx11 ?_
            obtain ⟨j289, hj289, hy269⟩ := jbind hy269
            have hP289 : jJ G M_Mo_meets (jEnd G M_Mo_meets none (S, res)) 0 0 299 [(0, ar v0), (3, ai s269.1)] [] (S, j289) := by
              refine j_aload_n (dt_Mo_meets 165 (299, .aload_n 0, 1) rfl) rfl ?_
              obtain ⟨x12, hx12, hy269⟩ := jbind hy269
              refine j_getR (dt_Mo_meets 166 (300, .getfield 163, 3) rfl) fl_X12_163 hx12 (fun _ _ => rfl) ?_
              refine j_aload_n (dt_Mo_meets 167 (303, .aload_n 0, 1) rfl) rfl ?_
              obtain ⟨x13, hx13, hy269⟩ := jbind hy269
              refine j_getR (dt_Mo_meets 168 (304, .getfield 148, 3) rfl) fl_X12_148 hx13 (fun _ _ => rfl) ?_
              refine j_iload_n (dt_Mo_meets 169 (307, .iload_n 3, 1) rfl) rfl ?_
              obtain ⟨x14, hx14, hy269⟩ := jbind hy269
              refine j_aldI (dt_Mo_meets 170 (308, .iaload, 1) rfl) hx14 ?_
              refine j_dup2 (dt_Mo_meets 171 (309, .dup2, 1) rfl) rfl rfl ?_
              obtain ⟨x15, hx15, hy269⟩ := jbind hy269
              refine j_aldI (dt_Mo_meets 172 (310, .iaload, 1) rfl) hx15 ?_
              refine j_iconst (dt_Mo_meets 173 (311, .iconst 1, 1) rfl) ic_1 ?_
              refine j_iload_n (dt_Mo_meets 174 (312, .iload_n 3, 1) rfl) rfl ?_
              refine j_ishl (dt_Mo_meets 175 (313, .ishl, 1) rfl) ?_
              refine j_ior (dt_Mo_meets 176 (314, .ior, 1) rfl) ?_
              obtain ⟨V16, hV16, hy269⟩ := jbind hy269
              refine j_astI (dt_Mo_meets 177 (315, .iastore, 1) rfl) hV16 ?_
              refine j_iinc (dt_Mo_meets 178 (316, .iinc 3 1, 3) rfl) rfl (nlt rfl) (ii_1 _) ?_
              refine j_goto (dt_Mo_meets 179 (319, .goto (-50), 3) rfl) rfl ?_
              cases hy269
              have hz := hin269 _ rfl
              exact j_sub rfl hz
            refine jite hj289 (fun hc hj289 => ?_) (fun hc hj289 => ?_)
            · refine j_icmp_eq (dt_Mo_meets 159 (289, .if_icmp .eq 10, 3) rfl) rfl (fun _ => ?_) (fun q => absurd hc q)
              cases hj289
              exact j_sub rfl hP289
            · refine j_icmp_eq (dt_Mo_meets 159 (289, .if_icmp .eq 10, 3) rfl) rfl (fun q => absurd q hc) (fun _ => ?_)
              refine j_aload_n (dt_Mo_meets 160 (292, .aload_n 0, 1) rfl) rfl ?_
              obtain ⟨x17, hx17, hj289⟩ := jbind hj289
              refine j_getR (dt_Mo_meets 161 (293, .getfield 160, 3) rfl) fl_X12_160 hx17 (fun _ _ => rfl) ?_
              refine j_iload_n (dt_Mo_meets 162 (296, .iload_n 3, 1) rfl) rfl ?_
              refine j_iconst (dt_Mo_meets 163 (297, .iconst (-1), 1) rfl) ic_m1 ?_
              obtain ⟨V18, hV18, hj289⟩ := jbind hj289
              refine j_astI (dt_Mo_meets 164 (298, .iastore, 1) rfl) hV18 ?_
              cases hj289
              exact j_sub rfl hP289
        · refine j_icmp_le (dt_Mo_meets 137 (253, .if_icmp .le 4, 3) rfl) rfl (fun q => absurd q hc) (fun _ => ?_)
          cases hf
          exact j_vret (dt_Mo_meets 138 (256, .return_, 1) rfl) rfl
      obtain ⟨k170, hk170, hj170⟩ := jbind hj170
      have hE170 : ∀ e170 : Unit, k170 = .inl e170 → jJ G M_Mo_meets (jEnd G M_Mo_meets none (S, res)) 0 0 181 [(0, ar v0), (1, ai v1)] [] (S, j120) := by
        intro e170 he170
        subst he170
        refine j_aload_n (dt_Mo_meets 96 (181, .aload_n 0, 1) rfl) rfl ?_
        refine j_iload_n (dt_Mo_meets 97 (182, .iload_n 1, 1) rfl) rfl ?_
        obtain ⟨V19, hV19, hj170⟩ := jbind hj170
        refine j_putI (dt_Mo_meets 98 (183, .putfield 424, 3) rfl) fl_X12_424 hV19 rfl (Or.inl rfl) ?_
        refine j_aload_n (dt_Mo_meets 99 (186, .aload_n 0, 1) rfl) rfl ?_
        refine j_iconst (dt_Mo_meets 100 (187, .iconst 0, 1) rfl) ic_0 ?_
        obtain ⟨V20, hV20, hj170⟩ := jbind hj170
        refine j_putI (dt_Mo_meets 101 (188, .putfield 427, 3) rfl) fl_X12_427 hV20 rfl (Or.inl rfl) ?_
        refine j_aload_n (dt_Mo_meets 102 (191, .aload_n 0, 1) rfl) rfl ?_
        refine j_aload_n (dt_Mo_meets 103 (192, .aload_n 0, 1) rfl) rfl ?_
        obtain ⟨x21, hx21, hj170⟩ := jbind hj170
        refine j_getR (dt_Mo_meets 104 (193, .getfield 151, 3) rfl) fl_X12_151 hx21 (fun _ _ => rfl) ?_
        obtain ⟨V22, hV22, hj170⟩ := jbind hj170
        obtain ⟨b23, hb23⟩ := r_Mo_keepsIn hV22
        refine j_callV M_Mo_keepsIn 1 [ar x21] (rest := []) (dt_Mo_meets 105 (196, .invokevirtual 414, 3) rfl) ml_X12_414 ok_Mo_keepsIn (jfit rfl rfl ⟨rfl, rfl⟩ (nle rfl) (nlt rfl)) rfl rfl (nle rfl) ⟨rfl, rfl⟩ hb23 ((c_Mo_keepsIn hV22)) ?_
        refine j_iconst (dt_Mo_meets 106 (199, .iconst 0, 1) rfl) ic_0 ?_
        refine j_istore_n (dt_Mo_meets 107 (200, .istore_n 3, 1) rfl) (nlt rfl) ?_
        obtain ⟨t201, ht201, hj170⟩ := jbind hj170
        have hX201 : ∀ q201 : hV, q201 = t201 → jJ G M_Mo_meets (jEnd G M_Mo_meets none (S, res)) 0 0 227 [(0, ar v0), (1, ai v1)] [] (S, q201) := by
          intro q201 hq201
          subst hq201
          refine j_iconst (dt_Mo_meets 122 (227, .iconst 0, 1) rfl) ic_0 ?_
          refine j_istore_n (dt_Mo_meets 123 (228, .istore_n 3, 1) rfl) (nlt rfl) ?_
          obtain ⟨t229, ht229, hj170⟩ := jbind hj170
          have hX229 : ∀ q229 : hV, q229 = t229 → jJ G M_Mo_meets (jEnd G M_Mo_meets none (S, res)) 0 0 248 [(0, ar v0), (1, ai v1)] [] (S, q229) := by
            intro q229 hq229
            subst hq229
            cases hj170
            exact j_sub rfl hP170
          refine j_sub (ls' := [(0, ar v0), (1, ai v1), (3, ai 0)]) rfl ?_
          refine jloop_J (C := fun s229 => jJ G M_Mo_meets (jEnd G M_Mo_meets none (S, res)) 0 0 229 [(0, ar v0), (1, ai v1), (3, ai s229.1)] [] (S, s229.2)) (fun s229 z229_ hy229 hin229 hout229 => ?_) _ _ ht229
          unfold Mo_meets_L229 at hy229
          refine j_iload_n (dt_Mo_meets 124 (229, .iload_n 3, 1) rfl) rfl ?_
          refine j_bipush (dt_Mo_meets 125 (230, .bipush 8, 2) rfl) bp_8 ?_
          refine jite hy229 (fun hc hy229 => ?_) (fun hc hy229 => ?_)
          · refine j_icmp_ge (dt_Mo_meets 126 (232, .if_icmp .ge 16, 3) rfl) rfl (fun _ => ?_) (fun q => absurd hc q)
            cases hy229
            have hz := hX229 _ (hout229 _ rfl)
            exact j_sub rfl hz
          · refine j_icmp_ge (dt_Mo_meets 126 (232, .if_icmp .ge 16, 3) rfl) rfl (fun q => absurd q hc) (fun _ => ?_)
            refine j_aload_n (dt_Mo_meets 127 (235, .aload_n 0, 1) rfl) rfl ?_
            obtain ⟨x29, hx29, hy229⟩ := jbind hy229
            refine j_getR (dt_Mo_meets 128 (236, .getfield 163, 3) rfl) fl_X12_163 hx29 (fun _ _ => rfl) ?_
            refine j_iload_n (dt_Mo_meets 129 (239, .iload_n 3, 1) rfl) rfl ?_
            refine j_iconst (dt_Mo_meets 130 (240, .iconst 0, 1) rfl) ic_0 ?_
            obtain ⟨V30, hV30, hy229⟩ := jbind hy229
            refine j_astI (dt_Mo_meets 131 (241, .iastore, 1) rfl) hV30 ?_
            refine j_iinc (dt_Mo_meets 132 (242, .iinc 3 1, 3) rfl) rfl (nlt rfl) (ii_1 _) ?_
            refine j_goto (dt_Mo_meets 133 (245, .goto (-16), 3) rfl) rfl ?_
            cases hy229
            have hz := hin229 _ rfl
            exact j_sub rfl hz
        refine j_sub (ls' := [(0, ar v0), (1, ai v1), (3, ai 0)]) rfl ?_
        refine jloop_J (C := fun s201 => jJ G M_Mo_meets (jEnd G M_Mo_meets none (S, res)) 0 0 201 [(0, ar v0), (1, ai v1), (3, ai s201.1)] [] (S, s201.2)) (fun s201 z201_ hy201 hin201 hout201 => ?_) _ _ ht201
        unfold Mo_meets_L201 at hy201
        refine j_iload_n (dt_Mo_meets 108 (201, .iload_n 3, 1) rfl) rfl ?_
        refine j_aload_n (dt_Mo_meets 109 (202, .aload_n 0, 1) rfl) rfl ?_
        obtain ⟨x24, hx24, hy201⟩ := jbind hy201
        refine j_getI (dt_Mo_meets 110 (203, .getfield 382, 3) rfl) fl_X12_382 hx24 (fun _ _ => rfl) ?_
        refine jite hy201 (fun hc hy201 => ?_) (fun hc hy201 => ?_)
        · refine j_icmp_ge (dt_Mo_meets 111 (206, .if_icmp .ge 21, 3) rfl) rfl (fun _ => ?_) (fun q => absurd hc q)
          cases hy201
          have hz := hX201 _ (hout201 _ rfl)
          exact j_sub rfl hz
        · refine j_icmp_ge (dt_Mo_meets 111 (206, .if_icmp .ge 21, 3) rfl) rfl (fun q => absurd q hc) (fun _ => ?_)
          refine j_aload_n (dt_Mo_meets 112 (209, .aload_n 0, 1) rfl) rfl ?_
          obtain ⟨x25, hx25, hy201⟩ := jbind hy201
          refine j_getR (dt_Mo_meets 113 (210, .getfield 160, 3) rfl) fl_X12_160 hx25 (fun _ _ => rfl) ?_
          refine j_iload_n (dt_Mo_meets 114 (213, .iload_n 3, 1) rfl) rfl ?_
          refine j_aload_n (dt_Mo_meets 115 (214, .aload_n 0, 1) rfl) rfl ?_
          obtain ⟨x26, hx26, hy201⟩ := jbind hy201
          refine j_getR (dt_Mo_meets 116 (215, .getfield 148, 3) rfl) fl_X12_148 hx26 (fun _ _ => rfl) ?_
          refine j_iload_n (dt_Mo_meets 117 (218, .iload_n 3, 1) rfl) rfl ?_
          obtain ⟨x27, hx27, hy201⟩ := jbind hy201
          refine j_aldI (dt_Mo_meets 118 (219, .iaload, 1) rfl) hx27 ?_
          obtain ⟨V28, hV28, hy201⟩ := jbind hy201
          refine j_astI (dt_Mo_meets 119 (220, .iastore, 1) rfl) hV28 ?_
          refine j_iinc (dt_Mo_meets 120 (221, .iinc 3 1, 3) rfl) rfl (nlt rfl) (ii_1 _) ?_
          refine j_goto (dt_Mo_meets 121 (224, .goto (-23), 3) rfl) rfl ?_
          cases hy201
          have hz := hin201 _ rfl
          exact j_sub rfl hz
      refine jite hk170 (fun hc hk170 => ?_) (fun hc hk170 => ?_)
      · refine j_icmp_eq (dt_Mo_meets 91 (170, .if_icmp .eq 11, 3) rfl) rfl (fun _ => ?_) (fun q => absurd hc q)
        cases hk170
        have hz := hE170 _ rfl
        exact j_sub rfl hz
      · refine j_icmp_eq (dt_Mo_meets 91 (170, .if_icmp .eq 11, 3) rfl) rfl (fun q => absurd q hc) (fun _ => ?_)
        refine j_iload_n (dt_Mo_meets 92 (173, .iload_n 1, 1) rfl) rfl ?_
        refine j_aload_n (dt_Mo_meets 93 (174, .aload_n 0, 1) rfl) rfl ?_
        obtain ⟨x31, hx31, hk170⟩ := jbind hk170
        refine j_getI (dt_Mo_meets 94 (175, .getfield 424, 3) rfl) fl_X12_424 hx31 (fun _ _ => rfl) ?_
        refine jite hk170 (fun hc hk170 => ?_) (fun hc hk170 => ?_)
        · refine j_icmp_ge (dt_Mo_meets 95 (178, .if_icmp .ge 70, 3) rfl) rfl (fun _ => ?_) (fun q => absurd hc q)
          cases hk170
          cases hj170
          exact j_sub rfl hP170
        · refine j_icmp_ge (dt_Mo_meets 95 (178, .if_icmp .ge 70, 3) rfl) rfl (fun q => absurd q hc) (fun _ => ?_)
          cases hk170
          have hz := hE170 _ rfl
          exact j_sub rfl hz
    obtain ⟨k120, hk120, hj120⟩ := jbind hj120
    have hE120 : ∀ e120 : Unit, k120 = .inl e120 → jJ G M_Mo_meets (jEnd G M_Mo_meets none (S, res)) 0 0 147 [(0, ar v0), (1, ai v1), (2, ai v2)] [] (S, V) := by
      intro e120 he120
      subst he120
      refine j_aload_n (dt_Mo_meets 78 (147, .aload_n 0, 1) rfl) rfl ?_
      refine j_iload_n (dt_Mo_meets 79 (148, .iload_n 2, 1) rfl) rfl ?_
      obtain ⟨V32, hV32, hj120⟩ := jbind hj120
      refine j_putI (dt_Mo_meets 80 (149, .putfield 418, 3) rfl) fl_X12_418 hV32 rfl (Or.inl rfl) ?_
      refine j_aload_n (dt_Mo_meets 81 (152, .aload_n 0, 1) rfl) rfl ?_
      refine j_iload_n (dt_Mo_meets 82 (153, .iload_n 1, 1) rfl) rfl ?_
      obtain ⟨V33, hV33, hj120⟩ := jbind hj120
      refine j_putI (dt_Mo_meets 83 (154, .putfield 421, 3) rfl) fl_X12_421 hV33 rfl (Or.inl rfl) ?_
      refine j_aload_n (dt_Mo_meets 84 (157, .aload_n 0, 1) rfl) rfl ?_
      refine j_aload_n (dt_Mo_meets 85 (158, .aload_n 0, 1) rfl) rfl ?_
      obtain ⟨x34, hx34, hj120⟩ := jbind hj120
      refine j_getR (dt_Mo_meets 86 (159, .getfield 154, 3) rfl) fl_X12_154 hx34 (fun _ _ => rfl) ?_
      obtain ⟨V35, hV35, hj120⟩ := jbind hj120
      obtain ⟨b36, hb36⟩ := r_Mo_keepsIn hV35
      refine j_callV M_Mo_keepsIn 1 [ar x34] (rest := []) (dt_Mo_meets 87 (162, .invokevirtual 414, 3) rfl) ml_X12_414 ok_Mo_keepsIn (jfit rfl rfl ⟨rfl, rfl⟩ (nle rfl) (nlt rfl)) rfl rfl (nle rfl) ⟨rfl, rfl⟩ hb36 ((c_Mo_keepsIn hV35)) ?_
      cases hj120
      exact j_sub rfl hP120
    refine jite hk120 (fun hc hk120 => ?_) (fun hc hk120 => ?_)
    · refine j_icmp_eq (dt_Mo_meets 65 (120, .if_icmp .eq 27, 3) rfl) rfl (fun _ => ?_) (fun q => absurd hc q)
      cases hk120
      have hz := hE120 _ rfl
      exact j_sub rfl hz
    · refine j_icmp_eq (dt_Mo_meets 65 (120, .if_icmp .eq 27, 3) rfl) rfl (fun q => absurd q hc) (fun _ => ?_)
      refine j_iload_n (dt_Mo_meets 66 (123, .iload_n 2, 1) rfl) rfl ?_
      refine j_aload_n (dt_Mo_meets 67 (124, .aload_n 0, 1) rfl) rfl ?_
      obtain ⟨x37, hx37, hk120⟩ := jbind hk120
      refine j_getI (dt_Mo_meets 68 (125, .getfield 418, 3) rfl) fl_X12_418 hx37 (fun _ _ => rfl) ?_
      refine jite hk120 (fun hc hk120 => ?_) (fun hc hk120 => ?_)
      · refine j_icmp_lt (dt_Mo_meets 69 (128, .if_icmp .lt 19, 3) rfl) rfl (fun _ => ?_) (fun q => absurd hc q)
        cases hk120
        have hz := hE120 _ rfl
        exact j_sub rfl hz
      · refine j_icmp_lt (dt_Mo_meets 69 (128, .if_icmp .lt 19, 3) rfl) rfl (fun q => absurd q hc) (fun _ => ?_)
        refine j_iload_n (dt_Mo_meets 70 (131, .iload_n 2, 1) rfl) rfl ?_
        refine j_aload_n (dt_Mo_meets 71 (132, .aload_n 0, 1) rfl) rfl ?_
        obtain ⟨x38, hx38, hk120⟩ := jbind hk120
        refine j_getI (dt_Mo_meets 72 (133, .getfield 418, 3) rfl) fl_X12_418 hx38 (fun _ _ => rfl) ?_
        refine jite hk120 (fun hc hk120 => ?_) (fun hc hk120 => ?_)
        · refine j_icmp_ne (dt_Mo_meets 73 (136, .if_icmp .ne 29, 3) rfl) rfl (fun q => absurd hc q) (fun _ => ?_)
          refine j_iload_n (dt_Mo_meets 74 (139, .iload_n 1, 1) rfl) rfl ?_
          refine j_aload_n (dt_Mo_meets 75 (140, .aload_n 0, 1) rfl) rfl ?_
          obtain ⟨x39, hx39, hk120⟩ := jbind hk120
          refine j_getI (dt_Mo_meets 76 (141, .getfield 421, 3) rfl) fl_X12_421 hx39 (fun _ _ => rfl) ?_
          refine jite hk120 (fun hc hk120 => ?_) (fun hc hk120 => ?_)
          · refine j_icmp_ge (dt_Mo_meets 77 (144, .if_icmp .ge 21, 3) rfl) rfl (fun _ => ?_) (fun q => absurd hc q)
            cases hk120
            cases hj120
            exact j_sub rfl hP120
          · refine j_icmp_ge (dt_Mo_meets 77 (144, .if_icmp .ge 21, 3) rfl) rfl (fun q => absurd q hc) (fun _ => ?_)
            cases hk120
            have hz := hE120 _ rfl
            exact j_sub rfl hz
        · refine j_icmp_ne (dt_Mo_meets 73 (136, .if_icmp .ne 29, 3) rfl) rfl (fun _ => ?_) (fun q => absurd q hc)
          cases hk120
          cases hj120
          exact j_sub rfl hP120
  · refine j_if_eq (dt_Mo_meets 2 (4, .ifCond .eq 111, 3) rfl) rfl (fun q => absurd q hc) (fun _ => ?_)
    refine j_iconst (dt_Mo_meets 3 (7, .iconst 0, 1) rfl) ic_0 ?_
    refine j_istore_n (dt_Mo_meets 4 (8, .istore_n 3, 1) rfl) (nlt rfl) ?_
    refine j_iconst (dt_Mo_meets 5 (9, .iconst 0, 1) rfl) ic_0 ?_
    refine j_istore (dt_Mo_meets 6 (10, .istore 4, 2) rfl) (nlt rfl) ?_
    obtain ⟨t12, ht12, hf⟩ := jbind hf
    have hX12 : ∀ q12 : Int32, q12 = t12 → jJ G M_Mo_meets (jEnd G M_Mo_meets none (S, res)) 0 0 76 [(0, ar v0), (1, ai v1), (3, ai q12)] [] (S, V) := by
      intro q12 hq12
      subst hq12
      refine j_iload_n (dt_Mo_meets 41 (76, .iload_n 1, 1) rfl) rfl ?_
      refine j_aload_n (dt_Mo_meets 42 (77, .aload_n 0, 1) rfl) rfl ?_
      obtain ⟨x52, hx52, hf⟩ := jbind hf
      refine j_getI (dt_Mo_meets 43 (78, .getfield 408, 3) rfl) fl_X12_408 hx52 (fun _ _ => rfl) ?_
      refine jite hf (fun hc hf => ?_) (fun hc hf => ?_)
      · refine j_icmp_gt (dt_Mo_meets 44 (81, .if_icmp .gt 19, 3) rfl) rfl (fun _ => ?_) (fun q => absurd hc q)
        cases hf
        exact j_vret (dt_Mo_meets 53 (100, .return_, 1) rfl) rfl
      · refine j_icmp_gt (dt_Mo_meets 44 (81, .if_icmp .gt 19, 3) rfl) rfl (fun q => absurd q hc) (fun _ => ?_)
        refine j_aload_n (dt_Mo_meets 45 (84, .aload_n 0, 1) rfl) rfl ?_
        obtain ⟨x53, hx53, hf⟩ := jbind hf
        refine j_getI (dt_Mo_meets 46 (85, .getfield 411, 3) rfl) fl_X12_411 hx53 (fun _ _ => rfl) ?_
        refine j_iconst (dt_Mo_meets 47 (88, .iconst (-1), 1) rfl) ic_m1 ?_
        obtain ⟨k89, hk89, hf⟩ := jbind hf
        have hE89 : ∀ e89 : Unit, k89 = .inl e89 → jJ G M_Mo_meets (jEnd G M_Mo_meets none (S, res)) 0 0 101 [(0, ar v0), (3, ai q12)] [] (S, V) := by
          intro e89 he89
          subst he89
          refine j_aload_n (dt_Mo_meets 54 (101, .aload_n 0, 1) rfl) rfl ?_
          refine j_iload_n (dt_Mo_meets 55 (102, .iload_n 3, 1) rfl) rfl ?_
          obtain ⟨V54, hV54, hf⟩ := jbind hf
          refine j_putI (dt_Mo_meets 56 (103, .putfield 411, 3) rfl) fl_X12_411 hV54 rfl (Or.inl rfl) ?_
          refine j_aload_n (dt_Mo_meets 57 (106, .aload_n 0, 1) rfl) rfl ?_
          refine j_aload_n (dt_Mo_meets 58 (107, .aload_n 0, 1) rfl) rfl ?_
          obtain ⟨x55, hx55, hf⟩ := jbind hf
          refine j_getR (dt_Mo_meets 59 (108, .getfield 157, 3) rfl) fl_X12_157 hx55 (fun _ _ => rfl) ?_
          obtain ⟨V56, hV56, hf⟩ := jbind hf
          obtain ⟨b57, hb57⟩ := r_Mo_keepsIn hV56
          refine j_callV M_Mo_keepsIn 1 [ar x55] (rest := []) (dt_Mo_meets 60 (111, .invokevirtual 414, 3) rfl) ml_X12_414 ok_Mo_keepsIn (jfit rfl rfl ⟨rfl, rfl⟩ (nle rfl) (nlt rfl)) rfl rfl (nle rfl) ⟨rfl, rfl⟩ hb57 ((c_Mo_keepsIn hV56)) ?_
          cases hf
          exact j_vret (dt_Mo_meets 61 (114, .return_, 1) rfl) rfl
        refine jite hk89 (fun hc hk89 => ?_) (fun hc hk89 => ?_)
        · refine j_icmp_eq (dt_Mo_meets 48 (89, .if_icmp .eq 12, 3) rfl) rfl (fun _ => ?_) (fun q => absurd hc q)
          cases hk89
          have hz := hE89 _ rfl
          exact j_sub rfl hz
        · refine j_icmp_eq (dt_Mo_meets 48 (89, .if_icmp .eq 12, 3) rfl) rfl (fun q => absurd q hc) (fun _ => ?_)
          refine j_iload_n (dt_Mo_meets 49 (92, .iload_n 3, 1) rfl) rfl ?_
          refine j_aload_n (dt_Mo_meets 50 (93, .aload_n 0, 1) rfl) rfl ?_
          obtain ⟨x58, hx58, hk89⟩ := jbind hk89
          refine j_getI (dt_Mo_meets 51 (94, .getfield 411, 3) rfl) fl_X12_411 hx58 (fun _ _ => rfl) ?_
          refine jite hk89 (fun hc hk89 => ?_) (fun hc hk89 => ?_)
          · refine j_icmp_lt (dt_Mo_meets 52 (97, .if_icmp .lt 4, 3) rfl) rfl (fun _ => ?_) (fun q => absurd hc q)
            cases hk89
            have hz := hE89 _ rfl
            exact j_sub rfl hz
          · refine j_icmp_lt (dt_Mo_meets 52 (97, .if_icmp .lt 4, 3) rfl) rfl (fun q => absurd q hc) (fun _ => ?_)
            cases hk89
            cases hf
            exact j_vret (dt_Mo_meets 53 (100, .return_, 1) rfl) rfl
    refine j_sub (ls' := [(0, ar v0), (1, ai v1), (3, ai 0), (4, ai 0)]) rfl ?_
    refine jloop_J (C := fun s12 => jJ G M_Mo_meets (jEnd G M_Mo_meets none (S, res)) 0 0 12 [(0, ar v0), (1, ai v1), (3, ai s12.1), (4, ai s12.2)] [] (S, V)) (fun s12 z12_ hy12 hin12 hout12 => ?_) _ _ ht12
    unfold Mo_meets_L12 at hy12
    refine j_iload (dt_Mo_meets 7 (12, .iload 4, 2) rfl) rfl ?_
    refine j_aload_n (dt_Mo_meets 8 (14, .aload_n 0, 1) rfl) rfl ?_
    obtain ⟨x40, hx40, hy12⟩ := jbind hy12
    refine j_getI (dt_Mo_meets 9 (15, .getfield 382, 3) rfl) fl_X12_382 hx40 (fun _ _ => rfl) ?_
    refine jite hy12 (fun hc hy12 => ?_) (fun hc hy12 => ?_)
    · refine j_icmp_ge (dt_Mo_meets 10 (18, .if_icmp .ge 58, 3) rfl) rfl (fun _ => ?_) (fun q => absurd hc q)
      cases hy12
      have hz := hX12 _ (hout12 _ rfl)
      exact j_sub rfl hz
    · refine j_icmp_ge (dt_Mo_meets 10 (18, .if_icmp .ge 58, 3) rfl) rfl (fun q => absurd q hc) (fun _ => ?_)
      refine j_iload_n (dt_Mo_meets 11 (21, .iload_n 3, 1) rfl) rfl ?_
      refine j_aload_n (dt_Mo_meets 12 (22, .aload_n 0, 1) rfl) rfl ?_
      obtain ⟨x41, hx41, hy12⟩ := jbind hy12
      refine j_getR (dt_Mo_meets 13 (23, .getfield 87, 3) rfl) fl_X12_87 hx41 (fun _ _ => rfl) ?_
      refine j_aload_n (dt_Mo_meets 14 (26, .aload_n 0, 1) rfl) rfl ?_
      obtain ⟨x42, hx42, hy12⟩ := jbind hy12
      refine j_getR (dt_Mo_meets 15 (27, .getfield 136, 3) rfl) fl_X12_136 hx42 (fun _ _ => rfl) ?_
      refine j_iload (dt_Mo_meets 16 (30, .iload 4, 2) rfl) rfl ?_
      obtain ⟨x43, hx43, hy12⟩ := jbind hy12
      refine j_aldI (dt_Mo_meets 17 (32, .iaload, 1) rfl) hx43 ?_
      obtain ⟨x44, hx44, hy12⟩ := jbind hy12
      refine j_aldI (dt_Mo_meets 18 (33, .iaload, 1) rfl) hx44 ?_
      refine j_aload_n (dt_Mo_meets 19 (34, .aload_n 0, 1) rfl) rfl ?_
      obtain ⟨x45, hx45, hy12⟩ := jbind hy12
      refine j_getI (dt_Mo_meets 20 (35, .getfield 405, 3) rfl) fl_X12_405 hx45 (fun _ _ => rfl) ?_
      refine jite hy12 (fun hc hy12 => ?_) (fun hc hy12 => ?_)
      · refine j_icmp_ne (dt_Mo_meets 21 (38, .if_icmp .ne 29, 3) rfl) rfl (fun q => absurd hc q) (fun _ => ?_)
        refine j_aload_n (dt_Mo_meets 22 (41, .aload_n 0, 1) rfl) rfl ?_
        obtain ⟨x46, hx46, hy12⟩ := jbind hy12
        refine j_getR (dt_Mo_meets 23 (42, .getfield 90, 3) rfl) fl_X12_90 hx46 (fun _ _ => rfl) ?_
        refine j_aload_n (dt_Mo_meets 24 (45, .aload_n 0, 1) rfl) rfl ?_
        obtain ⟨x47, hx47, hy12⟩ := jbind hy12
        refine j_getR (dt_Mo_meets 25 (46, .getfield 136, 3) rfl) fl_X12_136 hx47 (fun _ _ => rfl) ?_
        refine j_iload (dt_Mo_meets 26 (49, .iload 4, 2) rfl) rfl ?_
        obtain ⟨x48, hx48, hy12⟩ := jbind hy12
        refine j_aldI (dt_Mo_meets 27 (51, .iaload, 1) rfl) hx48 ?_
        obtain ⟨x49, hx49, hy12⟩ := jbind hy12
        refine j_aldI (dt_Mo_meets 28 (52, .iaload, 1) rfl) hx49 ?_
        refine j_aload_n (dt_Mo_meets 29 (53, .aload_n 0, 1) rfl) rfl ?_
        obtain ⟨x50, hx50, hy12⟩ := jbind hy12
        refine j_getR (dt_Mo_meets 30 (54, .getfield 148, 3) rfl) fl_X12_148 hx50 (fun _ _ => rfl) ?_
        refine j_iload (dt_Mo_meets 31 (57, .iload 4, 2) rfl) rfl ?_
        obtain ⟨x51, hx51, hy12⟩ := jbind hy12
        refine j_aldI (dt_Mo_meets 32 (59, .iaload, 1) rfl) hx51 ?_
        refine jite hy12 (fun hc hy12 => ?_) (fun hc hy12 => ?_)
        · refine j_icmp_eq (dt_Mo_meets 33 (60, .if_icmp .eq 7, 3) rfl) rfl (fun _ => ?_) (fun q => absurd hc q)
          refine j_iconst (dt_Mo_meets 36 (67, .iconst 0, 1) rfl) ic_0 ?_
          refine j_iadd (dt_Mo_meets 37 (68, .iadd, 1) rfl) ?_
          refine j_istore_n (dt_Mo_meets 38 (69, .istore_n 3, 1) rfl) (nlt rfl) ?_
          refine j_iinc (dt_Mo_meets 39 (70, .iinc 4 1, 3) rfl) rfl (nlt rfl) (ii_1 _) ?_
          refine j_goto (dt_Mo_meets 40 (73, .goto (-61), 3) rfl) rfl ?_
          cases hy12
          have hz := hin12 _ rfl
          exact j_sub rfl hz
        · refine j_icmp_eq (dt_Mo_meets 33 (60, .if_icmp .eq 7, 3) rfl) rfl (fun q => absurd q hc) (fun _ => ?_)
          refine j_iconst (dt_Mo_meets 34 (63, .iconst 1, 1) rfl) ic_1 ?_
          refine j_goto (dt_Mo_meets 35 (64, .goto 4, 3) rfl) rfl ?_
          refine j_iadd (dt_Mo_meets 37 (68, .iadd, 1) rfl) ?_
          refine j_istore_n (dt_Mo_meets 38 (69, .istore_n 3, 1) rfl) (nlt rfl) ?_
          refine j_iinc (dt_Mo_meets 39 (70, .iinc 4 1, 3) rfl) rfl (nlt rfl) (ii_1 _) ?_
          refine j_goto (dt_Mo_meets 40 (73, .goto (-61), 3) rfl) rfl ?_
          cases hy12
          have hz := hin12 _ rfl
          exact j_sub rfl hz
      · refine j_icmp_ne (dt_Mo_meets 21 (38, .if_icmp .ne 29, 3) rfl) rfl (fun _ => ?_) (fun q => absurd q hc)
        refine j_iconst (dt_Mo_meets 36 (67, .iconst 0, 1) rfl) ic_0 ?_
        refine j_iadd (dt_Mo_meets 37 (68, .iadd, 1) rfl) ?_
        refine j_istore_n (dt_Mo_meets 38 (69, .istore_n 3, 1) rfl) (nlt rfl) ?_
        refine j_iinc (dt_Mo_meets 39 (70, .iinc 4 1, 3) rfl) rfl (nlt rfl) (ii_1 _) ?_
        refine j_goto (dt_Mo_meets 40 (73, .goto (-61), 3) rfl) rfl ?_
        cases hy12
        have hz := hin12 _ rfl
        exact j_sub rfl hz
theorem r_Mo_meets {S : hS} {V : hV} {v0 : Option Nat} {v1 : Int32} {v2 : Int32} {res : hV} (hf : Mo_meets S v0 v1 v2 V = some res) : ∃ b, rc S 12 v0 = some b := by
  unfold Mo_meets at hf
  obtain ⟨b, hb, _⟩ := jbind hf
  exact ⟨b, hb⟩
