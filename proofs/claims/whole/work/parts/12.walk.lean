/-! ===== walks ===== -/
def tb_Mo_slights : List (Nat × Instr × Nat) := [(0, .aload_n 0, 1), (1, .iload_n 1, 1), (2, .invokevirtual 297, 3), (5, .ifCond .eq 23, 3), (8, .aload_n 0, 1), (9, .iload_n 2, 1), (10, .invokevirtual 307, 3), (13, .ifCond .eq 15, 3), (16, .iload_n 3, 1), (17, .i2l, 1), (18, .lconst 0, 1), (19, .ldc2_w 328, 3), (22, .invokestatic 183, 3), (25, .ifCond .ne 5, 3), (28, .iconst (-1), 1), (29, .ireturn, 1), (30, .aload_n 0, 1), (31, .iload_n 1, 1), (32, .iload_n 2, 1), (33, .iconst 0, 1), (34, .invokevirtual 330, 3), (37, .iconst 0, 1), (38, .istore 4, 2), (40, .iconst 0, 1), (41, .istore 5, 2), (43, .iconst 0, 1), (44, .istore 6, 2), (46, .iload 6, 2), (48, .aload_n 0, 1), (49, .getfield 317, 3), (52, .if_icmp .ge 49, 3), (55, .iload 4, 2), (57, .aload_n 0, 1), (58, .getfield 35, 3), (61, .iconst 0, 1), (62, .aaload, 1), (63, .aload_n 0, 1), (64, .getfield 99, 3), (67, .iload 6, 2), (69, .iaload, 1), (70, .iaload, 1), (71, .iadd, 1), (72, .istore 4, 2), (74, .iload 5, 2), (76, .aload_n 0, 1), (77, .getfield 35, 3), (80, .iconst 0, 1), (81, .aaload, 1), (82, .aload_n 0, 1), (83, .getfield 99, 3), (86, .iload 6, 2), (88, .iaload, 1), (89, .iaload, 1), (90, .invokestatic 334, 3), (93, .istore 5, 2), (95, .iinc 6 1, 3), (98, .goto (-52), 3), (101, .iload_n 3, 1), (102, .ifCond .ne 8, 3), (105, .iload 4, 2), (107, .goto 17, 3), (110, .iload_n 3, 1), (111, .iconst 1, 1), (112, .if_icmp .ne 10, 3), (115, .aload_n 0, 1), (116, .getfield 317, 3), (119, .goto 5, 3), (122, .iload 5, 2), (124, .ireturn, 1)]
theorem dt_Mo_slights (i : Nat) (q : Nat × Instr × Nat) (h : tb_Mo_slights[i]? = some q) : decode prog_14_method_47_code q.1 = .ok q.2 := jdt (by decide +kernel : tb_Mo_slights.all (fun q => decide (decode prog_14_method_47_code q.1 = .ok q.2)) = true) h
theorem ok_Mo_slights : jOKV M_Mo_slights 3 := ⟨⟨gt7 144 rfl rfl, gt1 17 rfl rfl, (by decide : "FirstInModel" ≠ "java/lang/invoke/MethodHandle"), (by decide : "FirstInModel" ≠ "java/lang/invoke/VarHandle"), (by decide +kernel : (parseMethodDescriptor "(III)I").map (fun d => d.parameters.length) = some 3)⟩, gt7 142 rfl rfl, gt7 143 rfl rfl, rfl, nlt rfl⟩
set_option maxRecDepth 100000 in
set_option maxHeartbeats 4000000 in
theorem c_Mo_slights {G : jG} {S : hS} {V : hV} {v0 : Option Nat} {v1 : Int32} {v2 : Int32} {v3 : Int32} {res : Int32 × hV} (hf : Mo_slights S v0 v1 v2 v3 V = some res) : jC G M_Mo_slights [ar v0, ai v1, ai v2, ai v3] (S, V) (some (ai res.1)) (S, res.2) := by
  unfold Mo_slights at hf
  obtain ⟨_, _, hf⟩ := jbind hf
  refine jC_of (pf_X12 _ _) rfl (nle rfl) ?_
  show jJ G M_Mo_slights (jEnd G M_Mo_slights (some (ai res.1)) (S, res.2)) 0 0 0 [(0, ar v0), (1, ai v1), (2, ai v2), (3, ai v3)] [] (S, V)
  refine j_aload_n (dt_Mo_slights 0 (0, .aload_n 0, 1) rfl) rfl ?_
  refine j_iload_n (dt_Mo_slights 1 (1, .iload_n 1, 1) rfl) rfl ?_
  obtain ⟨x1, hx1, hf⟩ := jbind hf
  obtain ⟨b2, hb2⟩ := r_Mo_isRoom hx1
  refine j_callV M_Mo_isRoom 1 [ai v1] (rest := []) (dt_Mo_slights 2 (2, .invokevirtual 297, 3) rfl) ml_X12_297 ok_Mo_isRoom (jfit rfl rfl ⟨rfl, rfl⟩ (nle rfl) (nlt rfl)) rfl rfl (nle rfl) ⟨rfl, rfl⟩ hb2 ((c_Mo_isRoom hx1)) ?_
  refine jite hf (fun hc hf => ?_) (fun hc hf => ?_)
  · refine j_if_eq (dt_Mo_slights 3 (5, .ifCond .eq 23, 3) rfl) rfl (fun _ => ?_) (fun q => absurd hc q)
    refine j_iconst (dt_Mo_slights 14 (28, .iconst (-1), 1) rfl) ic_m1 ?_
    cases hf
    exact j_iret (dt_Mo_slights 15 (29, .ireturn, 1) rfl) rfl
  · refine j_if_eq (dt_Mo_slights 3 (5, .ifCond .eq 23, 3) rfl) rfl (fun q => absurd q hc) (fun _ => ?_)
    refine j_aload_n (dt_Mo_slights 4 (8, .aload_n 0, 1) rfl) rfl ?_
    refine j_iload_n (dt_Mo_slights 5 (9, .iload_n 2, 1) rfl) rfl ?_
    obtain ⟨x3, hx3, hf⟩ := jbind hf
    obtain ⟨b4, hb4⟩ := r_Mo_isCourse hx3
    refine j_callV M_Mo_isCourse 1 [ai v2] (rest := []) (dt_Mo_slights 6 (10, .invokevirtual 307, 3) rfl) ml_X12_307 ok_Mo_isCourse (jfit rfl rfl ⟨rfl, rfl⟩ (nle rfl) (nlt rfl)) rfl rfl (nle rfl) ⟨rfl, rfl⟩ hb4 ((c_Mo_isCourse hx3)) ?_
    refine jite hf (fun hc hf => ?_) (fun hc hf => ?_)
    · refine j_if_eq (dt_Mo_slights 7 (13, .ifCond .eq 15, 3) rfl) rfl (fun _ => ?_) (fun q => absurd hc q)
      refine j_iconst (dt_Mo_slights 14 (28, .iconst (-1), 1) rfl) ic_m1 ?_
      cases hf
      exact j_iret (dt_Mo_slights 15 (29, .ireturn, 1) rfl) rfl
    · refine j_if_eq (dt_Mo_slights 7 (13, .ifCond .eq 15, 3) rfl) rfl (fun q => absurd q hc) (fun _ => ?_)
      refine j_iload_n (dt_Mo_slights 8 (16, .iload_n 3, 1) rfl) rfl ?_
      refine j_i2l (dt_Mo_slights 9 (17, .i2l, 1) rfl) ?_
      refine j_lconst (dt_Mo_slights 10 (18, .lconst 0, 1) rfl) lc_0 ?_
      refine j_ldc2 2 (dt_Mo_slights 11 (19, .ldc2_w 328, 3) rfl) (gt7 145 rfl rfl) ?_
      refine j_callS M_Mo_in 3 [al ((v3 : Int32).toInt64), al 0, al 2] (rest := []) (dt_Mo_slights 12 (22, .invokestatic 183, 3) rfl) ml_X12_183 ok_Mo_in (jfit rfl rfl ⟨rfl, rfl⟩ (nle rfl) (nlt rfl)) rfl rfl (nle rfl) ⟨rfl, rfl⟩ (c_Mo_in rfl) ?_
      refine jite hf (fun hc hf => ?_) (fun hc hf => ?_)
      · refine j_if_ne (dt_Mo_slights 13 (25, .ifCond .ne 5, 3) rfl) rfl (fun q => absurd hc q) (fun _ => ?_)
        refine j_iconst (dt_Mo_slights 14 (28, .iconst (-1), 1) rfl) ic_m1 ?_
        cases hf
        exact j_iret (dt_Mo_slights 15 (29, .ireturn, 1) rfl) rfl
      · refine j_if_ne (dt_Mo_slights 13 (25, .ifCond .ne 5, 3) rfl) rfl (fun _ => ?_) (fun q => absurd q hc)
        refine j_aload_n (dt_Mo_slights 16 (30, .aload_n 0, 1) rfl) rfl ?_
        refine j_iload_n (dt_Mo_slights 17 (31, .iload_n 1, 1) rfl) rfl ?_
        refine j_iload_n (dt_Mo_slights 18 (32, .iload_n 2, 1) rfl) rfl ?_
        refine j_iconst (dt_Mo_slights 19 (33, .iconst 0, 1) rfl) ic_0 ?_
        obtain ⟨V5, hV5, hf⟩ := jbind hf
        obtain ⟨b6, hb6⟩ := r_Mo_finds hV5
        refine j_callV M_Mo_finds 3 [ai v1, ai v2, ai 0] (rest := []) (dt_Mo_slights 20 (34, .invokevirtual 330, 3) rfl) ml_X12_330 ok_Mo_finds (jfit rfl rfl ⟨rfl, rfl⟩ (nle rfl) (nlt rfl)) rfl rfl (nle rfl) ⟨rfl, rfl⟩ hb6 ((c_Mo_finds hV5)) ?_
        refine j_iconst (dt_Mo_slights 21 (37, .iconst 0, 1) rfl) ic_0 ?_
        refine j_istore (dt_Mo_slights 22 (38, .istore 4, 2) rfl) (nlt rfl) ?_
        refine j_iconst (dt_Mo_slights 23 (40, .iconst 0, 1) rfl) ic_0 ?_
        refine j_istore (dt_Mo_slights 24 (41, .istore 5, 2) rfl) (nlt rfl) ?_
        refine j_iconst (dt_Mo_slights 25 (43, .iconst 0, 1) rfl) ic_0 ?_
        refine j_istore (dt_Mo_slights 26 (44, .istore 6, 2) rfl) (nlt rfl) ?_
        obtain ⟨t46, ht46, hf⟩ := jbind hf
        have hX46 : ∀ q46 : Int32 × Int32, q46 = t46 → jJ G M_Mo_slights (jEnd G M_Mo_slights (some (ai res.1)) (S, res.2)) 0 0 101 [(0, ar v0), (3, ai v3), (4, ai q46.1), (5, ai q46.2)] [] (S, V5) := by
          intro q46 hq46
          subst hq46
          refine j_iload_n (dt_Mo_slights 57 (101, .iload_n 3, 1) rfl) rfl ?_
          refine jite hf (fun hc hf => ?_) (fun hc hf => ?_)
          · refine j_if_ne (dt_Mo_slights 58 (102, .ifCond .ne 8, 3) rfl) rfl (fun q => absurd hc q) (fun _ => ?_)
            refine j_iload (dt_Mo_slights 59 (105, .iload 4, 2) rfl) rfl ?_
            refine j_goto (dt_Mo_slights 60 (107, .goto 17, 3) rfl) rfl ?_
            cases hf
            exact j_iret (dt_Mo_slights 68 (124, .ireturn, 1) rfl) rfl
          · refine j_if_ne (dt_Mo_slights 58 (102, .ifCond .ne 8, 3) rfl) rfl (fun _ => ?_) (fun q => absurd q hc)
            refine j_iload_n (dt_Mo_slights 61 (110, .iload_n 3, 1) rfl) rfl ?_
            refine j_iconst (dt_Mo_slights 62 (111, .iconst 1, 1) rfl) ic_1 ?_
            refine jite hf (fun hc hf => ?_) (fun hc hf => ?_)
            · refine j_icmp_ne (dt_Mo_slights 63 (112, .if_icmp .ne 10, 3) rfl) rfl (fun q => absurd hc q) (fun _ => ?_)
              refine j_aload_n (dt_Mo_slights 64 (115, .aload_n 0, 1) rfl) rfl ?_
              obtain ⟨x18, hx18, hf⟩ := jbind hf
              refine j_getI (dt_Mo_slights 65 (116, .getfield 317, 3) rfl) fl_X12_317 hx18 (fun _ _ => rfl) ?_
              refine j_goto (dt_Mo_slights 66 (119, .goto 5, 3) rfl) rfl ?_
              cases hf
              exact j_iret (dt_Mo_slights 68 (124, .ireturn, 1) rfl) rfl
            · refine j_icmp_ne (dt_Mo_slights 63 (112, .if_icmp .ne 10, 3) rfl) rfl (fun _ => ?_) (fun q => absurd q hc)
              refine j_iload (dt_Mo_slights 67 (122, .iload 5, 2) rfl) rfl ?_
              cases hf
              exact j_iret (dt_Mo_slights 68 (124, .ireturn, 1) rfl) rfl
        refine j_sub (ls' := [(0, ar v0), (3, ai v3), (4, ai 0), (5, ai 0), (6, ai 0)]) rfl ?_
        refine jloop_J (C := fun s46 => jJ G M_Mo_slights (jEnd G M_Mo_slights (some (ai res.1)) (S, res.2)) 0 0 46 [(0, ar v0), (3, ai v3), (4, ai s46.1), (5, ai s46.2.1), (6, ai s46.2.2)] [] (S, V5)) (fun s46 z46_ hy46 hin46 hout46 => ?_) _ _ ht46
        unfold Mo_slights_L46 at hy46
        refine j_iload (dt_Mo_slights 27 (46, .iload 6, 2) rfl) rfl ?_
        refine j_aload_n (dt_Mo_slights 28 (48, .aload_n 0, 1) rfl) rfl ?_
        obtain ⟨x7, hx7, hy46⟩ := jbind hy46
        refine j_getI (dt_Mo_slights 29 (49, .getfield 317, 3) rfl) fl_X12_317 hx7 (fun _ _ => rfl) ?_
        refine jite hy46 (fun hc hy46 => ?_) (fun hc hy46 => ?_)
        · refine j_icmp_ge (dt_Mo_slights 30 (52, .if_icmp .ge 49, 3) rfl) rfl (fun _ => ?_) (fun q => absurd hc q)
          cases hy46
          have hz := hX46 _ (hout46 _ rfl)
          exact j_sub rfl hz
        · refine j_icmp_ge (dt_Mo_slights 30 (52, .if_icmp .ge 49, 3) rfl) rfl (fun q => absurd q hc) (fun _ => ?_)
          refine j_iload (dt_Mo_slights 31 (55, .iload 4, 2) rfl) rfl ?_
          refine j_aload_n (dt_Mo_slights 32 (57, .aload_n 0, 1) rfl) rfl ?_
          obtain ⟨x8, hx8, hy46⟩ := jbind hy46
          refine j_getR (dt_Mo_slights 33 (58, .getfield 35, 3) rfl) fl_X12_35 hx8 (fun _ _ => rfl) ?_
          refine j_iconst (dt_Mo_slights 34 (61, .iconst 0, 1) rfl) ic_0 ?_
          obtain ⟨x9, hx9, hy46⟩ := jbind hy46
          refine j_aldR 107 (dt_Mo_slights 35 (62, .aaload, 1) rfl) (by decide) hx9 ?_
          refine j_aload_n (dt_Mo_slights 36 (63, .aload_n 0, 1) rfl) rfl ?_
          obtain ⟨x10, hx10, hy46⟩ := jbind hy46
          refine j_getR (dt_Mo_slights 37 (64, .getfield 99, 3) rfl) fl_X12_99 hx10 (fun _ _ => rfl) ?_
          refine j_iload (dt_Mo_slights 38 (67, .iload 6, 2) rfl) rfl ?_
          obtain ⟨x11, hx11, hy46⟩ := jbind hy46
          refine j_aldI (dt_Mo_slights 39 (69, .iaload, 1) rfl) hx11 ?_
          obtain ⟨x12, hx12, hy46⟩ := jbind hy46
          refine j_aldI (dt_Mo_slights 40 (70, .iaload, 1) rfl) hx12 ?_
          refine j_iadd (dt_Mo_slights 41 (71, .iadd, 1) rfl) ?_
          refine j_istore (dt_Mo_slights 42 (72, .istore 4, 2) rfl) (nlt rfl) ?_
          refine j_iload (dt_Mo_slights 43 (74, .iload 5, 2) rfl) rfl ?_
          refine j_aload_n (dt_Mo_slights 44 (76, .aload_n 0, 1) rfl) rfl ?_
          obtain ⟨x13, hx13, hy46⟩ := jbind hy46
          refine j_getR (dt_Mo_slights 45 (77, .getfield 35, 3) rfl) fl_X12_35 hx13 (fun _ _ => rfl) ?_
          refine j_iconst (dt_Mo_slights 46 (80, .iconst 0, 1) rfl) ic_0 ?_
          obtain ⟨x14, hx14, hy46⟩ := jbind hy46
          refine j_aldR 107 (dt_Mo_slights 47 (81, .aaload, 1) rfl) (by decide) hx14 ?_
          refine j_aload_n (dt_Mo_slights 48 (82, .aload_n 0, 1) rfl) rfl ?_
          obtain ⟨x15, hx15, hy46⟩ := jbind hy46
          refine j_getR (dt_Mo_slights 49 (83, .getfield 99, 3) rfl) fl_X12_99 hx15 (fun _ _ => rfl) ?_
          refine j_iload (dt_Mo_slights 50 (86, .iload 6, 2) rfl) rfl ?_
          obtain ⟨x16, hx16, hy46⟩ := jbind hy46
          refine j_aldI (dt_Mo_slights 51 (88, .iaload, 1) rfl) hx16 ?_
          obtain ⟨x17, hx17, hy46⟩ := jbind hy46
          refine j_aldI (dt_Mo_slights 52 (89, .iaload, 1) rfl) hx17 ?_
          refine j_callS M_Jd_max 2 [ai s46.2.1, ai x17] (rest := []) (dt_Mo_slights 53 (90, .invokestatic 334, 3) rfl) ml_X12_334 ok_Jd_max (jfit rfl rfl ⟨rfl, rfl⟩ (nle rfl) (nlt rfl)) rfl rfl (nle rfl) ⟨rfl, rfl⟩ (c_Jd_max rfl) ?_
          refine j_istore (dt_Mo_slights 54 (93, .istore 5, 2) rfl) (nlt rfl) ?_
          refine j_iinc (dt_Mo_slights 55 (95, .iinc 6 1, 3) rfl) rfl (nlt rfl) (ii_1 _) ?_
          refine j_goto (dt_Mo_slights 56 (98, .goto (-52), 3) rfl) rfl ?_
          cases hy46
          have hz := hin46 _ rfl
          exact j_sub rfl hz
theorem r_Mo_slights {S : hS} {V : hV} {v0 : Option Nat} {v1 : Int32} {v2 : Int32} {v3 : Int32} {res : Int32 × hV} (hf : Mo_slights S v0 v1 v2 v3 V = some res) : ∃ b, rc S 12 v0 = some b := by
  unfold Mo_slights at hf
  obtain ⟨b, hb, _⟩ := jbind hf
  exact ⟨b, hb⟩
def tb_Mo_sourceOf : List (Nat × Instr × Nat) := [(0, .iconst (-1), 1), (1, .istore 5, 2), (3, .iconst 0, 1), (4, .istore 6, 2), (6, .iload 6, 2), (8, .aload_n 0, 1), (9, .getfield 51, 3), (12, .iconst 0, 1), (13, .iaload, 1), (14, .if_icmp .ge 74, 3), (17, .aload_n 0, 1), (18, .getfield 26, 3), (21, .iconst 0, 1), (22, .aaload, 1), (23, .iload 6, 2), (25, .iaload, 1), (26, .ifCond .ne 56, 3), (29, .iload 4, 2), (31, .iload 6, 2), (33, .ishr, 1), (34, .iconst 1, 1), (35, .iand, 1), (36, .ifCond .ne 46, 3), (39, .aload_n 0, 1), (40, .iload 6, 2), (42, .iload_n 1, 1), (43, .iload_n 2, 1), (44, .iload_n 3, 1), (45, .invokevirtual 320, 3), (48, .ifCond .eq 34, 3), (51, .iload 5, 2), (53, .iconst (-1), 1), (54, .if_icmp .eq 24, 3), (57, .aload_n 0, 1), (58, .getfield 35, 3), (61, .iconst 0, 1), (62, .aaload, 1), (63, .iload 6, 2), (65, .iaload, 1), (66, .aload_n 0, 1), (67, .getfield 35, 3), (70, .iconst 0, 1), (71, .aaload, 1), (72, .iload 5, 2), (74, .iaload, 1), (75, .if_icmp .le 7, 3), (78, .iload 6, 2), (80, .istore 5, 2), (82, .iinc 6 1, 3), (85, .goto (-79), 3), (88, .iload 5, 2), (90, .ireturn, 1)]
theorem dt_Mo_sourceOf (i : Nat) (q : Nat × Instr × Nat) (h : tb_Mo_sourceOf[i]? = some q) : decode prog_14_method_48_code q.1 = .ok q.2 := jdt (by decide +kernel : tb_Mo_sourceOf.all (fun q => decide (decode prog_14_method_48_code q.1 = .ok q.2)) = true) h
theorem ok_Mo_sourceOf : jOKV M_Mo_sourceOf 4 := ⟨⟨gt7 176 rfl rfl, gt1 17 rfl rfl, (by decide : "FirstInModel" ≠ "java/lang/invoke/MethodHandle"), (by decide : "FirstInModel" ≠ "java/lang/invoke/VarHandle"), (by decide +kernel : (parseMethodDescriptor "(IIII)I").map (fun d => d.parameters.length) = some 4)⟩, gt7 175 rfl rfl, gs_in 35 rfl, rfl, nlt rfl⟩
set_option maxRecDepth 100000 in
set_option maxHeartbeats 4000000 in
theorem c_Mo_sourceOf {G : jG} {S : hS} {V : hV} {v0 : Option Nat} {v1 : Int32} {v2 : Int32} {v3 : Int32} {v4 : Int32} {res : Int32} (hf : Mo_sourceOf S v0 v1 v2 v3 v4 V = some res) : jC G M_Mo_sourceOf [ar v0, ai v1, ai v2, ai v3, ai v4] (S, V) (some (ai res)) (S, V) := by
  unfold Mo_sourceOf at hf
  obtain ⟨_, _, hf⟩ := jbind hf
  refine jC_of (pf_X12 _ _) rfl (nle rfl) ?_
  show jJ G M_Mo_sourceOf (jEnd G M_Mo_sourceOf (some (ai res)) (S, V)) 0 0 0 [(0, ar v0), (1, ai v1), (2, ai v2), (3, ai v3), (4, ai v4)] [] (S, V)
  refine j_iconst (dt_Mo_sourceOf 0 (0, .iconst (-1), 1) rfl) ic_m1 ?_
  refine j_istore (dt_Mo_sourceOf 1 (1, .istore 5, 2) rfl) (nlt rfl) ?_
  refine j_iconst (dt_Mo_sourceOf 2 (3, .iconst 0, 1) rfl) ic_0 ?_
  refine j_istore (dt_Mo_sourceOf 3 (4, .istore 6, 2) rfl) (nlt rfl) ?_
  obtain ⟨t6, ht6, hf⟩ := jbind hf
  have hX6 : ∀ q6 : Int32, q6 = t6 → jJ G M_Mo_sourceOf (jEnd G M_Mo_sourceOf (some (ai res)) (S, V)) 0 0 88 [(5, ai q6)] [] (S, V) := by
    intro q6 hq6
    subst hq6
    refine j_iload (dt_Mo_sourceOf 50 (88, .iload 5, 2) rfl) rfl ?_
    cases hf
    exact j_iret (dt_Mo_sourceOf 51 (90, .ireturn, 1) rfl) rfl
  refine j_sub (ls' := [(0, ar v0), (1, ai v1), (2, ai v2), (3, ai v3), (4, ai v4), (5, ai (-1)), (6, ai 0)]) rfl ?_
  refine jloop_J (C := fun s6 => jJ G M_Mo_sourceOf (jEnd G M_Mo_sourceOf (some (ai res)) (S, V)) 0 0 6 [(0, ar v0), (1, ai v1), (2, ai v2), (3, ai v3), (4, ai v4), (5, ai s6.1), (6, ai s6.2)] [] (S, V)) (fun s6 z6_ hy6 hin6 hout6 => ?_) _ _ ht6
  unfold Mo_sourceOf_L6 at hy6
  refine j_iload (dt_Mo_sourceOf 4 (6, .iload 6, 2) rfl) rfl ?_
  refine j_aload_n (dt_Mo_sourceOf 5 (8, .aload_n 0, 1) rfl) rfl ?_
  obtain ⟨x1, hx1, hy6⟩ := jbind hy6
  refine j_getR (dt_Mo_sourceOf 6 (9, .getfield 51, 3) rfl) fl_X12_51 hx1 (fun _ _ => rfl) ?_
  refine j_iconst (dt_Mo_sourceOf 7 (12, .iconst 0, 1) rfl) ic_0 ?_
  obtain ⟨x2, hx2, hy6⟩ := jbind hy6
  refine j_aldI (dt_Mo_sourceOf 8 (13, .iaload, 1) rfl) hx2 ?_
  refine jite hy6 (fun hc hy6 => ?_) (fun hc hy6 => ?_)
  · refine j_icmp_ge (dt_Mo_sourceOf 9 (14, .if_icmp .ge 74, 3) rfl) rfl (fun _ => ?_) (fun q => absurd hc q)
    cases hy6
    have hz := hX6 _ (hout6 _ rfl)
    exact j_sub rfl hz
  · refine j_icmp_ge (dt_Mo_sourceOf 9 (14, .if_icmp .ge 74, 3) rfl) rfl (fun q => absurd q hc) (fun _ => ?_)
    refine j_aload_n (dt_Mo_sourceOf 10 (17, .aload_n 0, 1) rfl) rfl ?_
    obtain ⟨x3, hx3, hy6⟩ := jbind hy6
    refine j_getR (dt_Mo_sourceOf 11 (18, .getfield 26, 3) rfl) fl_X12_26 hx3 (fun _ _ => rfl) ?_
    refine j_iconst (dt_Mo_sourceOf 12 (21, .iconst 0, 1) rfl) ic_0 ?_
    obtain ⟨x4, hx4, hy6⟩ := jbind hy6
    refine j_aldR 107 (dt_Mo_sourceOf 13 (22, .aaload, 1) rfl) (by decide) hx4 ?_
    refine j_iload (dt_Mo_sourceOf 14 (23, .iload 6, 2) rfl) rfl ?_
    obtain ⟨x5, hx5, hy6⟩ := jbind hy6
    refine j_aldI (dt_Mo_sourceOf 15 (25, .iaload, 1) rfl) hx5 ?_
    refine jite hy6 (fun hc hy6 => ?_) (fun hc hy6 => ?_)
    · refine j_if_ne (dt_Mo_sourceOf 16 (26, .ifCond .ne 56, 3) rfl) rfl (fun q => absurd hc q) (fun _ => ?_)
      refine j_iload (dt_Mo_sourceOf 17 (29, .iload 4, 2) rfl) rfl ?_
      refine j_iload (dt_Mo_sourceOf 18 (31, .iload 6, 2) rfl) rfl ?_
      refine j_ishr (dt_Mo_sourceOf 19 (33, .ishr, 1) rfl) ?_
      refine j_iconst (dt_Mo_sourceOf 20 (34, .iconst 1, 1) rfl) ic_1 ?_
      refine j_iand (dt_Mo_sourceOf 21 (35, .iand, 1) rfl) ?_
      refine jite hy6 (fun hc hy6 => ?_) (fun hc hy6 => ?_)
      · refine j_if_ne (dt_Mo_sourceOf 22 (36, .ifCond .ne 46, 3) rfl) rfl (fun q => absurd hc q) (fun _ => ?_)
        refine j_aload_n (dt_Mo_sourceOf 23 (39, .aload_n 0, 1) rfl) rfl ?_
        refine j_iload (dt_Mo_sourceOf 24 (40, .iload 6, 2) rfl) rfl ?_
        refine j_iload_n (dt_Mo_sourceOf 25 (42, .iload_n 1, 1) rfl) rfl ?_
        refine j_iload_n (dt_Mo_sourceOf 26 (43, .iload_n 2, 1) rfl) rfl ?_
        refine j_iload_n (dt_Mo_sourceOf 27 (44, .iload_n 3, 1) rfl) rfl ?_
        obtain ⟨x6, hx6, hy6⟩ := jbind hy6
        obtain ⟨b7, hb7⟩ := r_Mo_countsFor hx6
        refine j_callV M_Mo_countsFor 4 [ai s6.2, ai v1, ai v2, ai v3] (rest := []) (dt_Mo_sourceOf 28 (45, .invokevirtual 320, 3) rfl) ml_X12_320 ok_Mo_countsFor (jfit rfl rfl ⟨rfl, rfl⟩ (nle rfl) (nlt rfl)) rfl rfl (nle rfl) ⟨rfl, rfl⟩ hb7 ((c_Mo_countsFor hx6)) ?_
        refine jite hy6 (fun hc hy6 => ?_) (fun hc hy6 => ?_)
        · refine j_if_eq (dt_Mo_sourceOf 29 (48, .ifCond .eq 34, 3) rfl) rfl (fun _ => ?_) (fun q => absurd hc q)
          refine j_iinc (dt_Mo_sourceOf 48 (82, .iinc 6 1, 3) rfl) rfl (nlt rfl) (ii_1 _) ?_
          refine j_goto (dt_Mo_sourceOf 49 (85, .goto (-79), 3) rfl) rfl ?_
          cases hy6
          have hz := hin6 _ rfl
          exact j_sub rfl hz
        · refine j_if_eq (dt_Mo_sourceOf 29 (48, .ifCond .eq 34, 3) rfl) rfl (fun q => absurd q hc) (fun _ => ?_)
          refine j_iload (dt_Mo_sourceOf 30 (51, .iload 5, 2) rfl) rfl ?_
          refine j_iconst (dt_Mo_sourceOf 31 (53, .iconst (-1), 1) rfl) ic_m1 ?_
          refine jite hy6 (fun hc hy6 => ?_) (fun hc hy6 => ?_)
          · refine j_icmp_eq (dt_Mo_sourceOf 32 (54, .if_icmp .eq 24, 3) rfl) rfl (fun _ => ?_) (fun q => absurd hc q)
            refine j_iload (dt_Mo_sourceOf 46 (78, .iload 6, 2) rfl) rfl ?_
            refine j_istore (dt_Mo_sourceOf 47 (80, .istore 5, 2) rfl) (nlt rfl) ?_
            refine j_iinc (dt_Mo_sourceOf 48 (82, .iinc 6 1, 3) rfl) rfl (nlt rfl) (ii_1 _) ?_
            refine j_goto (dt_Mo_sourceOf 49 (85, .goto (-79), 3) rfl) rfl ?_
            cases hy6
            have hz := hin6 _ rfl
            exact j_sub rfl hz
          · refine j_icmp_eq (dt_Mo_sourceOf 32 (54, .if_icmp .eq 24, 3) rfl) rfl (fun q => absurd q hc) (fun _ => ?_)
            refine j_aload_n (dt_Mo_sourceOf 33 (57, .aload_n 0, 1) rfl) rfl ?_
            obtain ⟨x8, hx8, hy6⟩ := jbind hy6
            refine j_getR (dt_Mo_sourceOf 34 (58, .getfield 35, 3) rfl) fl_X12_35 hx8 (fun _ _ => rfl) ?_
            refine j_iconst (dt_Mo_sourceOf 35 (61, .iconst 0, 1) rfl) ic_0 ?_
            obtain ⟨x9, hx9, hy6⟩ := jbind hy6
            refine j_aldR 107 (dt_Mo_sourceOf 36 (62, .aaload, 1) rfl) (by decide) hx9 ?_
            refine j_iload (dt_Mo_sourceOf 37 (63, .iload 6, 2) rfl) rfl ?_
            obtain ⟨x10, hx10, hy6⟩ := jbind hy6
            refine j_aldI (dt_Mo_sourceOf 38 (65, .iaload, 1) rfl) hx10 ?_
            refine j_aload_n (dt_Mo_sourceOf 39 (66, .aload_n 0, 1) rfl) rfl ?_
            obtain ⟨x11, hx11, hy6⟩ := jbind hy6
            refine j_getR (dt_Mo_sourceOf 40 (67, .getfield 35, 3) rfl) fl_X12_35 hx11 (fun _ _ => rfl) ?_
            refine j_iconst (dt_Mo_sourceOf 41 (70, .iconst 0, 1) rfl) ic_0 ?_
            obtain ⟨x12, hx12, hy6⟩ := jbind hy6
            refine j_aldR 107 (dt_Mo_sourceOf 42 (71, .aaload, 1) rfl) (by decide) hx12 ?_
            refine j_iload (dt_Mo_sourceOf 43 (72, .iload 5, 2) rfl) rfl ?_
            obtain ⟨x13, hx13, hy6⟩ := jbind hy6
            refine j_aldI (dt_Mo_sourceOf 44 (74, .iaload, 1) rfl) hx13 ?_
            refine jite hy6 (fun hc hy6 => ?_) (fun hc hy6 => ?_)
            · refine j_icmp_le (dt_Mo_sourceOf 45 (75, .if_icmp .le 7, 3) rfl) rfl (fun _ => ?_) (fun q => absurd hc q)
              refine j_iinc (dt_Mo_sourceOf 48 (82, .iinc 6 1, 3) rfl) rfl (nlt rfl) (ii_1 _) ?_
              refine j_goto (dt_Mo_sourceOf 49 (85, .goto (-79), 3) rfl) rfl ?_
              cases hy6
              have hz := hin6 _ rfl
              exact j_sub rfl hz
            · refine j_icmp_le (dt_Mo_sourceOf 45 (75, .if_icmp .le 7, 3) rfl) rfl (fun q => absurd q hc) (fun _ => ?_)
              refine j_iload (dt_Mo_sourceOf 46 (78, .iload 6, 2) rfl) rfl ?_
              refine j_istore (dt_Mo_sourceOf 47 (80, .istore 5, 2) rfl) (nlt rfl) ?_
              refine j_iinc (dt_Mo_sourceOf 48 (82, .iinc 6 1, 3) rfl) rfl (nlt rfl) (ii_1 _) ?_
              refine j_goto (dt_Mo_sourceOf 49 (85, .goto (-79), 3) rfl) rfl ?_
              cases hy6
              have hz := hin6 _ rfl
              exact j_sub rfl hz
      · refine j_if_ne (dt_Mo_sourceOf 22 (36, .ifCond .ne 46, 3) rfl) rfl (fun _ => ?_) (fun q => absurd q hc)
        refine j_iinc (dt_Mo_sourceOf 48 (82, .iinc 6 1, 3) rfl) rfl (nlt rfl) (ii_1 _) ?_
        refine j_goto (dt_Mo_sourceOf 49 (85, .goto (-79), 3) rfl) rfl ?_
        cases hy6
        have hz := hin6 _ rfl
        exact j_sub rfl hz
    · refine j_if_ne (dt_Mo_sourceOf 16 (26, .ifCond .ne 56, 3) rfl) rfl (fun _ => ?_) (fun q => absurd q hc)
      refine j_iinc (dt_Mo_sourceOf 48 (82, .iinc 6 1, 3) rfl) rfl (nlt rfl) (ii_1 _) ?_
      refine j_goto (dt_Mo_sourceOf 49 (85, .goto (-79), 3) rfl) rfl ?_
      cases hy6
      have hz := hin6 _ rfl
      exact j_sub rfl hz
theorem r_Mo_sourceOf {S : hS} {V : hV} {v0 : Option Nat} {v1 : Int32} {v2 : Int32} {v3 : Int32} {v4 : Int32} {res : Int32} (hf : Mo_sourceOf S v0 v1 v2 v3 v4 V = some res) : ∃ b, rc S 12 v0 = some b := by
  unfold Mo_sourceOf at hf
  obtain ⟨b, hb, _⟩ := jbind hf
  exact ⟨b, hb⟩
def tb_Mo_slight : List (Nat × Instr × Nat) := [(0, .aload_n 0, 1), (1, .iload_n 1, 1), (2, .invokevirtual 297, 3), (5, .ifCond .eq 24, 3), (8, .aload_n 0, 1), (9, .iload_n 2, 1), (10, .invokevirtual 307, 3), (13, .ifCond .eq 16, 3), (16, .iload 4, 2), (18, .i2l, 1), (19, .lconst 0, 1), (20, .ldc2_w 338, 3), (23, .invokestatic 183, 3), (26, .ifCond .ne 5, 3), (29, .iconst (-1), 1), (30, .ireturn, 1), (31, .aload_n 0, 1), (32, .iload_n 1, 1), (33, .iload_n 2, 1), (34, .iconst 0, 1), (35, .invokevirtual 330, 3), (38, .iload_n 3, 1), (39, .i2l, 1), (40, .lconst 0, 1), (41, .aload_n 0, 1), (42, .getfield 317, 3), (45, .iconst 1, 1), (46, .isub, 1), (47, .i2l, 1), (48, .invokestatic 183, 3), (51, .ifCond .ne 5, 3), (54, .iconst (-1), 1), (55, .ireturn, 1), (56, .iload 4, 2), (58, .iconst 3, 1), (59, .if_icmp .ge 39, 3), (62, .iload 4, 2), (64, .ifCond .ne 12, 3), (67, .aload_n 0, 1), (68, .getfield 99, 3), (71, .iload_n 3, 1), (72, .iaload, 1), (73, .goto 24, 3), (76, .iload 4, 2), (78, .iconst 1, 1), (79, .if_icmp .ne 12, 3), (82, .aload_n 0, 1), (83, .getfield 102, 3), (86, .iload_n 3, 1), (87, .iaload, 1), (88, .goto 9, 3), (91, .aload_n 0, 1), (92, .getfield 105, 3), (95, .iload_n 3, 1), (96, .iaload, 1), (97, .ireturn, 1), (98, .aload_n 0, 1), (99, .getfield 26, 3), (102, .iconst 0, 1), (103, .aaload, 1), (104, .aload_n 0, 1), (105, .getfield 99, 3), (108, .iload_n 3, 1), (109, .iaload, 1), (110, .iaload, 1), (111, .ifCond .ne 24, 3), (114, .aload_n 0, 1), (115, .iload_n 1, 1), (116, .aload_n 0, 1), (117, .getfield 105, 3), (120, .iload_n 3, 1), (121, .iaload, 1), (122, .aload_n 0, 1), (123, .getfield 102, 3), (126, .iload_n 3, 1), (127, .iaload, 1), (128, .iconst 0, 1), (129, .invokevirtual 340, 3), (132, .goto 4, 3), (135, .iconst (-1), 1), (136, .ireturn, 1)]
theorem dt_Mo_slight (i : Nat) (q : Nat × Instr × Nat) (h : tb_Mo_slight[i]? = some q) : decode prog_14_method_49_code q.1 = .ok q.2 := jdt (by decide +kernel : tb_Mo_slight.all (fun q => decide (decode prog_14_method_49_code q.1 = .ok q.2)) = true) h
theorem ok_Mo_slight : jOKV M_Mo_slight 4 := ⟨⟨gt7 171 rfl rfl, gt1 17 rfl rfl, (by decide : "FirstInModel" ≠ "java/lang/invoke/MethodHandle"), (by decide : "FirstInModel" ≠ "java/lang/invoke/VarHandle"), (by decide +kernel : (parseMethodDescriptor "(IIII)I").map (fun d => d.parameters.length) = some 4)⟩, gt7 169 rfl rfl, gt7 170 rfl rfl, rfl, nlt rfl⟩
set_option maxRecDepth 100000 in
set_option maxHeartbeats 4000000 in
theorem c_Mo_slight {G : jG} {S : hS} {V : hV} {v0 : Option Nat} {v1 : Int32} {v2 : Int32} {v3 : Int32} {v4 : Int32} {res : Int32 × hV} (hf : Mo_slight S v0 v1 v2 v3 v4 V = some res) : jC G M_Mo_slight [ar v0, ai v1, ai v2, ai v3, ai v4] (S, V) (some (ai res.1)) (S, res.2) := by
  unfold Mo_slight at hf
  obtain ⟨_, _, hf⟩ := jbind hf
  refine jC_of (pf_X12 _ _) rfl (nle rfl) ?_
  show jJ G M_Mo_slight (jEnd G M_Mo_slight (some (ai res.1)) (S, res.2)) 0 0 0 [(0, ar v0), (1, ai v1), (2, ai v2), (3, ai v3), (4, ai v4)] [] (S, V)
  refine j_aload_n (dt_Mo_slight 0 (0, .aload_n 0, 1) rfl) rfl ?_
  refine j_iload_n (dt_Mo_slight 1 (1, .iload_n 1, 1) rfl) rfl ?_
  obtain ⟨x1, hx1, hf⟩ := jbind hf
  obtain ⟨b2, hb2⟩ := r_Mo_isRoom hx1
  refine j_callV M_Mo_isRoom 1 [ai v1] (rest := []) (dt_Mo_slight 2 (2, .invokevirtual 297, 3) rfl) ml_X12_297 ok_Mo_isRoom (jfit rfl rfl ⟨rfl, rfl⟩ (nle rfl) (nlt rfl)) rfl rfl (nle rfl) ⟨rfl, rfl⟩ hb2 ((c_Mo_isRoom hx1)) ?_
  refine jite hf (fun hc hf => ?_) (fun hc hf => ?_)
  · refine j_if_eq (dt_Mo_slight 3 (5, .ifCond .eq 24, 3) rfl) rfl (fun _ => ?_) (fun q => absurd hc q)
    refine j_iconst (dt_Mo_slight 14 (29, .iconst (-1), 1) rfl) ic_m1 ?_
    cases hf
    exact j_iret (dt_Mo_slight 15 (30, .ireturn, 1) rfl) rfl
  · refine j_if_eq (dt_Mo_slight 3 (5, .ifCond .eq 24, 3) rfl) rfl (fun q => absurd q hc) (fun _ => ?_)
    refine j_aload_n (dt_Mo_slight 4 (8, .aload_n 0, 1) rfl) rfl ?_
    refine j_iload_n (dt_Mo_slight 5 (9, .iload_n 2, 1) rfl) rfl ?_
    obtain ⟨x3, hx3, hf⟩ := jbind hf
    obtain ⟨b4, hb4⟩ := r_Mo_isCourse hx3
    refine j_callV M_Mo_isCourse 1 [ai v2] (rest := []) (dt_Mo_slight 6 (10, .invokevirtual 307, 3) rfl) ml_X12_307 ok_Mo_isCourse (jfit rfl rfl ⟨rfl, rfl⟩ (nle rfl) (nlt rfl)) rfl rfl (nle rfl) ⟨rfl, rfl⟩ hb4 ((c_Mo_isCourse hx3)) ?_
    refine jite hf (fun hc hf => ?_) (fun hc hf => ?_)
    · refine j_if_eq (dt_Mo_slight 7 (13, .ifCond .eq 16, 3) rfl) rfl (fun _ => ?_) (fun q => absurd hc q)
      refine j_iconst (dt_Mo_slight 14 (29, .iconst (-1), 1) rfl) ic_m1 ?_
      cases hf
      exact j_iret (dt_Mo_slight 15 (30, .ireturn, 1) rfl) rfl
    · refine j_if_eq (dt_Mo_slight 7 (13, .ifCond .eq 16, 3) rfl) rfl (fun q => absurd q hc) (fun _ => ?_)
      refine j_iload (dt_Mo_slight 8 (16, .iload 4, 2) rfl) rfl ?_
      refine j_i2l (dt_Mo_slight 9 (18, .i2l, 1) rfl) ?_
      refine j_lconst (dt_Mo_slight 10 (19, .lconst 0, 1) rfl) lc_0 ?_
      refine j_ldc2 3 (dt_Mo_slight 11 (20, .ldc2_w 338, 3) rfl) (gt7 172 rfl rfl) ?_
      refine j_callS M_Mo_in 3 [al ((v4 : Int32).toInt64), al 0, al 3] (rest := []) (dt_Mo_slight 12 (23, .invokestatic 183, 3) rfl) ml_X12_183 ok_Mo_in (jfit rfl rfl ⟨rfl, rfl⟩ (nle rfl) (nlt rfl)) rfl rfl (nle rfl) ⟨rfl, rfl⟩ (c_Mo_in rfl) ?_
      refine jite hf (fun hc hf => ?_) (fun hc hf => ?_)
      · refine j_if_ne (dt_Mo_slight 13 (26, .ifCond .ne 5, 3) rfl) rfl (fun q => absurd hc q) (fun _ => ?_)
        refine j_iconst (dt_Mo_slight 14 (29, .iconst (-1), 1) rfl) ic_m1 ?_
        cases hf
        exact j_iret (dt_Mo_slight 15 (30, .ireturn, 1) rfl) rfl
      · refine j_if_ne (dt_Mo_slight 13 (26, .ifCond .ne 5, 3) rfl) rfl (fun _ => ?_) (fun q => absurd q hc)
        refine j_aload_n (dt_Mo_slight 16 (31, .aload_n 0, 1) rfl) rfl ?_
        refine j_iload_n (dt_Mo_slight 17 (32, .iload_n 1, 1) rfl) rfl ?_
        refine j_iload_n (dt_Mo_slight 18 (33, .iload_n 2, 1) rfl) rfl ?_
        refine j_iconst (dt_Mo_slight 19 (34, .iconst 0, 1) rfl) ic_0 ?_
        obtain ⟨V5, hV5, hf⟩ := jbind hf
        obtain ⟨b6, hb6⟩ := r_Mo_finds hV5
        refine j_callV M_Mo_finds 3 [ai v1, ai v2, ai 0] (rest := []) (dt_Mo_slight 20 (35, .invokevirtual 330, 3) rfl) ml_X12_330 ok_Mo_finds (jfit rfl rfl ⟨rfl, rfl⟩ (nle rfl) (nlt rfl)) rfl rfl (nle rfl) ⟨rfl, rfl⟩ hb6 ((c_Mo_finds hV5)) ?_
        refine j_iload_n (dt_Mo_slight 21 (38, .iload_n 3, 1) rfl) rfl ?_
        refine j_i2l (dt_Mo_slight 22 (39, .i2l, 1) rfl) ?_
        refine j_lconst (dt_Mo_slight 23 (40, .lconst 0, 1) rfl) lc_0 ?_
        refine j_aload_n (dt_Mo_slight 24 (41, .aload_n 0, 1) rfl) rfl ?_
        obtain ⟨x7, hx7, hf⟩ := jbind hf
        refine j_getI (dt_Mo_slight 25 (42, .getfield 317, 3) rfl) fl_X12_317 hx7 (fun _ _ => rfl) ?_
        refine j_iconst (dt_Mo_slight 26 (45, .iconst 1, 1) rfl) ic_1 ?_
        refine j_isub (dt_Mo_slight 27 (46, .isub, 1) rfl) ?_
        refine j_i2l (dt_Mo_slight 28 (47, .i2l, 1) rfl) ?_
        refine j_callS M_Mo_in 3 [al ((v3 : Int32).toInt64), al 0, al ((x7 - 1 : Int32).toInt64)] (rest := []) (dt_Mo_slight 29 (48, .invokestatic 183, 3) rfl) ml_X12_183 ok_Mo_in (jfit rfl rfl ⟨rfl, rfl⟩ (nle rfl) (nlt rfl)) rfl rfl (nle rfl) ⟨rfl, rfl⟩ (c_Mo_in rfl) ?_
        refine jite hf (fun hc hf => ?_) (fun hc hf => ?_)
        · refine j_if_ne (dt_Mo_slight 30 (51, .ifCond .ne 5, 3) rfl) rfl (fun q => absurd hc q) (fun _ => ?_)
          refine j_iconst (dt_Mo_slight 31 (54, .iconst (-1), 1) rfl) ic_m1 ?_
          cases hf
          exact j_iret (dt_Mo_slight 32 (55, .ireturn, 1) rfl) rfl
        · refine j_if_ne (dt_Mo_slight 30 (51, .ifCond .ne 5, 3) rfl) rfl (fun _ => ?_) (fun q => absurd q hc)
          refine j_iload (dt_Mo_slight 33 (56, .iload 4, 2) rfl) rfl ?_
          refine j_iconst (dt_Mo_slight 34 (58, .iconst 3, 1) rfl) ic_3 ?_
          refine jite hf (fun hc hf => ?_) (fun hc hf => ?_)
          · refine j_icmp_ge (dt_Mo_slight 35 (59, .if_icmp .ge 39, 3) rfl) rfl (fun _ => ?_) (fun q => absurd hc q)
            refine j_aload_n (dt_Mo_slight 56 (98, .aload_n 0, 1) rfl) rfl ?_
            obtain ⟨x8, hx8, hf⟩ := jbind hf
            refine j_getR (dt_Mo_slight 57 (99, .getfield 26, 3) rfl) fl_X12_26 hx8 (fun _ _ => rfl) ?_
            refine j_iconst (dt_Mo_slight 58 (102, .iconst 0, 1) rfl) ic_0 ?_
            obtain ⟨x9, hx9, hf⟩ := jbind hf
            refine j_aldR 107 (dt_Mo_slight 59 (103, .aaload, 1) rfl) (by decide) hx9 ?_
            refine j_aload_n (dt_Mo_slight 60 (104, .aload_n 0, 1) rfl) rfl ?_
            obtain ⟨x10, hx10, hf⟩ := jbind hf
            refine j_getR (dt_Mo_slight 61 (105, .getfield 99, 3) rfl) fl_X12_99 hx10 (fun _ _ => rfl) ?_
            refine j_iload_n (dt_Mo_slight 62 (108, .iload_n 3, 1) rfl) rfl ?_
            obtain ⟨x11, hx11, hf⟩ := jbind hf
            refine j_aldI (dt_Mo_slight 63 (109, .iaload, 1) rfl) hx11 ?_
            obtain ⟨x12, hx12, hf⟩ := jbind hf
            refine j_aldI (dt_Mo_slight 64 (110, .iaload, 1) rfl) hx12 ?_
            refine jite hf (fun hc hf => ?_) (fun hc hf => ?_)
            · refine j_if_ne (dt_Mo_slight 65 (111, .ifCond .ne 24, 3) rfl) rfl (fun q => absurd hc q) (fun _ => ?_)
              refine j_aload_n (dt_Mo_slight 66 (114, .aload_n 0, 1) rfl) rfl ?_
              refine j_iload_n (dt_Mo_slight 67 (115, .iload_n 1, 1) rfl) rfl ?_
              refine j_aload_n (dt_Mo_slight 68 (116, .aload_n 0, 1) rfl) rfl ?_
              obtain ⟨x13, hx13, hf⟩ := jbind hf
              refine j_getR (dt_Mo_slight 69 (117, .getfield 105, 3) rfl) fl_X12_105 hx13 (fun _ _ => rfl) ?_
              refine j_iload_n (dt_Mo_slight 70 (120, .iload_n 3, 1) rfl) rfl ?_
              obtain ⟨x14, hx14, hf⟩ := jbind hf
              refine j_aldI (dt_Mo_slight 71 (121, .iaload, 1) rfl) hx14 ?_
              refine j_aload_n (dt_Mo_slight 72 (122, .aload_n 0, 1) rfl) rfl ?_
              obtain ⟨x15, hx15, hf⟩ := jbind hf
              refine j_getR (dt_Mo_slight 73 (123, .getfield 102, 3) rfl) fl_X12_102 hx15 (fun _ _ => rfl) ?_
              refine j_iload_n (dt_Mo_slight 74 (126, .iload_n 3, 1) rfl) rfl ?_
              obtain ⟨x16, hx16, hf⟩ := jbind hf
              refine j_aldI (dt_Mo_slight 75 (127, .iaload, 1) rfl) hx16 ?_
              refine j_iconst (dt_Mo_slight 76 (128, .iconst 0, 1) rfl) ic_0 ?_
              obtain ⟨x17, hx17, hf⟩ := jbind hf
              obtain ⟨b18, hb18⟩ := r_Mo_sourceOf hx17
              refine j_callV M_Mo_sourceOf 4 [ai v1, ai x14, ai x16, ai 0] (rest := []) (dt_Mo_slight 77 (129, .invokevirtual 340, 3) rfl) ml_X12_340 ok_Mo_sourceOf (jfit rfl rfl ⟨rfl, rfl⟩ (nle rfl) (nlt rfl)) rfl rfl (nle rfl) ⟨rfl, rfl⟩ hb18 ((c_Mo_sourceOf hx17)) ?_
              refine j_goto (dt_Mo_slight 78 (132, .goto 4, 3) rfl) rfl ?_
              cases hf
              exact j_iret (dt_Mo_slight 80 (136, .ireturn, 1) rfl) rfl
            · refine j_if_ne (dt_Mo_slight 65 (111, .ifCond .ne 24, 3) rfl) rfl (fun _ => ?_) (fun q => absurd q hc)
              refine j_iconst (dt_Mo_slight 79 (135, .iconst (-1), 1) rfl) ic_m1 ?_
              cases hf
              exact j_iret (dt_Mo_slight 80 (136, .ireturn, 1) rfl) rfl
          · refine j_icmp_ge (dt_Mo_slight 35 (59, .if_icmp .ge 39, 3) rfl) rfl (fun q => absurd q hc) (fun _ => ?_)
            refine j_iload (dt_Mo_slight 36 (62, .iload 4, 2) rfl) rfl ?_
            refine jite hf (fun hc hf => ?_) (fun hc hf => ?_)
            · refine j_if_ne (dt_Mo_slight 37 (64, .ifCond .ne 12, 3) rfl) rfl (fun q => absurd hc q) (fun _ => ?_)
              refine j_aload_n (dt_Mo_slight 38 (67, .aload_n 0, 1) rfl) rfl ?_
              obtain ⟨x23, hx23, hf⟩ := jbind hf
              refine j_getR (dt_Mo_slight 39 (68, .getfield 99, 3) rfl) fl_X12_99 hx23 (fun _ _ => rfl) ?_
              refine j_iload_n (dt_Mo_slight 40 (71, .iload_n 3, 1) rfl) rfl ?_
              obtain ⟨x24, hx24, hf⟩ := jbind hf
              refine j_aldI (dt_Mo_slight 41 (72, .iaload, 1) rfl) hx24 ?_
              refine j_goto (dt_Mo_slight 42 (73, .goto 24, 3) rfl) rfl ?_
              cases hf
              exact j_iret (dt_Mo_slight 55 (97, .ireturn, 1) rfl) rfl
            · refine j_if_ne (dt_Mo_slight 37 (64, .ifCond .ne 12, 3) rfl) rfl (fun _ => ?_) (fun q => absurd q hc)
              refine j_iload (dt_Mo_slight 43 (76, .iload 4, 2) rfl) rfl ?_
              refine j_iconst (dt_Mo_slight 44 (78, .iconst 1, 1) rfl) ic_1 ?_
              refine jite hf (fun hc hf => ?_) (fun hc hf => ?_)
              · refine j_icmp_ne (dt_Mo_slight 45 (79, .if_icmp .ne 12, 3) rfl) rfl (fun q => absurd hc q) (fun _ => ?_)
                refine j_aload_n (dt_Mo_slight 46 (82, .aload_n 0, 1) rfl) rfl ?_
                obtain ⟨x21, hx21, hf⟩ := jbind hf
                refine j_getR (dt_Mo_slight 47 (83, .getfield 102, 3) rfl) fl_X12_102 hx21 (fun _ _ => rfl) ?_
                refine j_iload_n (dt_Mo_slight 48 (86, .iload_n 3, 1) rfl) rfl ?_
                obtain ⟨x22, hx22, hf⟩ := jbind hf
                refine j_aldI (dt_Mo_slight 49 (87, .iaload, 1) rfl) hx22 ?_
                refine j_goto (dt_Mo_slight 50 (88, .goto 9, 3) rfl) rfl ?_
                cases hf
                exact j_iret (dt_Mo_slight 55 (97, .ireturn, 1) rfl) rfl
              · refine j_icmp_ne (dt_Mo_slight 45 (79, .if_icmp .ne 12, 3) rfl) rfl (fun _ => ?_) (fun q => absurd q hc)
                refine j_aload_n (dt_Mo_slight 51 (91, .aload_n 0, 1) rfl) rfl ?_
                obtain ⟨x19, hx19, hf⟩ := jbind hf
                refine j_getR (dt_Mo_slight 52 (92, .getfield 105, 3) rfl) fl_X12_105 hx19 (fun _ _ => rfl) ?_
                refine j_iload_n (dt_Mo_slight 53 (95, .iload_n 3, 1) rfl) rfl ?_
                obtain ⟨x20, hx20, hf⟩ := jbind hf
                refine j_aldI (dt_Mo_slight 54 (96, .iaload, 1) rfl) hx20 ?_
                cases hf
                exact j_iret (dt_Mo_slight 55 (97, .ireturn, 1) rfl) rfl
theorem r_Mo_slight {S : hS} {V : hV} {v0 : Option Nat} {v1 : Int32} {v2 : Int32} {v3 : Int32} {v4 : Int32} {res : Int32 × hV} (hf : Mo_slight S v0 v1 v2 v3 v4 V = some res) : ∃ b, rc S 12 v0 = some b := by
  unfold Mo_slight at hf
  obtain ⟨b, hb, _⟩ := jbind hf
  exact ⟨b, hb⟩
def tb_Mo_minds : List (Nat × Instr × Nat) := [(0, .aload_n 0, 1), (1, .iload_n 1, 1), (2, .invokevirtual 297, 3), (5, .ifCond .eq 24, 3), (8, .aload_n 0, 1), (9, .iload_n 2, 1), (10, .invokevirtual 307, 3), (13, .ifCond .eq 16, 3), (16, .iload_n 3, 1), (17, .iconst (-1), 1), (18, .if_icmp .eq 13, 3), (21, .aload_n 0, 1), (22, .iload_n 3, 1), (23, .invokevirtual 275, 3), (26, .ifCond .ne 5, 3), (29, .iconst (-1), 1), (30, .ireturn, 1), (31, .aload_n 0, 1), (32, .iload_n 1, 1), (33, .iload_n 2, 1), (34, .iconst 0, 1), (35, .invokevirtual 330, 3), (38, .iload_n 3, 1), (39, .iconst (-1), 1), (40, .if_icmp .eq 10, 3), (43, .aload_n 0, 1), (44, .getfield 108, 3), (47, .iload_n 3, 1), (48, .iaload, 1), (49, .ireturn, 1), (50, .iconst (-1), 1), (51, .istore 4, 2), (53, .iconst 0, 1), (54, .istore 5, 2), (56, .iload 5, 2), (58, .aload_n 0, 1), (59, .getfield 44, 3), (62, .iconst 0, 1), (63, .iaload, 1), (64, .if_icmp .ge 46, 3), (67, .aload_n 0, 1), (68, .getfield 108, 3), (71, .iload 5, 2), (73, .iaload, 1), (74, .ifCond .le 30, 3), (77, .iload 4, 2), (79, .iconst (-1), 1), (80, .if_icmp .eq 20, 3), (83, .aload_n 0, 1), (84, .getfield 108, 3), (87, .iload 5, 2), (89, .iaload, 1), (90, .aload_n 0, 1), (91, .getfield 108, 3), (94, .iload 4, 2), (96, .iaload, 1), (97, .if_icmp .le 7, 3), (100, .iload 5, 2), (102, .istore 4, 2), (104, .iinc 5 1, 3), (107, .goto (-51), 3), (110, .iload 4, 2), (112, .ireturn, 1)]
theorem dt_Mo_minds (i : Nat) (q : Nat × Instr × Nat) (h : tb_Mo_minds[i]? = some q) : decode prog_14_method_50_code q.1 = .ok q.2 := jdt (by decide +kernel : tb_Mo_minds.all (fun q => decide (decode prog_14_method_50_code q.1 = .ok q.2)) = true) h
theorem ok_Mo_minds : jOKV M_Mo_minds 3 := ⟨⟨gt7 180 rfl rfl, gt1 17 rfl rfl, (by decide : "FirstInModel" ≠ "java/lang/invoke/MethodHandle"), (by decide : "FirstInModel" ≠ "java/lang/invoke/VarHandle"), (by decide +kernel : (parseMethodDescriptor "(III)I").map (fun d => d.parameters.length) = some 3)⟩, gt7 178 rfl rfl, gt7 179 rfl rfl, rfl, nlt rfl⟩
set_option maxRecDepth 100000 in
set_option maxHeartbeats 4000000 in
theorem c_Mo_minds {G : jG} {S : hS} {V : hV} {v0 : Option Nat} {v1 : Int32} {v2 : Int32} {v3 : Int32} {res : Int32 × hV} (hf : Mo_minds S v0 v1 v2 v3 V = some res) : jC G M_Mo_minds [ar v0, ai v1, ai v2, ai v3] (S, V) (some (ai res.1)) (S, res.2) := by
  unfold Mo_minds at hf
  obtain ⟨_, _, hf⟩ := jbind hf
  refine jC_of (pf_X12 _ _) rfl (nle rfl) ?_
  show jJ G M_Mo_minds (jEnd G M_Mo_minds (some (ai res.1)) (S, res.2)) 0 0 0 [(0, ar v0), (1, ai v1), (2, ai v2), (3, ai v3)] [] (S, V)
  refine j_aload_n (dt_Mo_minds 0 (0, .aload_n 0, 1) rfl) rfl ?_
  refine j_iload_n (dt_Mo_minds 1 (1, .iload_n 1, 1) rfl) rfl ?_
  obtain ⟨x1, hx1, hf⟩ := jbind hf
  obtain ⟨b2, hb2⟩ := r_Mo_isRoom hx1
  refine j_callV M_Mo_isRoom 1 [ai v1] (rest := []) (dt_Mo_minds 2 (2, .invokevirtual 297, 3) rfl) ml_X12_297 ok_Mo_isRoom (jfit rfl rfl ⟨rfl, rfl⟩ (nle rfl) (nlt rfl)) rfl rfl (nle rfl) ⟨rfl, rfl⟩ hb2 ((c_Mo_isRoom hx1)) ?_
  refine jite hf (fun hc hf => ?_) (fun hc hf => ?_)
  · refine j_if_eq (dt_Mo_minds 3 (5, .ifCond .eq 24, 3) rfl) rfl (fun _ => ?_) (fun q => absurd hc q)
    refine j_iconst (dt_Mo_minds 15 (29, .iconst (-1), 1) rfl) ic_m1 ?_
    cases hf
    exact j_iret (dt_Mo_minds 16 (30, .ireturn, 1) rfl) rfl
  · refine j_if_eq (dt_Mo_minds 3 (5, .ifCond .eq 24, 3) rfl) rfl (fun q => absurd q hc) (fun _ => ?_)
    refine j_aload_n (dt_Mo_minds 4 (8, .aload_n 0, 1) rfl) rfl ?_
    refine j_iload_n (dt_Mo_minds 5 (9, .iload_n 2, 1) rfl) rfl ?_
    obtain ⟨x3, hx3, hf⟩ := jbind hf
    obtain ⟨b4, hb4⟩ := r_Mo_isCourse hx3
    refine j_callV M_Mo_isCourse 1 [ai v2] (rest := []) (dt_Mo_minds 6 (10, .invokevirtual 307, 3) rfl) ml_X12_307 ok_Mo_isCourse (jfit rfl rfl ⟨rfl, rfl⟩ (nle rfl) (nlt rfl)) rfl rfl (nle rfl) ⟨rfl, rfl⟩ hb4 ((c_Mo_isCourse hx3)) ?_
    refine jite hf (fun hc hf => ?_) (fun hc hf => ?_)
    · refine j_if_eq (dt_Mo_minds 7 (13, .ifCond .eq 16, 3) rfl) rfl (fun _ => ?_) (fun q => absurd hc q)
      refine j_iconst (dt_Mo_minds 15 (29, .iconst (-1), 1) rfl) ic_m1 ?_
      cases hf
      exact j_iret (dt_Mo_minds 16 (30, .ireturn, 1) rfl) rfl
    · refine j_if_eq (dt_Mo_minds 7 (13, .ifCond .eq 16, 3) rfl) rfl (fun q => absurd q hc) (fun _ => ?_)
      refine j_iload_n (dt_Mo_minds 8 (16, .iload_n 3, 1) rfl) rfl ?_
      refine j_iconst (dt_Mo_minds 9 (17, .iconst (-1), 1) rfl) ic_m1 ?_
      obtain ⟨k18, hk18, hf⟩ := jbind hf
      have hE18 : ∀ e18 : Unit, k18 = .inl e18 → jJ G M_Mo_minds (jEnd G M_Mo_minds (some (ai res.1)) (S, res.2)) 0 0 31 [(0, ar v0), (1, ai v1), (2, ai v2), (3, ai v3)] [] (S, V) := by
        intro e18 he18
        subst he18
        refine j_aload_n (dt_Mo_minds 17 (31, .aload_n 0, 1) rfl) rfl ?_
        refine j_iload_n (dt_Mo_minds 18 (32, .iload_n 1, 1) rfl) rfl ?_
        refine j_iload_n (dt_Mo_minds 19 (33, .iload_n 2, 1) rfl) rfl ?_
        refine j_iconst (dt_Mo_minds 20 (34, .iconst 0, 1) rfl) ic_0 ?_
        obtain ⟨V5, hV5, hf⟩ := jbind hf
        obtain ⟨b6, hb6⟩ := r_Mo_finds hV5
        refine j_callV M_Mo_finds 3 [ai v1, ai v2, ai 0] (rest := []) (dt_Mo_minds 21 (35, .invokevirtual 330, 3) rfl) ml_X12_330 ok_Mo_finds (jfit rfl rfl ⟨rfl, rfl⟩ (nle rfl) (nlt rfl)) rfl rfl (nle rfl) ⟨rfl, rfl⟩ hb6 ((c_Mo_finds hV5)) ?_
        refine j_iload_n (dt_Mo_minds 22 (38, .iload_n 3, 1) rfl) rfl ?_
        refine j_iconst (dt_Mo_minds 23 (39, .iconst (-1), 1) rfl) ic_m1 ?_
        refine jite hf (fun hc hf => ?_) (fun hc hf => ?_)
        · refine j_icmp_eq (dt_Mo_minds 24 (40, .if_icmp .eq 10, 3) rfl) rfl (fun _ => ?_) (fun q => absurd hc q)
          refine j_iconst (dt_Mo_minds 30 (50, .iconst (-1), 1) rfl) ic_m1 ?_
          refine j_istore (dt_Mo_minds 31 (51, .istore 4, 2) rfl) (nlt rfl) ?_
          refine j_iconst (dt_Mo_minds 32 (53, .iconst 0, 1) rfl) ic_0 ?_
          refine j_istore (dt_Mo_minds 33 (54, .istore 5, 2) rfl) (nlt rfl) ?_
          obtain ⟨t56, ht56, hf⟩ := jbind hf
          have hX56 : ∀ q56 : Int32, q56 = t56 → jJ G M_Mo_minds (jEnd G M_Mo_minds (some (ai res.1)) (S, res.2)) 0 0 110 [(4, ai q56)] [] (S, V5) := by
            intro q56 hq56
            subst hq56
            refine j_iload (dt_Mo_minds 61 (110, .iload 4, 2) rfl) rfl ?_
            cases hf
            exact j_iret (dt_Mo_minds 62 (112, .ireturn, 1) rfl) rfl
          refine j_sub (ls' := [(0, ar v0), (4, ai (-1)), (5, ai 0)]) rfl ?_
          refine jloop_J (C := fun s56 => jJ G M_Mo_minds (jEnd G M_Mo_minds (some (ai res.1)) (S, res.2)) 0 0 56 [(0, ar v0), (4, ai s56.1), (5, ai s56.2)] [] (S, V5)) (fun s56 z56_ hy56 hin56 hout56 => ?_) _ _ ht56
          unfold Mo_minds_L56 at hy56
          refine j_iload (dt_Mo_minds 34 (56, .iload 5, 2) rfl) rfl ?_
          refine j_aload_n (dt_Mo_minds 35 (58, .aload_n 0, 1) rfl) rfl ?_
          obtain ⟨x7, hx7, hy56⟩ := jbind hy56
          refine j_getR (dt_Mo_minds 36 (59, .getfield 44, 3) rfl) fl_X12_44 hx7 (fun _ _ => rfl) ?_
          refine j_iconst (dt_Mo_minds 37 (62, .iconst 0, 1) rfl) ic_0 ?_
          obtain ⟨x8, hx8, hy56⟩ := jbind hy56
          refine j_aldI (dt_Mo_minds 38 (63, .iaload, 1) rfl) hx8 ?_
          refine jite hy56 (fun hc hy56 => ?_) (fun hc hy56 => ?_)
          · refine j_icmp_ge (dt_Mo_minds 39 (64, .if_icmp .ge 46, 3) rfl) rfl (fun _ => ?_) (fun q => absurd hc q)
            cases hy56
            have hz := hX56 _ (hout56 _ rfl)
            exact j_sub rfl hz
          · refine j_icmp_ge (dt_Mo_minds 39 (64, .if_icmp .ge 46, 3) rfl) rfl (fun q => absurd q hc) (fun _ => ?_)
            refine j_aload_n (dt_Mo_minds 40 (67, .aload_n 0, 1) rfl) rfl ?_
            obtain ⟨x9, hx9, hy56⟩ := jbind hy56
            refine j_getR (dt_Mo_minds 41 (68, .getfield 108, 3) rfl) fl_X12_108 hx9 (fun _ _ => rfl) ?_
            refine j_iload (dt_Mo_minds 42 (71, .iload 5, 2) rfl) rfl ?_
            obtain ⟨x10, hx10, hy56⟩ := jbind hy56
            refine j_aldI (dt_Mo_minds 43 (73, .iaload, 1) rfl) hx10 ?_
            refine jite hy56 (fun hc hy56 => ?_) (fun hc hy56 => ?_)
            · refine j_if_le (dt_Mo_minds 44 (74, .ifCond .le 30, 3) rfl) rfl (fun _ => ?_) (fun q => absurd hc q)
              refine j_iinc (dt_Mo_minds 59 (104, .iinc 5 1, 3) rfl) rfl (nlt rfl) (ii_1 _) ?_
              refine j_goto (dt_Mo_minds 60 (107, .goto (-51), 3) rfl) rfl ?_
              cases hy56
              have hz := hin56 _ rfl
              exact j_sub rfl hz
            · refine j_if_le (dt_Mo_minds 44 (74, .ifCond .le 30, 3) rfl) rfl (fun q => absurd q hc) (fun _ => ?_)
              refine j_iload (dt_Mo_minds 45 (77, .iload 4, 2) rfl) rfl ?_
              refine j_iconst (dt_Mo_minds 46 (79, .iconst (-1), 1) rfl) ic_m1 ?_
              refine jite hy56 (fun hc hy56 => ?_) (fun hc hy56 => ?_)
              · refine j_icmp_eq (dt_Mo_minds 47 (80, .if_icmp .eq 20, 3) rfl) rfl (fun _ => ?_) (fun q => absurd hc q)
                refine j_iload (dt_Mo_minds 57 (100, .iload 5, 2) rfl) rfl ?_
                refine j_istore (dt_Mo_minds 58 (102, .istore 4, 2) rfl) (nlt rfl) ?_
                refine j_iinc (dt_Mo_minds 59 (104, .iinc 5 1, 3) rfl) rfl (nlt rfl) (ii_1 _) ?_
                refine j_goto (dt_Mo_minds 60 (107, .goto (-51), 3) rfl) rfl ?_
                cases hy56
                have hz := hin56 _ rfl
                exact j_sub rfl hz
              · refine j_icmp_eq (dt_Mo_minds 47 (80, .if_icmp .eq 20, 3) rfl) rfl (fun q => absurd q hc) (fun _ => ?_)
                refine j_aload_n (dt_Mo_minds 48 (83, .aload_n 0, 1) rfl) rfl ?_
                obtain ⟨x11, hx11, hy56⟩ := jbind hy56
                refine j_getR (dt_Mo_minds 49 (84, .getfield 108, 3) rfl) fl_X12_108 hx11 (fun _ _ => rfl) ?_
                refine j_iload (dt_Mo_minds 50 (87, .iload 5, 2) rfl) rfl ?_
                obtain ⟨x12, hx12, hy56⟩ := jbind hy56
                refine j_aldI (dt_Mo_minds 51 (89, .iaload, 1) rfl) hx12 ?_
                refine j_aload_n (dt_Mo_minds 52 (90, .aload_n 0, 1) rfl) rfl ?_
                obtain ⟨x13, hx13, hy56⟩ := jbind hy56
                refine j_getR (dt_Mo_minds 53 (91, .getfield 108, 3) rfl) fl_X12_108 hx13 (fun _ _ => rfl) ?_
                refine j_iload (dt_Mo_minds 54 (94, .iload 4, 2) rfl) rfl ?_
                obtain ⟨x14, hx14, hy56⟩ := jbind hy56
                refine j_aldI (dt_Mo_minds 55 (96, .iaload, 1) rfl) hx14 ?_
                refine jite hy56 (fun hc hy56 => ?_) (fun hc hy56 => ?_)
                · refine j_icmp_le (dt_Mo_minds 56 (97, .if_icmp .le 7, 3) rfl) rfl (fun _ => ?_) (fun q => absurd hc q)
                  refine j_iinc (dt_Mo_minds 59 (104, .iinc 5 1, 3) rfl) rfl (nlt rfl) (ii_1 _) ?_
                  refine j_goto (dt_Mo_minds 60 (107, .goto (-51), 3) rfl) rfl ?_
                  cases hy56
                  have hz := hin56 _ rfl
                  exact j_sub rfl hz
                · refine j_icmp_le (dt_Mo_minds 56 (97, .if_icmp .le 7, 3) rfl) rfl (fun q => absurd q hc) (fun _ => ?_)
                  refine j_iload (dt_Mo_minds 57 (100, .iload 5, 2) rfl) rfl ?_
                  refine j_istore (dt_Mo_minds 58 (102, .istore 4, 2) rfl) (nlt rfl) ?_
                  refine j_iinc (dt_Mo_minds 59 (104, .iinc 5 1, 3) rfl) rfl (nlt rfl) (ii_1 _) ?_
                  refine j_goto (dt_Mo_minds 60 (107, .goto (-51), 3) rfl) rfl ?_
                  cases hy56
                  have hz := hin56 _ rfl
                  exact j_sub rfl hz
        · refine j_icmp_eq (dt_Mo_minds 24 (40, .if_icmp .eq 10, 3) rfl) rfl (fun q => absurd q hc) (fun _ => ?_)
          refine j_aload_n (dt_Mo_minds 25 (43, .aload_n 0, 1) rfl) rfl ?_
          obtain ⟨x15, hx15, hf⟩ := jbind hf
          refine j_getR (dt_Mo_minds 26 (44, .getfield 108, 3) rfl) fl_X12_108 hx15 (fun _ _ => rfl) ?_
          refine j_iload_n (dt_Mo_minds 27 (47, .iload_n 3, 1) rfl) rfl ?_
          obtain ⟨x16, hx16, hf⟩ := jbind hf
          refine j_aldI (dt_Mo_minds 28 (48, .iaload, 1) rfl) hx16 ?_
          cases hf
          exact j_iret (dt_Mo_minds 29 (49, .ireturn, 1) rfl) rfl
      refine jite hk18 (fun hc hk18 => ?_) (fun hc hk18 => ?_)
      · refine j_icmp_eq (dt_Mo_minds 10 (18, .if_icmp .eq 13, 3) rfl) rfl (fun _ => ?_) (fun q => absurd hc q)
        cases hk18
        have hz := hE18 _ rfl
        exact j_sub rfl hz
      · refine j_icmp_eq (dt_Mo_minds 10 (18, .if_icmp .eq 13, 3) rfl) rfl (fun q => absurd q hc) (fun _ => ?_)
        refine j_aload_n (dt_Mo_minds 11 (21, .aload_n 0, 1) rfl) rfl ?_
        refine j_iload_n (dt_Mo_minds 12 (22, .iload_n 3, 1) rfl) rfl ?_
        obtain ⟨x17, hx17, hk18⟩ := jbind hk18
        obtain ⟨b18, hb18⟩ := r_Mo_isGuest hx17
        refine j_callV M_Mo_isGuest 1 [ai v3] (rest := []) (dt_Mo_minds 13 (23, .invokevirtual 275, 3) rfl) ml_X12_275 ok_Mo_isGuest (jfit rfl rfl ⟨rfl, rfl⟩ (nle rfl) (nlt rfl)) rfl rfl (nle rfl) ⟨rfl, rfl⟩ hb18 ((c_Mo_isGuest hx17)) ?_
        refine jite hk18 (fun hc hk18 => ?_) (fun hc hk18 => ?_)
        · refine j_if_ne (dt_Mo_minds 14 (26, .ifCond .ne 5, 3) rfl) rfl (fun q => absurd hc q) (fun _ => ?_)
          refine j_iconst (dt_Mo_minds 15 (29, .iconst (-1), 1) rfl) ic_m1 ?_
          cases hk18
          cases hf
          exact j_iret (dt_Mo_minds 16 (30, .ireturn, 1) rfl) rfl
        · refine j_if_ne (dt_Mo_minds 14 (26, .ifCond .ne 5, 3) rfl) rfl (fun _ => ?_) (fun q => absurd q hc)
          cases hk18
          have hz := hE18 _ rfl
          exact j_sub rfl hz
theorem r_Mo_minds {S : hS} {V : hV} {v0 : Option Nat} {v1 : Int32} {v2 : Int32} {v3 : Int32} {res : Int32 × hV} (hf : Mo_minds S v0 v1 v2 v3 V = some res) : ∃ b, rc S 12 v0 = some b := by
  unfold Mo_minds at hf
  obtain ⟨b, hb, _⟩ := jbind hf
  exact ⟨b, hb⟩
def tb_Mo_ranks : List (Nat × Instr × Nat) := [(0, .iconst 0, 1), (1, .istore_n 3, 1), (2, .iload_n 3, 1), (3, .aload_n 0, 1), (4, .getfield 44, 3), (7, .iconst 0, 1), (8, .iaload, 1), (9, .if_icmp .ge 138, 3), (12, .iconst 0, 1), (13, .istore 4, 2), (15, .iload 4, 2), (17, .aload_n 0, 1), (18, .getfield 44, 3), (21, .iconst 0, 1), (22, .iaload, 1), (23, .if_icmp .ge 118, 3), (26, .aload_n 0, 1), (27, .getfield 111, 3), (30, .bipush 10, 2), (32, .iload_n 3, 1), (33, .imul, 1), (34, .iload 4, 2), (36, .iadd, 1), (37, .aload_n 0, 1), (38, .iload_n 1, 1), (39, .iload_n 3, 1), (40, .iload 4, 2), (42, .iload_n 2, 1), (43, .invokevirtual 340, 3), (46, .iconst (-1), 1), (47, .if_icmp .eq 7, 3), (50, .iconst 1, 1), (51, .goto 4, 3), (54, .iconst 0, 1), (55, .bastore, 1), (56, .aload_n 0, 1), (57, .getfield 113, 3), (60, .bipush 10, 2), (62, .iload_n 3, 1), (63, .imul, 1), (64, .iload 4, 2), (66, .iadd, 1), (67, .iconst 0, 1), (68, .bastore, 1), (69, .iconst 0, 1), (70, .istore 5, 2), (72, .iload 5, 2), (74, .aload_n 0, 1), (75, .getfield 51, 3), (78, .iconst 0, 1), (79, .iaload, 1), (80, .if_icmp .ge 55, 3), (83, .aload_n 0, 1), (84, .getfield 113, 3), (87, .bipush 10, 2), (89, .iload_n 3, 1), (90, .imul, 1), (91, .iload 4, 2), (93, .iadd, 1), (94, .dup2, 1), (95, .baload, 1), (96, .aload_n 0, 1), (97, .getfield 26, 3), (100, .iconst 0, 1), (101, .aaload, 1), (102, .iload 5, 2), (104, .iaload, 1), (105, .iconst 1, 1), (106, .if_icmp .ne 20, 3), (109, .aload_n 0, 1), (110, .iload 5, 2), (112, .iload_n 1, 1), (113, .iload_n 3, 1), (114, .iload 4, 2), (116, .invokevirtual 320, 3), (119, .ifCond .eq 7, 3), (122, .iconst 1, 1), (123, .goto 4, 3), (126, .iconst 0, 1), (127, .ior, 1), (128, .bastore, 1), (129, .iinc 5 1, 3), (132, .goto (-60), 3), (135, .iinc 4 1, 3), (138, .goto (-123), 3), (141, .iinc 3 1, 3), (144, .goto (-142), 3), (147, .return_, 1)]
theorem dt_Mo_ranks (i : Nat) (q : Nat × Instr × Nat) (h : tb_Mo_ranks[i]? = some q) : decode prog_14_method_51_code q.1 = .ok q.2 := jdt (by decide +kernel : tb_Mo_ranks.all (fun q => decide (decode prog_14_method_51_code q.1 = .ok q.2)) = true) h
theorem ok_Mo_ranks : jOKV M_Mo_ranks 2 := ⟨⟨gt7 192 rfl rfl, gt1 17 rfl rfl, (by decide : "FirstInModel" ≠ "java/lang/invoke/MethodHandle"), (by decide : "FirstInModel" ≠ "java/lang/invoke/VarHandle"), (by decide +kernel : (parseMethodDescriptor "(II)V").map (fun d => d.parameters.length) = some 2)⟩, gt7 191 rfl rfl, gs_in 36 rfl, rfl, nlt rfl⟩
set_option maxRecDepth 100000 in
set_option maxHeartbeats 4000000 in
theorem c_Mo_ranks {G : jG} {S : hS} {V : hV} {v0 : Option Nat} {v1 : Int32} {v2 : Int32} {res : hV} (hf : Mo_ranks S v0 v1 v2 V = some res) : jC G M_Mo_ranks [ar v0, ai v1, ai v2] (S, V) none (S, res) := by
  unfold Mo_ranks at hf
  obtain ⟨_, _, hf⟩ := jbind hf
  refine jC_of (pf_X12 _ _) rfl (nle rfl) ?_
  show jJ G M_Mo_ranks (jEnd G M_Mo_ranks none (S, res)) 0 0 0 [(0, ar v0), (1, ai v1), (2, ai v2)] [] (S, V)
  refine j_iconst (dt_Mo_ranks 0 (0, .iconst 0, 1) rfl) ic_0 ?_
  refine j_istore_n (dt_Mo_ranks 1 (1, .istore_n 3, 1) rfl) (nlt rfl) ?_
  obtain ⟨t2, ht2, hf⟩ := jbind hf
  have hX2 : ∀ q2 : hV, q2 = t2 → jJ G M_Mo_ranks (jEnd G M_Mo_ranks none (S, res)) 0 0 147 [] [] (S, q2) := by
    intro q2 hq2
    subst hq2
    cases hf
    exact j_vret (dt_Mo_ranks 87 (147, .return_, 1) rfl) rfl
  refine j_sub (ls' := [(0, ar v0), (1, ai v1), (2, ai v2), (3, ai 0)]) rfl ?_
  refine jloop_J (C := fun s2 => jJ G M_Mo_ranks (jEnd G M_Mo_ranks none (S, res)) 0 0 2 [(0, ar v0), (1, ai v1), (2, ai v2), (3, ai s2.1)] [] (S, s2.2)) (fun s2 z2_ hy2 hin2 hout2 => ?_) _ _ ht2
  unfold Mo_ranks_L2 at hy2
  refine j_iload_n (dt_Mo_ranks 2 (2, .iload_n 3, 1) rfl) rfl ?_
  refine j_aload_n (dt_Mo_ranks 3 (3, .aload_n 0, 1) rfl) rfl ?_
  obtain ⟨x1, hx1, hy2⟩ := jbind hy2
  refine j_getR (dt_Mo_ranks 4 (4, .getfield 44, 3) rfl) fl_X12_44 hx1 (fun _ _ => rfl) ?_
  refine j_iconst (dt_Mo_ranks 5 (7, .iconst 0, 1) rfl) ic_0 ?_
  obtain ⟨x2, hx2, hy2⟩ := jbind hy2
  refine j_aldI (dt_Mo_ranks 6 (8, .iaload, 1) rfl) hx2 ?_
  refine jite hy2 (fun hc hy2 => ?_) (fun hc hy2 => ?_)
  · refine j_icmp_ge (dt_Mo_ranks 7 (9, .if_icmp .ge 138, 3) rfl) rfl (fun _ => ?_) (fun q => absurd hc q)
    cases hy2
    have hz := hX2 _ (hout2 _ rfl)
    exact j_sub rfl hz
  · refine j_icmp_ge (dt_Mo_ranks 7 (9, .if_icmp .ge 138, 3) rfl) rfl (fun q => absurd q hc) (fun _ => ?_)
    refine j_iconst (dt_Mo_ranks 8 (12, .iconst 0, 1) rfl) ic_0 ?_
    refine j_istore (dt_Mo_ranks 9 (13, .istore 4, 2) rfl) (nlt rfl) ?_
    obtain ⟨t15, ht15, hy2⟩ := jbind hy2
    have hX15 : ∀ q15 : hV, q15 = t15 → jJ G M_Mo_ranks (jEnd G M_Mo_ranks none (S, res)) 0 0 141 [(0, ar v0), (1, ai v1), (2, ai v2), (3, ai s2.1)] [] (S, q15) := by
      intro q15 hq15
      subst hq15
      refine j_iinc (dt_Mo_ranks 85 (141, .iinc 3 1, 3) rfl) rfl (nlt rfl) (ii_1 _) ?_
      refine j_goto (dt_Mo_ranks 86 (144, .goto (-142), 3) rfl) rfl ?_
      cases hy2
      have hz := hin2 _ rfl
      exact j_sub rfl hz
    refine j_sub (ls' := [(0, ar v0), (1, ai v1), (2, ai v2), (3, ai s2.1), (4, ai 0)]) rfl ?_
    refine jloop_J (C := fun s15 => jJ G M_Mo_ranks (jEnd G M_Mo_ranks none (S, res)) 0 0 15 [(0, ar v0), (1, ai v1), (2, ai v2), (3, ai s2.1), (4, ai s15.1)] [] (S, s15.2)) (fun s15 z15_ hy15 hin15 hout15 => ?_) _ _ ht15
    unfold Mo_ranks_L15 at hy15
    refine j_iload (dt_Mo_ranks 10 (15, .iload 4, 2) rfl) rfl ?_
    refine j_aload_n (dt_Mo_ranks 11 (17, .aload_n 0, 1) rfl) rfl ?_
    obtain ⟨x3, hx3, hy15⟩ := jbind hy15
    refine j_getR (dt_Mo_ranks 12 (18, .getfield 44, 3) rfl) fl_X12_44 hx3 (fun _ _ => rfl) ?_
    refine j_iconst (dt_Mo_ranks 13 (21, .iconst 0, 1) rfl) ic_0 ?_
    obtain ⟨x4, hx4, hy15⟩ := jbind hy15
    refine j_aldI (dt_Mo_ranks 14 (22, .iaload, 1) rfl) hx4 ?_
    refine jite hy15 (fun hc hy15 => ?_) (fun hc hy15 => ?_)
    · refine j_icmp_ge (dt_Mo_ranks 15 (23, .if_icmp .ge 118, 3) rfl) rfl (fun _ => ?_) (fun q => absurd hc q)
      cases hy15
      have hz := hX15 _ (hout15 _ rfl)
      exact j_sub rfl hz
    · refine j_icmp_ge (dt_Mo_ranks 15 (23, .if_icmp .ge 118, 3) rfl) rfl (fun q => absurd q hc) (fun _ => ?_)
      refine j_aload_n (dt_Mo_ranks 16 (26, .aload_n 0, 1) rfl) rfl ?_
      obtain ⟨x5, hx5, hy15⟩ := jbind hy15
      refine j_getR (dt_Mo_ranks 17 (27, .getfield 111, 3) rfl) fl_X12_111 hx5 (fun _ _ => rfl) ?_
      refine j_bipush (dt_Mo_ranks 18 (30, .bipush 10, 2) rfl) bp_10 ?_
      refine j_iload_n (dt_Mo_ranks 19 (32, .iload_n 3, 1) rfl) rfl ?_
      refine j_imul (dt_Mo_ranks 20 (33, .imul, 1) rfl) ?_
      refine j_iload (dt_Mo_ranks 21 (34, .iload 4, 2) rfl) rfl ?_
      refine j_iadd (dt_Mo_ranks 22 (36, .iadd, 1) rfl) ?_
      refine j_aload_n (dt_Mo_ranks 23 (37, .aload_n 0, 1) rfl) rfl ?_
      refine j_iload_n (dt_Mo_ranks 24 (38, .iload_n 1, 1) rfl) rfl ?_
      refine j_iload_n (dt_Mo_ranks 25 (39, .iload_n 3, 1) rfl) rfl ?_
      refine j_iload (dt_Mo_ranks 26 (40, .iload 4, 2) rfl) rfl ?_
      refine j_iload_n (dt_Mo_ranks 27 (42, .iload_n 2, 1) rfl) rfl ?_
      obtain ⟨x6, hx6, hy15⟩ := jbind hy15
      obtain ⟨b7, hb7⟩ := r_Mo_sourceOf hx6
      refine j_callV M_Mo_sourceOf 4 [ai v1, ai s2.1, ai s15.1, ai v2] (rest := [ai ((10 * s2.1) + s15.1), ar x5]) (dt_Mo_ranks 28 (43, .invokevirtual 340, 3) rfl) ml_X12_340 ok_Mo_sourceOf (jfit rfl rfl ⟨rfl, rfl⟩ (nle rfl) (nlt rfl)) rfl rfl (nle rfl) ⟨rfl, rfl⟩ hb7 ((c_Mo_sourceOf hx6)) ?_
      refine j_iconst (dt_Mo_ranks 29 (46, .iconst (-1), 1) rfl) ic_m1 ?_
      obtain ⟨j47, hj47, hy15⟩ := jbind hy15
      have hP47 : jJ G M_Mo_ranks (jEnd G M_Mo_ranks none (S, res)) 0 0 55 [(0, ar v0), (1, ai v1), (2, ai v2), (3, ai s2.1), (4, ai s15.1)] [ai j47, ai ((10 * s2.1) + s15.1), ar x5] (S, s15.2) := by
        obtain ⟨V8, hV8, hy15⟩ := jbind hy15
        refine j_astZ (dt_Mo_ranks 34 (55, .bastore, 1) rfl) hV8 ?_
        refine j_aload_n (dt_Mo_ranks 35 (56, .aload_n 0, 1) rfl) rfl ?_
        obtain ⟨x9, hx9, hy15⟩ := jbind hy15
        refine j_getR (dt_Mo_ranks 36 (57, .getfield 113, 3) rfl) fl_X12_113 hx9 (fun _ _ => rfl) ?_
        refine j_bipush (dt_Mo_ranks 37 (60, .bipush 10, 2) rfl) bp_10 ?_
        refine j_iload_n (dt_Mo_ranks 38 (62, .iload_n 3, 1) rfl) rfl ?_
        refine j_imul (dt_Mo_ranks 39 (63, .imul, 1) rfl) ?_
        refine j_iload (dt_Mo_ranks 40 (64, .iload 4, 2) rfl) rfl ?_
        refine j_iadd (dt_Mo_ranks 41 (66, .iadd, 1) rfl) ?_
        refine j_iconst (dt_Mo_ranks 42 (67, .iconst 0, 1) rfl) ic_0 ?_
        obtain ⟨V10, hV10, hy15⟩ := jbind hy15
        refine j_astZ (dt_Mo_ranks 43 (68, .bastore, 1) rfl) hV10 ?_
        refine j_iconst (dt_Mo_ranks 44 (69, .iconst 0, 1) rfl) ic_0 ?_
        refine j_istore (dt_Mo_ranks 45 (70, .istore 5, 2) rfl) (nlt rfl) ?_
        obtain ⟨t72, ht72, hy15⟩ := jbind hy15
        have hX72 : ∀ q72 : hV, q72 = t72 → jJ G M_Mo_ranks (jEnd G M_Mo_ranks none (S, res)) 0 0 135 [(0, ar v0), (1, ai v1), (2, ai v2), (3, ai s2.1), (4, ai s15.1)] [] (S, q72) := by
          intro q72 hq72
          subst hq72
          refine j_iinc (dt_Mo_ranks 83 (135, .iinc 4 1, 3) rfl) rfl (nlt rfl) (ii_1 _) ?_
          refine j_goto (dt_Mo_ranks 84 (138, .goto (-123), 3) rfl) rfl ?_
          cases hy15
          have hz := hin15 _ rfl
          exact j_sub rfl hz
        refine j_sub (ls' := [(0, ar v0), (1, ai v1), (2, ai v2), (3, ai s2.1), (4, ai s15.1), (5, ai 0)]) rfl ?_
        refine jloop_J (C := fun s72 => jJ G M_Mo_ranks (jEnd G M_Mo_ranks none (S, res)) 0 0 72 [(0, ar v0), (1, ai v1), (2, ai v2), (3, ai s2.1), (4, ai s15.1), (5, ai s72.1)] [] (S, s72.2)) (fun s72 z72_ hy72 hin72 hout72 => ?_) _ _ ht72
        unfold Mo_ranks_L72 at hy72
        refine j_iload (dt_Mo_ranks 46 (72, .iload 5, 2) rfl) rfl ?_
        refine j_aload_n (dt_Mo_ranks 47 (74, .aload_n 0, 1) rfl) rfl ?_
        obtain ⟨x11, hx11, hy72⟩ := jbind hy72
        refine j_getR (dt_Mo_ranks 48 (75, .getfield 51, 3) rfl) fl_X12_51 hx11 (fun _ _ => rfl) ?_
        refine j_iconst (dt_Mo_ranks 49 (78, .iconst 0, 1) rfl) ic_0 ?_
        obtain ⟨x12, hx12, hy72⟩ := jbind hy72
        refine j_aldI (dt_Mo_ranks 50 (79, .iaload, 1) rfl) hx12 ?_
        refine jite hy72 (fun hc hy72 => ?_) (fun hc hy72 => ?_)
        · refine j_icmp_ge (dt_Mo_ranks 51 (80, .if_icmp .ge 55, 3) rfl) rfl (fun _ => ?_) (fun q => absurd hc q)
          cases hy72
          have hz := hX72 _ (hout72 _ rfl)
          exact j_sub rfl hz
        · refine j_icmp_ge (dt_Mo_ranks 51 (80, .if_icmp .ge 55, 3) rfl) rfl (fun q => absurd q hc) (fun _ => ?_)
          refine j_aload_n (dt_Mo_ranks 52 (83, .aload_n 0, 1) rfl) rfl ?_
          obtain ⟨x13, hx13, hy72⟩ := jbind hy72
          refine j_getR (dt_Mo_ranks 53 (84, .getfield 113, 3) rfl) fl_X12_113 hx13 (fun _ _ => rfl) ?_
          refine j_bipush (dt_Mo_ranks 54 (87, .bipush 10, 2) rfl) bp_10 ?_
          refine j_iload_n (dt_Mo_ranks 55 (89, .iload_n 3, 1) rfl) rfl ?_
          refine j_imul (dt_Mo_ranks 56 (90, .imul, 1) rfl) ?_
          refine j_iload (dt_Mo_ranks 57 (91, .iload 4, 2) rfl) rfl ?_
          refine j_iadd (dt_Mo_ranks 58 (93, .iadd, 1) rfl) ?_
          refine j_dup2 (dt_Mo_ranks 59 (94, .dup2, 1) rfl) rfl rfl ?_
          obtain ⟨x14, hx14, hy72⟩ := jbind hy72
          refine j_aldZ (dt_Mo_ranks 60 (95, .baload, 1) rfl) hx14 ?_
          refine j_aload_n (dt_Mo_ranks 61 (96, .aload_n 0, 1) rfl) rfl ?_
          obtain ⟨x15, hx15, hy72⟩ := jbind hy72
          refine j_getR (dt_Mo_ranks 62 (97, .getfield 26, 3) rfl) fl_X12_26 hx15 (fun _ _ => rfl) ?_
          refine j_iconst (dt_Mo_ranks 63 (100, .iconst 0, 1) rfl) ic_0 ?_
          obtain ⟨x16, hx16, hy72⟩ := jbind hy72
          refine j_aldR 107 (dt_Mo_ranks 64 (101, .aaload, 1) rfl) (by decide) hx16 ?_
          refine j_iload (dt_Mo_ranks 65 (102, .iload 5, 2) rfl) rfl ?_
          obtain ⟨x17, hx17, hy72⟩ := jbind hy72
          refine j_aldI (dt_Mo_ranks 66 (104, .iaload, 1) rfl) hx17 ?_
          refine j_iconst (dt_Mo_ranks 67 (105, .iconst 1, 1) rfl) ic_1 ?_
          obtain ⟨j106, hj106, hy72⟩ := jbind hy72
          have hP106 : jJ G M_Mo_ranks (jEnd G M_Mo_ranks none (S, res)) 0 0 127 [(0, ar v0), (1, ai v1), (2, ai v2), (3, ai s2.1), (4, ai s15.1), (5, ai s72.1)] [ai j106, ai x14, ai ((10 * s2.1) + s15.1), ar x13] (S, s72.2) := by
            refine j_ior (dt_Mo_ranks 79 (127, .ior, 1) rfl) ?_
            obtain ⟨V18, hV18, hy72⟩ := jbind hy72
            refine j_astZ (dt_Mo_ranks 80 (128, .bastore, 1) rfl) hV18 ?_
            refine j_iinc (dt_Mo_ranks 81 (129, .iinc 5 1, 3) rfl) rfl (nlt rfl) (ii_1 _) ?_
            refine j_goto (dt_Mo_ranks 82 (132, .goto (-60), 3) rfl) rfl ?_
            cases hy72
            have hz := hin72 _ rfl
            exact j_sub rfl hz
          refine jite hj106 (fun hc hj106 => ?_) (fun hc hj106 => ?_)
          · refine j_icmp_ne (dt_Mo_ranks 68 (106, .if_icmp .ne 20, 3) rfl) rfl (fun q => absurd hc q) (fun _ => ?_)
            refine j_aload_n (dt_Mo_ranks 69 (109, .aload_n 0, 1) rfl) rfl ?_
            refine j_iload (dt_Mo_ranks 70 (110, .iload 5, 2) rfl) rfl ?_
            refine j_iload_n (dt_Mo_ranks 71 (112, .iload_n 1, 1) rfl) rfl ?_
            refine j_iload_n (dt_Mo_ranks 72 (113, .iload_n 3, 1) rfl) rfl ?_
            refine j_iload (dt_Mo_ranks 73 (114, .iload 4, 2) rfl) rfl ?_
            obtain ⟨x19, hx19, hj106⟩ := jbind hj106
            obtain ⟨b20, hb20⟩ := r_Mo_countsFor hx19
            refine j_callV M_Mo_countsFor 4 [ai s72.1, ai v1, ai s2.1, ai s15.1] (rest := [ai x14, ai ((10 * s2.1) + s15.1), ar x13]) (dt_Mo_ranks 74 (116, .invokevirtual 320, 3) rfl) ml_X12_320 ok_Mo_countsFor (jfit rfl rfl ⟨rfl, rfl⟩ (nle rfl) (nlt rfl)) rfl rfl (nle rfl) ⟨rfl, rfl⟩ hb20 ((c_Mo_countsFor hx19)) ?_
            refine jite hj106 (fun hc hj106 => ?_) (fun hc hj106 => ?_)
            · refine j_if_eq (dt_Mo_ranks 75 (119, .ifCond .eq 7, 3) rfl) rfl (fun _ => ?_) (fun q => absurd hc q)
              refine j_iconst (dt_Mo_ranks 78 (126, .iconst 0, 1) rfl) ic_0 ?_
              cases hj106
              exact j_sub rfl hP106
            · refine j_if_eq (dt_Mo_ranks 75 (119, .ifCond .eq 7, 3) rfl) rfl (fun q => absurd q hc) (fun _ => ?_)
              refine j_iconst (dt_Mo_ranks 76 (122, .iconst 1, 1) rfl) ic_1 ?_
              refine j_goto (dt_Mo_ranks 77 (123, .goto 4, 3) rfl) rfl ?_
              cases hj106
              exact j_sub rfl hP106
          · refine j_icmp_ne (dt_Mo_ranks 68 (106, .if_icmp .ne 20, 3) rfl) rfl (fun _ => ?_) (fun q => absurd q hc)
            refine j_iconst (dt_Mo_ranks 78 (126, .iconst 0, 1) rfl) ic_0 ?_
            cases hj106
            exact j_sub rfl hP106
      refine jite hj47 (fun hc hj47 => ?_) (fun hc hj47 => ?_)
      · refine j_icmp_eq (dt_Mo_ranks 30 (47, .if_icmp .eq 7, 3) rfl) rfl (fun _ => ?_) (fun q => absurd hc q)
        refine j_iconst (dt_Mo_ranks 33 (54, .iconst 0, 1) rfl) ic_0 ?_
        cases hj47
        exact j_sub rfl hP47
      · refine j_icmp_eq (dt_Mo_ranks 30 (47, .if_icmp .eq 7, 3) rfl) rfl (fun q => absurd q hc) (fun _ => ?_)
        refine j_iconst (dt_Mo_ranks 31 (50, .iconst 1, 1) rfl) ic_1 ?_
        refine j_goto (dt_Mo_ranks 32 (51, .goto 4, 3) rfl) rfl ?_
        cases hj47
        exact j_sub rfl hP47
theorem r_Mo_ranks {S : hS} {V : hV} {v0 : Option Nat} {v1 : Int32} {v2 : Int32} {res : hV} (hf : Mo_ranks S v0 v1 v2 V = some res) : ∃ b, rc S 12 v0 = some b := by
  unfold Mo_ranks at hf
  obtain ⟨b, hb, _⟩ := jbind hf
  exact ⟨b, hb⟩
def tb_Mo_source : List (Nat × Instr × Nat) := [(0, .aload_n 0, 1), (1, .iload_n 1, 1), (2, .invokevirtual 297, 3), (5, .ifCond .eq 30, 3), (8, .aload_n 0, 1), (9, .iload_n 2, 1), (10, .invokevirtual 275, 3), (13, .ifCond .eq 22, 3), (16, .aload_n 0, 1), (17, .iload_n 3, 1), (18, .invokevirtual 275, 3), (21, .ifCond .eq 14, 3), (24, .aload_n 0, 1), (25, .iload_n 1, 1), (26, .iload_n 2, 1), (27, .iload_n 3, 1), (28, .iconst 0, 1), (29, .invokevirtual 340, 3), (32, .goto 4, 3), (35, .iconst (-1), 1), (36, .ireturn, 1)]
theorem dt_Mo_source (i : Nat) (q : Nat × Instr × Nat) (h : tb_Mo_source[i]? = some q) : decode prog_14_method_52_code q.1 = .ok q.2 := jdt (by decide +kernel : tb_Mo_source.all (fun q => decide (decode prog_14_method_52_code q.1 = .ok q.2)) = true) h
theorem ok_Mo_source : jOKV M_Mo_source 3 := ⟨⟨gt7 184 rfl rfl, gt1 17 rfl rfl, (by decide : "FirstInModel" ≠ "java/lang/invoke/MethodHandle"), (by decide : "FirstInModel" ≠ "java/lang/invoke/VarHandle"), (by decide +kernel : (parseMethodDescriptor "(III)I").map (fun d => d.parameters.length) = some 3)⟩, gt7 182 rfl rfl, gt7 183 rfl rfl, rfl, nlt rfl⟩
set_option maxRecDepth 100000 in
set_option maxHeartbeats 4000000 in
theorem c_Mo_source {G : jG} {S : hS} {V : hV} {v0 : Option Nat} {v1 : Int32} {v2 : Int32} {v3 : Int32} {res : Int32} (hf : Mo_source S v0 v1 v2 v3 V = some res) : jC G M_Mo_source [ar v0, ai v1, ai v2, ai v3] (S, V) (some (ai res)) (S, V) := by
  unfold Mo_source at hf
  obtain ⟨_, _, hf⟩ := jbind hf
  refine jC_of (pf_X12 _ _) rfl (nle rfl) ?_
  show jJ G M_Mo_source (jEnd G M_Mo_source (some (ai res)) (S, V)) 0 0 0 [(0, ar v0), (1, ai v1), (2, ai v2), (3, ai v3)] [] (S, V)
  refine j_aload_n (dt_Mo_source 0 (0, .aload_n 0, 1) rfl) rfl ?_
  refine j_iload_n (dt_Mo_source 1 (1, .iload_n 1, 1) rfl) rfl ?_
  obtain ⟨x1, hx1, hf⟩ := jbind hf
  obtain ⟨b2, hb2⟩ := r_Mo_isRoom hx1
  refine j_callV M_Mo_isRoom 1 [ai v1] (rest := []) (dt_Mo_source 2 (2, .invokevirtual 297, 3) rfl) ml_X12_297 ok_Mo_isRoom (jfit rfl rfl ⟨rfl, rfl⟩ (nle rfl) (nlt rfl)) rfl rfl (nle rfl) ⟨rfl, rfl⟩ hb2 ((c_Mo_isRoom hx1)) ?_
  refine jite hf (fun hc hf => ?_) (fun hc hf => ?_)
  · refine j_if_eq (dt_Mo_source 3 (5, .ifCond .eq 30, 3) rfl) rfl (fun _ => ?_) (fun q => absurd hc q)
    refine j_iconst (dt_Mo_source 19 (35, .iconst (-1), 1) rfl) ic_m1 ?_
    cases hf
    exact j_iret (dt_Mo_source 20 (36, .ireturn, 1) rfl) rfl
  · refine j_if_eq (dt_Mo_source 3 (5, .ifCond .eq 30, 3) rfl) rfl (fun q => absurd q hc) (fun _ => ?_)
    refine j_aload_n (dt_Mo_source 4 (8, .aload_n 0, 1) rfl) rfl ?_
    refine j_iload_n (dt_Mo_source 5 (9, .iload_n 2, 1) rfl) rfl ?_
    obtain ⟨x3, hx3, hf⟩ := jbind hf
    obtain ⟨b4, hb4⟩ := r_Mo_isGuest hx3
    refine j_callV M_Mo_isGuest 1 [ai v2] (rest := []) (dt_Mo_source 6 (10, .invokevirtual 275, 3) rfl) ml_X12_275 ok_Mo_isGuest (jfit rfl rfl ⟨rfl, rfl⟩ (nle rfl) (nlt rfl)) rfl rfl (nle rfl) ⟨rfl, rfl⟩ hb4 ((c_Mo_isGuest hx3)) ?_
    refine jite hf (fun hc hf => ?_) (fun hc hf => ?_)
    · refine j_if_eq (dt_Mo_source 7 (13, .ifCond .eq 22, 3) rfl) rfl (fun _ => ?_) (fun q => absurd hc q)
      refine j_iconst (dt_Mo_source 19 (35, .iconst (-1), 1) rfl) ic_m1 ?_
      cases hf
      exact j_iret (dt_Mo_source 20 (36, .ireturn, 1) rfl) rfl
    · refine j_if_eq (dt_Mo_source 7 (13, .ifCond .eq 22, 3) rfl) rfl (fun q => absurd q hc) (fun _ => ?_)
      refine j_aload_n (dt_Mo_source 8 (16, .aload_n 0, 1) rfl) rfl ?_
      refine j_iload_n (dt_Mo_source 9 (17, .iload_n 3, 1) rfl) rfl ?_
      obtain ⟨x5, hx5, hf⟩ := jbind hf
      obtain ⟨b6, hb6⟩ := r_Mo_isGuest hx5
      refine j_callV M_Mo_isGuest 1 [ai v3] (rest := []) (dt_Mo_source 10 (18, .invokevirtual 275, 3) rfl) ml_X12_275 ok_Mo_isGuest (jfit rfl rfl ⟨rfl, rfl⟩ (nle rfl) (nlt rfl)) rfl rfl (nle rfl) ⟨rfl, rfl⟩ hb6 ((c_Mo_isGuest hx5)) ?_
      refine jite hf (fun hc hf => ?_) (fun hc hf => ?_)
      · refine j_if_eq (dt_Mo_source 11 (21, .ifCond .eq 14, 3) rfl) rfl (fun _ => ?_) (fun q => absurd hc q)
        refine j_iconst (dt_Mo_source 19 (35, .iconst (-1), 1) rfl) ic_m1 ?_
        cases hf
        exact j_iret (dt_Mo_source 20 (36, .ireturn, 1) rfl) rfl
      · refine j_if_eq (dt_Mo_source 11 (21, .ifCond .eq 14, 3) rfl) rfl (fun q => absurd q hc) (fun _ => ?_)
        refine j_aload_n (dt_Mo_source 12 (24, .aload_n 0, 1) rfl) rfl ?_
        refine j_iload_n (dt_Mo_source 13 (25, .iload_n 1, 1) rfl) rfl ?_
        refine j_iload_n (dt_Mo_source 14 (26, .iload_n 2, 1) rfl) rfl ?_
        refine j_iload_n (dt_Mo_source 15 (27, .iload_n 3, 1) rfl) rfl ?_
        refine j_iconst (dt_Mo_source 16 (28, .iconst 0, 1) rfl) ic_0 ?_
        obtain ⟨x7, hx7, hf⟩ := jbind hf
        obtain ⟨b8, hb8⟩ := r_Mo_sourceOf hx7
        refine j_callV M_Mo_sourceOf 4 [ai v1, ai v2, ai v3, ai 0] (rest := []) (dt_Mo_source 17 (29, .invokevirtual 340, 3) rfl) ml_X12_340 ok_Mo_sourceOf (jfit rfl rfl ⟨rfl, rfl⟩ (nle rfl) (nlt rfl)) rfl rfl (nle rfl) ⟨rfl, rfl⟩ hb8 ((c_Mo_sourceOf hx7)) ?_
        refine j_goto (dt_Mo_source 18 (32, .goto 4, 3) rfl) rfl ?_
        cases hf
        exact j_iret (dt_Mo_source 20 (36, .ireturn, 1) rfl) rfl
theorem r_Mo_source {S : hS} {V : hV} {v0 : Option Nat} {v1 : Int32} {v2 : Int32} {v3 : Int32} {res : Int32} (hf : Mo_source S v0 v1 v2 v3 V = some res) : ∃ b, rc S 12 v0 = some b := by
  unfold Mo_source at hf
  obtain ⟨b, hb, _⟩ := jbind hf
  exact ⟨b, hb⟩
def tb_Mo_leads : List (Nat × Instr × Nat) := [(0, .iconst 0, 1), (1, .istore_n 3, 1), (2, .iload_n 3, 1), (3, .bipush 10, 2), (5, .if_icmp .ge 25, 3), (8, .aload_n 0, 1), (9, .getfield 115, 3), (12, .iload_n 3, 1), (13, .iload_n 3, 1), (14, .iload_n 1, 1), (15, .if_icmp .ne 7, 3), (18, .iconst 0, 1), (19, .goto 4, 3), (22, .iconst (-1), 1), (23, .iastore, 1), (24, .iinc 3 1, 3), (27, .goto (-25), 3), (30, .iconst 0, 1), (31, .istore_n 3, 1), (32, .iload_n 3, 1), (33, .bipush 10, 2), (35, .if_icmp .ge 119, 3), (38, .iconst 0, 1), (39, .istore 4, 2), (41, .iload 4, 2), (43, .aload_n 0, 1), (44, .getfield 44, 3), (47, .iconst 0, 1), (48, .iaload, 1), (49, .if_icmp .ge 99, 3), (52, .aload_n 0, 1), (53, .getfield 115, 3), (56, .iload 4, 2), (58, .iaload, 1), (59, .iconst (-1), 1), (60, .if_icmp .ne 82, 3), (63, .iload_n 2, 1), (64, .iload 4, 2), (66, .ishr, 1), (67, .iconst 1, 1), (68, .iand, 1), (69, .ifCond .ne 6, 3), (72, .goto 70, 3), (75, .iconst 0, 1), (76, .istore 5, 2), (78, .iload 5, 2), (80, .aload_n 0, 1), (81, .getfield 44, 3), (84, .iconst 0, 1), (85, .iaload, 1), (86, .if_icmp .ge 56, 3), (89, .aload_n 0, 1), (90, .getfield 115, 3), (93, .iload 5, 2), (95, .iaload, 1), (96, .iload_n 3, 1), (97, .if_icmp .ne 39, 3), (100, .iload_n 2, 1), (101, .iload 5, 2), (103, .ishr, 1), (104, .iconst 1, 1), (105, .iand, 1), (106, .iconst 1, 1), (107, .if_icmp .ne 29, 3), (110, .aload_n 0, 1), (111, .getfield 111, 3), (114, .bipush 10, 2), (116, .iload 4, 2), (118, .imul, 1), (119, .iload 5, 2), (121, .iadd, 1), (122, .baload, 1), (123, .ifCond .eq 13, 3), (126, .aload_n 0, 1), (127, .getfield 115, 3), (130, .iload 4, 2), (132, .iload_n 3, 1), (133, .iconst 1, 1), (134, .iadd, 1), (135, .iastore, 1), (136, .iinc 5 1, 3), (139, .goto (-61), 3), (142, .iinc 4 1, 3), (145, .goto (-104), 3), (148, .iinc 3 1, 3), (151, .goto (-119), 3), (154, .return_, 1)]
theorem dt_Mo_leads (i : Nat) (q : Nat × Instr × Nat) (h : tb_Mo_leads[i]? = some q) : decode prog_14_method_53_code q.1 = .ok q.2 := jdt (by decide +kernel : tb_Mo_leads.all (fun q => decide (decode prog_14_method_53_code q.1 = .ok q.2)) = true) h
theorem ok_Mo_leads : jOKV M_Mo_leads 2 := ⟨⟨gt7 204 rfl rfl, gt1 17 rfl rfl, (by decide : "FirstInModel" ≠ "java/lang/invoke/MethodHandle"), (by decide : "FirstInModel" ≠ "java/lang/invoke/VarHandle"), (by decide +kernel : (parseMethodDescriptor "(II)V").map (fun d => d.parameters.length) = some 2)⟩, gt7 203 rfl rfl, gs_in 39 rfl, rfl, nlt rfl⟩
set_option maxRecDepth 100000 in
set_option maxHeartbeats 4000000 in
theorem c_Mo_leads {G : jG} {S : hS} {V : hV} {v0 : Option Nat} {v1 : Int32} {v2 : Int32} {res : hV} (hf : Mo_leads S v0 v1 v2 V = some res) : jC G M_Mo_leads [ar v0, ai v1, ai v2] (S, V) none (S, res) := by
  unfold Mo_leads at hf
  obtain ⟨_, _, hf⟩ := jbind hf
  refine jC_of (pf_X12 _ _) rfl (nle rfl) ?_
  show jJ G M_Mo_leads (jEnd G M_Mo_leads none (S, res)) 0 0 0 [(0, ar v0), (1, ai v1), (2, ai v2)] [] (S, V)
  refine j_iconst (dt_Mo_leads 0 (0, .iconst 0, 1) rfl) ic_0 ?_
  refine j_istore_n (dt_Mo_leads 1 (1, .istore_n 3, 1) rfl) (nlt rfl) ?_
  obtain ⟨t2, ht2, hf⟩ := jbind hf
  have hX2 : ∀ q2 : hV, q2 = t2 → jJ G M_Mo_leads (jEnd G M_Mo_leads none (S, res)) 0 0 30 [(0, ar v0), (2, ai v2)] [] (S, q2) := by
    intro q2 hq2
    subst hq2
    refine j_iconst (dt_Mo_leads 17 (30, .iconst 0, 1) rfl) ic_0 ?_
    refine j_istore_n (dt_Mo_leads 18 (31, .istore_n 3, 1) rfl) (nlt rfl) ?_
    obtain ⟨t32, ht32, hf⟩ := jbind hf
    have hX32 : ∀ q32 : hV, q32 = t32 → jJ G M_Mo_leads (jEnd G M_Mo_leads none (S, res)) 0 0 154 [] [] (S, q32) := by
      intro q32 hq32
      subst hq32
      cases hf
      exact j_vret (dt_Mo_leads 86 (154, .return_, 1) rfl) rfl
    refine j_sub (ls' := [(0, ar v0), (2, ai v2), (3, ai 0)]) rfl ?_
    refine jloop_J (C := fun s32 => jJ G M_Mo_leads (jEnd G M_Mo_leads none (S, res)) 0 0 32 [(0, ar v0), (2, ai v2), (3, ai s32.1)] [] (S, s32.2)) (fun s32 z32_ hy32 hin32 hout32 => ?_) _ _ ht32
    unfold Mo_leads_L32 at hy32
    refine j_iload_n (dt_Mo_leads 19 (32, .iload_n 3, 1) rfl) rfl ?_
    refine j_bipush (dt_Mo_leads 20 (33, .bipush 10, 2) rfl) bp_10 ?_
    refine jite hy32 (fun hc hy32 => ?_) (fun hc hy32 => ?_)
    · refine j_icmp_ge (dt_Mo_leads 21 (35, .if_icmp .ge 119, 3) rfl) rfl (fun _ => ?_) (fun q => absurd hc q)
      cases hy32
      have hz := hX32 _ (hout32 _ rfl)
      exact j_sub rfl hz
    · refine j_icmp_ge (dt_Mo_leads 21 (35, .if_icmp .ge 119, 3) rfl) rfl (fun q => absurd q hc) (fun _ => ?_)
      refine j_iconst (dt_Mo_leads 22 (38, .iconst 0, 1) rfl) ic_0 ?_
      refine j_istore (dt_Mo_leads 23 (39, .istore 4, 2) rfl) (nlt rfl) ?_
      obtain ⟨t41, ht41, hy32⟩ := jbind hy32
      have hX41 : ∀ q41 : hV, q41 = t41 → jJ G M_Mo_leads (jEnd G M_Mo_leads none (S, res)) 0 0 148 [(0, ar v0), (2, ai v2), (3, ai s32.1)] [] (S, q41) := by
        intro q41 hq41
        subst hq41
        refine j_iinc (dt_Mo_leads 84 (148, .iinc 3 1, 3) rfl) rfl (nlt rfl) (ii_1 _) ?_
        refine j_goto (dt_Mo_leads 85 (151, .goto (-119), 3) rfl) rfl ?_
        cases hy32
        have hz := hin32 _ rfl
        exact j_sub rfl hz
      refine j_sub (ls' := [(0, ar v0), (2, ai v2), (3, ai s32.1), (4, ai 0)]) rfl ?_
      refine jloop_J (C := fun s41 => jJ G M_Mo_leads (jEnd G M_Mo_leads none (S, res)) 0 0 41 [(0, ar v0), (2, ai v2), (3, ai s32.1), (4, ai s41.1)] [] (S, s41.2)) (fun s41 z41_ hy41 hin41 hout41 => ?_) _ _ ht41
      unfold Mo_leads_L41 at hy41
      refine j_iload (dt_Mo_leads 24 (41, .iload 4, 2) rfl) rfl ?_
      refine j_aload_n (dt_Mo_leads 25 (43, .aload_n 0, 1) rfl) rfl ?_
      obtain ⟨x3, hx3, hy41⟩ := jbind hy41
      refine j_getR (dt_Mo_leads 26 (44, .getfield 44, 3) rfl) fl_X12_44 hx3 (fun _ _ => rfl) ?_
      refine j_iconst (dt_Mo_leads 27 (47, .iconst 0, 1) rfl) ic_0 ?_
      obtain ⟨x4, hx4, hy41⟩ := jbind hy41
      refine j_aldI (dt_Mo_leads 28 (48, .iaload, 1) rfl) hx4 ?_
      refine jite hy41 (fun hc hy41 => ?_) (fun hc hy41 => ?_)
      · refine j_icmp_ge (dt_Mo_leads 29 (49, .if_icmp .ge 99, 3) rfl) rfl (fun _ => ?_) (fun q => absurd hc q)
        cases hy41
        have hz := hX41 _ (hout41 _ rfl)
        exact j_sub rfl hz
      · refine j_icmp_ge (dt_Mo_leads 29 (49, .if_icmp .ge 99, 3) rfl) rfl (fun q => absurd q hc) (fun _ => ?_)
        refine j_aload_n (dt_Mo_leads 30 (52, .aload_n 0, 1) rfl) rfl ?_
        obtain ⟨x5, hx5, hy41⟩ := jbind hy41
        refine j_getR (dt_Mo_leads 31 (53, .getfield 115, 3) rfl) fl_X12_115 hx5 (fun _ _ => rfl) ?_
        refine j_iload (dt_Mo_leads 32 (56, .iload 4, 2) rfl) rfl ?_
        obtain ⟨x6, hx6, hy41⟩ := jbind hy41
        refine j_aldI (dt_Mo_leads 33 (58, .iaload, 1) rfl) hx6 ?_
        refine j_iconst (dt_Mo_leads 34 (59, .iconst (-1), 1) rfl) ic_m1 ?_
        refine jite hy41 (fun hc hy41 => ?_) (fun hc hy41 => ?_)
        · refine j_icmp_ne (dt_Mo_leads 35 (60, .if_icmp .ne 82, 3) rfl) rfl (fun q => absurd hc q) (fun _ => ?_)
          refine j_iload_n (dt_Mo_leads 36 (63, .iload_n 2, 1) rfl) rfl ?_
          refine j_iload (dt_Mo_leads 37 (64, .iload 4, 2) rfl) rfl ?_
          refine j_ishr (dt_Mo_leads 38 (66, .ishr, 1) rfl) ?_
          refine j_iconst (dt_Mo_leads 39 (67, .iconst 1, 1) rfl) ic_1 ?_
          refine j_iand (dt_Mo_leads 40 (68, .iand, 1) rfl) ?_
          refine jite hy41 (fun hc hy41 => ?_) (fun hc hy41 => ?_)
          · refine j_if_ne (dt_Mo_leads 41 (69, .ifCond .ne 6, 3) rfl) rfl (fun q => absurd hc q) (fun _ => ?_)
            refine j_goto (dt_Mo_leads 42 (72, .goto 70, 3) rfl) rfl ?_
            refine j_iinc (dt_Mo_leads 82 (142, .iinc 4 1, 3) rfl) rfl (nlt rfl) (ii_1 _) ?_
            refine j_goto (dt_Mo_leads 83 (145, .goto (-104), 3) rfl) rfl ?_
            cases hy41
            have hz := hin41 _ rfl
            exact j_sub rfl hz
          · refine j_if_ne (dt_Mo_leads 41 (69, .ifCond .ne 6, 3) rfl) rfl (fun _ => ?_) (fun q => absurd q hc)
            refine j_iconst (dt_Mo_leads 43 (75, .iconst 0, 1) rfl) ic_0 ?_
            refine j_istore (dt_Mo_leads 44 (76, .istore 5, 2) rfl) (nlt rfl) ?_
            obtain ⟨t78, ht78, hy41⟩ := jbind hy41
            have hX78 : ∀ q78 : hV, q78 = t78 → jJ G M_Mo_leads (jEnd G M_Mo_leads none (S, res)) 0 0 142 [(0, ar v0), (2, ai v2), (3, ai s32.1), (4, ai s41.1)] [] (S, q78) := by
              intro q78 hq78
              subst hq78
              refine j_iinc (dt_Mo_leads 82 (142, .iinc 4 1, 3) rfl) rfl (nlt rfl) (ii_1 _) ?_
              refine j_goto (dt_Mo_leads 83 (145, .goto (-104), 3) rfl) rfl ?_
              cases hy41
              have hz := hin41 _ rfl
              exact j_sub rfl hz
            refine j_sub (ls' := [(0, ar v0), (2, ai v2), (3, ai s32.1), (4, ai s41.1), (5, ai 0)]) rfl ?_
            refine jloop_J (C := fun s78 => jJ G M_Mo_leads (jEnd G M_Mo_leads none (S, res)) 0 0 78 [(0, ar v0), (2, ai v2), (3, ai s32.1), (4, ai s41.1), (5, ai s78.1)] [] (S, s78.2)) (fun s78 z78_ hy78 hin78 hout78 => ?_) _ _ ht78
            unfold Mo_leads_L78 at hy78
            refine j_iload (dt_Mo_leads 45 (78, .iload 5, 2) rfl) rfl ?_
            refine j_aload_n (dt_Mo_leads 46 (80, .aload_n 0, 1) rfl) rfl ?_
            obtain ⟨x7, hx7, hy78⟩ := jbind hy78
            refine j_getR (dt_Mo_leads 47 (81, .getfield 44, 3) rfl) fl_X12_44 hx7 (fun _ _ => rfl) ?_
            refine j_iconst (dt_Mo_leads 48 (84, .iconst 0, 1) rfl) ic_0 ?_
            obtain ⟨x8, hx8, hy78⟩ := jbind hy78
            refine j_aldI (dt_Mo_leads 49 (85, .iaload, 1) rfl) hx8 ?_
            refine jite hy78 (fun hc hy78 => ?_) (fun hc hy78 => ?_)
            · refine j_icmp_ge (dt_Mo_leads 50 (86, .if_icmp .ge 56, 3) rfl) rfl (fun _ => ?_) (fun q => absurd hc q)
              cases hy78
              have hz := hX78 _ (hout78 _ rfl)
              exact j_sub rfl hz
            · refine j_icmp_ge (dt_Mo_leads 50 (86, .if_icmp .ge 56, 3) rfl) rfl (fun q => absurd q hc) (fun _ => ?_)
              refine j_aload_n (dt_Mo_leads 51 (89, .aload_n 0, 1) rfl) rfl ?_
              obtain ⟨x9, hx9, hy78⟩ := jbind hy78
              refine j_getR (dt_Mo_leads 52 (90, .getfield 115, 3) rfl) fl_X12_115 hx9 (fun _ _ => rfl) ?_
              refine j_iload (dt_Mo_leads 53 (93, .iload 5, 2) rfl) rfl ?_
              obtain ⟨x10, hx10, hy78⟩ := jbind hy78
              refine j_aldI (dt_Mo_leads 54 (95, .iaload, 1) rfl) hx10 ?_
              refine j_iload_n (dt_Mo_leads 55 (96, .iload_n 3, 1) rfl) rfl ?_
              refine jite hy78 (fun hc hy78 => ?_) (fun hc hy78 => ?_)
              · refine j_icmp_ne (dt_Mo_leads 56 (97, .if_icmp .ne 39, 3) rfl) rfl (fun q => absurd hc q) (fun _ => ?_)
                refine j_iload_n (dt_Mo_leads 57 (100, .iload_n 2, 1) rfl) rfl ?_
                refine j_iload (dt_Mo_leads 58 (101, .iload 5, 2) rfl) rfl ?_
                refine j_ishr (dt_Mo_leads 59 (103, .ishr, 1) rfl) ?_
                refine j_iconst (dt_Mo_leads 60 (104, .iconst 1, 1) rfl) ic_1 ?_
                refine j_iand (dt_Mo_leads 61 (105, .iand, 1) rfl) ?_
                refine j_iconst (dt_Mo_leads 62 (106, .iconst 1, 1) rfl) ic_1 ?_
                refine jite hy78 (fun hc hy78 => ?_) (fun hc hy78 => ?_)
                · refine j_icmp_ne (dt_Mo_leads 63 (107, .if_icmp .ne 29, 3) rfl) rfl (fun q => absurd hc q) (fun _ => ?_)
                  refine j_aload_n (dt_Mo_leads 64 (110, .aload_n 0, 1) rfl) rfl ?_
                  obtain ⟨x11, hx11, hy78⟩ := jbind hy78
                  refine j_getR (dt_Mo_leads 65 (111, .getfield 111, 3) rfl) fl_X12_111 hx11 (fun _ _ => rfl) ?_
                  refine j_bipush (dt_Mo_leads 66 (114, .bipush 10, 2) rfl) bp_10 ?_
                  refine j_iload (dt_Mo_leads 67 (116, .iload 4, 2) rfl) rfl ?_
                  refine j_imul (dt_Mo_leads 68 (118, .imul, 1) rfl) ?_
                  refine j_iload (dt_Mo_leads 69 (119, .iload 5, 2) rfl) rfl ?_
                  refine j_iadd (dt_Mo_leads 70 (121, .iadd, 1) rfl) ?_
                  obtain ⟨x12, hx12, hy78⟩ := jbind hy78
                  refine j_aldZ (dt_Mo_leads 71 (122, .baload, 1) rfl) hx12 ?_
                  refine jite hy78 (fun hc hy78 => ?_) (fun hc hy78 => ?_)
                  · refine j_if_eq (dt_Mo_leads 72 (123, .ifCond .eq 13, 3) rfl) rfl (fun _ => ?_) (fun q => absurd hc q)
                    refine j_iinc (dt_Mo_leads 80 (136, .iinc 5 1, 3) rfl) rfl (nlt rfl) (ii_1 _) ?_
                    refine j_goto (dt_Mo_leads 81 (139, .goto (-61), 3) rfl) rfl ?_
                    cases hy78
                    have hz := hin78 _ rfl
                    exact j_sub rfl hz
                  · refine j_if_eq (dt_Mo_leads 72 (123, .ifCond .eq 13, 3) rfl) rfl (fun q => absurd q hc) (fun _ => ?_)
                    refine j_aload_n (dt_Mo_leads 73 (126, .aload_n 0, 1) rfl) rfl ?_
                    obtain ⟨x13, hx13, hy78⟩ := jbind hy78
                    refine j_getR (dt_Mo_leads 74 (127, .getfield 115, 3) rfl) fl_X12_115 hx13 (fun _ _ => rfl) ?_
                    refine j_iload (dt_Mo_leads 75 (130, .iload 4, 2) rfl) rfl ?_
                    refine j_iload_n (dt_Mo_leads 76 (132, .iload_n 3, 1) rfl) rfl ?_
                    refine j_iconst (dt_Mo_leads 77 (133, .iconst 1, 1) rfl) ic_1 ?_
                    refine j_iadd (dt_Mo_leads 78 (134, .iadd, 1) rfl) ?_
                    obtain ⟨V14, hV14, hy78⟩ := jbind hy78
                    refine j_astI (dt_Mo_leads 79 (135, .iastore, 1) rfl) hV14 ?_
                    refine j_iinc (dt_Mo_leads 80 (136, .iinc 5 1, 3) rfl) rfl (nlt rfl) (ii_1 _) ?_
                    refine j_goto (dt_Mo_leads 81 (139, .goto (-61), 3) rfl) rfl ?_
                    cases hy78
                    have hz := hin78 _ rfl
                    exact j_sub rfl hz
                · refine j_icmp_ne (dt_Mo_leads 63 (107, .if_icmp .ne 29, 3) rfl) rfl (fun _ => ?_) (fun q => absurd q hc)
                  refine j_iinc (dt_Mo_leads 80 (136, .iinc 5 1, 3) rfl) rfl (nlt rfl) (ii_1 _) ?_
                  refine j_goto (dt_Mo_leads 81 (139, .goto (-61), 3) rfl) rfl ?_
                  cases hy78
                  have hz := hin78 _ rfl
                  exact j_sub rfl hz
              · refine j_icmp_ne (dt_Mo_leads 56 (97, .if_icmp .ne 39, 3) rfl) rfl (fun _ => ?_) (fun q => absurd q hc)
                refine j_iinc (dt_Mo_leads 80 (136, .iinc 5 1, 3) rfl) rfl (nlt rfl) (ii_1 _) ?_
                refine j_goto (dt_Mo_leads 81 (139, .goto (-61), 3) rfl) rfl ?_
                cases hy78
                have hz := hin78 _ rfl
                exact j_sub rfl hz
        · refine j_icmp_ne (dt_Mo_leads 35 (60, .if_icmp .ne 82, 3) rfl) rfl (fun _ => ?_) (fun q => absurd q hc)
          refine j_iinc (dt_Mo_leads 82 (142, .iinc 4 1, 3) rfl) rfl (nlt rfl) (ii_1 _) ?_
          refine j_goto (dt_Mo_leads 83 (145, .goto (-104), 3) rfl) rfl ?_
          cases hy41
          have hz := hin41 _ rfl
          exact j_sub rfl hz
  refine j_sub (ls' := [(0, ar v0), (1, ai v1), (2, ai v2), (3, ai 0)]) rfl ?_
  refine jloop_J (C := fun s2 => jJ G M_Mo_leads (jEnd G M_Mo_leads none (S, res)) 0 0 2 [(0, ar v0), (1, ai v1), (2, ai v2), (3, ai s2.1)] [] (S, s2.2)) (fun s2 z2_ hy2 hin2 hout2 => ?_) _ _ ht2
  unfold Mo_leads_L2 at hy2
  refine j_iload_n (dt_Mo_leads 2 (2, .iload_n 3, 1) rfl) rfl ?_
  refine j_bipush (dt_Mo_leads 3 (3, .bipush 10, 2) rfl) bp_10 ?_
  refine jite hy2 (fun hc hy2 => ?_) (fun hc hy2 => ?_)
  · refine j_icmp_ge (dt_Mo_leads 4 (5, .if_icmp .ge 25, 3) rfl) rfl (fun _ => ?_) (fun q => absurd hc q)
    cases hy2
    have hz := hX2 _ (hout2 _ rfl)
    exact j_sub rfl hz
  · refine j_icmp_ge (dt_Mo_leads 4 (5, .if_icmp .ge 25, 3) rfl) rfl (fun q => absurd q hc) (fun _ => ?_)
    refine j_aload_n (dt_Mo_leads 5 (8, .aload_n 0, 1) rfl) rfl ?_
    obtain ⟨x1, hx1, hy2⟩ := jbind hy2
    refine j_getR (dt_Mo_leads 6 (9, .getfield 115, 3) rfl) fl_X12_115 hx1 (fun _ _ => rfl) ?_
    refine j_iload_n (dt_Mo_leads 7 (12, .iload_n 3, 1) rfl) rfl ?_
    refine j_iload_n (dt_Mo_leads 8 (13, .iload_n 3, 1) rfl) rfl ?_
    refine j_iload_n (dt_Mo_leads 9 (14, .iload_n 1, 1) rfl) rfl ?_
    obtain ⟨j15, hj15, hy2⟩ := jbind hy2
    have hP15 : jJ G M_Mo_leads (jEnd G M_Mo_leads none (S, res)) 0 0 23 [(0, ar v0), (1, ai v1), (2, ai v2), (3, ai s2.1)] [ai j15, ai s2.1, ar x1] (S, s2.2) := by
      obtain ⟨V2, hV2, hy2⟩ := jbind hy2
      refine j_astI (dt_Mo_leads 14 (23, .iastore, 1) rfl) hV2 ?_
      refine j_iinc (dt_Mo_leads 15 (24, .iinc 3 1, 3) rfl) rfl (nlt rfl) (ii_1 _) ?_
      refine j_goto (dt_Mo_leads 16 (27, .goto (-25), 3) rfl) rfl ?_
      cases hy2
      have hz := hin2 _ rfl
      exact j_sub rfl hz
    refine jite hj15 (fun hc hj15 => ?_) (fun hc hj15 => ?_)
    · refine j_icmp_ne (dt_Mo_leads 10 (15, .if_icmp .ne 7, 3) rfl) rfl (fun q => absurd hc q) (fun _ => ?_)
      refine j_iconst (dt_Mo_leads 11 (18, .iconst 0, 1) rfl) ic_0 ?_
      refine j_goto (dt_Mo_leads 12 (19, .goto 4, 3) rfl) rfl ?_
      cases hj15
      exact j_sub rfl hP15
    · refine j_icmp_ne (dt_Mo_leads 10 (15, .if_icmp .ne 7, 3) rfl) rfl (fun _ => ?_) (fun q => absurd q hc)
      refine j_iconst (dt_Mo_leads 13 (22, .iconst (-1), 1) rfl) ic_m1 ?_
      cases hj15
      exact j_sub rfl hP15
theorem r_Mo_leads {S : hS} {V : hV} {v0 : Option Nat} {v1 : Int32} {v2 : Int32} {res : hV} (hf : Mo_leads S v0 v1 v2 V = some res) : ∃ b, rc S 12 v0 = some b := by
  unfold Mo_leads at hf
  obtain ⟨b, hb, _⟩ := jbind hf
  exact ⟨b, hb⟩
def tb_Mo_through : List (Nat × Instr × Nat) := [(0, .aload_n 0, 1), (1, .iload_n 1, 1), (2, .iload_n 2, 1), (3, .invokevirtual 343, 3), (6, .iconst (-1), 1), (7, .istore_n 3, 1), (8, .iconst 0, 1), (9, .istore 4, 2), (11, .iload 4, 2), (13, .aload_n 0, 1), (14, .getfield 44, 3), (17, .iconst 0, 1), (18, .iaload, 1), (19, .if_icmp .ge 69, 3), (22, .iload 4, 2), (24, .iload_n 1, 1), (25, .if_icmp .eq 57, 3), (28, .aload_n 0, 1), (29, .getfield 115, 3), (32, .iload 4, 2), (34, .iaload, 1), (35, .iconst (-1), 1), (36, .if_icmp .eq 46, 3), (39, .aload_n 0, 1), (40, .getfield 111, 3), (43, .bipush 10, 2), (45, .iload_n 1, 1), (46, .imul, 1), (47, .iload 4, 2), (49, .iadd, 1), (50, .baload, 1), (51, .ifCond .eq 31, 3), (54, .iload_n 3, 1), (55, .iconst (-1), 1), (56, .if_icmp .eq 16, 3), (59, .aload_n 0, 1), (60, .getfield 115, 3), (63, .iload 4, 2), (65, .iaload, 1), (66, .iconst 1, 1), (67, .iadd, 1), (68, .iload_n 3, 1), (69, .if_icmp .ge 13, 3), (72, .aload_n 0, 1), (73, .getfield 115, 3), (76, .iload 4, 2), (78, .iaload, 1), (79, .iconst 1, 1), (80, .iadd, 1), (81, .istore_n 3, 1), (82, .iinc 4 1, 3), (85, .goto (-74), 3), (88, .iload_n 3, 1), (89, .ireturn, 1)]
theorem dt_Mo_through (i : Nat) (q : Nat × Instr × Nat) (h : tb_Mo_through[i]? = some q) : decode prog_14_method_54_code q.1 = .ok q.2 := jdt (by decide +kernel : tb_Mo_through.all (fun q => decide (decode prog_14_method_54_code q.1 = .ok q.2)) = true) h
theorem ok_Mo_through : jOKV M_Mo_through 2 := ⟨⟨gt7 200 rfl rfl, gt1 17 rfl rfl, (by decide : "FirstInModel" ≠ "java/lang/invoke/MethodHandle"), (by decide : "FirstInModel" ≠ "java/lang/invoke/VarHandle"), (by decide +kernel : (parseMethodDescriptor "(II)I").map (fun d => d.parameters.length) = some 2)⟩, gt7 199 rfl rfl, gs_in 38 rfl, rfl, nlt rfl⟩
set_option maxRecDepth 100000 in
set_option maxHeartbeats 4000000 in
theorem c_Mo_through {G : jG} {S : hS} {V : hV} {v0 : Option Nat} {v1 : Int32} {v2 : Int32} {res : Int32 × hV} (hf : Mo_through S v0 v1 v2 V = some res) : jC G M_Mo_through [ar v0, ai v1, ai v2] (S, V) (some (ai res.1)) (S, res.2) := by
  unfold Mo_through at hf
  obtain ⟨_, _, hf⟩ := jbind hf
  refine jC_of (pf_X12 _ _) rfl (nle rfl) ?_
  show jJ G M_Mo_through (jEnd G M_Mo_through (some (ai res.1)) (S, res.2)) 0 0 0 [(0, ar v0), (1, ai v1), (2, ai v2)] [] (S, V)
  refine j_aload_n (dt_Mo_through 0 (0, .aload_n 0, 1) rfl) rfl ?_
  refine j_iload_n (dt_Mo_through 1 (1, .iload_n 1, 1) rfl) rfl ?_
  refine j_iload_n (dt_Mo_through 2 (2, .iload_n 2, 1) rfl) rfl ?_
  obtain ⟨V1, hV1, hf⟩ := jbind hf
  obtain ⟨b2, hb2⟩ := r_Mo_leads hV1
  refine j_callV M_Mo_leads 2 [ai v1, ai v2] (rest := []) (dt_Mo_through 3 (3, .invokevirtual 343, 3) rfl) ml_X12_343 ok_Mo_leads (jfit rfl rfl ⟨rfl, rfl⟩ (nle rfl) (nlt rfl)) rfl rfl (nle rfl) ⟨rfl, rfl⟩ hb2 ((c_Mo_leads hV1)) ?_
  refine j_iconst (dt_Mo_through 4 (6, .iconst (-1), 1) rfl) ic_m1 ?_
  refine j_istore_n (dt_Mo_through 5 (7, .istore_n 3, 1) rfl) (nlt rfl) ?_
  refine j_iconst (dt_Mo_through 6 (8, .iconst 0, 1) rfl) ic_0 ?_
  refine j_istore (dt_Mo_through 7 (9, .istore 4, 2) rfl) (nlt rfl) ?_
  obtain ⟨t11, ht11, hf⟩ := jbind hf
  have hX11 : ∀ q11 : Int32, q11 = t11 → jJ G M_Mo_through (jEnd G M_Mo_through (some (ai res.1)) (S, res.2)) 0 0 88 [(3, ai q11)] [] (S, V1) := by
    intro q11 hq11
    subst hq11
    refine j_iload_n (dt_Mo_through 52 (88, .iload_n 3, 1) rfl) rfl ?_
    cases hf
    exact j_iret (dt_Mo_through 53 (89, .ireturn, 1) rfl) rfl
  refine j_sub (ls' := [(0, ar v0), (1, ai v1), (3, ai (-1)), (4, ai 0)]) rfl ?_
  refine jloop_J (C := fun s11 => jJ G M_Mo_through (jEnd G M_Mo_through (some (ai res.1)) (S, res.2)) 0 0 11 [(0, ar v0), (1, ai v1), (3, ai s11.1), (4, ai s11.2)] [] (S, V1)) (fun s11 z11_ hy11 hin11 hout11 => ?_) _ _ ht11
  unfold Mo_through_L11 at hy11
  refine j_iload (dt_Mo_through 8 (11, .iload 4, 2) rfl) rfl ?_
  refine j_aload_n (dt_Mo_through 9 (13, .aload_n 0, 1) rfl) rfl ?_
  obtain ⟨x3, hx3, hy11⟩ := jbind hy11
  refine j_getR (dt_Mo_through 10 (14, .getfield 44, 3) rfl) fl_X12_44 hx3 (fun _ _ => rfl) ?_
  refine j_iconst (dt_Mo_through 11 (17, .iconst 0, 1) rfl) ic_0 ?_
  obtain ⟨x4, hx4, hy11⟩ := jbind hy11
  refine j_aldI (dt_Mo_through 12 (18, .iaload, 1) rfl) hx4 ?_
  refine jite hy11 (fun hc hy11 => ?_) (fun hc hy11 => ?_)
  · refine j_icmp_ge (dt_Mo_through 13 (19, .if_icmp .ge 69, 3) rfl) rfl (fun _ => ?_) (fun q => absurd hc q)
    cases hy11
    have hz := hX11 _ (hout11 _ rfl)
    exact j_sub rfl hz
  · refine j_icmp_ge (dt_Mo_through 13 (19, .if_icmp .ge 69, 3) rfl) rfl (fun q => absurd q hc) (fun _ => ?_)
    refine j_iload (dt_Mo_through 14 (22, .iload 4, 2) rfl) rfl ?_
    refine j_iload_n (dt_Mo_through 15 (24, .iload_n 1, 1) rfl) rfl ?_
    refine jite hy11 (fun hc hy11 => ?_) (fun hc hy11 => ?_)
    · refine j_icmp_eq (dt_Mo_through 16 (25, .if_icmp .eq 57, 3) rfl) rfl (fun _ => ?_) (fun q => absurd hc q)
      refine j_iinc (dt_Mo_through 50 (82, .iinc 4 1, 3) rfl) rfl (nlt rfl) (ii_1 _) ?_
      refine j_goto (dt_Mo_through 51 (85, .goto (-74), 3) rfl) rfl ?_
      cases hy11
      have hz := hin11 _ rfl
      exact j_sub rfl hz
    · refine j_icmp_eq (dt_Mo_through 16 (25, .if_icmp .eq 57, 3) rfl) rfl (fun q => absurd q hc) (fun _ => ?_)
      refine j_aload_n (dt_Mo_through 17 (28, .aload_n 0, 1) rfl) rfl ?_
      obtain ⟨x5, hx5, hy11⟩ := jbind hy11
      refine j_getR (dt_Mo_through 18 (29, .getfield 115, 3) rfl) fl_X12_115 hx5 (fun _ _ => rfl) ?_
      refine j_iload (dt_Mo_through 19 (32, .iload 4, 2) rfl) rfl ?_
      obtain ⟨x6, hx6, hy11⟩ := jbind hy11
      refine j_aldI (dt_Mo_through 20 (34, .iaload, 1) rfl) hx6 ?_
      refine j_iconst (dt_Mo_through 21 (35, .iconst (-1), 1) rfl) ic_m1 ?_
      refine jite hy11 (fun hc hy11 => ?_) (fun hc hy11 => ?_)
      · refine j_icmp_eq (dt_Mo_through 22 (36, .if_icmp .eq 46, 3) rfl) rfl (fun _ => ?_) (fun q => absurd hc q)
        refine j_iinc (dt_Mo_through 50 (82, .iinc 4 1, 3) rfl) rfl (nlt rfl) (ii_1 _) ?_
        refine j_goto (dt_Mo_through 51 (85, .goto (-74), 3) rfl) rfl ?_
        cases hy11
        have hz := hin11 _ rfl
        exact j_sub rfl hz
      · refine j_icmp_eq (dt_Mo_through 22 (36, .if_icmp .eq 46, 3) rfl) rfl (fun q => absurd q hc) (fun _ => ?_)
        refine j_aload_n (dt_Mo_through 23 (39, .aload_n 0, 1) rfl) rfl ?_
        obtain ⟨x7, hx7, hy11⟩ := jbind hy11
        refine j_getR (dt_Mo_through 24 (40, .getfield 111, 3) rfl) fl_X12_111 hx7 (fun _ _ => rfl) ?_
        refine j_bipush (dt_Mo_through 25 (43, .bipush 10, 2) rfl) bp_10 ?_
        refine j_iload_n (dt_Mo_through 26 (45, .iload_n 1, 1) rfl) rfl ?_
        refine j_imul (dt_Mo_through 27 (46, .imul, 1) rfl) ?_
        refine j_iload (dt_Mo_through 28 (47, .iload 4, 2) rfl) rfl ?_
        refine j_iadd (dt_Mo_through 29 (49, .iadd, 1) rfl) ?_
        obtain ⟨x8, hx8, hy11⟩ := jbind hy11
        refine j_aldZ (dt_Mo_through 30 (50, .baload, 1) rfl) hx8 ?_
        refine jite hy11 (fun hc hy11 => ?_) (fun hc hy11 => ?_)
        · refine j_if_eq (dt_Mo_through 31 (51, .ifCond .eq 31, 3) rfl) rfl (fun _ => ?_) (fun q => absurd hc q)
          refine j_iinc (dt_Mo_through 50 (82, .iinc 4 1, 3) rfl) rfl (nlt rfl) (ii_1 _) ?_
          refine j_goto (dt_Mo_through 51 (85, .goto (-74), 3) rfl) rfl ?_
          cases hy11
          have hz := hin11 _ rfl
          exact j_sub rfl hz
        · refine j_if_eq (dt_Mo_through 31 (51, .ifCond .eq 31, 3) rfl) rfl (fun q => absurd q hc) (fun _ => ?_)
          refine j_iload_n (dt_Mo_through 32 (54, .iload_n 3, 1) rfl) rfl ?_
          refine j_iconst (dt_Mo_through 33 (55, .iconst (-1), 1) rfl) ic_m1 ?_
          obtain ⟨k56, hk56, hy11⟩ := jbind hy11
          have hE56 : ∀ e56 : Unit, k56 = .inl e56 → jJ G M_Mo_through (jEnd G M_Mo_through (some (ai res.1)) (S, res.2)) 0 0 72 [(0, ar v0), (1, ai v1), (4, ai s11.2)] [] (S, V1) := by
            intro e56 he56
            subst he56
            refine j_aload_n (dt_Mo_through 43 (72, .aload_n 0, 1) rfl) rfl ?_
            obtain ⟨x9, hx9, hy11⟩ := jbind hy11
            refine j_getR (dt_Mo_through 44 (73, .getfield 115, 3) rfl) fl_X12_115 hx9 (fun _ _ => rfl) ?_
            refine j_iload (dt_Mo_through 45 (76, .iload 4, 2) rfl) rfl ?_
            obtain ⟨x10, hx10, hy11⟩ := jbind hy11
            refine j_aldI (dt_Mo_through 46 (78, .iaload, 1) rfl) hx10 ?_
            refine j_iconst (dt_Mo_through 47 (79, .iconst 1, 1) rfl) ic_1 ?_
            refine j_iadd (dt_Mo_through 48 (80, .iadd, 1) rfl) ?_
            refine j_istore_n (dt_Mo_through 49 (81, .istore_n 3, 1) rfl) (nlt rfl) ?_
            refine j_iinc (dt_Mo_through 50 (82, .iinc 4 1, 3) rfl) rfl (nlt rfl) (ii_1 _) ?_
            refine j_goto (dt_Mo_through 51 (85, .goto (-74), 3) rfl) rfl ?_
            cases hy11
            have hz := hin11 _ rfl
            exact j_sub rfl hz
          refine jite hk56 (fun hc hk56 => ?_) (fun hc hk56 => ?_)
          · refine j_icmp_eq (dt_Mo_through 34 (56, .if_icmp .eq 16, 3) rfl) rfl (fun _ => ?_) (fun q => absurd hc q)
            cases hk56
            have hz := hE56 _ rfl
            exact j_sub rfl hz
          · refine j_icmp_eq (dt_Mo_through 34 (56, .if_icmp .eq 16, 3) rfl) rfl (fun q => absurd q hc) (fun _ => ?_)
            refine j_aload_n (dt_Mo_through 35 (59, .aload_n 0, 1) rfl) rfl ?_
            obtain ⟨x11, hx11, hk56⟩ := jbind hk56
            refine j_getR (dt_Mo_through 36 (60, .getfield 115, 3) rfl) fl_X12_115 hx11 (fun _ _ => rfl) ?_
            refine j_iload (dt_Mo_through 37 (63, .iload 4, 2) rfl) rfl ?_
            obtain ⟨x12, hx12, hk56⟩ := jbind hk56
            refine j_aldI (dt_Mo_through 38 (65, .iaload, 1) rfl) hx12 ?_
            refine j_iconst (dt_Mo_through 39 (66, .iconst 1, 1) rfl) ic_1 ?_
            refine j_iadd (dt_Mo_through 40 (67, .iadd, 1) rfl) ?_
            refine j_iload_n (dt_Mo_through 41 (68, .iload_n 3, 1) rfl) rfl ?_
            refine jite hk56 (fun hc hk56 => ?_) (fun hc hk56 => ?_)
            · refine j_icmp_ge (dt_Mo_through 42 (69, .if_icmp .ge 13, 3) rfl) rfl (fun _ => ?_) (fun q => absurd hc q)
              refine j_iinc (dt_Mo_through 50 (82, .iinc 4 1, 3) rfl) rfl (nlt rfl) (ii_1 _) ?_
              refine j_goto (dt_Mo_through 51 (85, .goto (-74), 3) rfl) rfl ?_
              cases hk56
              cases hy11
              have hz := hin11 _ rfl
              exact j_sub rfl hz
            · refine j_icmp_ge (dt_Mo_through 42 (69, .if_icmp .ge 13, 3) rfl) rfl (fun q => absurd q hc) (fun _ => ?_)
              cases hk56
              have hz := hE56 _ rfl
              exact j_sub rfl hz
theorem r_Mo_through {S : hS} {V : hV} {v0 : Option Nat} {v1 : Int32} {v2 : Int32} {res : Int32 × hV} (hf : Mo_through S v0 v1 v2 V = some res) : ∃ b, rc S 12 v0 = some b := by
  unfold Mo_through at hf
  obtain ⟨b, hb, _⟩ := jbind hf
  exact ⟨b, hb⟩
def tb_Mo_hasRing : List (Nat × Instr × Nat) := [(0, .iconst 0, 1), (1, .istore_n 2, 1), (2, .iload_n 2, 1), (3, .aload_n 0, 1), (4, .getfield 44, 3), (7, .iconst 0, 1), (8, .iaload, 1), (9, .if_icmp .ge 30, 3), (12, .iload_n 1, 1), (13, .iload_n 2, 1), (14, .ishr, 1), (15, .iconst 1, 1), (16, .iand, 1), (17, .iconst 1, 1), (18, .if_icmp .ne 15, 3), (21, .aload_n 0, 1), (22, .iload_n 2, 1), (23, .iload_n 1, 1), (24, .invokevirtual 347, 3), (27, .iconst (-1), 1), (28, .if_icmp .eq 5, 3), (31, .iconst 1, 1), (32, .ireturn, 1), (33, .iinc 2 1, 3), (36, .goto (-34), 3), (39, .iconst 0, 1), (40, .ireturn, 1)]
theorem dt_Mo_hasRing (i : Nat) (q : Nat × Instr × Nat) (h : tb_Mo_hasRing[i]? = some q) : decode prog_14_method_55_code q.1 = .ok q.2 := jdt (by decide +kernel : tb_Mo_hasRing.all (fun q => decide (decode prog_14_method_55_code q.1 = .ok q.2)) = true) h
theorem ok_Mo_hasRing : jOKV M_Mo_hasRing 1 := ⟨⟨gt7 217 rfl rfl, gt1 17 rfl rfl, (by decide : "FirstInModel" ≠ "java/lang/invoke/MethodHandle"), (by decide : "FirstInModel" ≠ "java/lang/invoke/VarHandle"), (by decide +kernel : (parseMethodDescriptor "(I)Z").map (fun d => d.parameters.length) = some 1)⟩, gt7 216 rfl rfl, gs_in 40 rfl, rfl, nlt rfl⟩
set_option maxRecDepth 100000 in
set_option maxHeartbeats 4000000 in
theorem c_Mo_hasRing {G : jG} {S : hS} {V : hV} {v0 : Option Nat} {v1 : Int32} {res : Int32 × hV} (hf : Mo_hasRing S v0 v1 V = some res) : jC G M_Mo_hasRing [ar v0, ai v1] (S, V) (some (ai res.1)) (S, res.2) := by
  unfold Mo_hasRing at hf
  obtain ⟨_, _, hf⟩ := jbind hf
  refine jC_of (pf_X12 _ _) rfl (nle rfl) ?_
  show jJ G M_Mo_hasRing (jEnd G M_Mo_hasRing (some (ai res.1)) (S, res.2)) 0 0 0 [(0, ar v0), (1, ai v1)] [] (S, V)
  refine j_iconst (dt_Mo_hasRing 0 (0, .iconst 0, 1) rfl) ic_0 ?_
  refine j_istore_n (dt_Mo_hasRing 1 (1, .istore_n 2, 1) rfl) (nlt rfl) ?_
  obtain ⟨t2, ht2, hf⟩ := jbind hf
  have hX2 : ∀ q2 : hV, t2 = .inl q2 → jJ G M_Mo_hasRing (jEnd G M_Mo_hasRing (some (ai res.1)) (S, res.2)) 0 0 39 [] [] (S, q2) := by
    intro q2 hq2
    subst hq2
    refine j_iconst (dt_Mo_hasRing 25 (39, .iconst 0, 1) rfl) ic_0 ?_
    cases hf
    exact j_zret (x := 0) (dt_Mo_hasRing 26 (40, .ireturn, 1) rfl) rfl rfl
  have hR2 : ∀ v : Int32 × hV, t2 = .inr v → v = res := by
    intro v hv
    subst hv
    cases hf
    rfl
  refine j_sub (ls' := [(0, ar v0), (1, ai v1), (2, ai 0)]) rfl ?_
  refine jloop_J (C := fun s2 => jJ G M_Mo_hasRing (jEnd G M_Mo_hasRing (some (ai res.1)) (S, res.2)) 0 0 2 [(0, ar v0), (1, ai v1), (2, ai s2.1)] [] (S, s2.2)) (fun s2 z2_ hy2 hin2 hout2 => ?_) _ _ ht2
  unfold Mo_hasRing_L2 at hy2
  refine j_iload_n (dt_Mo_hasRing 2 (2, .iload_n 2, 1) rfl) rfl ?_
  refine j_aload_n (dt_Mo_hasRing 3 (3, .aload_n 0, 1) rfl) rfl ?_
  obtain ⟨x1, hx1, hy2⟩ := jbind hy2
  refine j_getR (dt_Mo_hasRing 4 (4, .getfield 44, 3) rfl) fl_X12_44 hx1 (fun _ _ => rfl) ?_
  refine j_iconst (dt_Mo_hasRing 5 (7, .iconst 0, 1) rfl) ic_0 ?_
  obtain ⟨x2, hx2, hy2⟩ := jbind hy2
  refine j_aldI (dt_Mo_hasRing 6 (8, .iaload, 1) rfl) hx2 ?_
  refine jite hy2 (fun hc hy2 => ?_) (fun hc hy2 => ?_)
  · refine j_icmp_ge (dt_Mo_hasRing 7 (9, .if_icmp .ge 30, 3) rfl) rfl (fun _ => ?_) (fun q => absurd hc q)
    cases hy2
    have hz := hX2 _ (hout2 _ rfl).symm
    exact j_sub rfl hz
  · refine j_icmp_ge (dt_Mo_hasRing 7 (9, .if_icmp .ge 30, 3) rfl) rfl (fun q => absurd q hc) (fun _ => ?_)
    refine j_iload_n (dt_Mo_hasRing 8 (12, .iload_n 1, 1) rfl) rfl ?_
    refine j_iload_n (dt_Mo_hasRing 9 (13, .iload_n 2, 1) rfl) rfl ?_
    refine j_ishr (dt_Mo_hasRing 10 (14, .ishr, 1) rfl) ?_
    refine j_iconst (dt_Mo_hasRing 11 (15, .iconst 1, 1) rfl) ic_1 ?_
    refine j_iand (dt_Mo_hasRing 12 (16, .iand, 1) rfl) ?_
    refine j_iconst (dt_Mo_hasRing 13 (17, .iconst 1, 1) rfl) ic_1 ?_
    refine jite hy2 (fun hc hy2 => ?_) (fun hc hy2 => ?_)
    · refine j_icmp_ne (dt_Mo_hasRing 14 (18, .if_icmp .ne 15, 3) rfl) rfl (fun q => absurd hc q) (fun _ => ?_)
      refine j_aload_n (dt_Mo_hasRing 15 (21, .aload_n 0, 1) rfl) rfl ?_
      refine j_iload_n (dt_Mo_hasRing 16 (22, .iload_n 2, 1) rfl) rfl ?_
      refine j_iload_n (dt_Mo_hasRing 17 (23, .iload_n 1, 1) rfl) rfl ?_
      obtain ⟨w3, hw3, hy2⟩ := jbind hy2
      obtain ⟨b4, hb4⟩ := r_Mo_through hw3
      refine j_callV M_Mo_through 2 [ai s2.1, ai v1] (rest := []) (dt_Mo_hasRing 18 (24, .invokevirtual 347, 3) rfl) ml_X12_347 ok_Mo_through (jfit rfl rfl ⟨rfl, rfl⟩ (nle rfl) (nlt rfl)) rfl rfl (nle rfl) ⟨rfl, rfl⟩ hb4 ((c_Mo_through hw3)) ?_
      refine j_iconst (dt_Mo_hasRing 19 (27, .iconst (-1), 1) rfl) ic_m1 ?_
      refine jite hy2 (fun hc hy2 => ?_) (fun hc hy2 => ?_)
      · refine j_icmp_eq (dt_Mo_hasRing 20 (28, .if_icmp .eq 5, 3) rfl) rfl (fun _ => ?_) (fun q => absurd hc q)
        refine j_iinc (dt_Mo_hasRing 23 (33, .iinc 2 1, 3) rfl) rfl (nlt rfl) (ii_1 _) ?_
        refine j_goto (dt_Mo_hasRing 24 (36, .goto (-34), 3) rfl) rfl ?_
        cases hy2
        have hz := hin2 _ rfl
        exact j_sub rfl hz
      · refine j_icmp_eq (dt_Mo_hasRing 20 (28, .if_icmp .eq 5, 3) rfl) rfl (fun q => absurd q hc) (fun _ => ?_)
        refine j_iconst (dt_Mo_hasRing 21 (31, .iconst 1, 1) rfl) ic_1 ?_
        cases hy2
        obtain rfl := hR2 _ (hout2 _ rfl).symm
        exact j_zret (x := 1) (dt_Mo_hasRing 22 (32, .ireturn, 1) rfl) rfl rfl
    · refine j_icmp_ne (dt_Mo_hasRing 14 (18, .if_icmp .ne 15, 3) rfl) rfl (fun _ => ?_) (fun q => absurd q hc)
      refine j_iinc (dt_Mo_hasRing 23 (33, .iinc 2 1, 3) rfl) rfl (nlt rfl) (ii_1 _) ?_
      refine j_goto (dt_Mo_hasRing 24 (36, .goto (-34), 3) rfl) rfl ?_
      cases hy2
      have hz := hin2 _ rfl
      exact j_sub rfl hz
theorem r_Mo_hasRing {S : hS} {V : hV} {v0 : Option Nat} {v1 : Int32} {res : Int32 × hV} (hf : Mo_hasRing S v0 v1 V = some res) : ∃ b, rc S 12 v0 = some b := by
  unfold Mo_hasRing at hf
  obtain ⟨b, hb, _⟩ := jbind hf
  exact ⟨b, hb⟩
def tb_Mo_all : List (Nat × Instr × Nat) := [(0, .iconst 1, 1), (1, .aload_n 0, 1), (2, .getfield 44, 3), (5, .iconst 0, 1), (6, .iaload, 1), (7, .ishl, 1), (8, .iconst 1, 1), (9, .isub, 1), (10, .ireturn, 1)]
theorem dt_Mo_all (i : Nat) (q : Nat × Instr × Nat) (h : tb_Mo_all[i]? = some q) : decode prog_14_method_56_code q.1 = .ok q.2 := jdt (by decide +kernel : tb_Mo_all.all (fun q => decide (decode prog_14_method_56_code q.1 = .ok q.2)) = true) h
theorem ok_Mo_all : jOKV M_Mo_all 0 := ⟨⟨gt7 196 rfl rfl, gt1 17 rfl rfl, (by decide : "FirstInModel" ≠ "java/lang/invoke/MethodHandle"), (by decide : "FirstInModel" ≠ "java/lang/invoke/VarHandle"), (by decide +kernel : (parseMethodDescriptor "()I").map (fun d => d.parameters.length) = some 0)⟩, gt7 195 rfl rfl, gs_in 37 rfl, rfl, nlt rfl⟩
set_option maxRecDepth 100000 in
set_option maxHeartbeats 4000000 in
theorem c_Mo_all {G : jG} {S : hS} {V : hV} {v0 : Option Nat} {res : Int32} (hf : Mo_all S v0 V = some res) : jC G M_Mo_all [ar v0] (S, V) (some (ai res)) (S, V) := by
  unfold Mo_all at hf
  obtain ⟨_, _, hf⟩ := jbind hf
  refine jC_of (pf_X12 _ _) rfl (nle rfl) ?_
  show jJ G M_Mo_all (jEnd G M_Mo_all (some (ai res)) (S, V)) 0 0 0 [(0, ar v0)] [] (S, V)
  refine j_iconst (dt_Mo_all 0 (0, .iconst 1, 1) rfl) ic_1 ?_
  refine j_aload_n (dt_Mo_all 1 (1, .aload_n 0, 1) rfl) rfl ?_
  obtain ⟨x1, hx1, hf⟩ := jbind hf
  refine j_getR (dt_Mo_all 2 (2, .getfield 44, 3) rfl) fl_X12_44 hx1 (fun _ _ => rfl) ?_
  refine j_iconst (dt_Mo_all 3 (5, .iconst 0, 1) rfl) ic_0 ?_
  obtain ⟨x2, hx2, hf⟩ := jbind hf
  refine j_aldI (dt_Mo_all 4 (6, .iaload, 1) rfl) hx2 ?_
  refine j_ishl (dt_Mo_all 5 (7, .ishl, 1) rfl) ?_
  refine j_iconst (dt_Mo_all 6 (8, .iconst 1, 1) rfl) ic_1 ?_
  refine j_isub (dt_Mo_all 7 (9, .isub, 1) rfl) ?_
  cases hf
  exact j_iret (dt_Mo_all 8 (10, .ireturn, 1) rfl) rfl
theorem r_Mo_all {S : hS} {V : hV} {v0 : Option Nat} {res : Int32} (hf : Mo_all S v0 V = some res) : ∃ b, rc S 12 v0 = some b := by
  unfold Mo_all at hf
  obtain ⟨b, hb, _⟩ := jbind hf
  exact ⟨b, hb⟩
def tb_Mo_ring : List (Nat × Instr × Nat) := [(0, .aload_n 0, 1), (1, .iload_n 1, 1), (2, .invokevirtual 297, 3), (5, .ifCond .ne 5, 3), (8, .iconst (-1), 1), (9, .ireturn, 1), (10, .aload_n 0, 1), (11, .iload_n 1, 1), (12, .iconst 0, 1), (13, .invokevirtual 350, 3), (16, .iconst (-1), 1), (17, .istore_n 3, 1), (18, .iconst (-1), 1), (19, .istore 4, 2), (21, .iconst 0, 1), (22, .istore 5, 2), (24, .iload 5, 2), (26, .aload_n 0, 1), (27, .getfield 44, 3), (30, .iconst 0, 1), (31, .iaload, 1), (32, .if_icmp .ge 48, 3), (35, .aload_n 0, 1), (36, .iload 5, 2), (38, .aload_n 0, 1), (39, .invokevirtual 353, 3), (42, .invokevirtual 347, 3), (45, .istore 6, 2), (47, .iload 6, 2), (49, .iconst (-1), 1), (50, .if_icmp .eq 24, 3), (53, .iload_n 3, 1), (54, .iconst (-1), 1), (55, .if_icmp .eq 12, 3), (58, .iload 6, 2), (60, .iload_n 3, 1), (61, .if_icmp .lt 6, 3), (64, .goto 10, 3), (67, .iload 6, 2), (69, .istore_n 3, 1), (70, .iload 5, 2), (72, .istore 4, 2), (74, .iinc 5 1, 3), (77, .goto (-53), 3), (80, .iload_n 3, 1), (81, .iconst (-1), 1), (82, .if_icmp .eq 8, 3), (85, .iload_n 2, 1), (86, .iconst (-1), 1), (87, .if_icmp .ne 5, 3), (90, .iload_n 3, 1), (91, .ireturn, 1), (92, .iload_n 2, 1), (93, .i2l, 1), (94, .lconst 0, 1), (95, .iload_n 3, 1), (96, .iconst 1, 1), (97, .isub, 1), (98, .i2l, 1), (99, .invokestatic 183, 3), (102, .ifCond .ne 5, 3), (105, .iconst (-1), 1), (106, .ireturn, 1), (107, .aload_n 0, 1), (108, .iload 4, 2), (110, .aload_n 0, 1), (111, .invokevirtual 353, 3), (114, .invokevirtual 343, 3), (117, .iload 4, 2), (119, .istore 5, 2), (121, .iconst 0, 1), (122, .istore 6, 2), (124, .iload 6, 2), (126, .iload_n 2, 1), (127, .if_icmp .ge 54, 3), (130, .iconst 0, 1), (131, .istore 7, 2), (133, .aload_n 0, 1), (134, .getfield 115, 3), (137, .iload 7, 2), (139, .iaload, 1), (140, .iload_n 3, 1), (141, .iload 6, 2), (143, .isub, 1), (144, .iconst 1, 1), (145, .isub, 1), (146, .if_icmp .ne 19, 3), (149, .aload_n 0, 1), (150, .getfield 111, 3), (153, .bipush 10, 2), (155, .iload 5, 2), (157, .imul, 1), (158, .iload 7, 2), (160, .iadd, 1), (161, .baload, 1), (162, .ifCond .ne 9, 3), (165, .iinc 7 1, 3), (168, .goto (-35), 3), (171, .iload 7, 2), (173, .istore 5, 2), (175, .iinc 6 1, 3), (178, .goto (-54), 3), (181, .iload 5, 2), (183, .ireturn, 1)]
theorem dt_Mo_ring (i : Nat) (q : Nat × Instr × Nat) (h : tb_Mo_ring[i]? = some q) : decode prog_14_method_57_code q.1 = .ok q.2 := jdt (by decide +kernel : tb_Mo_ring.all (fun q => decide (decode prog_14_method_57_code q.1 = .ok q.2)) = true) h
theorem ok_Mo_ring : jOKV M_Mo_ring 2 := ⟨⟨gt7 188 rfl rfl, gt1 17 rfl rfl, (by decide : "FirstInModel" ≠ "java/lang/invoke/MethodHandle"), (by decide : "FirstInModel" ≠ "java/lang/invoke/VarHandle"), (by decide +kernel : (parseMethodDescriptor "(II)I").map (fun d => d.parameters.length) = some 2)⟩, gt7 186 rfl rfl, gt7 187 rfl rfl, rfl, nlt rfl⟩
set_option maxRecDepth 100000 in
set_option maxHeartbeats 4000000 in
theorem c_Mo_ring {G : jG} {S : hS} {V : hV} {v0 : Option Nat} {v1 : Int32} {v2 : Int32} {res : Int32 × hV} (hf : Mo_ring S v0 v1 v2 V = some res) : jC G M_Mo_ring [ar v0, ai v1, ai v2] (S, V) (some (ai res.1)) (S, res.2) := by
  unfold Mo_ring at hf
  obtain ⟨_, _, hf⟩ := jbind hf
  refine jC_of (pf_X12 _ _) rfl (nle rfl) ?_
  show jJ G M_Mo_ring (jEnd G M_Mo_ring (some (ai res.1)) (S, res.2)) 0 0 0 [(0, ar v0), (1, ai v1), (2, ai v2)] [] (S, V)
  refine j_aload_n (dt_Mo_ring 0 (0, .aload_n 0, 1) rfl) rfl ?_
  refine j_iload_n (dt_Mo_ring 1 (1, .iload_n 1, 1) rfl) rfl ?_
  obtain ⟨x1, hx1, hf⟩ := jbind hf
  obtain ⟨b2, hb2⟩ := r_Mo_isRoom hx1
  refine j_callV M_Mo_isRoom 1 [ai v1] (rest := []) (dt_Mo_ring 2 (2, .invokevirtual 297, 3) rfl) ml_X12_297 ok_Mo_isRoom (jfit rfl rfl ⟨rfl, rfl⟩ (nle rfl) (nlt rfl)) rfl rfl (nle rfl) ⟨rfl, rfl⟩ hb2 ((c_Mo_isRoom hx1)) ?_
  refine jite hf (fun hc hf => ?_) (fun hc hf => ?_)
  · refine j_if_ne (dt_Mo_ring 3 (5, .ifCond .ne 5, 3) rfl) rfl (fun q => absurd hc q) (fun _ => ?_)
    refine j_iconst (dt_Mo_ring 4 (8, .iconst (-1), 1) rfl) ic_m1 ?_
    cases hf
    exact j_iret (dt_Mo_ring 5 (9, .ireturn, 1) rfl) rfl
  · refine j_if_ne (dt_Mo_ring 3 (5, .ifCond .ne 5, 3) rfl) rfl (fun _ => ?_) (fun q => absurd q hc)
    refine j_aload_n (dt_Mo_ring 6 (10, .aload_n 0, 1) rfl) rfl ?_
    refine j_iload_n (dt_Mo_ring 7 (11, .iload_n 1, 1) rfl) rfl ?_
    refine j_iconst (dt_Mo_ring 8 (12, .iconst 0, 1) rfl) ic_0 ?_
    obtain ⟨V3, hV3, hf⟩ := jbind hf
    obtain ⟨b4, hb4⟩ := r_Mo_ranks hV3
    refine j_callV M_Mo_ranks 2 [ai v1, ai 0] (rest := []) (dt_Mo_ring 9 (13, .invokevirtual 350, 3) rfl) ml_X12_350 ok_Mo_ranks (jfit rfl rfl ⟨rfl, rfl⟩ (nle rfl) (nlt rfl)) rfl rfl (nle rfl) ⟨rfl, rfl⟩ hb4 ((c_Mo_ranks hV3)) ?_
    refine j_iconst (dt_Mo_ring 10 (16, .iconst (-1), 1) rfl) ic_m1 ?_
    refine j_istore_n (dt_Mo_ring 11 (17, .istore_n 3, 1) rfl) (nlt rfl) ?_
    refine j_iconst (dt_Mo_ring 12 (18, .iconst (-1), 1) rfl) ic_m1 ?_
    refine j_istore (dt_Mo_ring 13 (19, .istore 4, 2) rfl) (nlt rfl) ?_
    refine j_iconst (dt_Mo_ring 14 (21, .iconst 0, 1) rfl) ic_0 ?_
    refine j_istore (dt_Mo_ring 15 (22, .istore 5, 2) rfl) (nlt rfl) ?_
    obtain ⟨t24, ht24, hf⟩ := jbind hf
    have hX24 : ∀ q24 : Int32 × Int32 × hV, q24 = t24 → jJ G M_Mo_ring (jEnd G M_Mo_ring (some (ai res.1)) (S, res.2)) 0 0 80 [(0, ar v0), (2, ai v2), (3, ai q24.1), (4, ai q24.2.1)] [] (S, q24.2.2) := by
      intro q24 hq24
      subst hq24
      refine j_iload_n (dt_Mo_ring 44 (80, .iload_n 3, 1) rfl) rfl ?_
      refine j_iconst (dt_Mo_ring 45 (81, .iconst (-1), 1) rfl) ic_m1 ?_
      refine jite hf (fun hc hf => ?_) (fun hc hf => ?_)
      · refine j_icmp_eq (dt_Mo_ring 46 (82, .if_icmp .eq 8, 3) rfl) rfl (fun _ => ?_) (fun q => absurd hc q)
        refine j_iload_n (dt_Mo_ring 50 (90, .iload_n 3, 1) rfl) rfl ?_
        cases hf
        exact j_iret (dt_Mo_ring 51 (91, .ireturn, 1) rfl) rfl
      · refine j_icmp_eq (dt_Mo_ring 46 (82, .if_icmp .eq 8, 3) rfl) rfl (fun q => absurd q hc) (fun _ => ?_)
        refine j_iload_n (dt_Mo_ring 47 (85, .iload_n 2, 1) rfl) rfl ?_
        refine j_iconst (dt_Mo_ring 48 (86, .iconst (-1), 1) rfl) ic_m1 ?_
        refine jite hf (fun hc hf => ?_) (fun hc hf => ?_)
        · refine j_icmp_ne (dt_Mo_ring 49 (87, .if_icmp .ne 5, 3) rfl) rfl (fun q => absurd hc q) (fun _ => ?_)
          refine j_iload_n (dt_Mo_ring 50 (90, .iload_n 3, 1) rfl) rfl ?_
          cases hf
          exact j_iret (dt_Mo_ring 51 (91, .ireturn, 1) rfl) rfl
        · refine j_icmp_ne (dt_Mo_ring 49 (87, .if_icmp .ne 5, 3) rfl) rfl (fun _ => ?_) (fun q => absurd q hc)
          refine j_iload_n (dt_Mo_ring 52 (92, .iload_n 2, 1) rfl) rfl ?_
          refine j_i2l (dt_Mo_ring 53 (93, .i2l, 1) rfl) ?_
          refine j_lconst (dt_Mo_ring 54 (94, .lconst 0, 1) rfl) lc_0 ?_
          refine j_iload_n (dt_Mo_ring 55 (95, .iload_n 3, 1) rfl) rfl ?_
          refine j_iconst (dt_Mo_ring 56 (96, .iconst 1, 1) rfl) ic_1 ?_
          refine j_isub (dt_Mo_ring 57 (97, .isub, 1) rfl) ?_
          refine j_i2l (dt_Mo_ring 58 (98, .i2l, 1) rfl) ?_
          refine j_callS M_Mo_in 3 [al ((v2 : Int32).toInt64), al 0, al ((q24.1 - 1 : Int32).toInt64)] (rest := []) (dt_Mo_ring 59 (99, .invokestatic 183, 3) rfl) ml_X12_183 ok_Mo_in (jfit rfl rfl ⟨rfl, rfl⟩ (nle rfl) (nlt rfl)) rfl rfl (nle rfl) ⟨rfl, rfl⟩ (c_Mo_in rfl) ?_
          refine jite hf (fun hc hf => ?_) (fun hc hf => ?_)
          · refine j_if_ne (dt_Mo_ring 60 (102, .ifCond .ne 5, 3) rfl) rfl (fun q => absurd hc q) (fun _ => ?_)
            refine j_iconst (dt_Mo_ring 61 (105, .iconst (-1), 1) rfl) ic_m1 ?_
            cases hf
            exact j_iret (dt_Mo_ring 62 (106, .ireturn, 1) rfl) rfl
          · refine j_if_ne (dt_Mo_ring 60 (102, .ifCond .ne 5, 3) rfl) rfl (fun _ => ?_) (fun q => absurd q hc)
            refine j_aload_n (dt_Mo_ring 63 (107, .aload_n 0, 1) rfl) rfl ?_
            refine j_iload (dt_Mo_ring 64 (108, .iload 4, 2) rfl) rfl ?_
            refine j_aload_n (dt_Mo_ring 65 (110, .aload_n 0, 1) rfl) rfl ?_
            obtain ⟨x11, hx11, hf⟩ := jbind hf
            obtain ⟨b12, hb12⟩ := r_Mo_all hx11
            refine j_callV M_Mo_all 0 [] (rest := [ai q24.2.1, ar v0]) (dt_Mo_ring 66 (111, .invokevirtual 353, 3) rfl) ml_X12_353 ok_Mo_all (jfit rfl rfl ⟨rfl, rfl⟩ (nle rfl) (nlt rfl)) rfl rfl (nle rfl) ⟨rfl, rfl⟩ hb12 ((c_Mo_all hx11)) ?_
            obtain ⟨V13, hV13, hf⟩ := jbind hf
            obtain ⟨b14, hb14⟩ := r_Mo_leads hV13
            refine j_callV M_Mo_leads 2 [ai q24.2.1, ai x11] (rest := []) (dt_Mo_ring 67 (114, .invokevirtual 343, 3) rfl) ml_X12_343 ok_Mo_leads (jfit rfl rfl ⟨rfl, rfl⟩ (nle rfl) (nlt rfl)) rfl rfl (nle rfl) ⟨rfl, rfl⟩ hb14 ((c_Mo_leads hV13)) ?_
            refine j_iload (dt_Mo_ring 68 (117, .iload 4, 2) rfl) rfl ?_
            refine j_istore (dt_Mo_ring 69 (119, .istore 5, 2) rfl) (nlt rfl) ?_
            refine j_iconst (dt_Mo_ring 70 (121, .iconst 0, 1) rfl) ic_0 ?_
            refine j_istore (dt_Mo_ring 71 (122, .istore 6, 2) rfl) (nlt rfl) ?_
            obtain ⟨t124, ht124, hf⟩ := jbind hf
            have hX124 : ∀ q124 : Int32, q124 = t124 → jJ G M_Mo_ring (jEnd G M_Mo_ring (some (ai res.1)) (S, res.2)) 0 0 181 [(5, ai q124)] [] (S, V13) := by
              intro q124 hq124
              subst hq124
              refine j_iload (dt_Mo_ring 102 (181, .iload 5, 2) rfl) rfl ?_
              cases hf
              exact j_iret (dt_Mo_ring 103 (183, .ireturn, 1) rfl) rfl
            refine j_sub (ls' := [(0, ar v0), (2, ai v2), (3, ai q24.1), (5, ai q24.2.1), (6, ai 0)]) rfl ?_
            refine jloop_J (C := fun s124 => jJ G M_Mo_ring (jEnd G M_Mo_ring (some (ai res.1)) (S, res.2)) 0 0 124 [(0, ar v0), (2, ai v2), (3, ai q24.1), (5, ai s124.1), (6, ai s124.2)] [] (S, V13)) (fun s124 z124_ hy124 hin124 hout124 => ?_) _ _ ht124
            unfold Mo_ring_L124 at hy124
            refine j_iload (dt_Mo_ring 72 (124, .iload 6, 2) rfl) rfl ?_
            refine j_iload_n (dt_Mo_ring 73 (126, .iload_n 2, 1) rfl) rfl ?_
            refine jite hy124 (fun hc hy124 => ?_) (fun hc hy124 => ?_)
            · refine j_icmp_ge (dt_Mo_ring 74 (127, .if_icmp .ge 54, 3) rfl) rfl (fun _ => ?_) (fun q => absurd hc q)
              cases hy124
              have hz := hX124 _ (hout124 _ rfl)
              exact j_sub rfl hz
            · refine j_icmp_ge (dt_Mo_ring 74 (127, .if_icmp .ge 54, 3) rfl) rfl (fun q => absurd q hc) (fun _ => ?_)
              refine j_iconst (dt_Mo_ring 75 (130, .iconst 0, 1) rfl) ic_0 ?_
              refine j_istore (dt_Mo_ring 76 (131, .istore 7, 2) rfl) (nlt rfl) ?_
              obtain ⟨t133, ht133, hy124⟩ := jbind hy124
              have hX133 : ∀ q133 : Int32, q133 = t133 → jJ G M_Mo_ring (jEnd G M_Mo_ring (some (ai res.1)) (S, res.2)) 0 0 171 [(0, ar v0), (2, ai v2), (3, ai q24.1), (6, ai s124.2), (7, ai q133)] [] (S, V13) := by
                intro q133 hq133
                subst hq133
                refine j_iload (dt_Mo_ring 98 (171, .iload 7, 2) rfl) rfl ?_
                refine j_istore (dt_Mo_ring 99 (173, .istore 5, 2) rfl) (nlt rfl) ?_
                refine j_iinc (dt_Mo_ring 100 (175, .iinc 6 1, 3) rfl) rfl (nlt rfl) (ii_1 _) ?_
                refine j_goto (dt_Mo_ring 101 (178, .goto (-54), 3) rfl) rfl ?_
                cases hy124
                have hz := hin124 _ rfl
                exact j_sub rfl hz
              refine j_sub (ls' := [(0, ar v0), (2, ai v2), (3, ai q24.1), (5, ai s124.1), (6, ai s124.2), (7, ai 0)]) rfl ?_
              refine jloop_J (C := fun s133 => jJ G M_Mo_ring (jEnd G M_Mo_ring (some (ai res.1)) (S, res.2)) 0 0 133 [(0, ar v0), (2, ai v2), (3, ai q24.1), (5, ai s124.1), (6, ai s124.2), (7, ai s133)] [] (S, V13)) (fun s133 z133_ hy133 hin133 hout133 => ?_) _ _ ht133
              unfold Mo_ring_L133 at hy133
              refine j_aload_n (dt_Mo_ring 77 (133, .aload_n 0, 1) rfl) rfl ?_
              obtain ⟨x15, hx15, hy133⟩ := jbind hy133
              refine j_getR (dt_Mo_ring 78 (134, .getfield 115, 3) rfl) fl_X12_115 hx15 (fun _ _ => rfl) ?_
              refine j_iload (dt_Mo_ring 79 (137, .iload 7, 2) rfl) rfl ?_
              obtain ⟨x16, hx16, hy133⟩ := jbind hy133
              refine j_aldI (dt_Mo_ring 80 (139, .iaload, 1) rfl) hx16 ?_
              refine j_iload_n (dt_Mo_ring 81 (140, .iload_n 3, 1) rfl) rfl ?_
              refine j_iload (dt_Mo_ring 82 (141, .iload 6, 2) rfl) rfl ?_
              refine j_isub (dt_Mo_ring 83 (143, .isub, 1) rfl) ?_
              refine j_iconst (dt_Mo_ring 84 (144, .iconst 1, 1) rfl) ic_1 ?_
              refine j_isub (dt_Mo_ring 85 (145, .isub, 1) rfl) ?_
              refine jite hy133 (fun hc hy133 => ?_) (fun hc hy133 => ?_)
              · refine j_icmp_ne (dt_Mo_ring 86 (146, .if_icmp .ne 19, 3) rfl) rfl (fun q => absurd hc q) (fun _ => ?_)
                refine j_aload_n (dt_Mo_ring 87 (149, .aload_n 0, 1) rfl) rfl ?_
                obtain ⟨x17, hx17, hy133⟩ := jbind hy133
                refine j_getR (dt_Mo_ring 88 (150, .getfield 111, 3) rfl) fl_X12_111 hx17 (fun _ _ => rfl) ?_
                refine j_bipush (dt_Mo_ring 89 (153, .bipush 10, 2) rfl) bp_10 ?_
                refine j_iload (dt_Mo_ring 90 (155, .iload 5, 2) rfl) rfl ?_
                refine j_imul (dt_Mo_ring 91 (157, .imul, 1) rfl) ?_
                refine j_iload (dt_Mo_ring 92 (158, .iload 7, 2) rfl) rfl ?_
                refine j_iadd (dt_Mo_ring 93 (160, .iadd, 1) rfl) ?_
                obtain ⟨x18, hx18, hy133⟩ := jbind hy133
                refine j_aldZ (dt_Mo_ring 94 (161, .baload, 1) rfl) hx18 ?_
                refine jite hy133 (fun hc hy133 => ?_) (fun hc hy133 => ?_)
                · refine j_if_ne (dt_Mo_ring 95 (162, .ifCond .ne 9, 3) rfl) rfl (fun q => absurd hc q) (fun _ => ?_)
                  refine j_iinc (dt_Mo_ring 96 (165, .iinc 7 1, 3) rfl) rfl (nlt rfl) (ii_1 _) ?_
                  refine j_goto (dt_Mo_ring 97 (168, .goto (-35), 3) rfl) rfl ?_
                  cases hy133
                  have hz := hin133 _ rfl
                  exact j_sub rfl hz
                · refine j_if_ne (dt_Mo_ring 95 (162, .ifCond .ne 9, 3) rfl) rfl (fun _ => ?_) (fun q => absurd q hc)
                  cases hy133
                  have hz := hX133 _ (hout133 _ rfl)
                  exact j_sub rfl hz
              · refine j_icmp_ne (dt_Mo_ring 86 (146, .if_icmp .ne 19, 3) rfl) rfl (fun _ => ?_) (fun q => absurd q hc)
                refine j_iinc (dt_Mo_ring 96 (165, .iinc 7 1, 3) rfl) rfl (nlt rfl) (ii_1 _) ?_
                refine j_goto (dt_Mo_ring 97 (168, .goto (-35), 3) rfl) rfl ?_
                cases hy133
                have hz := hin133 _ rfl
                exact j_sub rfl hz
    refine j_sub (ls' := [(0, ar v0), (2, ai v2), (3, ai (-1)), (4, ai (-1)), (5, ai 0)]) rfl ?_
    refine jloop_J (C := fun s24 => jJ G M_Mo_ring (jEnd G M_Mo_ring (some (ai res.1)) (S, res.2)) 0 0 24 [(0, ar v0), (2, ai v2), (3, ai s24.1), (4, ai s24.2.1), (5, ai s24.2.2.1)] [] (S, s24.2.2.2)) (fun s24 z24_ hy24 hin24 hout24 => ?_) _ _ ht24
    unfold Mo_ring_L24 at hy24
    refine j_iload (dt_Mo_ring 16 (24, .iload 5, 2) rfl) rfl ?_
    refine j_aload_n (dt_Mo_ring 17 (26, .aload_n 0, 1) rfl) rfl ?_
    obtain ⟨x5, hx5, hy24⟩ := jbind hy24
    refine j_getR (dt_Mo_ring 18 (27, .getfield 44, 3) rfl) fl_X12_44 hx5 (fun _ _ => rfl) ?_
    refine j_iconst (dt_Mo_ring 19 (30, .iconst 0, 1) rfl) ic_0 ?_
    obtain ⟨x6, hx6, hy24⟩ := jbind hy24
    refine j_aldI (dt_Mo_ring 20 (31, .iaload, 1) rfl) hx6 ?_
    refine jite hy24 (fun hc hy24 => ?_) (fun hc hy24 => ?_)
    · refine j_icmp_ge (dt_Mo_ring 21 (32, .if_icmp .ge 48, 3) rfl) rfl (fun _ => ?_) (fun q => absurd hc q)
      cases hy24
      have hz := hX24 _ (hout24 _ rfl)
      exact j_sub rfl hz
    · refine j_icmp_ge (dt_Mo_ring 21 (32, .if_icmp .ge 48, 3) rfl) rfl (fun q => absurd q hc) (fun _ => ?_)
      refine j_aload_n (dt_Mo_ring 22 (35, .aload_n 0, 1) rfl) rfl ?_
      refine j_iload (dt_Mo_ring 23 (36, .iload 5, 2) rfl) rfl ?_
      refine j_aload_n (dt_Mo_ring 24 (38, .aload_n 0, 1) rfl) rfl ?_
      obtain ⟨x7, hx7, hy24⟩ := jbind hy24
      obtain ⟨b8, hb8⟩ := r_Mo_all hx7
      refine j_callV M_Mo_all 0 [] (rest := [ai s24.2.2.1, ar v0]) (dt_Mo_ring 25 (39, .invokevirtual 353, 3) rfl) ml_X12_353 ok_Mo_all (jfit rfl rfl ⟨rfl, rfl⟩ (nle rfl) (nlt rfl)) rfl rfl (nle rfl) ⟨rfl, rfl⟩ hb8 ((c_Mo_all hx7)) ?_
      obtain ⟨w9, hw9, hy24⟩ := jbind hy24
      obtain ⟨b10, hb10⟩ := r_Mo_through hw9
      refine j_callV M_Mo_through 2 [ai s24.2.2.1, ai x7] (rest := []) (dt_Mo_ring 26 (42, .invokevirtual 347, 3) rfl) ml_X12_347 ok_Mo_through (jfit rfl rfl ⟨rfl, rfl⟩ (nle rfl) (nlt rfl)) rfl rfl (nle rfl) ⟨rfl, rfl⟩ hb10 ((c_Mo_through hw9)) ?_
      refine j_istore (dt_Mo_ring 27 (45, .istore 6, 2) rfl) (nlt rfl) ?_
      refine j_iload (dt_Mo_ring 28 (47, .iload 6, 2) rfl) rfl ?_
      refine j_iconst (dt_Mo_ring 29 (49, .iconst (-1), 1) rfl) ic_m1 ?_
      refine jite hy24 (fun hc hy24 => ?_) (fun hc hy24 => ?_)
      · refine j_icmp_eq (dt_Mo_ring 30 (50, .if_icmp .eq 24, 3) rfl) rfl (fun _ => ?_) (fun q => absurd hc q)
        refine j_iinc (dt_Mo_ring 42 (74, .iinc 5 1, 3) rfl) rfl (nlt rfl) (ii_1 _) ?_
        refine j_goto (dt_Mo_ring 43 (77, .goto (-53), 3) rfl) rfl ?_
        cases hy24
        have hz := hin24 _ rfl
        exact j_sub rfl hz
      · refine j_icmp_eq (dt_Mo_ring 30 (50, .if_icmp .eq 24, 3) rfl) rfl (fun q => absurd q hc) (fun _ => ?_)
        refine j_iload_n (dt_Mo_ring 31 (53, .iload_n 3, 1) rfl) rfl ?_
        refine j_iconst (dt_Mo_ring 32 (54, .iconst (-1), 1) rfl) ic_m1 ?_
        refine jite hy24 (fun hc hy24 => ?_) (fun hc hy24 => ?_)
        · refine j_icmp_eq (dt_Mo_ring 33 (55, .if_icmp .eq 12, 3) rfl) rfl (fun _ => ?_) (fun q => absurd hc q)
          refine j_iload (dt_Mo_ring 38 (67, .iload 6, 2) rfl) rfl ?_
          refine j_istore_n (dt_Mo_ring 39 (69, .istore_n 3, 1) rfl) (nlt rfl) ?_
          refine j_iload (dt_Mo_ring 40 (70, .iload 5, 2) rfl) rfl ?_
          refine j_istore (dt_Mo_ring 41 (72, .istore 4, 2) rfl) (nlt rfl) ?_
          refine j_iinc (dt_Mo_ring 42 (74, .iinc 5 1, 3) rfl) rfl (nlt rfl) (ii_1 _) ?_
          refine j_goto (dt_Mo_ring 43 (77, .goto (-53), 3) rfl) rfl ?_
          cases hy24
          have hz := hin24 _ rfl
          exact j_sub rfl hz
        · refine j_icmp_eq (dt_Mo_ring 33 (55, .if_icmp .eq 12, 3) rfl) rfl (fun q => absurd q hc) (fun _ => ?_)
          refine j_iload (dt_Mo_ring 34 (58, .iload 6, 2) rfl) rfl ?_
          refine j_iload_n (dt_Mo_ring 35 (60, .iload_n 3, 1) rfl) rfl ?_
          refine jite hy24 (fun hc hy24 => ?_) (fun hc hy24 => ?_)
          · refine j_icmp_lt (dt_Mo_ring 36 (61, .if_icmp .lt 6, 3) rfl) rfl (fun _ => ?_) (fun q => absurd hc q)
            refine j_iload (dt_Mo_ring 38 (67, .iload 6, 2) rfl) rfl ?_
            refine j_istore_n (dt_Mo_ring 39 (69, .istore_n 3, 1) rfl) (nlt rfl) ?_
            refine j_iload (dt_Mo_ring 40 (70, .iload 5, 2) rfl) rfl ?_
            refine j_istore (dt_Mo_ring 41 (72, .istore 4, 2) rfl) (nlt rfl) ?_
            refine j_iinc (dt_Mo_ring 42 (74, .iinc 5 1, 3) rfl) rfl (nlt rfl) (ii_1 _) ?_
            refine j_goto (dt_Mo_ring 43 (77, .goto (-53), 3) rfl) rfl ?_
            cases hy24
            have hz := hin24 _ rfl
            exact j_sub rfl hz
          · refine j_icmp_lt (dt_Mo_ring 36 (61, .if_icmp .lt 6, 3) rfl) rfl (fun q => absurd q hc) (fun _ => ?_)
            refine j_goto (dt_Mo_ring 37 (64, .goto 10, 3) rfl) rfl ?_
            refine j_iinc (dt_Mo_ring 42 (74, .iinc 5 1, 3) rfl) rfl (nlt rfl) (ii_1 _) ?_
            refine j_goto (dt_Mo_ring 43 (77, .goto (-53), 3) rfl) rfl ?_
            cases hy24
            have hz := hin24 _ rfl
            exact j_sub rfl hz
theorem r_Mo_ring {S : hS} {V : hV} {v0 : Option Nat} {v1 : Int32} {v2 : Int32} {res : Int32 × hV} (hf : Mo_ring S v0 v1 v2 V = some res) : ∃ b, rc S 12 v0 = some b := by
  unfold Mo_ring at hf
  obtain ⟨b, hb, _⟩ := jbind hf
  exact ⟨b, hb⟩
def tb_Mo_quarrels : List (Nat × Instr × Nat) := [(0, .aload_n 0, 1), (1, .iload_n 1, 1), (2, .invokevirtual 297, 3), (5, .ifCond .ne 5, 3), (8, .iconst (-1), 1), (9, .ireturn, 1), (10, .aload_n 0, 1), (11, .iload_n 1, 1), (12, .iconst 0, 1), (13, .invokevirtual 350, 3), (16, .iconst 0, 1), (17, .istore_n 2, 1), (18, .iconst 0, 1), (19, .istore_n 3, 1), (20, .iload_n 3, 1), (21, .aload_n 0, 1), (22, .getfield 44, 3), (25, .iconst 0, 1), (26, .iaload, 1), (27, .if_icmp .ge 62, 3), (30, .iconst 0, 1), (31, .istore 4, 2), (33, .iload 4, 2), (35, .iload_n 3, 1), (36, .if_icmp .ge 47, 3), (39, .iload_n 2, 1), (40, .aload_n 0, 1), (41, .getfield 111, 3), (44, .bipush 10, 2), (46, .iload_n 3, 1), (47, .imul, 1), (48, .iload 4, 2), (50, .iadd, 1), (51, .baload, 1), (52, .ifCond .eq 22, 3), (55, .aload_n 0, 1), (56, .getfield 111, 3), (59, .bipush 10, 2), (61, .iload 4, 2), (63, .imul, 1), (64, .iload_n 3, 1), (65, .iadd, 1), (66, .baload, 1), (67, .ifCond .eq 7, 3), (70, .iconst 1, 1), (71, .goto 4, 3), (74, .iconst 0, 1), (75, .iadd, 1), (76, .istore_n 2, 1), (77, .iinc 4 1, 3), (80, .goto (-47), 3), (83, .iinc 3 1, 3), (86, .goto (-66), 3), (89, .iload_n 2, 1), (90, .ireturn, 1)]
theorem dt_Mo_quarrels (i : Nat) (q : Nat × Instr × Nat) (h : tb_Mo_quarrels[i]? = some q) : decode prog_14_method_58_code q.1 = .ok q.2 := jdt (by decide +kernel : tb_Mo_quarrels.all (fun q => decide (decode prog_14_method_58_code q.1 = .ok q.2)) = true) h
theorem ok_Mo_quarrels : jOKV M_Mo_quarrels 1 := ⟨⟨gt7 208 rfl rfl, gt1 17 rfl rfl, (by decide : "FirstInModel" ≠ "java/lang/invoke/MethodHandle"), (by decide : "FirstInModel" ≠ "java/lang/invoke/VarHandle"), (by decide +kernel : (parseMethodDescriptor "(I)I").map (fun d => d.parameters.length) = some 1)⟩, gt7 206 rfl rfl, gt7 207 rfl rfl, rfl, nlt rfl⟩
set_option maxRecDepth 100000 in
set_option maxHeartbeats 4000000 in
theorem c_Mo_quarrels {G : jG} {S : hS} {V : hV} {v0 : Option Nat} {v1 : Int32} {res : Int32 × hV} (hf : Mo_quarrels S v0 v1 V = some res) : jC G M_Mo_quarrels [ar v0, ai v1] (S, V) (some (ai res.1)) (S, res.2) := by
  unfold Mo_quarrels at hf
  obtain ⟨_, _, hf⟩ := jbind hf
  refine jC_of (pf_X12 _ _) rfl (nle rfl) ?_
  show jJ G M_Mo_quarrels (jEnd G M_Mo_quarrels (some (ai res.1)) (S, res.2)) 0 0 0 [(0, ar v0), (1, ai v1)] [] (S, V)
  refine j_aload_n (dt_Mo_quarrels 0 (0, .aload_n 0, 1) rfl) rfl ?_
  refine j_iload_n (dt_Mo_quarrels 1 (1, .iload_n 1, 1) rfl) rfl ?_
  obtain ⟨x1, hx1, hf⟩ := jbind hf
  obtain ⟨b2, hb2⟩ := r_Mo_isRoom hx1
  refine j_callV M_Mo_isRoom 1 [ai v1] (rest := []) (dt_Mo_quarrels 2 (2, .invokevirtual 297, 3) rfl) ml_X12_297 ok_Mo_isRoom (jfit rfl rfl ⟨rfl, rfl⟩ (nle rfl) (nlt rfl)) rfl rfl (nle rfl) ⟨rfl, rfl⟩ hb2 ((c_Mo_isRoom hx1)) ?_
  refine jite hf (fun hc hf => ?_) (fun hc hf => ?_)
  · refine j_if_ne (dt_Mo_quarrels 3 (5, .ifCond .ne 5, 3) rfl) rfl (fun q => absurd hc q) (fun _ => ?_)
    refine j_iconst (dt_Mo_quarrels 4 (8, .iconst (-1), 1) rfl) ic_m1 ?_
    cases hf
    exact j_iret (dt_Mo_quarrels 5 (9, .ireturn, 1) rfl) rfl
  · refine j_if_ne (dt_Mo_quarrels 3 (5, .ifCond .ne 5, 3) rfl) rfl (fun _ => ?_) (fun q => absurd q hc)
    refine j_aload_n (dt_Mo_quarrels 6 (10, .aload_n 0, 1) rfl) rfl ?_
    refine j_iload_n (dt_Mo_quarrels 7 (11, .iload_n 1, 1) rfl) rfl ?_
    refine j_iconst (dt_Mo_quarrels 8 (12, .iconst 0, 1) rfl) ic_0 ?_
    obtain ⟨V3, hV3, hf⟩ := jbind hf
    obtain ⟨b4, hb4⟩ := r_Mo_ranks hV3
    refine j_callV M_Mo_ranks 2 [ai v1, ai 0] (rest := []) (dt_Mo_quarrels 9 (13, .invokevirtual 350, 3) rfl) ml_X12_350 ok_Mo_ranks (jfit rfl rfl ⟨rfl, rfl⟩ (nle rfl) (nlt rfl)) rfl rfl (nle rfl) ⟨rfl, rfl⟩ hb4 ((c_Mo_ranks hV3)) ?_
    refine j_iconst (dt_Mo_quarrels 10 (16, .iconst 0, 1) rfl) ic_0 ?_
    refine j_istore_n (dt_Mo_quarrels 11 (17, .istore_n 2, 1) rfl) (nlt rfl) ?_
    refine j_iconst (dt_Mo_quarrels 12 (18, .iconst 0, 1) rfl) ic_0 ?_
    refine j_istore_n (dt_Mo_quarrels 13 (19, .istore_n 3, 1) rfl) (nlt rfl) ?_
    obtain ⟨t20, ht20, hf⟩ := jbind hf
    have hX20 : ∀ q20 : Int32, q20 = t20 → jJ G M_Mo_quarrels (jEnd G M_Mo_quarrels (some (ai res.1)) (S, res.2)) 0 0 89 [(2, ai q20)] [] (S, V3) := by
      intro q20 hq20
      subst hq20
      refine j_iload_n (dt_Mo_quarrels 53 (89, .iload_n 2, 1) rfl) rfl ?_
      cases hf
      exact j_iret (dt_Mo_quarrels 54 (90, .ireturn, 1) rfl) rfl
    refine j_sub (ls' := [(0, ar v0), (2, ai 0), (3, ai 0)]) rfl ?_
    refine jloop_J (C := fun s20 => jJ G M_Mo_quarrels (jEnd G M_Mo_quarrels (some (ai res.1)) (S, res.2)) 0 0 20 [(0, ar v0), (2, ai s20.1), (3, ai s20.2)] [] (S, V3)) (fun s20 z20_ hy20 hin20 hout20 => ?_) _ _ ht20
    unfold Mo_quarrels_L20 at hy20
    refine j_iload_n (dt_Mo_quarrels 14 (20, .iload_n 3, 1) rfl) rfl ?_
    refine j_aload_n (dt_Mo_quarrels 15 (21, .aload_n 0, 1) rfl) rfl ?_
    obtain ⟨x5, hx5, hy20⟩ := jbind hy20
    refine j_getR (dt_Mo_quarrels 16 (22, .getfield 44, 3) rfl) fl_X12_44 hx5 (fun _ _ => rfl) ?_
    refine j_iconst (dt_Mo_quarrels 17 (25, .iconst 0, 1) rfl) ic_0 ?_
    obtain ⟨x6, hx6, hy20⟩ := jbind hy20
    refine j_aldI (dt_Mo_quarrels 18 (26, .iaload, 1) rfl) hx6 ?_
    refine jite hy20 (fun hc hy20 => ?_) (fun hc hy20 => ?_)
    · refine j_icmp_ge (dt_Mo_quarrels 19 (27, .if_icmp .ge 62, 3) rfl) rfl (fun _ => ?_) (fun q => absurd hc q)
      cases hy20
      have hz := hX20 _ (hout20 _ rfl)
      exact j_sub rfl hz
    · refine j_icmp_ge (dt_Mo_quarrels 19 (27, .if_icmp .ge 62, 3) rfl) rfl (fun q => absurd q hc) (fun _ => ?_)
      refine j_iconst (dt_Mo_quarrels 20 (30, .iconst 0, 1) rfl) ic_0 ?_
      refine j_istore (dt_Mo_quarrels 21 (31, .istore 4, 2) rfl) (nlt rfl) ?_
      obtain ⟨t33, ht33, hy20⟩ := jbind hy20
      have hX33 : ∀ q33 : Int32, q33 = t33 → jJ G M_Mo_quarrels (jEnd G M_Mo_quarrels (some (ai res.1)) (S, res.2)) 0 0 83 [(0, ar v0), (2, ai q33), (3, ai s20.2)] [] (S, V3) := by
        intro q33 hq33
        subst hq33
        refine j_iinc (dt_Mo_quarrels 51 (83, .iinc 3 1, 3) rfl) rfl (nlt rfl) (ii_1 _) ?_
        refine j_goto (dt_Mo_quarrels 52 (86, .goto (-66), 3) rfl) rfl ?_
        cases hy20
        have hz := hin20 _ rfl
        exact j_sub rfl hz
      refine j_sub (ls' := [(0, ar v0), (2, ai s20.1), (3, ai s20.2), (4, ai 0)]) rfl ?_
      refine jloop_J (C := fun s33 => jJ G M_Mo_quarrels (jEnd G M_Mo_quarrels (some (ai res.1)) (S, res.2)) 0 0 33 [(0, ar v0), (2, ai s33.1), (3, ai s20.2), (4, ai s33.2)] [] (S, V3)) (fun s33 z33_ hy33 hin33 hout33 => ?_) _ _ ht33
      unfold Mo_quarrels_L33 at hy33
      refine j_iload (dt_Mo_quarrels 22 (33, .iload 4, 2) rfl) rfl ?_
      refine j_iload_n (dt_Mo_quarrels 23 (35, .iload_n 3, 1) rfl) rfl ?_
      refine jite hy33 (fun hc hy33 => ?_) (fun hc hy33 => ?_)
      · refine j_icmp_ge (dt_Mo_quarrels 24 (36, .if_icmp .ge 47, 3) rfl) rfl (fun _ => ?_) (fun q => absurd hc q)
        cases hy33
        have hz := hX33 _ (hout33 _ rfl)
        exact j_sub rfl hz
      · refine j_icmp_ge (dt_Mo_quarrels 24 (36, .if_icmp .ge 47, 3) rfl) rfl (fun q => absurd q hc) (fun _ => ?_)
        refine j_iload_n (dt_Mo_quarrels 25 (39, .iload_n 2, 1) rfl) rfl ?_
        refine j_aload_n (dt_Mo_quarrels 26 (40, .aload_n 0, 1) rfl) rfl ?_
        obtain ⟨x7, hx7, hy33⟩ := jbind hy33
        refine j_getR (dt_Mo_quarrels 27 (41, .getfield 111, 3) rfl) fl_X12_111 hx7 (fun _ _ => rfl) ?_
        refine j_bipush (dt_Mo_quarrels 28 (44, .bipush 10, 2) rfl) bp_10 ?_
        refine j_iload_n (dt_Mo_quarrels 29 (46, .iload_n 3, 1) rfl) rfl ?_
        refine j_imul (dt_Mo_quarrels 30 (47, .imul, 1) rfl) ?_
        refine j_iload (dt_Mo_quarrels 31 (48, .iload 4, 2) rfl) rfl ?_
        refine j_iadd (dt_Mo_quarrels 32 (50, .iadd, 1) rfl) ?_
        obtain ⟨x8, hx8, hy33⟩ := jbind hy33
        refine j_aldZ (dt_Mo_quarrels 33 (51, .baload, 1) rfl) hx8 ?_
        refine jite hy33 (fun hc hy33 => ?_) (fun hc hy33 => ?_)
        · refine j_if_eq (dt_Mo_quarrels 34 (52, .ifCond .eq 22, 3) rfl) rfl (fun _ => ?_) (fun q => absurd hc q)
          refine j_iconst (dt_Mo_quarrels 46 (74, .iconst 0, 1) rfl) ic_0 ?_
          refine j_iadd (dt_Mo_quarrels 47 (75, .iadd, 1) rfl) ?_
          refine j_istore_n (dt_Mo_quarrels 48 (76, .istore_n 2, 1) rfl) (nlt rfl) ?_
          refine j_iinc (dt_Mo_quarrels 49 (77, .iinc 4 1, 3) rfl) rfl (nlt rfl) (ii_1 _) ?_
          refine j_goto (dt_Mo_quarrels 50 (80, .goto (-47), 3) rfl) rfl ?_
          cases hy33
          have hz := hin33 _ rfl
          exact j_sub rfl hz
        · refine j_if_eq (dt_Mo_quarrels 34 (52, .ifCond .eq 22, 3) rfl) rfl (fun q => absurd q hc) (fun _ => ?_)
          refine j_aload_n (dt_Mo_quarrels 35 (55, .aload_n 0, 1) rfl) rfl ?_
          obtain ⟨x9, hx9, hy33⟩ := jbind hy33
          refine j_getR (dt_Mo_quarrels 36 (56, .getfield 111, 3) rfl) fl_X12_111 hx9 (fun _ _ => rfl) ?_
          refine j_bipush (dt_Mo_quarrels 37 (59, .bipush 10, 2) rfl) bp_10 ?_
          refine j_iload (dt_Mo_quarrels 38 (61, .iload 4, 2) rfl) rfl ?_
          refine j_imul (dt_Mo_quarrels 39 (63, .imul, 1) rfl) ?_
          refine j_iload_n (dt_Mo_quarrels 40 (64, .iload_n 3, 1) rfl) rfl ?_
          refine j_iadd (dt_Mo_quarrels 41 (65, .iadd, 1) rfl) ?_
          obtain ⟨x10, hx10, hy33⟩ := jbind hy33
          refine j_aldZ (dt_Mo_quarrels 42 (66, .baload, 1) rfl) hx10 ?_
          refine jite hy33 (fun hc hy33 => ?_) (fun hc hy33 => ?_)
          · refine j_if_eq (dt_Mo_quarrels 43 (67, .ifCond .eq 7, 3) rfl) rfl (fun _ => ?_) (fun q => absurd hc q)
            refine j_iconst (dt_Mo_quarrels 46 (74, .iconst 0, 1) rfl) ic_0 ?_
            refine j_iadd (dt_Mo_quarrels 47 (75, .iadd, 1) rfl) ?_
            refine j_istore_n (dt_Mo_quarrels 48 (76, .istore_n 2, 1) rfl) (nlt rfl) ?_
            refine j_iinc (dt_Mo_quarrels 49 (77, .iinc 4 1, 3) rfl) rfl (nlt rfl) (ii_1 _) ?_
            refine j_goto (dt_Mo_quarrels 50 (80, .goto (-47), 3) rfl) rfl ?_
            cases hy33
            have hz := hin33 _ rfl
            exact j_sub rfl hz
          · refine j_if_eq (dt_Mo_quarrels 43 (67, .ifCond .eq 7, 3) rfl) rfl (fun q => absurd q hc) (fun _ => ?_)
            refine j_iconst (dt_Mo_quarrels 44 (70, .iconst 1, 1) rfl) ic_1 ?_
            refine j_goto (dt_Mo_quarrels 45 (71, .goto 4, 3) rfl) rfl ?_
            refine j_iadd (dt_Mo_quarrels 47 (75, .iadd, 1) rfl) ?_
            refine j_istore_n (dt_Mo_quarrels 48 (76, .istore_n 2, 1) rfl) (nlt rfl) ?_
            refine j_iinc (dt_Mo_quarrels 49 (77, .iinc 4 1, 3) rfl) rfl (nlt rfl) (ii_1 _) ?_
            refine j_goto (dt_Mo_quarrels 50 (80, .goto (-47), 3) rfl) rfl ?_
            cases hy33
            have hz := hin33 _ rfl
            exact j_sub rfl hz
theorem r_Mo_quarrels {S : hS} {V : hV} {v0 : Option Nat} {v1 : Int32} {res : Int32 × hV} (hf : Mo_quarrels S v0 v1 V = some res) : ∃ b, rc S 12 v0 = some b := by
  unfold Mo_quarrels at hf
  obtain ⟨b, hb, _⟩ := jbind hf
  exact ⟨b, hb⟩
def tb_Jd_bitCount : List (Nat × Instr × Nat) := [(0, .iload_n 0, 1), (1, .iload_n 0, 1), (2, .iconst 1, 1), (3, .iushr, 1), (4, .ldc_w 265, 3), (7, .iand, 1), (8, .isub, 1), (9, .istore_n 0, 1), (10, .iload_n 0, 1), (11, .ldc_w 266, 3), (14, .iand, 1), (15, .iload_n 0, 1), (16, .iconst 2, 1), (17, .iushr, 1), (18, .ldc_w 266, 3), (21, .iand, 1), (22, .iadd, 1), (23, .istore_n 0, 1), (24, .iload_n 0, 1), (25, .iload_n 0, 1), (26, .iconst 4, 1), (27, .iushr, 1), (28, .iadd, 1), (29, .ldc_w 267, 3), (32, .iand, 1), (33, .istore_n 0, 1), (34, .iload_n 0, 1), (35, .iload_n 0, 1), (36, .bipush 8, 2), (38, .iushr, 1), (39, .iadd, 1), (40, .istore_n 0, 1), (41, .iload_n 0, 1), (42, .iload_n 0, 1), (43, .bipush 16, 2), (45, .iushr, 1), (46, .iadd, 1), (47, .istore_n 0, 1), (48, .iload_n 0, 1), (49, .bipush 63, 2), (51, .iand, 1), (52, .ireturn, 1)]
theorem dt_Jd_bitCount (i : Nat) (q : Nat × Instr × Nat) (h : tb_Jd_bitCount[i]? = some q) : decode prog_15_method_49_code q.1 = .ok q.2 := jdt (by decide +kernel : tb_Jd_bitCount.all (fun q => decide (decode prog_15_method_49_code q.1 = .ok q.2)) = true) h
theorem ok_Jd_bitCount : jOKS M_Jd_bitCount 1 := ⟨⟨gt4 23 rfl rfl, gt1 19 rfl rfl, (by decide : "java/lang/Integer" ≠ "java/lang/invoke/MethodHandle"), (by decide : "java/lang/Integer" ≠ "java/lang/invoke/VarHandle"), (by decide +kernel : (parseMethodDescriptor "(I)I").map (fun d => d.parameters.length) = some 1)⟩, gt4 22 rfl rfl⟩
set_option maxRecDepth 100000 in
set_option maxHeartbeats 4000000 in
theorem c_Jd_bitCount {G : jG} {S : hS} {V : hV} {v0 : Int32} {res : Int32} (hf : Jd_bitCount v0 = res) : jC G M_Jd_bitCount [ai v0] (S, V) (some (ai res)) (S, V) := by
  unfold Jd_bitCount at hf
  refine jC_of (by decide +kernel) rfl (nle rfl) ?_
  show jJ G M_Jd_bitCount (jEnd G M_Jd_bitCount (some (ai res)) (S, V)) 0 0 0 [(0, ai v0)] [] (S, V)
  refine j_iload_n (dt_Jd_bitCount 0 (0, .iload_n 0, 1) rfl) rfl ?_
  refine j_iload_n (dt_Jd_bitCount 1 (1, .iload_n 0, 1) rfl) rfl ?_
  refine j_iconst (dt_Jd_bitCount 2 (2, .iconst 1, 1) rfl) ic_1 ?_
  refine j_iushr (dt_Jd_bitCount 3 (3, .iushr, 1) rfl) ?_
  refine j_ldcw 1431655765 (dt_Jd_bitCount 4 (4, .ldc_w 265, 3) rfl) (gt4 24 rfl rfl) ?_
  refine j_iand (dt_Jd_bitCount 5 (7, .iand, 1) rfl) ?_
  refine j_isub (dt_Jd_bitCount 6 (8, .isub, 1) rfl) ?_
  refine j_istore_n (dt_Jd_bitCount 7 (9, .istore_n 0, 1) rfl) (nlt rfl) ?_
  refine j_iload_n (dt_Jd_bitCount 8 (10, .iload_n 0, 1) rfl) rfl ?_
  refine j_ldcw 858993459 (dt_Jd_bitCount 9 (11, .ldc_w 266, 3) rfl) (gt4 25 rfl rfl) ?_
  refine j_iand (dt_Jd_bitCount 10 (14, .iand, 1) rfl) ?_
  refine j_iload_n (dt_Jd_bitCount 11 (15, .iload_n 0, 1) rfl) rfl ?_
  refine j_iconst (dt_Jd_bitCount 12 (16, .iconst 2, 1) rfl) ic_2 ?_
  refine j_iushr (dt_Jd_bitCount 13 (17, .iushr, 1) rfl) ?_
  refine j_ldcw 858993459 (dt_Jd_bitCount 14 (18, .ldc_w 266, 3) rfl) (gt4 25 rfl rfl) ?_
  refine j_iand (dt_Jd_bitCount 15 (21, .iand, 1) rfl) ?_
  refine j_iadd (dt_Jd_bitCount 16 (22, .iadd, 1) rfl) ?_
  refine j_istore_n (dt_Jd_bitCount 17 (23, .istore_n 0, 1) rfl) (nlt rfl) ?_
  refine j_iload_n (dt_Jd_bitCount 18 (24, .iload_n 0, 1) rfl) rfl ?_
  refine j_iload_n (dt_Jd_bitCount 19 (25, .iload_n 0, 1) rfl) rfl ?_
  refine j_iconst (dt_Jd_bitCount 20 (26, .iconst 4, 1) rfl) ic_4 ?_
  refine j_iushr (dt_Jd_bitCount 21 (27, .iushr, 1) rfl) ?_
  refine j_iadd (dt_Jd_bitCount 22 (28, .iadd, 1) rfl) ?_
  refine j_ldcw 252645135 (dt_Jd_bitCount 23 (29, .ldc_w 267, 3) rfl) (gt4 26 rfl rfl) ?_
  refine j_iand (dt_Jd_bitCount 24 (32, .iand, 1) rfl) ?_
  refine j_istore_n (dt_Jd_bitCount 25 (33, .istore_n 0, 1) rfl) (nlt rfl) ?_
  refine j_iload_n (dt_Jd_bitCount 26 (34, .iload_n 0, 1) rfl) rfl ?_
  refine j_iload_n (dt_Jd_bitCount 27 (35, .iload_n 0, 1) rfl) rfl ?_
  refine j_bipush (dt_Jd_bitCount 28 (36, .bipush 8, 2) rfl) bp_8 ?_
  refine j_iushr (dt_Jd_bitCount 29 (38, .iushr, 1) rfl) ?_
  refine j_iadd (dt_Jd_bitCount 30 (39, .iadd, 1) rfl) ?_
  refine j_istore_n (dt_Jd_bitCount 31 (40, .istore_n 0, 1) rfl) (nlt rfl) ?_
  refine j_iload_n (dt_Jd_bitCount 32 (41, .iload_n 0, 1) rfl) rfl ?_
  refine j_iload_n (dt_Jd_bitCount 33 (42, .iload_n 0, 1) rfl) rfl ?_
  refine j_bipush (dt_Jd_bitCount 34 (43, .bipush 16, 2) rfl) bp_16 ?_
  refine j_iushr (dt_Jd_bitCount 35 (45, .iushr, 1) rfl) ?_
  refine j_iadd (dt_Jd_bitCount 36 (46, .iadd, 1) rfl) ?_
  refine j_istore_n (dt_Jd_bitCount 37 (47, .istore_n 0, 1) rfl) (nlt rfl) ?_
  refine j_iload_n (dt_Jd_bitCount 38 (48, .iload_n 0, 1) rfl) rfl ?_
  refine j_bipush (dt_Jd_bitCount 39 (49, .bipush 63, 2) rfl) bp_63 ?_
  refine j_iand (dt_Jd_bitCount 40 (51, .iand, 1) rfl) ?_
  cases hf
  exact j_iret (dt_Jd_bitCount 41 (52, .ireturn, 1) rfl) rfl
def tb_Mo_toRest : List (Nat × Instr × Nat) := [(0, .aload_n 0, 1), (1, .iload_n 1, 1), (2, .invokevirtual 297, 3), (5, .ifCond .eq 13, 3), (8, .iload_n 2, 1), (9, .i2l, 1), (10, .lconst 0, 1), (11, .lconst 1, 1), (12, .invokestatic 183, 3), (15, .ifCond .ne 5, 3), (18, .iconst (-1), 1), (19, .ireturn, 1), (20, .iconst 0, 1), (21, .istore_n 3, 1), (22, .iconst 0, 1), (23, .istore 4, 2), (25, .iload 4, 2), (27, .aload_n 0, 1), (28, .getfield 51, 3), (31, .iconst 0, 1), (32, .iaload, 1), (33, .if_icmp .ge 42, 3), (36, .iload_n 3, 1), (37, .aload_n 0, 1), (38, .getfield 26, 3), (41, .iconst 0, 1), (42, .aaload, 1), (43, .iload 4, 2), (45, .iaload, 1), (46, .ifCond .ne 20, 3), (49, .aload_n 0, 1), (50, .iload 4, 2), (52, .iload_n 1, 1), (53, .invokevirtual 288, 3), (56, .ifCond .eq 10, 3), (59, .iconst 1, 1), (60, .iload 4, 2), (62, .ishl, 1), (63, .goto 4, 3), (66, .iconst 0, 1), (67, .ior, 1), (68, .istore_n 3, 1), (69, .iinc 4 1, 3), (72, .goto (-47), 3), (75, .iconst (-1), 1), (76, .istore 4, 2), (78, .iconst 0, 1), (79, .istore 5, 2), (81, .iconst 0, 1), (82, .istore 6, 2), (84, .iload 6, 2), (86, .iconst 1, 1), (87, .aload_n 0, 1), (88, .getfield 51, 3), (91, .iconst 0, 1), (92, .iaload, 1), (93, .ishl, 1), (94, .if_icmp .ge 131, 3), (97, .iload 6, 2), (99, .iload_n 3, 1), (100, .iconst (-1), 1), (101, .ixor, 1), (102, .iand, 1), (103, .ifCond .eq 6, 3), (106, .goto 113, 3), (109, .iconst 0, 1), (110, .istore 7, 2), (112, .iconst 0, 1), (113, .istore 8, 2), (115, .iload 8, 2), (117, .aload_n 0, 1), (118, .getfield 51, 3), (121, .iconst 0, 1), (122, .iaload, 1), (123, .if_icmp .ge 31, 3), (126, .iload 7, 2), (128, .iload 6, 2), (130, .iload 8, 2), (132, .ishr, 1), (133, .iconst 1, 1), (134, .iand, 1), (135, .aload_n 0, 1), (136, .getfield 35, 3), (139, .iconst 0, 1), (140, .aaload, 1), (141, .iload 8, 2), (143, .iaload, 1), (144, .imul, 1), (145, .iadd, 1), (146, .istore 7, 2), (148, .iinc 8 1, 3), (151, .goto (-36), 3), (154, .iload 4, 2), (156, .iconst (-1), 1), (157, .if_icmp .eq 33, 3), (160, .iload 7, 2), (162, .iload 5, 2), (164, .if_icmp .gt 55, 3), (167, .iload 7, 2), (169, .iload 5, 2), (171, .if_icmp .ne 19, 3), (174, .iload 6, 2), (176, .invokestatic 356, 3), (179, .iload 4, 2), (181, .invokestatic 356, 3), (184, .if_icmp .lt 6, 3), (187, .goto 32, 3), (190, .aload_n 0, 1), (191, .iload_n 1, 1), (192, .iload 6, 2), (194, .invokevirtual 350, 3), (197, .aload_n 0, 1), (198, .aload_n 0, 1), (199, .invokevirtual 353, 3), (202, .invokevirtual 361, 3), (205, .ifCond .eq 6, 3), (208, .goto 11, 3), (211, .iload 6, 2), (213, .istore 4, 2), (215, .iload 7, 2), (217, .istore 5, 2), (219, .iinc 6 1, 3), (222, .goto (-138), 3), (225, .iload_n 2, 1), (226, .ifCond .ne 8, 3), (229, .iload 4, 2), (231, .goto 5, 3), (234, .iload 5, 2), (236, .ireturn, 1)]
theorem dt_Mo_toRest (i : Nat) (q : Nat × Instr × Nat) (h : tb_Mo_toRest[i]? = some q) : decode prog_14_method_59_code q.1 = .ok q.2 := jdt (by decide +kernel : tb_Mo_toRest.all (fun q => decide (decode prog_14_method_59_code q.1 = .ok q.2)) = true) h
theorem ok_Mo_toRest : jOKV M_Mo_toRest 2 := ⟨⟨gt7 212 rfl rfl, gt1 17 rfl rfl, (by decide : "FirstInModel" ≠ "java/lang/invoke/MethodHandle"), (by decide : "FirstInModel" ≠ "java/lang/invoke/VarHandle"), (by decide +kernel : (parseMethodDescriptor "(II)I").map (fun d => d.parameters.length) = some 2)⟩, gt7 210 rfl rfl, gt7 211 rfl rfl, rfl, nlt rfl⟩
set_option maxRecDepth 100000 in
set_option maxHeartbeats 4000000 in
theorem c_Mo_toRest {G : jG} {S : hS} {V : hV} {v0 : Option Nat} {v1 : Int32} {v2 : Int32} {res : Int32 × hV} (hf : Mo_toRest S v0 v1 v2 V = some res) : jC G M_Mo_toRest [ar v0, ai v1, ai v2] (S, V) (some (ai res.1)) (S, res.2) := by
  unfold Mo_toRest at hf
  obtain ⟨_, _, hf⟩ := jbind hf
  refine jC_of (pf_X12 _ _) rfl (nle rfl) ?_
  show jJ G M_Mo_toRest (jEnd G M_Mo_toRest (some (ai res.1)) (S, res.2)) 0 0 0 [(0, ar v0), (1, ai v1), (2, ai v2)] [] (S, V)
  refine j_aload_n (dt_Mo_toRest 0 (0, .aload_n 0, 1) rfl) rfl ?_
  refine j_iload_n (dt_Mo_toRest 1 (1, .iload_n 1, 1) rfl) rfl ?_
  obtain ⟨x1, hx1, hf⟩ := jbind hf
  obtain ⟨b2, hb2⟩ := r_Mo_isRoom hx1
  refine j_callV M_Mo_isRoom 1 [ai v1] (rest := []) (dt_Mo_toRest 2 (2, .invokevirtual 297, 3) rfl) ml_X12_297 ok_Mo_isRoom (jfit rfl rfl ⟨rfl, rfl⟩ (nle rfl) (nlt rfl)) rfl rfl (nle rfl) ⟨rfl, rfl⟩ hb2 ((c_Mo_isRoom hx1)) ?_
  refine jite hf (fun hc hf => ?_) (fun hc hf => ?_)
  · refine j_if_eq (dt_Mo_toRest 3 (5, .ifCond .eq 13, 3) rfl) rfl (fun _ => ?_) (fun q => absurd hc q)
    refine j_iconst (dt_Mo_toRest 10 (18, .iconst (-1), 1) rfl) ic_m1 ?_
    cases hf
    exact j_iret (dt_Mo_toRest 11 (19, .ireturn, 1) rfl) rfl
  · refine j_if_eq (dt_Mo_toRest 3 (5, .ifCond .eq 13, 3) rfl) rfl (fun q => absurd q hc) (fun _ => ?_)
    refine j_iload_n (dt_Mo_toRest 4 (8, .iload_n 2, 1) rfl) rfl ?_
    refine j_i2l (dt_Mo_toRest 5 (9, .i2l, 1) rfl) ?_
    refine j_lconst (dt_Mo_toRest 6 (10, .lconst 0, 1) rfl) lc_0 ?_
    refine j_lconst (dt_Mo_toRest 7 (11, .lconst 1, 1) rfl) lc_1 ?_
    refine j_callS M_Mo_in 3 [al ((v2 : Int32).toInt64), al 0, al 1] (rest := []) (dt_Mo_toRest 8 (12, .invokestatic 183, 3) rfl) ml_X12_183 ok_Mo_in (jfit rfl rfl ⟨rfl, rfl⟩ (nle rfl) (nlt rfl)) rfl rfl (nle rfl) ⟨rfl, rfl⟩ (c_Mo_in rfl) ?_
    refine jite hf (fun hc hf => ?_) (fun hc hf => ?_)
    · refine j_if_ne (dt_Mo_toRest 9 (15, .ifCond .ne 5, 3) rfl) rfl (fun q => absurd hc q) (fun _ => ?_)
      refine j_iconst (dt_Mo_toRest 10 (18, .iconst (-1), 1) rfl) ic_m1 ?_
      cases hf
      exact j_iret (dt_Mo_toRest 11 (19, .ireturn, 1) rfl) rfl
    · refine j_if_ne (dt_Mo_toRest 9 (15, .ifCond .ne 5, 3) rfl) rfl (fun _ => ?_) (fun q => absurd q hc)
      refine j_iconst (dt_Mo_toRest 12 (20, .iconst 0, 1) rfl) ic_0 ?_
      refine j_istore_n (dt_Mo_toRest 13 (21, .istore_n 3, 1) rfl) (nlt rfl) ?_
      refine j_iconst (dt_Mo_toRest 14 (22, .iconst 0, 1) rfl) ic_0 ?_
      refine j_istore (dt_Mo_toRest 15 (23, .istore 4, 2) rfl) (nlt rfl) ?_
      obtain ⟨t25, ht25, hf⟩ := jbind hf
      have hX25 : ∀ q25 : Int32, q25 = t25 → jJ G M_Mo_toRest (jEnd G M_Mo_toRest (some (ai res.1)) (S, res.2)) 0 0 75 [(0, ar v0), (1, ai v1), (2, ai v2), (3, ai q25)] [] (S, V) := by
        intro q25 hq25
        subst hq25
        refine j_iconst (dt_Mo_toRest 44 (75, .iconst (-1), 1) rfl) ic_m1 ?_
        refine j_istore (dt_Mo_toRest 45 (76, .istore 4, 2) rfl) (nlt rfl) ?_
        refine j_iconst (dt_Mo_toRest 46 (78, .iconst 0, 1) rfl) ic_0 ?_
        refine j_istore (dt_Mo_toRest 47 (79, .istore 5, 2) rfl) (nlt rfl) ?_
        refine j_iconst (dt_Mo_toRest 48 (81, .iconst 0, 1) rfl) ic_0 ?_
        refine j_istore (dt_Mo_toRest 49 (82, .istore 6, 2) rfl) (nlt rfl) ?_
        obtain ⟨t84, ht84, hf⟩ := jbind hf
        have hX84 : ∀ q84 : Int32 × Int32 × hV, q84 = t84 → jJ G M_Mo_toRest (jEnd G M_Mo_toRest (some (ai res.1)) (S, res.2)) 0 0 225 [(2, ai v2), (4, ai q84.1), (5, ai q84.2.1)] [] (S, q84.2.2) := by
          intro q84 hq84
          subst hq84
          refine j_iload_n (dt_Mo_toRest 123 (225, .iload_n 2, 1) rfl) rfl ?_
          refine jite hf (fun hc hf => ?_) (fun hc hf => ?_)
          · refine j_if_ne (dt_Mo_toRest 124 (226, .ifCond .ne 8, 3) rfl) rfl (fun q => absurd hc q) (fun _ => ?_)
            refine j_iload (dt_Mo_toRest 125 (229, .iload 4, 2) rfl) rfl ?_
            refine j_goto (dt_Mo_toRest 126 (231, .goto 5, 3) rfl) rfl ?_
            cases hf
            exact j_iret (dt_Mo_toRest 128 (236, .ireturn, 1) rfl) rfl
          · refine j_if_ne (dt_Mo_toRest 124 (226, .ifCond .ne 8, 3) rfl) rfl (fun _ => ?_) (fun q => absurd q hc)
            refine j_iload (dt_Mo_toRest 127 (234, .iload 5, 2) rfl) rfl ?_
            cases hf
            exact j_iret (dt_Mo_toRest 128 (236, .ireturn, 1) rfl) rfl
        refine j_sub (ls' := [(0, ar v0), (1, ai v1), (2, ai v2), (3, ai q25), (4, ai (-1)), (5, ai 0), (6, ai 0)]) rfl ?_
        refine jloop_J (C := fun s84 => jJ G M_Mo_toRest (jEnd G M_Mo_toRest (some (ai res.1)) (S, res.2)) 0 0 84 [(0, ar v0), (1, ai v1), (2, ai v2), (3, ai q25), (4, ai s84.1), (5, ai s84.2.1), (6, ai s84.2.2.1)] [] (S, s84.2.2.2)) (fun s84 z84_ hy84 hin84 hout84 => ?_) _ _ ht84
        unfold Mo_toRest_L84 at hy84
        refine j_iload (dt_Mo_toRest 50 (84, .iload 6, 2) rfl) rfl ?_
        refine j_iconst (dt_Mo_toRest 51 (86, .iconst 1, 1) rfl) ic_1 ?_
        refine j_aload_n (dt_Mo_toRest 52 (87, .aload_n 0, 1) rfl) rfl ?_
        obtain ⟨x10, hx10, hy84⟩ := jbind hy84
        refine j_getR (dt_Mo_toRest 53 (88, .getfield 51, 3) rfl) fl_X12_51 hx10 (fun _ _ => rfl) ?_
        refine j_iconst (dt_Mo_toRest 54 (91, .iconst 0, 1) rfl) ic_0 ?_
        obtain ⟨x11, hx11, hy84⟩ := jbind hy84
        refine j_aldI (dt_Mo_toRest 55 (92, .iaload, 1) rfl) hx11 ?_
        refine j_ishl (dt_Mo_toRest 56 (93, .ishl, 1) rfl) ?_
        refine jite hy84 (fun hc hy84 => ?_) (fun hc hy84 => ?_)
        · refine j_icmp_ge (dt_Mo_toRest 57 (94, .if_icmp .ge 131, 3) rfl) rfl (fun _ => ?_) (fun q => absurd hc q)
          cases hy84
          have hz := hX84 _ (hout84 _ rfl)
          exact j_sub rfl hz
        · refine j_icmp_ge (dt_Mo_toRest 57 (94, .if_icmp .ge 131, 3) rfl) rfl (fun q => absurd q hc) (fun _ => ?_)
          refine j_iload (dt_Mo_toRest 58 (97, .iload 6, 2) rfl) rfl ?_
          refine j_iload_n (dt_Mo_toRest 59 (99, .iload_n 3, 1) rfl) rfl ?_
          refine j_iconst (dt_Mo_toRest 60 (100, .iconst (-1), 1) rfl) ic_m1 ?_
          refine j_ixor (dt_Mo_toRest 61 (101, .ixor, 1) rfl) ?_
          refine j_iand (dt_Mo_toRest 62 (102, .iand, 1) rfl) ?_
          refine jite hy84 (fun hc hy84 => ?_) (fun hc hy84 => ?_)
          · refine j_if_eq (dt_Mo_toRest 63 (103, .ifCond .eq 6, 3) rfl) rfl (fun _ => ?_) (fun q => absurd hc q)
            refine j_iconst (dt_Mo_toRest 65 (109, .iconst 0, 1) rfl) ic_0 ?_
            refine j_istore (dt_Mo_toRest 66 (110, .istore 7, 2) rfl) (nlt rfl) ?_
            refine j_iconst (dt_Mo_toRest 67 (112, .iconst 0, 1) rfl) ic_0 ?_
            refine j_istore (dt_Mo_toRest 68 (113, .istore 8, 2) rfl) (nlt rfl) ?_
            obtain ⟨t115, ht115, hy84⟩ := jbind hy84
            have hX115 : ∀ q115 : Int32, q115 = t115 → jJ G M_Mo_toRest (jEnd G M_Mo_toRest (some (ai res.1)) (S, res.2)) 0 0 154 [(0, ar v0), (1, ai v1), (2, ai v2), (3, ai q25), (4, ai s84.1), (5, ai s84.2.1), (6, ai s84.2.2.1), (7, ai q115)] [] (S, s84.2.2.2) := by
              intro q115 hq115
              subst hq115
              refine j_iload (dt_Mo_toRest 92 (154, .iload 4, 2) rfl) rfl ?_
              refine j_iconst (dt_Mo_toRest 93 (156, .iconst (-1), 1) rfl) ic_m1 ?_
              obtain ⟨k157, hk157, hy84⟩ := jbind hy84
              have hE157 : ∀ e157 : Unit, k157 = .inl e157 → jJ G M_Mo_toRest (jEnd G M_Mo_toRest (some (ai res.1)) (S, res.2)) 0 0 190 [(0, ar v0), (1, ai v1), (2, ai v2), (3, ai q25), (4, ai s84.1), (5, ai s84.2.1), (6, ai s84.2.2.1), (7, ai q115)] [] (S, s84.2.2.2) := by
                intro e157 he157
                subst he157
                refine j_aload_n (dt_Mo_toRest 107 (190, .aload_n 0, 1) rfl) rfl ?_
                refine j_iload_n (dt_Mo_toRest 108 (191, .iload_n 1, 1) rfl) rfl ?_
                refine j_iload (dt_Mo_toRest 109 (192, .iload 6, 2) rfl) rfl ?_
                obtain ⟨V17, hV17, hy84⟩ := jbind hy84
                obtain ⟨b18, hb18⟩ := r_Mo_ranks hV17
                refine j_callV M_Mo_ranks 2 [ai v1, ai s84.2.2.1] (rest := []) (dt_Mo_toRest 110 (194, .invokevirtual 350, 3) rfl) ml_X12_350 ok_Mo_ranks (jfit rfl rfl ⟨rfl, rfl⟩ (nle rfl) (nlt rfl)) rfl rfl (nle rfl) ⟨rfl, rfl⟩ hb18 ((c_Mo_ranks hV17)) ?_
                refine j_aload_n (dt_Mo_toRest 111 (197, .aload_n 0, 1) rfl) rfl ?_
                refine j_aload_n (dt_Mo_toRest 112 (198, .aload_n 0, 1) rfl) rfl ?_
                obtain ⟨x19, hx19, hy84⟩ := jbind hy84
                obtain ⟨b20, hb20⟩ := r_Mo_all hx19
                refine j_callV M_Mo_all 0 [] (rest := [ar v0]) (dt_Mo_toRest 113 (199, .invokevirtual 353, 3) rfl) ml_X12_353 ok_Mo_all (jfit rfl rfl ⟨rfl, rfl⟩ (nle rfl) (nlt rfl)) rfl rfl (nle rfl) ⟨rfl, rfl⟩ hb20 ((c_Mo_all hx19)) ?_
                obtain ⟨w21, hw21, hy84⟩ := jbind hy84
                obtain ⟨b22, hb22⟩ := r_Mo_hasRing hw21
                refine j_callV M_Mo_hasRing 1 [ai x19] (rest := []) (dt_Mo_toRest 114 (202, .invokevirtual 361, 3) rfl) ml_X12_361 ok_Mo_hasRing (jfit rfl rfl ⟨rfl, rfl⟩ (nle rfl) (nlt rfl)) rfl rfl (nle rfl) ⟨rfl, rfl⟩ hb22 ((c_Mo_hasRing hw21)) ?_
                refine jite hy84 (fun hc hy84 => ?_) (fun hc hy84 => ?_)
                · refine j_if_eq (dt_Mo_toRest 115 (205, .ifCond .eq 6, 3) rfl) rfl (fun _ => ?_) (fun q => absurd hc q)
                  refine j_iload (dt_Mo_toRest 117 (211, .iload 6, 2) rfl) rfl ?_
                  refine j_istore (dt_Mo_toRest 118 (213, .istore 4, 2) rfl) (nlt rfl) ?_
                  refine j_iload (dt_Mo_toRest 119 (215, .iload 7, 2) rfl) rfl ?_
                  refine j_istore (dt_Mo_toRest 120 (217, .istore 5, 2) rfl) (nlt rfl) ?_
                  refine j_iinc (dt_Mo_toRest 121 (219, .iinc 6 1, 3) rfl) rfl (nlt rfl) (ii_1 _) ?_
                  refine j_goto (dt_Mo_toRest 122 (222, .goto (-138), 3) rfl) rfl ?_
                  cases hy84
                  have hz := hin84 _ rfl
                  exact j_sub rfl hz
                · refine j_if_eq (dt_Mo_toRest 115 (205, .ifCond .eq 6, 3) rfl) rfl (fun q => absurd q hc) (fun _ => ?_)
                  refine j_goto (dt_Mo_toRest 116 (208, .goto 11, 3) rfl) rfl ?_
                  refine j_iinc (dt_Mo_toRest 121 (219, .iinc 6 1, 3) rfl) rfl (nlt rfl) (ii_1 _) ?_
                  refine j_goto (dt_Mo_toRest 122 (222, .goto (-138), 3) rfl) rfl ?_
                  cases hy84
                  have hz := hin84 _ rfl
                  exact j_sub rfl hz
              refine jite hk157 (fun hc hk157 => ?_) (fun hc hk157 => ?_)
              · refine j_icmp_eq (dt_Mo_toRest 94 (157, .if_icmp .eq 33, 3) rfl) rfl (fun _ => ?_) (fun q => absurd hc q)
                cases hk157
                have hz := hE157 _ rfl
                exact j_sub rfl hz
              · refine j_icmp_eq (dt_Mo_toRest 94 (157, .if_icmp .eq 33, 3) rfl) rfl (fun q => absurd q hc) (fun _ => ?_)
                refine j_iload (dt_Mo_toRest 95 (160, .iload 7, 2) rfl) rfl ?_
                refine j_iload (dt_Mo_toRest 96 (162, .iload 5, 2) rfl) rfl ?_
                refine jite hk157 (fun hc hk157 => ?_) (fun hc hk157 => ?_)
                · refine j_icmp_gt (dt_Mo_toRest 97 (164, .if_icmp .gt 55, 3) rfl) rfl (fun _ => ?_) (fun q => absurd hc q)
                  refine j_iinc (dt_Mo_toRest 121 (219, .iinc 6 1, 3) rfl) rfl (nlt rfl) (ii_1 _) ?_
                  refine j_goto (dt_Mo_toRest 122 (222, .goto (-138), 3) rfl) rfl ?_
                  cases hk157
                  cases hy84
                  have hz := hin84 _ rfl
                  exact j_sub rfl hz
                · refine j_icmp_gt (dt_Mo_toRest 97 (164, .if_icmp .gt 55, 3) rfl) rfl (fun q => absurd q hc) (fun _ => ?_)
                  refine j_iload (dt_Mo_toRest 98 (167, .iload 7, 2) rfl) rfl ?_
                  refine j_iload (dt_Mo_toRest 99 (169, .iload 5, 2) rfl) rfl ?_
                  refine jite hk157 (fun hc hk157 => ?_) (fun hc hk157 => ?_)
                  · refine j_icmp_ne (dt_Mo_toRest 100 (171, .if_icmp .ne 19, 3) rfl) rfl (fun q => absurd hc q) (fun _ => ?_)
                    refine j_iload (dt_Mo_toRest 101 (174, .iload 6, 2) rfl) rfl ?_
                    refine j_callS M_Jd_bitCount 1 [ai s84.2.2.1] (rest := []) (dt_Mo_toRest 102 (176, .invokestatic 356, 3) rfl) ml_X12_356 ok_Jd_bitCount (jfit rfl rfl ⟨rfl, rfl⟩ (nle rfl) (nlt rfl)) rfl rfl (nle rfl) ⟨rfl, rfl⟩ (c_Jd_bitCount rfl) ?_
                    refine j_iload (dt_Mo_toRest 103 (179, .iload 4, 2) rfl) rfl ?_
                    refine j_callS M_Jd_bitCount 1 [ai s84.1] (rest := [ai (Jd_bitCount s84.2.2.1)]) (dt_Mo_toRest 104 (181, .invokestatic 356, 3) rfl) ml_X12_356 ok_Jd_bitCount (jfit rfl rfl ⟨rfl, rfl⟩ (nle rfl) (nlt rfl)) rfl rfl (nle rfl) ⟨rfl, rfl⟩ (c_Jd_bitCount rfl) ?_
                    refine jite hk157 (fun hc hk157 => ?_) (fun hc hk157 => ?_)
                    · refine j_icmp_lt (dt_Mo_toRest 105 (184, .if_icmp .lt 6, 3) rfl) rfl (fun _ => ?_) (fun q => absurd hc q)
                      cases hk157
                      have hz := hE157 _ rfl
                      exact j_sub rfl hz
                    · refine j_icmp_lt (dt_Mo_toRest 105 (184, .if_icmp .lt 6, 3) rfl) rfl (fun q => absurd q hc) (fun _ => ?_)
                      refine j_goto (dt_Mo_toRest 106 (187, .goto 32, 3) rfl) rfl ?_
                      refine j_iinc (dt_Mo_toRest 121 (219, .iinc 6 1, 3) rfl) rfl (nlt rfl) (ii_1 _) ?_
                      refine j_goto (dt_Mo_toRest 122 (222, .goto (-138), 3) rfl) rfl ?_
                      cases hk157
                      cases hy84
                      have hz := hin84 _ rfl
                      exact j_sub rfl hz
                  · refine j_icmp_ne (dt_Mo_toRest 100 (171, .if_icmp .ne 19, 3) rfl) rfl (fun _ => ?_) (fun q => absurd q hc)
                    cases hk157
                    have hz := hE157 _ rfl
                    exact j_sub rfl hz
            refine j_sub (ls' := [(0, ar v0), (1, ai v1), (2, ai v2), (3, ai q25), (4, ai s84.1), (5, ai s84.2.1), (6, ai s84.2.2.1), (7, ai 0), (8, ai 0)]) rfl ?_
            refine jloop_J (C := fun s115 => jJ G M_Mo_toRest (jEnd G M_Mo_toRest (some (ai res.1)) (S, res.2)) 0 0 115 [(0, ar v0), (1, ai v1), (2, ai v2), (3, ai q25), (4, ai s84.1), (5, ai s84.2.1), (6, ai s84.2.2.1), (7, ai s115.1), (8, ai s115.2)] [] (S, s84.2.2.2)) (fun s115 z115_ hy115 hin115 hout115 => ?_) _ _ ht115
            unfold Mo_toRest_L115 at hy115
            refine j_iload (dt_Mo_toRest 69 (115, .iload 8, 2) rfl) rfl ?_
            refine j_aload_n (dt_Mo_toRest 70 (117, .aload_n 0, 1) rfl) rfl ?_
            obtain ⟨x12, hx12, hy115⟩ := jbind hy115
            refine j_getR (dt_Mo_toRest 71 (118, .getfield 51, 3) rfl) fl_X12_51 hx12 (fun _ _ => rfl) ?_
            refine j_iconst (dt_Mo_toRest 72 (121, .iconst 0, 1) rfl) ic_0 ?_
            obtain ⟨x13, hx13, hy115⟩ := jbind hy115
            refine j_aldI (dt_Mo_toRest 73 (122, .iaload, 1) rfl) hx13 ?_
            refine jite hy115 (fun hc hy115 => ?_) (fun hc hy115 => ?_)
            · refine j_icmp_ge (dt_Mo_toRest 74 (123, .if_icmp .ge 31, 3) rfl) rfl (fun _ => ?_) (fun q => absurd hc q)
              cases hy115
              have hz := hX115 _ (hout115 _ rfl)
              exact j_sub rfl hz
            · refine j_icmp_ge (dt_Mo_toRest 74 (123, .if_icmp .ge 31, 3) rfl) rfl (fun q => absurd q hc) (fun _ => ?_)
              refine j_iload (dt_Mo_toRest 75 (126, .iload 7, 2) rfl) rfl ?_
              refine j_iload (dt_Mo_toRest 76 (128, .iload 6, 2) rfl) rfl ?_
              refine j_iload (dt_Mo_toRest 77 (130, .iload 8, 2) rfl) rfl ?_
              refine j_ishr (dt_Mo_toRest 78 (132, .ishr, 1) rfl) ?_
              refine j_iconst (dt_Mo_toRest 79 (133, .iconst 1, 1) rfl) ic_1 ?_
              refine j_iand (dt_Mo_toRest 80 (134, .iand, 1) rfl) ?_
              refine j_aload_n (dt_Mo_toRest 81 (135, .aload_n 0, 1) rfl) rfl ?_
              obtain ⟨x14, hx14, hy115⟩ := jbind hy115
              refine j_getR (dt_Mo_toRest 82 (136, .getfield 35, 3) rfl) fl_X12_35 hx14 (fun _ _ => rfl) ?_
              refine j_iconst (dt_Mo_toRest 83 (139, .iconst 0, 1) rfl) ic_0 ?_
              obtain ⟨x15, hx15, hy115⟩ := jbind hy115
              refine j_aldR 107 (dt_Mo_toRest 84 (140, .aaload, 1) rfl) (by decide) hx15 ?_
              refine j_iload (dt_Mo_toRest 85 (141, .iload 8, 2) rfl) rfl ?_
              obtain ⟨x16, hx16, hy115⟩ := jbind hy115
              refine j_aldI (dt_Mo_toRest 86 (143, .iaload, 1) rfl) hx16 ?_
              refine j_imul (dt_Mo_toRest 87 (144, .imul, 1) rfl) ?_
              refine j_iadd (dt_Mo_toRest 88 (145, .iadd, 1) rfl) ?_
              refine j_istore (dt_Mo_toRest 89 (146, .istore 7, 2) rfl) (nlt rfl) ?_
              refine j_iinc (dt_Mo_toRest 90 (148, .iinc 8 1, 3) rfl) rfl (nlt rfl) (ii_1 _) ?_
              refine j_goto (dt_Mo_toRest 91 (151, .goto (-36), 3) rfl) rfl ?_
              cases hy115
              have hz := hin115 _ rfl
              exact j_sub rfl hz
          · refine j_if_eq (dt_Mo_toRest 63 (103, .ifCond .eq 6, 3) rfl) rfl (fun q => absurd q hc) (fun _ => ?_)
            refine j_goto (dt_Mo_toRest 64 (106, .goto 113, 3) rfl) rfl ?_
            refine j_iinc (dt_Mo_toRest 121 (219, .iinc 6 1, 3) rfl) rfl (nlt rfl) (ii_1 _) ?_
            refine j_goto (dt_Mo_toRest 122 (222, .goto (-138), 3) rfl) rfl ?_
            cases hy84
            have hz := hin84 _ rfl
            exact j_sub rfl hz
      refine j_sub (ls' := [(0, ar v0), (1, ai v1), (2, ai v2), (3, ai 0), (4, ai 0)]) rfl ?_
      refine jloop_J (C := fun s25 => jJ G M_Mo_toRest (jEnd G M_Mo_toRest (some (ai res.1)) (S, res.2)) 0 0 25 [(0, ar v0), (1, ai v1), (2, ai v2), (3, ai s25.1), (4, ai s25.2)] [] (S, V)) (fun s25 z25_ hy25 hin25 hout25 => ?_) _ _ ht25
      unfold Mo_toRest_L25 at hy25
      refine j_iload (dt_Mo_toRest 16 (25, .iload 4, 2) rfl) rfl ?_
      refine j_aload_n (dt_Mo_toRest 17 (27, .aload_n 0, 1) rfl) rfl ?_
      obtain ⟨x3, hx3, hy25⟩ := jbind hy25
      refine j_getR (dt_Mo_toRest 18 (28, .getfield 51, 3) rfl) fl_X12_51 hx3 (fun _ _ => rfl) ?_
      refine j_iconst (dt_Mo_toRest 19 (31, .iconst 0, 1) rfl) ic_0 ?_
      obtain ⟨x4, hx4, hy25⟩ := jbind hy25
      refine j_aldI (dt_Mo_toRest 20 (32, .iaload, 1) rfl) hx4 ?_
      refine jite hy25 (fun hc hy25 => ?_) (fun hc hy25 => ?_)
      · refine j_icmp_ge (dt_Mo_toRest 21 (33, .if_icmp .ge 42, 3) rfl) rfl (fun _ => ?_) (fun q => absurd hc q)
        cases hy25
        have hz := hX25 _ (hout25 _ rfl)
        exact j_sub rfl hz
      · refine j_icmp_ge (dt_Mo_toRest 21 (33, .if_icmp .ge 42, 3) rfl) rfl (fun q => absurd q hc) (fun _ => ?_)
        refine j_iload_n (dt_Mo_toRest 22 (36, .iload_n 3, 1) rfl) rfl ?_
        refine j_aload_n (dt_Mo_toRest 23 (37, .aload_n 0, 1) rfl) rfl ?_
        obtain ⟨x5, hx5, hy25⟩ := jbind hy25
        refine j_getR (dt_Mo_toRest 24 (38, .getfield 26, 3) rfl) fl_X12_26 hx5 (fun _ _ => rfl) ?_
        refine j_iconst (dt_Mo_toRest 25 (41, .iconst 0, 1) rfl) ic_0 ?_
        obtain ⟨x6, hx6, hy25⟩ := jbind hy25
        refine j_aldR 107 (dt_Mo_toRest 26 (42, .aaload, 1) rfl) (by decide) hx6 ?_
        refine j_iload (dt_Mo_toRest 27 (43, .iload 4, 2) rfl) rfl ?_
        obtain ⟨x7, hx7, hy25⟩ := jbind hy25
        refine j_aldI (dt_Mo_toRest 28 (45, .iaload, 1) rfl) hx7 ?_
        refine jite hy25 (fun hc hy25 => ?_) (fun hc hy25 => ?_)
        · refine j_if_ne (dt_Mo_toRest 29 (46, .ifCond .ne 20, 3) rfl) rfl (fun q => absurd hc q) (fun _ => ?_)
          refine j_aload_n (dt_Mo_toRest 30 (49, .aload_n 0, 1) rfl) rfl ?_
          refine j_iload (dt_Mo_toRest 31 (50, .iload 4, 2) rfl) rfl ?_
          refine j_iload_n (dt_Mo_toRest 32 (52, .iload_n 1, 1) rfl) rfl ?_
          obtain ⟨x8, hx8, hy25⟩ := jbind hy25
          obtain ⟨b9, hb9⟩ := r_Mo_counts hx8
          refine j_callV M_Mo_counts 2 [ai s25.2, ai v1] (rest := [ai s25.1]) (dt_Mo_toRest 33 (53, .invokevirtual 288, 3) rfl) ml_X12_288 ok_Mo_counts (jfit rfl rfl ⟨rfl, rfl⟩ (nle rfl) (nlt rfl)) rfl rfl (nle rfl) ⟨rfl, rfl⟩ hb9 ((c_Mo_counts hx8)) ?_
          refine jite hy25 (fun hc hy25 => ?_) (fun hc hy25 => ?_)
          · refine j_if_eq (dt_Mo_toRest 34 (56, .ifCond .eq 10, 3) rfl) rfl (fun _ => ?_) (fun q => absurd hc q)
            refine j_iconst (dt_Mo_toRest 39 (66, .iconst 0, 1) rfl) ic_0 ?_
            refine j_ior (dt_Mo_toRest 40 (67, .ior, 1) rfl) ?_
            refine j_istore_n (dt_Mo_toRest 41 (68, .istore_n 3, 1) rfl) (nlt rfl) ?_
            refine j_iinc (dt_Mo_toRest 42 (69, .iinc 4 1, 3) rfl) rfl (nlt rfl) (ii_1 _) ?_
            refine j_goto (dt_Mo_toRest 43 (72, .goto (-47), 3) rfl) rfl ?_
            cases hy25
            have hz := hin25 _ rfl
            exact j_sub rfl hz
          · refine j_if_eq (dt_Mo_toRest 34 (56, .ifCond .eq 10, 3) rfl) rfl (fun q => absurd q hc) (fun _ => ?_)
            refine j_iconst (dt_Mo_toRest 35 (59, .iconst 1, 1) rfl) ic_1 ?_
            refine j_iload (dt_Mo_toRest 36 (60, .iload 4, 2) rfl) rfl ?_
            refine j_ishl (dt_Mo_toRest 37 (62, .ishl, 1) rfl) ?_
            refine j_goto (dt_Mo_toRest 38 (63, .goto 4, 3) rfl) rfl ?_
            refine j_ior (dt_Mo_toRest 40 (67, .ior, 1) rfl) ?_
            refine j_istore_n (dt_Mo_toRest 41 (68, .istore_n 3, 1) rfl) (nlt rfl) ?_
            refine j_iinc (dt_Mo_toRest 42 (69, .iinc 4 1, 3) rfl) rfl (nlt rfl) (ii_1 _) ?_
            refine j_goto (dt_Mo_toRest 43 (72, .goto (-47), 3) rfl) rfl ?_
            cases hy25
            have hz := hin25 _ rfl
            exact j_sub rfl hz
        · refine j_if_ne (dt_Mo_toRest 29 (46, .ifCond .ne 20, 3) rfl) rfl (fun _ => ?_) (fun q => absurd q hc)
          refine j_iconst (dt_Mo_toRest 39 (66, .iconst 0, 1) rfl) ic_0 ?_
          refine j_ior (dt_Mo_toRest 40 (67, .ior, 1) rfl) ?_
          refine j_istore_n (dt_Mo_toRest 41 (68, .istore_n 3, 1) rfl) (nlt rfl) ?_
          refine j_iinc (dt_Mo_toRest 42 (69, .iinc 4 1, 3) rfl) rfl (nlt rfl) (ii_1 _) ?_
          refine j_goto (dt_Mo_toRest 43 (72, .goto (-47), 3) rfl) rfl ?_
          cases hy25
          have hz := hin25 _ rfl
          exact j_sub rfl hz
theorem r_Mo_toRest {S : hS} {V : hV} {v0 : Option Nat} {v1 : Int32} {v2 : Int32} {res : Int32 × hV} (hf : Mo_toRest S v0 v1 v2 V = some res) : ∃ b, rc S 12 v0 = some b := by
  unfold Mo_toRest at hf
  obtain ⟨b, hb, _⟩ := jbind hf
  exact ⟨b, hb⟩
def tb_Mo_comingBits : List (Nat × Instr × Nat) := [(0, .iconst 0, 1), (1, .istore_n 1, 1), (2, .iconst 0, 1), (3, .istore_n 2, 1), (4, .iload_n 2, 1), (5, .aload_n 0, 1), (6, .getfield 44, 3), (9, .iconst 0, 1), (10, .iaload, 1), (11, .if_icmp .ge 28, 3), (14, .iload_n 1, 1), (15, .aload_n 0, 1), (16, .getfield 81, 3), (19, .iload_n 2, 1), (20, .baload, 1), (21, .ifCond .eq 9, 3), (24, .iconst 1, 1), (25, .iload_n 2, 1), (26, .ishl, 1), (27, .goto 4, 3), (30, .iconst 0, 1), (31, .ior, 1), (32, .istore_n 1, 1), (33, .iinc 2 1, 3), (36, .goto (-32), 3), (39, .iload_n 1, 1), (40, .ireturn, 1)]
theorem dt_Mo_comingBits (i : Nat) (q : Nat × Instr × Nat) (h : tb_Mo_comingBits[i]? = some q) : decode prog_14_method_60_code q.1 = .ok q.2 := jdt (by decide +kernel : tb_Mo_comingBits.all (fun q => decide (decode prog_14_method_60_code q.1 = .ok q.2)) = true) h
theorem ok_Mo_comingBits : jOKV M_Mo_comingBits 0 := ⟨⟨gt7 225 rfl rfl, gt1 17 rfl rfl, (by decide : "FirstInModel" ≠ "java/lang/invoke/MethodHandle"), (by decide : "FirstInModel" ≠ "java/lang/invoke/VarHandle"), (by decide +kernel : (parseMethodDescriptor "()I").map (fun d => d.parameters.length) = some 0)⟩, gt7 224 rfl rfl, gs_in 41 rfl, rfl, nlt rfl⟩
set_option maxRecDepth 100000 in
set_option maxHeartbeats 4000000 in
theorem c_Mo_comingBits {G : jG} {S : hS} {V : hV} {v0 : Option Nat} {res : Int32} (hf : Mo_comingBits S v0 V = some res) : jC G M_Mo_comingBits [ar v0] (S, V) (some (ai res)) (S, V) := by
  unfold Mo_comingBits at hf
  obtain ⟨_, _, hf⟩ := jbind hf
  refine jC_of (pf_X12 _ _) rfl (nle rfl) ?_
  show jJ G M_Mo_comingBits (jEnd G M_Mo_comingBits (some (ai res)) (S, V)) 0 0 0 [(0, ar v0)] [] (S, V)
  refine j_iconst (dt_Mo_comingBits 0 (0, .iconst 0, 1) rfl) ic_0 ?_
  refine j_istore_n (dt_Mo_comingBits 1 (1, .istore_n 1, 1) rfl) (nlt rfl) ?_
  refine j_iconst (dt_Mo_comingBits 2 (2, .iconst 0, 1) rfl) ic_0 ?_
  refine j_istore_n (dt_Mo_comingBits 3 (3, .istore_n 2, 1) rfl) (nlt rfl) ?_
  obtain ⟨t4, ht4, hf⟩ := jbind hf
  have hX4 : ∀ q4 : Int32, q4 = t4 → jJ G M_Mo_comingBits (jEnd G M_Mo_comingBits (some (ai res)) (S, V)) 0 0 39 [(1, ai q4)] [] (S, V) := by
    intro q4 hq4
    subst hq4
    refine j_iload_n (dt_Mo_comingBits 25 (39, .iload_n 1, 1) rfl) rfl ?_
    cases hf
    exact j_iret (dt_Mo_comingBits 26 (40, .ireturn, 1) rfl) rfl
  refine j_sub (ls' := [(0, ar v0), (1, ai 0), (2, ai 0)]) rfl ?_
  refine jloop_J (C := fun s4 => jJ G M_Mo_comingBits (jEnd G M_Mo_comingBits (some (ai res)) (S, V)) 0 0 4 [(0, ar v0), (1, ai s4.1), (2, ai s4.2)] [] (S, V)) (fun s4 z4_ hy4 hin4 hout4 => ?_) _ _ ht4
  unfold Mo_comingBits_L4 at hy4
  refine j_iload_n (dt_Mo_comingBits 4 (4, .iload_n 2, 1) rfl) rfl ?_
  refine j_aload_n (dt_Mo_comingBits 5 (5, .aload_n 0, 1) rfl) rfl ?_
  obtain ⟨x1, hx1, hy4⟩ := jbind hy4
  refine j_getR (dt_Mo_comingBits 6 (6, .getfield 44, 3) rfl) fl_X12_44 hx1 (fun _ _ => rfl) ?_
  refine j_iconst (dt_Mo_comingBits 7 (9, .iconst 0, 1) rfl) ic_0 ?_
  obtain ⟨x2, hx2, hy4⟩ := jbind hy4
  refine j_aldI (dt_Mo_comingBits 8 (10, .iaload, 1) rfl) hx2 ?_
  refine jite hy4 (fun hc hy4 => ?_) (fun hc hy4 => ?_)
  · refine j_icmp_ge (dt_Mo_comingBits 9 (11, .if_icmp .ge 28, 3) rfl) rfl (fun _ => ?_) (fun q => absurd hc q)
    cases hy4
    have hz := hX4 _ (hout4 _ rfl)
    exact j_sub rfl hz
  · refine j_icmp_ge (dt_Mo_comingBits 9 (11, .if_icmp .ge 28, 3) rfl) rfl (fun q => absurd q hc) (fun _ => ?_)
    refine j_iload_n (dt_Mo_comingBits 10 (14, .iload_n 1, 1) rfl) rfl ?_
    refine j_aload_n (dt_Mo_comingBits 11 (15, .aload_n 0, 1) rfl) rfl ?_
    obtain ⟨x3, hx3, hy4⟩ := jbind hy4
    refine j_getR (dt_Mo_comingBits 12 (16, .getfield 81, 3) rfl) fl_X12_81 hx3 (fun _ _ => rfl) ?_
    refine j_iload_n (dt_Mo_comingBits 13 (19, .iload_n 2, 1) rfl) rfl ?_
    obtain ⟨x4, hx4, hy4⟩ := jbind hy4
    refine j_aldZ (dt_Mo_comingBits 14 (20, .baload, 1) rfl) hx4 ?_
    refine jite hy4 (fun hc hy4 => ?_) (fun hc hy4 => ?_)
    · refine j_if_eq (dt_Mo_comingBits 15 (21, .ifCond .eq 9, 3) rfl) rfl (fun _ => ?_) (fun q => absurd hc q)
      refine j_iconst (dt_Mo_comingBits 20 (30, .iconst 0, 1) rfl) ic_0 ?_
      refine j_ior (dt_Mo_comingBits 21 (31, .ior, 1) rfl) ?_
      refine j_istore_n (dt_Mo_comingBits 22 (32, .istore_n 1, 1) rfl) (nlt rfl) ?_
      refine j_iinc (dt_Mo_comingBits 23 (33, .iinc 2 1, 3) rfl) rfl (nlt rfl) (ii_1 _) ?_
      refine j_goto (dt_Mo_comingBits 24 (36, .goto (-32), 3) rfl) rfl ?_
      cases hy4
      have hz := hin4 _ rfl
      exact j_sub rfl hz
    · refine j_if_eq (dt_Mo_comingBits 15 (21, .ifCond .eq 9, 3) rfl) rfl (fun q => absurd q hc) (fun _ => ?_)
      refine j_iconst (dt_Mo_comingBits 16 (24, .iconst 1, 1) rfl) ic_1 ?_
      refine j_iload_n (dt_Mo_comingBits 17 (25, .iload_n 2, 1) rfl) rfl ?_
      refine j_ishl (dt_Mo_comingBits 18 (26, .ishl, 1) rfl) ?_
      refine j_goto (dt_Mo_comingBits 19 (27, .goto 4, 3) rfl) rfl ?_
      refine j_ior (dt_Mo_comingBits 21 (31, .ior, 1) rfl) ?_
      refine j_istore_n (dt_Mo_comingBits 22 (32, .istore_n 1, 1) rfl) (nlt rfl) ?_
      refine j_iinc (dt_Mo_comingBits 23 (33, .iinc 2 1, 3) rfl) rfl (nlt rfl) (ii_1 _) ?_
      refine j_goto (dt_Mo_comingBits 24 (36, .goto (-32), 3) rfl) rfl ?_
      cases hy4
      have hz := hin4 _ rfl
      exact j_sub rfl hz
theorem r_Mo_comingBits {S : hS} {V : hV} {v0 : Option Nat} {res : Int32} (hf : Mo_comingBits S v0 V = some res) : ∃ b, rc S 12 v0 = some b := by
  unfold Mo_comingBits at hf
  obtain ⟨b, hb, _⟩ := jbind hf
  exact ⟨b, hb⟩
def tb_Mo_isFree : List (Nat × Instr × Nat) := [(0, .iconst 0, 1), (1, .istore_n 3, 1), (2, .iload_n 3, 1), (3, .aload_n 0, 1), (4, .getfield 44, 3), (7, .iconst 0, 1), (8, .iaload, 1), (9, .if_icmp .ge 33, 3), (12, .aload_n 0, 1), (13, .getfield 111, 3), (16, .bipush 10, 2), (18, .iload_n 3, 1), (19, .imul, 1), (20, .iload_n 1, 1), (21, .iadd, 1), (22, .baload, 1), (23, .ifCond .eq 13, 3), (26, .iload_n 2, 1), (27, .iload_n 3, 1), (28, .ishr, 1), (29, .iconst 1, 1), (30, .iand, 1), (31, .ifCond .ne 5, 3), (34, .iconst 0, 1), (35, .ireturn, 1), (36, .iinc 3 1, 3), (39, .goto (-37), 3), (42, .iconst 1, 1), (43, .ireturn, 1)]
theorem dt_Mo_isFree (i : Nat) (q : Nat × Instr × Nat) (h : tb_Mo_isFree[i]? = some q) : decode prog_14_method_61_code q.1 = .ok q.2 := jdt (by decide +kernel : tb_Mo_isFree.all (fun q => decide (decode prog_14_method_61_code q.1 = .ok q.2)) = true) h
theorem ok_Mo_isFree : jOKV M_Mo_isFree 2 := ⟨⟨gt7 229 rfl rfl, gt1 17 rfl rfl, (by decide : "FirstInModel" ≠ "java/lang/invoke/MethodHandle"), (by decide : "FirstInModel" ≠ "java/lang/invoke/VarHandle"), (by decide +kernel : (parseMethodDescriptor "(II)Z").map (fun d => d.parameters.length) = some 2)⟩, gt7 228 rfl rfl, gs_in 42 rfl, rfl, nlt rfl⟩
set_option maxRecDepth 100000 in
set_option maxHeartbeats 4000000 in
theorem c_Mo_isFree {G : jG} {S : hS} {V : hV} {v0 : Option Nat} {v1 : Int32} {v2 : Int32} {res : Int32} (hf : Mo_isFree S v0 v1 v2 V = some res) : jC G M_Mo_isFree [ar v0, ai v1, ai v2] (S, V) (some (ai res)) (S, V) := by
  unfold Mo_isFree at hf
  obtain ⟨_, _, hf⟩ := jbind hf
  refine jC_of (pf_X12 _ _) rfl (nle rfl) ?_
  show jJ G M_Mo_isFree (jEnd G M_Mo_isFree (some (ai res)) (S, V)) 0 0 0 [(0, ar v0), (1, ai v1), (2, ai v2)] [] (S, V)
  refine j_iconst (dt_Mo_isFree 0 (0, .iconst 0, 1) rfl) ic_0 ?_
  refine j_istore_n (dt_Mo_isFree 1 (1, .istore_n 3, 1) rfl) (nlt rfl) ?_
  obtain ⟨t2, ht2, hf⟩ := jbind hf
  have hX2 : ∀ q2 : Unit, t2 = .inl q2 → jJ G M_Mo_isFree (jEnd G M_Mo_isFree (some (ai res)) (S, V)) 0 0 42 [] [] (S, V) := by
    intro q2 hq2
    subst hq2
    refine j_iconst (dt_Mo_isFree 27 (42, .iconst 1, 1) rfl) ic_1 ?_
    cases hf
    exact j_zret (x := 1) (dt_Mo_isFree 28 (43, .ireturn, 1) rfl) rfl rfl
  have hR2 : ∀ v : Int32, t2 = .inr v → v = res := by
    intro v hv
    subst hv
    cases hf
    rfl
  refine j_sub (ls' := [(0, ar v0), (1, ai v1), (2, ai v2), (3, ai 0)]) rfl ?_
  refine jloop_J (C := fun s2 => jJ G M_Mo_isFree (jEnd G M_Mo_isFree (some (ai res)) (S, V)) 0 0 2 [(0, ar v0), (1, ai v1), (2, ai v2), (3, ai s2)] [] (S, V)) (fun s2 z2_ hy2 hin2 hout2 => ?_) _ _ ht2
  unfold Mo_isFree_L2 at hy2
  refine j_iload_n (dt_Mo_isFree 2 (2, .iload_n 3, 1) rfl) rfl ?_
  refine j_aload_n (dt_Mo_isFree 3 (3, .aload_n 0, 1) rfl) rfl ?_
  obtain ⟨x1, hx1, hy2⟩ := jbind hy2
  refine j_getR (dt_Mo_isFree 4 (4, .getfield 44, 3) rfl) fl_X12_44 hx1 (fun _ _ => rfl) ?_
  refine j_iconst (dt_Mo_isFree 5 (7, .iconst 0, 1) rfl) ic_0 ?_
  obtain ⟨x2, hx2, hy2⟩ := jbind hy2
  refine j_aldI (dt_Mo_isFree 6 (8, .iaload, 1) rfl) hx2 ?_
  refine jite hy2 (fun hc hy2 => ?_) (fun hc hy2 => ?_)
  · refine j_icmp_ge (dt_Mo_isFree 7 (9, .if_icmp .ge 33, 3) rfl) rfl (fun _ => ?_) (fun q => absurd hc q)
    cases hy2
    have hz := hX2 _ (hout2 _ rfl).symm
    exact j_sub rfl hz
  · refine j_icmp_ge (dt_Mo_isFree 7 (9, .if_icmp .ge 33, 3) rfl) rfl (fun q => absurd q hc) (fun _ => ?_)
    refine j_aload_n (dt_Mo_isFree 8 (12, .aload_n 0, 1) rfl) rfl ?_
    obtain ⟨x3, hx3, hy2⟩ := jbind hy2
    refine j_getR (dt_Mo_isFree 9 (13, .getfield 111, 3) rfl) fl_X12_111 hx3 (fun _ _ => rfl) ?_
    refine j_bipush (dt_Mo_isFree 10 (16, .bipush 10, 2) rfl) bp_10 ?_
    refine j_iload_n (dt_Mo_isFree 11 (18, .iload_n 3, 1) rfl) rfl ?_
    refine j_imul (dt_Mo_isFree 12 (19, .imul, 1) rfl) ?_
    refine j_iload_n (dt_Mo_isFree 13 (20, .iload_n 1, 1) rfl) rfl ?_
    refine j_iadd (dt_Mo_isFree 14 (21, .iadd, 1) rfl) ?_
    obtain ⟨x4, hx4, hy2⟩ := jbind hy2
    refine j_aldZ (dt_Mo_isFree 15 (22, .baload, 1) rfl) hx4 ?_
    refine jite hy2 (fun hc hy2 => ?_) (fun hc hy2 => ?_)
    · refine j_if_eq (dt_Mo_isFree 16 (23, .ifCond .eq 13, 3) rfl) rfl (fun _ => ?_) (fun q => absurd hc q)
      refine j_iinc (dt_Mo_isFree 25 (36, .iinc 3 1, 3) rfl) rfl (nlt rfl) (ii_1 _) ?_
      refine j_goto (dt_Mo_isFree 26 (39, .goto (-37), 3) rfl) rfl ?_
      cases hy2
      have hz := hin2 _ rfl
      exact j_sub rfl hz
    · refine j_if_eq (dt_Mo_isFree 16 (23, .ifCond .eq 13, 3) rfl) rfl (fun q => absurd q hc) (fun _ => ?_)
      refine j_iload_n (dt_Mo_isFree 17 (26, .iload_n 2, 1) rfl) rfl ?_
      refine j_iload_n (dt_Mo_isFree 18 (27, .iload_n 3, 1) rfl) rfl ?_
      refine j_ishr (dt_Mo_isFree 19 (28, .ishr, 1) rfl) ?_
      refine j_iconst (dt_Mo_isFree 20 (29, .iconst 1, 1) rfl) ic_1 ?_
      refine j_iand (dt_Mo_isFree 21 (30, .iand, 1) rfl) ?_
      refine jite hy2 (fun hc hy2 => ?_) (fun hc hy2 => ?_)
      · refine j_if_ne (dt_Mo_isFree 22 (31, .ifCond .ne 5, 3) rfl) rfl (fun q => absurd hc q) (fun _ => ?_)
        refine j_iconst (dt_Mo_isFree 23 (34, .iconst 0, 1) rfl) ic_0 ?_
        cases hy2
        obtain rfl := hR2 _ (hout2 _ rfl).symm
        exact j_zret (x := 0) (dt_Mo_isFree 24 (35, .ireturn, 1) rfl) rfl rfl
      · refine j_if_ne (dt_Mo_isFree 22 (31, .ifCond .ne 5, 3) rfl) rfl (fun _ => ?_) (fun q => absurd q hc)
        refine j_iinc (dt_Mo_isFree 25 (36, .iinc 3 1, 3) rfl) rfl (nlt rfl) (ii_1 _) ?_
        refine j_goto (dt_Mo_isFree 26 (39, .goto (-37), 3) rfl) rfl ?_
        cases hy2
        have hz := hin2 _ rfl
        exact j_sub rfl hz
theorem r_Mo_isFree {S : hS} {V : hV} {v0 : Option Nat} {v1 : Int32} {v2 : Int32} {res : Int32} (hf : Mo_isFree S v0 v1 v2 V = some res) : ∃ b, rc S 12 v0 = some b := by
  unfold Mo_isFree at hf
  obtain ⟨b, hb, _⟩ := jbind hf
  exact ⟨b, hb⟩
def tb_Mo_order : List (Nat × Instr × Nat) := [(0, .aload_n 0, 1), (1, .iload_n 1, 1), (2, .invokevirtual 297, 3), (5, .ifCond .ne 5, 3), (8, .iconst (-1), 1), (9, .ireturn, 1), (10, .aload_n 0, 1), (11, .iload_n 1, 1), (12, .iconst 0, 1), (13, .invokevirtual 350, 3), (16, .aload_n 0, 1), (17, .invokevirtual 364, 3), (20, .istore_n 3, 1), (21, .iconst 0, 1), (22, .istore 4, 2), (24, .iconst 0, 1), (25, .istore 5, 2), (27, .iconst 1, 1), (28, .istore 6, 2), (30, .iload 6, 2), (32, .ifCond .eq 90, 3), (35, .iconst 0, 1), (36, .istore 6, 2), (38, .iconst 0, 1), (39, .istore 7, 2), (41, .iload 7, 2), (43, .aload_n 0, 1), (44, .getfield 44, 3), (47, .iconst 0, 1), (48, .iaload, 1), (49, .if_icmp .ge 70, 3), (52, .iload 6, 2), (54, .ifCond .ne 65, 3), (57, .iload_n 3, 1), (58, .iload 7, 2), (60, .ishr, 1), (61, .iconst 1, 1), (62, .iand, 1), (63, .ifCond .eq 50, 3), (66, .aload_n 0, 1), (67, .iload 7, 2), (69, .iload 4, 2), (71, .invokevirtual 367, 3), (74, .ifCond .ne 6, 3), (77, .goto 36, 3), (80, .iload_n 3, 1), (81, .iconst 1, 1), (82, .iload 7, 2), (84, .ishl, 1), (85, .iconst (-1), 1), (86, .ixor, 1), (87, .iand, 1), (88, .istore_n 3, 1), (89, .iload 4, 2), (91, .iconst 1, 1), (92, .iload 7, 2), (94, .ishl, 1), (95, .ior, 1), (96, .istore 4, 2), (98, .aload_n 0, 1), (99, .getfield 118, 3), (102, .iload 5, 2), (104, .iload 7, 2), (106, .iastore, 1), (107, .iinc 5 1, 3), (110, .iconst 1, 1), (111, .istore 6, 2), (113, .iinc 7 1, 3), (116, .goto (-75), 3), (119, .goto (-89), 3), (122, .iload_n 3, 1), (123, .ifCond .ne 26, 3), (126, .iload_n 2, 1), (127, .i2l, 1), (128, .lconst 0, 1), (129, .iload 5, 2), (131, .iconst 1, 1), (132, .isub, 1), (133, .i2l, 1), (134, .invokestatic 183, 3), (137, .ifCond .eq 12, 3), (140, .aload_n 0, 1), (141, .getfield 118, 3), (144, .iload_n 2, 1), (145, .iaload, 1), (146, .goto 4, 3), (149, .iconst (-1), 1), (150, .ireturn, 1)]
theorem dt_Mo_order (i : Nat) (q : Nat × Instr × Nat) (h : tb_Mo_order[i]? = some q) : decode prog_14_method_62_code q.1 = .ok q.2 := jdt (by decide +kernel : tb_Mo_order.all (fun q => decide (decode prog_14_method_62_code q.1 = .ok q.2)) = true) h
theorem ok_Mo_order : jOKV M_Mo_order 2 := ⟨⟨gt7 221 rfl rfl, gt1 17 rfl rfl, (by decide : "FirstInModel" ≠ "java/lang/invoke/MethodHandle"), (by decide : "FirstInModel" ≠ "java/lang/invoke/VarHandle"), (by decide +kernel : (parseMethodDescriptor "(II)I").map (fun d => d.parameters.length) = some 2)⟩, gt7 219 rfl rfl, gt7 220 rfl rfl, rfl, nlt rfl⟩
set_option maxRecDepth 100000 in
set_option maxHeartbeats 4000000 in
theorem c_Mo_order {G : jG} {S : hS} {V : hV} {v0 : Option Nat} {v1 : Int32} {v2 : Int32} {res : Int32 × hV} (hf : Mo_order S v0 v1 v2 V = some res) : jC G M_Mo_order [ar v0, ai v1, ai v2] (S, V) (some (ai res.1)) (S, res.2) := by
  unfold Mo_order at hf
  obtain ⟨_, _, hf⟩ := jbind hf
  refine jC_of (pf_X12 _ _) rfl (nle rfl) ?_
  show jJ G M_Mo_order (jEnd G M_Mo_order (some (ai res.1)) (S, res.2)) 0 0 0 [(0, ar v0), (1, ai v1), (2, ai v2)] [] (S, V)
  refine j_aload_n (dt_Mo_order 0 (0, .aload_n 0, 1) rfl) rfl ?_
  refine j_iload_n (dt_Mo_order 1 (1, .iload_n 1, 1) rfl) rfl ?_
  obtain ⟨x1, hx1, hf⟩ := jbind hf
  obtain ⟨b2, hb2⟩ := r_Mo_isRoom hx1
  refine j_callV M_Mo_isRoom 1 [ai v1] (rest := []) (dt_Mo_order 2 (2, .invokevirtual 297, 3) rfl) ml_X12_297 ok_Mo_isRoom (jfit rfl rfl ⟨rfl, rfl⟩ (nle rfl) (nlt rfl)) rfl rfl (nle rfl) ⟨rfl, rfl⟩ hb2 ((c_Mo_isRoom hx1)) ?_
  refine jite hf (fun hc hf => ?_) (fun hc hf => ?_)
  · refine j_if_ne (dt_Mo_order 3 (5, .ifCond .ne 5, 3) rfl) rfl (fun q => absurd hc q) (fun _ => ?_)
    refine j_iconst (dt_Mo_order 4 (8, .iconst (-1), 1) rfl) ic_m1 ?_
    cases hf
    exact j_iret (dt_Mo_order 5 (9, .ireturn, 1) rfl) rfl
  · refine j_if_ne (dt_Mo_order 3 (5, .ifCond .ne 5, 3) rfl) rfl (fun _ => ?_) (fun q => absurd q hc)
    refine j_aload_n (dt_Mo_order 6 (10, .aload_n 0, 1) rfl) rfl ?_
    refine j_iload_n (dt_Mo_order 7 (11, .iload_n 1, 1) rfl) rfl ?_
    refine j_iconst (dt_Mo_order 8 (12, .iconst 0, 1) rfl) ic_0 ?_
    obtain ⟨V3, hV3, hf⟩ := jbind hf
    obtain ⟨b4, hb4⟩ := r_Mo_ranks hV3
    refine j_callV M_Mo_ranks 2 [ai v1, ai 0] (rest := []) (dt_Mo_order 9 (13, .invokevirtual 350, 3) rfl) ml_X12_350 ok_Mo_ranks (jfit rfl rfl ⟨rfl, rfl⟩ (nle rfl) (nlt rfl)) rfl rfl (nle rfl) ⟨rfl, rfl⟩ hb4 ((c_Mo_ranks hV3)) ?_
    refine j_aload_n (dt_Mo_order 10 (16, .aload_n 0, 1) rfl) rfl ?_
    obtain ⟨x5, hx5, hf⟩ := jbind hf
    obtain ⟨b6, hb6⟩ := r_Mo_comingBits hx5
    refine j_callV M_Mo_comingBits 0 [] (rest := []) (dt_Mo_order 11 (17, .invokevirtual 364, 3) rfl) ml_X12_364 ok_Mo_comingBits (jfit rfl rfl ⟨rfl, rfl⟩ (nle rfl) (nlt rfl)) rfl rfl (nle rfl) ⟨rfl, rfl⟩ hb6 ((c_Mo_comingBits hx5)) ?_
    refine j_istore_n (dt_Mo_order 12 (20, .istore_n 3, 1) rfl) (nlt rfl) ?_
    refine j_iconst (dt_Mo_order 13 (21, .iconst 0, 1) rfl) ic_0 ?_
    refine j_istore (dt_Mo_order 14 (22, .istore 4, 2) rfl) (nlt rfl) ?_
    refine j_iconst (dt_Mo_order 15 (24, .iconst 0, 1) rfl) ic_0 ?_
    refine j_istore (dt_Mo_order 16 (25, .istore 5, 2) rfl) (nlt rfl) ?_
    refine j_iconst (dt_Mo_order 17 (27, .iconst 1, 1) rfl) ic_1 ?_
    refine j_istore (dt_Mo_order 18 (28, .istore 6, 2) rfl) (nlt rfl) ?_
    obtain ⟨t30, ht30, hf⟩ := jbind hf
    have hX30 : ∀ q30 : Int32 × Int32 × hV, q30 = t30 → jJ G M_Mo_order (jEnd G M_Mo_order (some (ai res.1)) (S, res.2)) 0 0 122 [(0, ar v0), (2, ai v2), (3, ai q30.1), (5, ai q30.2.1)] [] (S, q30.2.2) := by
      intro q30 hq30
      subst hq30
      refine j_iload_n (dt_Mo_order 70 (122, .iload_n 3, 1) rfl) rfl ?_
      refine jite hf (fun hc hf => ?_) (fun hc hf => ?_)
      · refine j_if_ne (dt_Mo_order 71 (123, .ifCond .ne 26, 3) rfl) rfl (fun q => absurd hc q) (fun _ => ?_)
        refine j_iload_n (dt_Mo_order 72 (126, .iload_n 2, 1) rfl) rfl ?_
        refine j_i2l (dt_Mo_order 73 (127, .i2l, 1) rfl) ?_
        refine j_lconst (dt_Mo_order 74 (128, .lconst 0, 1) rfl) lc_0 ?_
        refine j_iload (dt_Mo_order 75 (129, .iload 5, 2) rfl) rfl ?_
        refine j_iconst (dt_Mo_order 76 (131, .iconst 1, 1) rfl) ic_1 ?_
        refine j_isub (dt_Mo_order 77 (132, .isub, 1) rfl) ?_
        refine j_i2l (dt_Mo_order 78 (133, .i2l, 1) rfl) ?_
        refine j_callS M_Mo_in 3 [al ((v2 : Int32).toInt64), al 0, al ((q30.2.1 - 1 : Int32).toInt64)] (rest := []) (dt_Mo_order 79 (134, .invokestatic 183, 3) rfl) ml_X12_183 ok_Mo_in (jfit rfl rfl ⟨rfl, rfl⟩ (nle rfl) (nlt rfl)) rfl rfl (nle rfl) ⟨rfl, rfl⟩ (c_Mo_in rfl) ?_
        refine jite hf (fun hc hf => ?_) (fun hc hf => ?_)
        · refine j_if_eq (dt_Mo_order 80 (137, .ifCond .eq 12, 3) rfl) rfl (fun _ => ?_) (fun q => absurd hc q)
          refine j_iconst (dt_Mo_order 86 (149, .iconst (-1), 1) rfl) ic_m1 ?_
          cases hf
          exact j_iret (dt_Mo_order 87 (150, .ireturn, 1) rfl) rfl
        · refine j_if_eq (dt_Mo_order 80 (137, .ifCond .eq 12, 3) rfl) rfl (fun q => absurd q hc) (fun _ => ?_)
          refine j_aload_n (dt_Mo_order 81 (140, .aload_n 0, 1) rfl) rfl ?_
          obtain ⟨x13, hx13, hf⟩ := jbind hf
          refine j_getR (dt_Mo_order 82 (141, .getfield 118, 3) rfl) fl_X12_118 hx13 (fun _ _ => rfl) ?_
          refine j_iload_n (dt_Mo_order 83 (144, .iload_n 2, 1) rfl) rfl ?_
          obtain ⟨x14, hx14, hf⟩ := jbind hf
          refine j_aldI (dt_Mo_order 84 (145, .iaload, 1) rfl) hx14 ?_
          refine j_goto (dt_Mo_order 85 (146, .goto 4, 3) rfl) rfl ?_
          cases hf
          exact j_iret (dt_Mo_order 87 (150, .ireturn, 1) rfl) rfl
      · refine j_if_ne (dt_Mo_order 71 (123, .ifCond .ne 26, 3) rfl) rfl (fun _ => ?_) (fun q => absurd q hc)
        refine j_iconst (dt_Mo_order 86 (149, .iconst (-1), 1) rfl) ic_m1 ?_
        cases hf
        exact j_iret (dt_Mo_order 87 (150, .ireturn, 1) rfl) rfl
    refine j_sub (ls' := [(0, ar v0), (2, ai v2), (3, ai x5), (4, ai 0), (5, ai 0), (6, ai 1)]) rfl ?_
    refine jloop_J (C := fun s30 => jJ G M_Mo_order (jEnd G M_Mo_order (some (ai res.1)) (S, res.2)) 0 0 30 [(0, ar v0), (2, ai v2), (3, ai s30.1), (4, ai s30.2.1), (5, ai s30.2.2.1), (6, ai s30.2.2.2.1)] [] (S, s30.2.2.2.2)) (fun s30 z30_ hy30 hin30 hout30 => ?_) _ _ ht30
    unfold Mo_order_L30 at hy30
    refine j_iload (dt_Mo_order 19 (30, .iload 6, 2) rfl) rfl ?_
    refine jite hy30 (fun hc hy30 => ?_) (fun hc hy30 => ?_)
    · refine j_if_eq (dt_Mo_order 20 (32, .ifCond .eq 90, 3) rfl) rfl (fun _ => ?_) (fun q => absurd hc q)
      cases hy30
      have hz := hX30 _ (hout30 _ rfl)
      exact j_sub rfl hz
    · refine j_if_eq (dt_Mo_order 20 (32, .ifCond .eq 90, 3) rfl) rfl (fun q => absurd q hc) (fun _ => ?_)
      refine j_iconst (dt_Mo_order 21 (35, .iconst 0, 1) rfl) ic_0 ?_
      refine j_istore (dt_Mo_order 22 (36, .istore 6, 2) rfl) (nlt rfl) ?_
      refine j_iconst (dt_Mo_order 23 (38, .iconst 0, 1) rfl) ic_0 ?_
      refine j_istore (dt_Mo_order 24 (39, .istore 7, 2) rfl) (nlt rfl) ?_
      obtain ⟨t41, ht41, hy30⟩ := jbind hy30
      have hX41 : ∀ q41 : Int32 × Int32 × Int32 × Int32 × hV, q41 = t41 → jJ G M_Mo_order (jEnd G M_Mo_order (some (ai res.1)) (S, res.2)) 0 0 119 [(0, ar v0), (2, ai v2), (3, ai q41.1), (4, ai q41.2.1), (5, ai q41.2.2.1), (6, ai q41.2.2.2.1)] [] (S, q41.2.2.2.2) := by
        intro q41 hq41
        subst hq41
        refine j_goto (dt_Mo_order 69 (119, .goto (-89), 3) rfl) rfl ?_
        cases hy30
        have hz := hin30 _ rfl
        exact j_sub rfl hz
      refine j_sub (ls' := [(0, ar v0), (2, ai v2), (3, ai s30.1), (4, ai s30.2.1), (5, ai s30.2.2.1), (6, ai 0), (7, ai 0)]) rfl ?_
      refine jloop_J (C := fun s41 => jJ G M_Mo_order (jEnd G M_Mo_order (some (ai res.1)) (S, res.2)) 0 0 41 [(0, ar v0), (2, ai v2), (3, ai s41.1), (4, ai s41.2.1), (5, ai s41.2.2.1), (6, ai s41.2.2.2.1), (7, ai s41.2.2.2.2.1)] [] (S, s41.2.2.2.2.2)) (fun s41 z41_ hy41 hin41 hout41 => ?_) _ _ ht41
      unfold Mo_order_L41 at hy41
      refine j_iload (dt_Mo_order 25 (41, .iload 7, 2) rfl) rfl ?_
      refine j_aload_n (dt_Mo_order 26 (43, .aload_n 0, 1) rfl) rfl ?_
      obtain ⟨x7, hx7, hy41⟩ := jbind hy41
      refine j_getR (dt_Mo_order 27 (44, .getfield 44, 3) rfl) fl_X12_44 hx7 (fun _ _ => rfl) ?_
      refine j_iconst (dt_Mo_order 28 (47, .iconst 0, 1) rfl) ic_0 ?_
      obtain ⟨x8, hx8, hy41⟩ := jbind hy41
      refine j_aldI (dt_Mo_order 29 (48, .iaload, 1) rfl) hx8 ?_
      refine jite hy41 (fun hc hy41 => ?_) (fun hc hy41 => ?_)
      · refine j_icmp_ge (dt_Mo_order 30 (49, .if_icmp .ge 70, 3) rfl) rfl (fun _ => ?_) (fun q => absurd hc q)
        cases hy41
        have hz := hX41 _ (hout41 _ rfl)
        exact j_sub rfl hz
      · refine j_icmp_ge (dt_Mo_order 30 (49, .if_icmp .ge 70, 3) rfl) rfl (fun q => absurd q hc) (fun _ => ?_)
        refine j_iload (dt_Mo_order 31 (52, .iload 6, 2) rfl) rfl ?_
        refine jite hy41 (fun hc hy41 => ?_) (fun hc hy41 => ?_)
        · refine j_if_ne (dt_Mo_order 32 (54, .ifCond .ne 65, 3) rfl) rfl (fun q => absurd hc q) (fun _ => ?_)
          refine j_iload_n (dt_Mo_order 33 (57, .iload_n 3, 1) rfl) rfl ?_
          refine j_iload (dt_Mo_order 34 (58, .iload 7, 2) rfl) rfl ?_
          refine j_ishr (dt_Mo_order 35 (60, .ishr, 1) rfl) ?_
          refine j_iconst (dt_Mo_order 36 (61, .iconst 1, 1) rfl) ic_1 ?_
          refine j_iand (dt_Mo_order 37 (62, .iand, 1) rfl) ?_
          refine jite hy41 (fun hc hy41 => ?_) (fun hc hy41 => ?_)
          · refine j_if_eq (dt_Mo_order 38 (63, .ifCond .eq 50, 3) rfl) rfl (fun _ => ?_) (fun q => absurd hc q)
            refine j_iinc (dt_Mo_order 67 (113, .iinc 7 1, 3) rfl) rfl (nlt rfl) (ii_1 _) ?_
            refine j_goto (dt_Mo_order 68 (116, .goto (-75), 3) rfl) rfl ?_
            cases hy41
            have hz := hin41 _ rfl
            exact j_sub rfl hz
          · refine j_if_eq (dt_Mo_order 38 (63, .ifCond .eq 50, 3) rfl) rfl (fun q => absurd q hc) (fun _ => ?_)
            refine j_aload_n (dt_Mo_order 39 (66, .aload_n 0, 1) rfl) rfl ?_
            refine j_iload (dt_Mo_order 40 (67, .iload 7, 2) rfl) rfl ?_
            refine j_iload (dt_Mo_order 41 (69, .iload 4, 2) rfl) rfl ?_
            obtain ⟨x9, hx9, hy41⟩ := jbind hy41
            obtain ⟨b10, hb10⟩ := r_Mo_isFree hx9
            refine j_callV M_Mo_isFree 2 [ai s41.2.2.2.2.1, ai s41.2.1] (rest := []) (dt_Mo_order 42 (71, .invokevirtual 367, 3) rfl) ml_X12_367 ok_Mo_isFree (jfit rfl rfl ⟨rfl, rfl⟩ (nle rfl) (nlt rfl)) rfl rfl (nle rfl) ⟨rfl, rfl⟩ hb10 ((c_Mo_isFree hx9)) ?_
            refine jite hy41 (fun hc hy41 => ?_) (fun hc hy41 => ?_)
            · refine j_if_ne (dt_Mo_order 43 (74, .ifCond .ne 6, 3) rfl) rfl (fun q => absurd hc q) (fun _ => ?_)
              refine j_goto (dt_Mo_order 44 (77, .goto 36, 3) rfl) rfl ?_
              refine j_iinc (dt_Mo_order 67 (113, .iinc 7 1, 3) rfl) rfl (nlt rfl) (ii_1 _) ?_
              refine j_goto (dt_Mo_order 68 (116, .goto (-75), 3) rfl) rfl ?_
              cases hy41
              have hz := hin41 _ rfl
              exact j_sub rfl hz
            · refine j_if_ne (dt_Mo_order 43 (74, .ifCond .ne 6, 3) rfl) rfl (fun _ => ?_) (fun q => absurd q hc)
              refine j_iload_n (dt_Mo_order 45 (80, .iload_n 3, 1) rfl) rfl ?_
              refine j_iconst (dt_Mo_order 46 (81, .iconst 1, 1) rfl) ic_1 ?_
              refine j_iload (dt_Mo_order 47 (82, .iload 7, 2) rfl) rfl ?_
              refine j_ishl (dt_Mo_order 48 (84, .ishl, 1) rfl) ?_
              refine j_iconst (dt_Mo_order 49 (85, .iconst (-1), 1) rfl) ic_m1 ?_
              refine j_ixor (dt_Mo_order 50 (86, .ixor, 1) rfl) ?_
              refine j_iand (dt_Mo_order 51 (87, .iand, 1) rfl) ?_
              refine j_istore_n (dt_Mo_order 52 (88, .istore_n 3, 1) rfl) (nlt rfl) ?_
              refine j_iload (dt_Mo_order 53 (89, .iload 4, 2) rfl) rfl ?_
              refine j_iconst (dt_Mo_order 54 (91, .iconst 1, 1) rfl) ic_1 ?_
              refine j_iload (dt_Mo_order 55 (92, .iload 7, 2) rfl) rfl ?_
              refine j_ishl (dt_Mo_order 56 (94, .ishl, 1) rfl) ?_
              refine j_ior (dt_Mo_order 57 (95, .ior, 1) rfl) ?_
              refine j_istore (dt_Mo_order 58 (96, .istore 4, 2) rfl) (nlt rfl) ?_
              refine j_aload_n (dt_Mo_order 59 (98, .aload_n 0, 1) rfl) rfl ?_
              obtain ⟨x11, hx11, hy41⟩ := jbind hy41
              refine j_getR (dt_Mo_order 60 (99, .getfield 118, 3) rfl) fl_X12_118 hx11 (fun _ _ => rfl) ?_
              refine j_iload (dt_Mo_order 61 (102, .iload 5, 2) rfl) rfl ?_
              refine j_iload (dt_Mo_order 62 (104, .iload 7, 2) rfl) rfl ?_
              obtain ⟨V12, hV12, hy41⟩ := jbind hy41
              refine j_astI (dt_Mo_order 63 (106, .iastore, 1) rfl) hV12 ?_
              refine j_iinc (dt_Mo_order 64 (107, .iinc 5 1, 3) rfl) rfl (nlt rfl) (ii_1 _) ?_
              refine j_iconst (dt_Mo_order 65 (110, .iconst 1, 1) rfl) ic_1 ?_
              refine j_istore (dt_Mo_order 66 (111, .istore 6, 2) rfl) (nlt rfl) ?_
              refine j_iinc (dt_Mo_order 67 (113, .iinc 7 1, 3) rfl) rfl (nlt rfl) (ii_1 _) ?_
              refine j_goto (dt_Mo_order 68 (116, .goto (-75), 3) rfl) rfl ?_
              cases hy41
              have hz := hin41 _ rfl
              exact j_sub rfl hz
        · refine j_if_ne (dt_Mo_order 32 (54, .ifCond .ne 65, 3) rfl) rfl (fun _ => ?_) (fun q => absurd q hc)
          cases hy41
          have hz := hX41 _ (hout41 _ rfl)
          exact j_sub rfl hz
theorem r_Mo_order {S : hS} {V : hV} {v0 : Option Nat} {v1 : Int32} {v2 : Int32} {res : Int32 × hV} (hf : Mo_order S v0 v1 v2 V = some res) : ∃ b, rc S 12 v0 = some b := by
  unfold Mo_order at hf
  obtain ⟨b, hb, _⟩ := jbind hf
  exact ⟨b, hb⟩
