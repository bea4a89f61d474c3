/-! ===== walks ===== -/
def tb_Text_cutTo : List (Nat × Instr × Nat) := [(0, .iload_n 1, 1), (1, .ifCond .lt 11, 3), (4, .iload_n 1, 1), (5, .aload_n 0, 1), (6, .getfield 15, 3), (9, .if_icmp .le 5, 3), (12, .iconst 0, 1), (13, .ireturn, 1), (14, .aload_n 0, 1), (15, .iload_n 1, 1), (16, .putfield 15, 3), (19, .iconst 1, 1), (20, .ireturn, 1)]
theorem dt_Text_cutTo (i : Nat) (q : Nat × Instr × Nat) (h : tb_Text_cutTo[i]? = some q) : decode prog_12_method_3_code q.1 = .ok q.2 := jdt (by decide +kernel : tb_Text_cutTo.all (fun q => decide (decode prog_12_method_3_code q.1 = .ok q.2)) = true) h
theorem ok_Text_cutTo : jOKV M_Text_cutTo 1 := ⟨⟨gt3 112 rfl rfl, gt1 2 rfl rfl, (by decide : "FirstIn$Text" ≠ "java/lang/invoke/MethodHandle"), (by decide : "FirstIn$Text" ≠ "java/lang/invoke/VarHandle"), (by decide +kernel : (parseMethodDescriptor "(I)Z").map (fun d => d.parameters.length) = some 1)⟩, gt3 110 rfl rfl, gt3 111 rfl rfl, rfl, nlt rfl⟩
set_option maxRecDepth 100000 in
set_option maxHeartbeats 4000000 in
theorem c_Text_cutTo {G : jG} {S : hS} {V : hV} {v0 : Option Nat} {v1 : Int32} {res : Int32 × hV} (hf : Text_cutTo S v0 v1 V = some res) : jC G M_Text_cutTo [ar v0, ai v1] (S, V) (some (ai res.1)) (S, res.2) := by
  unfold Text_cutTo at hf
  obtain ⟨_, _, hf⟩ := jbind hf
  refine jC_of (pf_X10 _ _) rfl (nle rfl) ?_
  show jJ G M_Text_cutTo (jEnd G M_Text_cutTo (some (ai res.1)) (S, res.2)) 0 0 0 [(0, ar v0), (1, ai v1)] [] (S, V)
  refine j_iload_n (dt_Text_cutTo 0 (0, .iload_n 1, 1) rfl) rfl ?_
  refine jite hf (fun hc hf => ?_) (fun hc hf => ?_)
  · refine j_if_lt (dt_Text_cutTo 1 (1, .ifCond .lt 11, 3) rfl) rfl (fun _ => ?_) (fun q => absurd hc q)
    refine j_iconst (dt_Text_cutTo 6 (12, .iconst 0, 1) rfl) ic_0 ?_
    cases hf
    exact j_zret (x := 0) (dt_Text_cutTo 7 (13, .ireturn, 1) rfl) rfl rfl
  · refine j_if_lt (dt_Text_cutTo 1 (1, .ifCond .lt 11, 3) rfl) rfl (fun q => absurd q hc) (fun _ => ?_)
    refine j_iload_n (dt_Text_cutTo 2 (4, .iload_n 1, 1) rfl) rfl ?_
    refine j_aload_n (dt_Text_cutTo 3 (5, .aload_n 0, 1) rfl) rfl ?_
    obtain ⟨x1, hx1, hf⟩ := jbind hf
    refine j_getI (dt_Text_cutTo 4 (6, .getfield 15, 3) rfl) fl_X10_15 hx1 (fun _ _ => rfl) ?_
    refine jite hf (fun hc hf => ?_) (fun hc hf => ?_)
    · refine j_icmp_le (dt_Text_cutTo 5 (9, .if_icmp .le 5, 3) rfl) rfl (fun _ => ?_) (fun q => absurd hc q)
      refine j_aload_n (dt_Text_cutTo 8 (14, .aload_n 0, 1) rfl) rfl ?_
      refine j_iload_n (dt_Text_cutTo 9 (15, .iload_n 1, 1) rfl) rfl ?_
      obtain ⟨V2, hV2, hf⟩ := jbind hf
      refine j_putI (dt_Text_cutTo 10 (16, .putfield 15, 3) rfl) fl_X10_15 hV2 rfl (Or.inl rfl) ?_
      refine j_iconst (dt_Text_cutTo 11 (19, .iconst 1, 1) rfl) ic_1 ?_
      cases hf
      exact j_zret (x := 1) (dt_Text_cutTo 12 (20, .ireturn, 1) rfl) rfl rfl
    · refine j_icmp_le (dt_Text_cutTo 5 (9, .if_icmp .le 5, 3) rfl) rfl (fun q => absurd q hc) (fun _ => ?_)
      refine j_iconst (dt_Text_cutTo 6 (12, .iconst 0, 1) rfl) ic_0 ?_
      cases hf
      exact j_zret (x := 0) (dt_Text_cutTo 7 (13, .ireturn, 1) rfl) rfl rfl
theorem r_Text_cutTo {S : hS} {V : hV} {v0 : Option Nat} {v1 : Int32} {res : Int32 × hV} (hf : Text_cutTo S v0 v1 V = some res) : ∃ b, rc S 10 v0 = some b := by
  unfold Text_cutTo at hf
  obtain ⟨b, hb, _⟩ := jbind hf
  exact ⟨b, hb⟩
def tb_Text_signAt : List (Nat × Instr × Nat) := [(0, .iload_n 1, 1), (1, .ifCond .lt 29, 3), (4, .iload_n 1, 1), (5, .aload_n 0, 1), (6, .getfield 15, 3), (9, .if_icmp .ge 21, 3), (12, .iload_n 1, 1), (13, .aload_n 0, 1), (14, .getfield 9, 3), (17, .arraylength, 1), (18, .if_icmp .ge 12, 3), (21, .aload_n 0, 1), (22, .getfield 9, 3), (25, .iload_n 1, 1), (26, .baload, 1), (27, .goto 4, 3), (30, .iconst (-1), 1), (31, .ireturn, 1)]
theorem dt_Text_signAt (i : Nat) (q : Nat × Instr × Nat) (h : tb_Text_signAt[i]? = some q) : decode prog_12_method_7_code q.1 = .ok q.2 := jdt (by decide +kernel : tb_Text_signAt.all (fun q => decide (decode prog_12_method_7_code q.1 = .ok q.2)) = true) h
theorem ok_Text_signAt : jOKV M_Text_signAt 1 := ⟨⟨gt3 136 rfl rfl, gt1 2 rfl rfl, (by decide : "FirstIn$Text" ≠ "java/lang/invoke/MethodHandle"), (by decide : "FirstIn$Text" ≠ "java/lang/invoke/VarHandle"), (by decide +kernel : (parseMethodDescriptor "(I)I").map (fun d => d.parameters.length) = some 1)⟩, gt3 134 rfl rfl, gt3 135 rfl rfl, rfl, nlt rfl⟩
set_option maxRecDepth 100000 in
set_option maxHeartbeats 4000000 in
theorem c_Text_signAt {G : jG} {S : hS} {V : hV} {v0 : Option Nat} {v1 : Int32} {res : Int32} (hf : Text_signAt S v0 v1 V = some res) : jC G M_Text_signAt [ar v0, ai v1] (S, V) (some (ai res)) (S, V) := by
  unfold Text_signAt at hf
  obtain ⟨_, _, hf⟩ := jbind hf
  refine jC_of (pf_X10 _ _) rfl (nle rfl) ?_
  show jJ G M_Text_signAt (jEnd G M_Text_signAt (some (ai res)) (S, V)) 0 0 0 [(0, ar v0), (1, ai v1)] [] (S, V)
  refine j_iload_n (dt_Text_signAt 0 (0, .iload_n 1, 1) rfl) rfl ?_
  refine jite hf (fun hc hf => ?_) (fun hc hf => ?_)
  · refine j_if_lt (dt_Text_signAt 1 (1, .ifCond .lt 29, 3) rfl) rfl (fun _ => ?_) (fun q => absurd hc q)
    refine j_iconst (dt_Text_signAt 16 (30, .iconst (-1), 1) rfl) ic_m1 ?_
    cases hf
    exact j_iret (dt_Text_signAt 17 (31, .ireturn, 1) rfl) rfl
  · refine j_if_lt (dt_Text_signAt 1 (1, .ifCond .lt 29, 3) rfl) rfl (fun q => absurd q hc) (fun _ => ?_)
    refine j_iload_n (dt_Text_signAt 2 (4, .iload_n 1, 1) rfl) rfl ?_
    refine j_aload_n (dt_Text_signAt 3 (5, .aload_n 0, 1) rfl) rfl ?_
    obtain ⟨x1, hx1, hf⟩ := jbind hf
    refine j_getI (dt_Text_signAt 4 (6, .getfield 15, 3) rfl) fl_X10_15 hx1 (fun _ _ => rfl) ?_
    refine jite hf (fun hc hf => ?_) (fun hc hf => ?_)
    · refine j_icmp_ge (dt_Text_signAt 5 (9, .if_icmp .ge 21, 3) rfl) rfl (fun _ => ?_) (fun q => absurd hc q)
      refine j_iconst (dt_Text_signAt 16 (30, .iconst (-1), 1) rfl) ic_m1 ?_
      cases hf
      exact j_iret (dt_Text_signAt 17 (31, .ireturn, 1) rfl) rfl
    · refine j_icmp_ge (dt_Text_signAt 5 (9, .if_icmp .ge 21, 3) rfl) rfl (fun q => absurd q hc) (fun _ => ?_)
      refine j_iload_n (dt_Text_signAt 6 (12, .iload_n 1, 1) rfl) rfl ?_
      refine j_aload_n (dt_Text_signAt 7 (13, .aload_n 0, 1) rfl) rfl ?_
      obtain ⟨x2, hx2, hf⟩ := jbind hf
      refine j_getR (dt_Text_signAt 8 (14, .getfield 9, 3) rfl) fl_X10_9 hx2 (fun _ _ => rfl) ?_
      obtain ⟨x3, hx3, hf⟩ := jbind hf
      refine j_alen (dt_Text_signAt 9 (17, .arraylength, 1) rfl) hx3 ?_
      refine jite hf (fun hc hf => ?_) (fun hc hf => ?_)
      · refine j_icmp_ge (dt_Text_signAt 10 (18, .if_icmp .ge 12, 3) rfl) rfl (fun _ => ?_) (fun q => absurd hc q)
        refine j_iconst (dt_Text_signAt 16 (30, .iconst (-1), 1) rfl) ic_m1 ?_
        cases hf
        exact j_iret (dt_Text_signAt 17 (31, .ireturn, 1) rfl) rfl
      · refine j_icmp_ge (dt_Text_signAt 10 (18, .if_icmp .ge 12, 3) rfl) rfl (fun q => absurd q hc) (fun _ => ?_)
        refine j_aload_n (dt_Text_signAt 11 (21, .aload_n 0, 1) rfl) rfl ?_
        obtain ⟨x4, hx4, hf⟩ := jbind hf
        refine j_getR (dt_Text_signAt 12 (22, .getfield 9, 3) rfl) fl_X10_9 hx4 (fun _ _ => rfl) ?_
        refine j_iload_n (dt_Text_signAt 13 (25, .iload_n 1, 1) rfl) rfl ?_
        obtain ⟨x5, hx5, hf⟩ := jbind hf
        refine j_aldB (dt_Text_signAt 14 (26, .baload, 1) rfl) hx5 ?_
        refine j_goto (dt_Text_signAt 15 (27, .goto 4, 3) rfl) rfl ?_
        cases hf
        exact j_iret (dt_Text_signAt 17 (31, .ireturn, 1) rfl) rfl
theorem r_Text_signAt {S : hS} {V : hV} {v0 : Option Nat} {v1 : Int32} {res : Int32} (hf : Text_signAt S v0 v1 V = some res) : ∃ b, rc S 10 v0 = some b := by
  unfold Text_signAt at hf
  obtain ⟨b, hb, _⟩ := jbind hf
  exact ⟨b, hb⟩
def tb_Text_takeRun : List (Nat × Instr × Nat) := [(0, .iload_n 3, 1), (1, .bipush 32, 2), (3, .if_icmp .ne 9, 3), (6, .iload_n 1, 1), (7, .iconst 1, 1), (8, .isub, 1), (9, .goto 4, 3), (12, .iload_n 1, 1), (13, .istore 4, 2), (15, .aload_n 0, 1), (16, .getfield 25, 3), (19, .aload_n 0, 1), (20, .getfield 15, 3), (23, .if_icmp .ge 105, 3), (26, .aload_n 0, 1), (27, .getfield 25, 3), (30, .aload_n 0, 1), (31, .getfield 9, 3), (34, .arraylength, 1), (35, .if_icmp .ge 93, 3), (38, .aload_n 0, 1), (39, .getfield 9, 3), (42, .aload_n 0, 1), (43, .getfield 25, 3), (46, .baload, 1), (47, .iload_n 1, 1), (48, .if_icmp .lt 80, 3), (51, .aload_n 0, 1), (52, .getfield 9, 3), (55, .aload_n 0, 1), (56, .getfield 25, 3), (59, .baload, 1), (60, .iload_n 2, 1), (61, .if_icmp .gt 67, 3), (64, .aload_n 0, 1), (65, .aload_n 0, 1), (66, .getfield 28, 3), (69, .iload_n 3, 1), (70, .i2l, 1), (71, .lmul, 1), (72, .aload_n 0, 1), (73, .getfield 9, 3), (76, .aload_n 0, 1), (77, .getfield 25, 3), (80, .baload, 1), (81, .i2l, 1), (82, .ladd, 1), (83, .iload 4, 2), (85, .i2l, 1), (86, .lsub, 1), (87, .putfield 28, 3), (90, .aload_n 0, 1), (91, .aload_n 0, 1), (92, .getfield 28, 3), (95, .ldc2_w 43, 3), (98, .lcmp, 1), (99, .ifCond .ge 10, 3), (102, .aload_n 0, 1), (103, .getfield 28, 3), (106, .goto 6, 3), (109, .ldc2_w 43, 3), (112, .putfield 28, 3), (115, .aload_n 0, 1), (116, .dup, 1), (117, .getfield 25, 3), (120, .iconst 1, 1), (121, .iadd, 1), (122, .putfield 25, 3), (125, .goto (-110), 3), (128, .return_, 1)]
theorem dt_Text_takeRun (i : Nat) (q : Nat × Instr × Nat) (h : tb_Text_takeRun[i]? = some q) : decode prog_12_method_6_code q.1 = .ok q.2 := jdt (by decide +kernel : tb_Text_takeRun.all (fun q => decide (decode prog_12_method_6_code q.1 = .ok q.2)) = true) h
theorem ok_Text_takeRun : jOKV M_Text_takeRun 3 := ⟨⟨gt3 140 rfl rfl, gt1 2 rfl rfl, (by decide : "FirstIn$Text" ≠ "java/lang/invoke/MethodHandle"), (by decide : "FirstIn$Text" ≠ "java/lang/invoke/VarHandle"), (by decide +kernel : (parseMethodDescriptor "(III)V").map (fun d => d.parameters.length) = some 3)⟩, gt3 138 rfl rfl, gt3 139 rfl rfl, rfl, nlt rfl⟩
set_option maxRecDepth 100000 in
set_option maxHeartbeats 4000000 in
theorem c_Text_takeRun {G : jG} {S : hS} {V : hV} {v0 : Option Nat} {v1 : Int32} {v2 : Int32} {v3 : Int32} {res : hV} (hf : Text_takeRun S v0 v1 v2 v3 V = some res) : jC G M_Text_takeRun [ar v0, ai v1, ai v2, ai v3] (S, V) none (S, res) := by
  unfold Text_takeRun at hf
  obtain ⟨_, _, hf⟩ := jbind hf
  refine jC_of (pf_X10 _ _) rfl (nle rfl) ?_
  show jJ G M_Text_takeRun (jEnd G M_Text_takeRun none (S, res)) 0 0 0 [(0, ar v0), (1, ai v1), (2, ai v2), (3, ai v3)] [] (S, V)
  refine j_iload_n (dt_Text_takeRun 0 (0, .iload_n 3, 1) rfl) rfl ?_
  refine j_bipush (dt_Text_takeRun 1 (1, .bipush 32, 2) rfl) bp_32 ?_
  obtain ⟨j3, hj3, hf⟩ := jbind hf
  have hP3 : jJ G M_Text_takeRun (jEnd G M_Text_takeRun none (S, res)) 0 0 13 [(0, ar v0), (1, ai v1), (2, ai v2), (3, ai v3)] [ai j3] (S, V) := by
    refine j_istore (dt_Text_takeRun 8 (13, .istore 4, 2) rfl) (nlt rfl) ?_
    obtain ⟨t15, ht15, hf⟩ := jbind hf
    have hX15 : ∀ q15 : hV, q15 = t15 → jJ G M_Text_takeRun (jEnd G M_Text_takeRun none (S, res)) 0 0 128 [] [] (S, q15) := by
      intro q15 hq15
      subst hq15
      cases hf
      exact j_vret (dt_Text_takeRun 69 (128, .return_, 1) rfl) rfl
    refine j_sub (ls' := [(0, ar v0), (1, ai v1), (2, ai v2), (3, ai v3), (4, ai j3)]) rfl ?_
    refine jloop_J (C := fun s15 => jJ G M_Text_takeRun (jEnd G M_Text_takeRun none (S, res)) 0 0 15 [(0, ar v0), (1, ai v1), (2, ai v2), (3, ai v3), (4, ai j3)] [] (S, s15)) (fun s15 z15_ hy15 hin15 hout15 => ?_) _ _ ht15
    unfold Text_takeRun_L15 at hy15
    refine j_aload_n (dt_Text_takeRun 9 (15, .aload_n 0, 1) rfl) rfl ?_
    obtain ⟨x1, hx1, hy15⟩ := jbind hy15
    refine j_getI (dt_Text_takeRun 10 (16, .getfield 25, 3) rfl) fl_X10_25 hx1 (fun _ _ => rfl) ?_
    refine j_aload_n (dt_Text_takeRun 11 (19, .aload_n 0, 1) rfl) rfl ?_
    obtain ⟨x2, hx2, hy15⟩ := jbind hy15
    refine j_getI (dt_Text_takeRun 12 (20, .getfield 15, 3) rfl) fl_X10_15 hx2 (fun _ _ => rfl) ?_
    refine jite hy15 (fun hc hy15 => ?_) (fun hc hy15 => ?_)
    · refine j_icmp_ge (dt_Text_takeRun 13 (23, .if_icmp .ge 105, 3) rfl) rfl (fun _ => ?_) (fun q => absurd hc q)
      cases hy15
      have hz := hX15 _ (hout15 _ rfl)
      exact j_sub rfl hz
    · refine j_icmp_ge (dt_Text_takeRun 13 (23, .if_icmp .ge 105, 3) rfl) rfl (fun q => absurd q hc) (fun _ => ?_)
      refine j_aload_n (dt_Text_takeRun 14 (26, .aload_n 0, 1) rfl) rfl ?_
      obtain ⟨x3, hx3, hy15⟩ := jbind hy15
      refine j_getI (dt_Text_takeRun 15 (27, .getfield 25, 3) rfl) fl_X10_25 hx3 (fun _ _ => rfl) ?_
      refine j_aload_n (dt_Text_takeRun 16 (30, .aload_n 0, 1) rfl) rfl ?_
      obtain ⟨x4, hx4, hy15⟩ := jbind hy15
      refine j_getR (dt_Text_takeRun 17 (31, .getfield 9, 3) rfl) fl_X10_9 hx4 (fun _ _ => rfl) ?_
      obtain ⟨x5, hx5, hy15⟩ := jbind hy15
      refine j_alen (dt_Text_takeRun 18 (34, .arraylength, 1) rfl) hx5 ?_
      refine jite hy15 (fun hc hy15 => ?_) (fun hc hy15 => ?_)
      · refine j_icmp_ge (dt_Text_takeRun 19 (35, .if_icmp .ge 93, 3) rfl) rfl (fun _ => ?_) (fun q => absurd hc q)
        cases hy15
        have hz := hX15 _ (hout15 _ rfl)
        exact j_sub rfl hz
      · refine j_icmp_ge (dt_Text_takeRun 19 (35, .if_icmp .ge 93, 3) rfl) rfl (fun q => absurd q hc) (fun _ => ?_)
        refine j_aload_n (dt_Text_takeRun 20 (38, .aload_n 0, 1) rfl) rfl ?_
        obtain ⟨x6, hx6, hy15⟩ := jbind hy15
        refine j_getR (dt_Text_takeRun 21 (39, .getfield 9, 3) rfl) fl_X10_9 hx6 (fun _ _ => rfl) ?_
        refine j_aload_n (dt_Text_takeRun 22 (42, .aload_n 0, 1) rfl) rfl ?_
        obtain ⟨x7, hx7, hy15⟩ := jbind hy15
        refine j_getI (dt_Text_takeRun 23 (43, .getfield 25, 3) rfl) fl_X10_25 hx7 (fun _ _ => rfl) ?_
        obtain ⟨x8, hx8, hy15⟩ := jbind hy15
        refine j_aldB (dt_Text_takeRun 24 (46, .baload, 1) rfl) hx8 ?_
        refine j_iload_n (dt_Text_takeRun 25 (47, .iload_n 1, 1) rfl) rfl ?_
        refine jite hy15 (fun hc hy15 => ?_) (fun hc hy15 => ?_)
        · refine j_icmp_lt (dt_Text_takeRun 26 (48, .if_icmp .lt 80, 3) rfl) rfl (fun _ => ?_) (fun q => absurd hc q)
          cases hy15
          have hz := hX15 _ (hout15 _ rfl)
          exact j_sub rfl hz
        · refine j_icmp_lt (dt_Text_takeRun 26 (48, .if_icmp .lt 80, 3) rfl) rfl (fun q => absurd q hc) (fun _ => ?_)
          refine j_aload_n (dt_Text_takeRun 27 (51, .aload_n 0, 1) rfl) rfl ?_
          obtain ⟨x9, hx9, hy15⟩ := jbind hy15
          refine j_getR (dt_Text_takeRun 28 (52, .getfield 9, 3) rfl) fl_X10_9 hx9 (fun _ _ => rfl) ?_
          refine j_aload_n (dt_Text_takeRun 29 (55, .aload_n 0, 1) rfl) rfl ?_
          obtain ⟨x10, hx10, hy15⟩ := jbind hy15
          refine j_getI (dt_Text_takeRun 30 (56, .getfield 25, 3) rfl) fl_X10_25 hx10 (fun _ _ => rfl) ?_
          obtain ⟨x11, hx11, hy15⟩ := jbind hy15
          refine j_aldB (dt_Text_takeRun 31 (59, .baload, 1) rfl) hx11 ?_
          refine j_iload_n (dt_Text_takeRun 32 (60, .iload_n 2, 1) rfl) rfl ?_
          refine jite hy15 (fun hc hy15 => ?_) (fun hc hy15 => ?_)
          · refine j_icmp_gt (dt_Text_takeRun 33 (61, .if_icmp .gt 67, 3) rfl) rfl (fun _ => ?_) (fun q => absurd hc q)
            cases hy15
            have hz := hX15 _ (hout15 _ rfl)
            exact j_sub rfl hz
          · refine j_icmp_gt (dt_Text_takeRun 33 (61, .if_icmp .gt 67, 3) rfl) rfl (fun q => absurd q hc) (fun _ => ?_)
            refine j_aload_n (dt_Text_takeRun 34 (64, .aload_n 0, 1) rfl) rfl ?_
            refine j_aload_n (dt_Text_takeRun 35 (65, .aload_n 0, 1) rfl) rfl ?_
            obtain ⟨x12, hx12, hy15⟩ := jbind hy15
            refine j_getL (dt_Text_takeRun 36 (66, .getfield 28, 3) rfl) fl_X10_28 hx12 (fun _ _ => rfl) ?_
            refine j_iload_n (dt_Text_takeRun 37 (69, .iload_n 3, 1) rfl) rfl ?_
            refine j_i2l (dt_Text_takeRun 38 (70, .i2l, 1) rfl) ?_
            refine j_lmul (dt_Text_takeRun 39 (71, .lmul, 1) rfl) ?_
            refine j_aload_n (dt_Text_takeRun 40 (72, .aload_n 0, 1) rfl) rfl ?_
            obtain ⟨x13, hx13, hy15⟩ := jbind hy15
            refine j_getR (dt_Text_takeRun 41 (73, .getfield 9, 3) rfl) fl_X10_9 hx13 (fun _ _ => rfl) ?_
            refine j_aload_n (dt_Text_takeRun 42 (76, .aload_n 0, 1) rfl) rfl ?_
            obtain ⟨x14, hx14, hy15⟩ := jbind hy15
            refine j_getI (dt_Text_takeRun 43 (77, .getfield 25, 3) rfl) fl_X10_25 hx14 (fun _ _ => rfl) ?_
            obtain ⟨x15, hx15, hy15⟩ := jbind hy15
            refine j_aldB (dt_Text_takeRun 44 (80, .baload, 1) rfl) hx15 ?_
            refine j_i2l (dt_Text_takeRun 45 (81, .i2l, 1) rfl) ?_
            refine j_ladd (dt_Text_takeRun 46 (82, .ladd, 1) rfl) ?_
            refine j_iload (dt_Text_takeRun 47 (83, .iload 4, 2) rfl) rfl ?_
            refine j_i2l (dt_Text_takeRun 48 (85, .i2l, 1) rfl) ?_
            refine j_lsub (dt_Text_takeRun 49 (86, .lsub, 1) rfl) ?_
            obtain ⟨V16, hV16, hy15⟩ := jbind hy15
            refine j_putL (dt_Text_takeRun 50 (87, .putfield 28, 3) rfl) fl_X10_28 hV16 rfl (Or.inl rfl) ?_
            refine j_aload_n (dt_Text_takeRun 51 (90, .aload_n 0, 1) rfl) rfl ?_
            refine j_aload_n (dt_Text_takeRun 52 (91, .aload_n 0, 1) rfl) rfl ?_
            obtain ⟨x17, hx17, hy15⟩ := jbind hy15
            refine j_getL (dt_Text_takeRun 53 (92, .getfield 28, 3) rfl) fl_X10_28 hx17 (fun _ _ => rfl) ?_
            refine j_ldc2 1099511627776 (dt_Text_takeRun 54 (95, .ldc2_w 43, 3) rfl) (gt3 141 rfl rfl) ?_
            refine j_lcmp (dt_Text_takeRun 55 (98, .lcmp, 1) rfl) ?_
            obtain ⟨j99, hj99, hy15⟩ := jbind hy15
            have hP99 : jJ G M_Text_takeRun (jEnd G M_Text_takeRun none (S, res)) 0 0 112 [(0, ar v0), (1, ai v1), (2, ai v2), (3, ai v3), (4, ai j3)] [al j99, ar v0] (S, V16) := by
              obtain ⟨V18, hV18, hy15⟩ := jbind hy15
              refine j_putL (dt_Text_takeRun 61 (112, .putfield 28, 3) rfl) fl_X10_28 hV18 rfl (Or.inl rfl) ?_
              refine j_aload_n (dt_Text_takeRun 62 (115, .aload_n 0, 1) rfl) rfl ?_
              refine j_dup (dt_Text_takeRun 63 (116, .dup, 1) rfl) rfl ?_
              obtain ⟨x19, hx19, hy15⟩ := jbind hy15
              refine j_getI (dt_Text_takeRun 64 (117, .getfield 25, 3) rfl) fl_X10_25 hx19 (fun _ _ => rfl) ?_
              refine j_iconst (dt_Text_takeRun 65 (120, .iconst 1, 1) rfl) ic_1 ?_
              refine j_iadd (dt_Text_takeRun 66 (121, .iadd, 1) rfl) ?_
              obtain ⟨V20, hV20, hy15⟩ := jbind hy15
              refine j_putI (dt_Text_takeRun 67 (122, .putfield 25, 3) rfl) fl_X10_25 hV20 rfl (Or.inl rfl) ?_
              refine j_goto (dt_Text_takeRun 68 (125, .goto (-110), 3) rfl) rfl ?_
              cases hy15
              have hz := hin15 _ rfl
              exact j_sub rfl hz
            refine jite hj99 (fun hc hj99 => ?_) (fun hc hj99 => ?_)
            · refine j_if_ge (dt_Text_takeRun 56 (99, .ifCond .ge 10, 3) rfl) rfl (fun _ => ?_) (fun q => absurd hc q)
              refine j_ldc2 1099511627776 (dt_Text_takeRun 60 (109, .ldc2_w 43, 3) rfl) (gt3 141 rfl rfl) ?_
              cases hj99
              exact j_sub rfl hP99
            · refine j_if_ge (dt_Text_takeRun 56 (99, .ifCond .ge 10, 3) rfl) rfl (fun q => absurd q hc) (fun _ => ?_)
              refine j_aload_n (dt_Text_takeRun 57 (102, .aload_n 0, 1) rfl) rfl ?_
              obtain ⟨x21, hx21, hj99⟩ := jbind hj99
              refine j_getL (dt_Text_takeRun 58 (103, .getfield 28, 3) rfl) fl_X10_28 hx21 (fun _ _ => rfl) ?_
              refine j_goto (dt_Text_takeRun 59 (106, .goto 6, 3) rfl) rfl ?_
              cases hj99
              exact j_sub rfl hP99
  refine jite hj3 (fun hc hj3 => ?_) (fun hc hj3 => ?_)
  · refine j_icmp_ne (dt_Text_takeRun 2 (3, .if_icmp .ne 9, 3) rfl) rfl (fun q => absurd hc q) (fun _ => ?_)
    refine j_iload_n (dt_Text_takeRun 3 (6, .iload_n 1, 1) rfl) rfl ?_
    refine j_iconst (dt_Text_takeRun 4 (7, .iconst 1, 1) rfl) ic_1 ?_
    refine j_isub (dt_Text_takeRun 5 (8, .isub, 1) rfl) ?_
    refine j_goto (dt_Text_takeRun 6 (9, .goto 4, 3) rfl) rfl ?_
    cases hj3
    exact j_sub rfl hP3
  · refine j_icmp_ne (dt_Text_takeRun 2 (3, .if_icmp .ne 9, 3) rfl) rfl (fun _ => ?_) (fun q => absurd q hc)
    refine j_iload_n (dt_Text_takeRun 7 (12, .iload_n 1, 1) rfl) rfl ?_
    cases hj3
    exact j_sub rfl hP3
theorem r_Text_takeRun {S : hS} {V : hV} {v0 : Option Nat} {v1 : Int32} {v2 : Int32} {v3 : Int32} {res : hV} (hf : Text_takeRun S v0 v1 v2 v3 V = some res) : ∃ b, rc S 10 v0 = some b := by
  unfold Text_takeRun at hf
  obtain ⟨b, hb, _⟩ := jbind hf
  exact ⟨b, hb⟩
def tb_Text_advance : List (Nat × Instr × Nat) := [(0, .aload_n 0, 1), (1, .aload_n 0, 1), (2, .getfield 25, 3), (5, .putfield 22, 3), (8, .aload_n 0, 1), (9, .getfield 22, 3), (12, .aload_n 0, 1), (13, .getfield 15, 3), (16, .if_icmp .ge 42, 3), (19, .aload_n 0, 1), (20, .aload_n 0, 1), (21, .getfield 22, 3), (24, .invokevirtual 35, 3), (27, .bipush 32, 2), (29, .if_icmp .eq 16, 3), (32, .aload_n 0, 1), (33, .aload_n 0, 1), (34, .getfield 22, 3), (37, .invokevirtual 35, 3), (40, .bipush 10, 2), (42, .if_icmp .ne 16, 3), (45, .aload_n 0, 1), (46, .dup, 1), (47, .getfield 22, 3), (50, .iconst 1, 1), (51, .iadd, 1), (52, .putfield 22, 3), (55, .goto (-47), 3), (58, .aload_n 0, 1), (59, .aload_n 0, 1), (60, .getfield 22, 3), (63, .putfield 25, 3), (66, .aload_n 0, 1), (67, .lconst 0, 1), (68, .putfield 28, 3), (71, .aload_n 0, 1), (72, .aload_n 0, 1), (73, .getfield 22, 3), (76, .invokevirtual 35, 3), (79, .istore_n 1, 1), (80, .aload_n 0, 1), (81, .getfield 22, 3), (84, .aload_n 0, 1), (85, .getfield 15, 3), (88, .if_icmp .lt 11, 3), (91, .aload_n 0, 1), (92, .iconst 0, 1), (93, .putfield 19, 3), (96, .goto 88, 3), (99, .iload_n 1, 1), (100, .bipush 97, 2), (102, .if_icmp .lt 27, 3), (105, .iload_n 1, 1), (106, .bipush 122, 2), (108, .if_icmp .gt 21, 3), (111, .aload_n 0, 1), (112, .iconst 1, 1), (113, .putfield 19, 3), (116, .aload_n 0, 1), (117, .bipush 97, 2), (119, .bipush 122, 2), (121, .bipush 32, 2), (123, .invokevirtual 39, 3), (126, .goto 58, 3), (129, .iload_n 1, 1), (130, .bipush 48, 2), (132, .if_icmp .lt 27, 3), (135, .iload_n 1, 1), (136, .bipush 57, 2), (138, .if_icmp .gt 21, 3), (141, .aload_n 0, 1), (142, .iconst 2, 1), (143, .putfield 19, 3), (146, .aload_n 0, 1), (147, .bipush 48, 2), (149, .bipush 57, 2), (151, .bipush 10, 2), (153, .invokevirtual 39, 3), (156, .goto 28, 3), (159, .aload_n 0, 1), (160, .iload_n 1, 1), (161, .bipush 59, 2), (163, .if_icmp .ne 7, 3), (166, .iconst 3, 1), (167, .goto 4, 3), (170, .iconst 4, 1), (171, .putfield 19, 3), (174, .aload_n 0, 1), (175, .aload_n 0, 1), (176, .getfield 22, 3), (179, .iconst 1, 1), (180, .iadd, 1), (181, .putfield 25, 3), (184, .return_, 1)]
theorem dt_Text_advance (i : Nat) (q : Nat × Instr × Nat) (h : tb_Text_advance[i]? = some q) : decode prog_12_method_5_code q.1 = .ok q.2 := jdt (by decide +kernel : tb_Text_advance.all (fun q => decide (decode prog_12_method_5_code q.1 = .ok q.2)) = true) h
theorem ok_Text_advance : jOKV M_Text_advance 0 := ⟨⟨gt3 132 rfl rfl, gt1 2 rfl rfl, (by decide : "FirstIn$Text" ≠ "java/lang/invoke/MethodHandle"), (by decide : "FirstIn$Text" ≠ "java/lang/invoke/VarHandle"), (by decide +kernel : (parseMethodDescriptor "()V").map (fun d => d.parameters.length) = some 0)⟩, gt3 130 rfl rfl, gt3 131 rfl rfl, rfl, nlt rfl⟩
set_option maxRecDepth 100000 in
set_option maxHeartbeats 4000000 in
theorem c_Text_advance {G : jG} {S : hS} {V : hV} {v0 : Option Nat} {res : hV} (hf : Text_advance S v0 V = some res) : jC G M_Text_advance [ar v0] (S, V) none (S, res) := by
  unfold Text_advance at hf
  obtain ⟨_, _, hf⟩ := jbind hf
  refine jC_of (pf_X10 _ _) rfl (nle rfl) ?_
  show jJ G M_Text_advance (jEnd G M_Text_advance none (S, res)) 0 0 0 [(0, ar v0)] [] (S, V)
  refine j_aload_n (dt_Text_advance 0 (0, .aload_n 0, 1) rfl) rfl ?_
  refine j_aload_n (dt_Text_advance 1 (1, .aload_n 0, 1) rfl) rfl ?_
  obtain ⟨x1, hx1, hf⟩ := jbind hf
  refine j_getI (dt_Text_advance 2 (2, .getfield 25, 3) rfl) fl_X10_25 hx1 (fun _ _ => rfl) ?_
  obtain ⟨V2, hV2, hf⟩ := jbind hf
  refine j_putI (dt_Text_advance 3 (5, .putfield 22, 3) rfl) fl_X10_22 hV2 rfl (Or.inl rfl) ?_
  obtain ⟨t8, ht8, hf⟩ := jbind hf
  have hX8 : ∀ q8 : hV, q8 = t8 → jJ G M_Text_advance (jEnd G M_Text_advance none (S, res)) 0 0 58 [(0, ar v0)] [] (S, q8) := by
    intro q8 hq8
    subst hq8
    refine j_aload_n (dt_Text_advance 28 (58, .aload_n 0, 1) rfl) rfl ?_
    refine j_aload_n (dt_Text_advance 29 (59, .aload_n 0, 1) rfl) rfl ?_
    obtain ⟨x13, hx13, hf⟩ := jbind hf
    refine j_getI (dt_Text_advance 30 (60, .getfield 22, 3) rfl) fl_X10_22 hx13 (fun _ _ => rfl) ?_
    obtain ⟨V14, hV14, hf⟩ := jbind hf
    refine j_putI (dt_Text_advance 31 (63, .putfield 25, 3) rfl) fl_X10_25 hV14 rfl (Or.inl rfl) ?_
    refine j_aload_n (dt_Text_advance 32 (66, .aload_n 0, 1) rfl) rfl ?_
    refine j_lconst (dt_Text_advance 33 (67, .lconst 0, 1) rfl) lc_0 ?_
    obtain ⟨V15, hV15, hf⟩ := jbind hf
    refine j_putL (dt_Text_advance 34 (68, .putfield 28, 3) rfl) fl_X10_28 hV15 rfl (Or.inl rfl) ?_
    refine j_aload_n (dt_Text_advance 35 (71, .aload_n 0, 1) rfl) rfl ?_
    refine j_aload_n (dt_Text_advance 36 (72, .aload_n 0, 1) rfl) rfl ?_
    obtain ⟨x16, hx16, hf⟩ := jbind hf
    refine j_getI (dt_Text_advance 37 (73, .getfield 22, 3) rfl) fl_X10_22 hx16 (fun _ _ => rfl) ?_
    obtain ⟨x17, hx17, hf⟩ := jbind hf
    obtain ⟨b18, hb18⟩ := r_Text_signAt hx17
    refine j_callV M_Text_signAt 1 [ai x16] (rest := []) (dt_Text_advance 38 (76, .invokevirtual 35, 3) rfl) ml_X10_35 ok_Text_signAt (jfit rfl rfl ⟨rfl, rfl⟩ (nle rfl) (nlt rfl)) rfl rfl (nle rfl) ⟨rfl, rfl⟩ hb18 ((c_Text_signAt hx17)) ?_
    refine j_istore_n (dt_Text_advance 39 (79, .istore_n 1, 1) rfl) (nlt rfl) ?_
    refine j_aload_n (dt_Text_advance 40 (80, .aload_n 0, 1) rfl) rfl ?_
    obtain ⟨x19, hx19, hf⟩ := jbind hf
    refine j_getI (dt_Text_advance 41 (81, .getfield 22, 3) rfl) fl_X10_22 hx19 (fun _ _ => rfl) ?_
    refine j_aload_n (dt_Text_advance 42 (84, .aload_n 0, 1) rfl) rfl ?_
    obtain ⟨x20, hx20, hf⟩ := jbind hf
    refine j_getI (dt_Text_advance 43 (85, .getfield 15, 3) rfl) fl_X10_15 hx20 (fun _ _ => rfl) ?_
    refine jite hf (fun hc hf => ?_) (fun hc hf => ?_)
    · refine j_icmp_lt (dt_Text_advance 44 (88, .if_icmp .lt 11, 3) rfl) rfl (fun _ => ?_) (fun q => absurd hc q)
      refine j_iload_n (dt_Text_advance 49 (99, .iload_n 1, 1) rfl) rfl ?_
      refine j_bipush (dt_Text_advance 50 (100, .bipush 97, 2) rfl) bp_97 ?_
      obtain ⟨k102, hk102, hf⟩ := jbind hf
      have hE102 : ∀ e102 : Unit, k102 = .inl e102 → jJ G M_Text_advance (jEnd G M_Text_advance none (S, res)) 0 0 129 [(0, ar v0), (1, ai x17)] [] (S, V15) := by
        intro e102 he102
        subst he102
        refine j_iload_n (dt_Text_advance 64 (129, .iload_n 1, 1) rfl) rfl ?_
        refine j_bipush (dt_Text_advance 65 (130, .bipush 48, 2) rfl) bp_48 ?_
        obtain ⟨k132, hk132, hf⟩ := jbind hf
        have hE132 : ∀ e132 : Unit, k132 = .inl e132 → jJ G M_Text_advance (jEnd G M_Text_advance none (S, res)) 0 0 159 [(0, ar v0), (1, ai x17)] [] (S, V15) := by
          intro e132 he132
          subst he132
          refine j_aload_n (dt_Text_advance 79 (159, .aload_n 0, 1) rfl) rfl ?_
          refine j_iload_n (dt_Text_advance 80 (160, .iload_n 1, 1) rfl) rfl ?_
          refine j_bipush (dt_Text_advance 81 (161, .bipush 59, 2) rfl) bp_59 ?_
          obtain ⟨j163, hj163, hf⟩ := jbind hf
          have hP163 : jJ G M_Text_advance (jEnd G M_Text_advance none (S, res)) 0 0 171 [(0, ar v0)] [ai j163, ar v0] (S, V15) := by
            obtain ⟨V21, hV21, hf⟩ := jbind hf
            refine j_putI (dt_Text_advance 86 (171, .putfield 19, 3) rfl) fl_X10_19 hV21 rfl (Or.inl rfl) ?_
            refine j_aload_n (dt_Text_advance 87 (174, .aload_n 0, 1) rfl) rfl ?_
            refine j_aload_n (dt_Text_advance 88 (175, .aload_n 0, 1) rfl) rfl ?_
            obtain ⟨x22, hx22, hf⟩ := jbind hf
            refine j_getI (dt_Text_advance 89 (176, .getfield 22, 3) rfl) fl_X10_22 hx22 (fun _ _ => rfl) ?_
            refine j_iconst (dt_Text_advance 90 (179, .iconst 1, 1) rfl) ic_1 ?_
            refine j_iadd (dt_Text_advance 91 (180, .iadd, 1) rfl) ?_
            obtain ⟨V23, hV23, hf⟩ := jbind hf
            refine j_putI (dt_Text_advance 92 (181, .putfield 25, 3) rfl) fl_X10_25 hV23 rfl (Or.inl rfl) ?_
            cases hf
            exact j_vret (dt_Text_advance 93 (184, .return_, 1) rfl) rfl
          refine jite hj163 (fun hc hj163 => ?_) (fun hc hj163 => ?_)
          · refine j_icmp_ne (dt_Text_advance 82 (163, .if_icmp .ne 7, 3) rfl) rfl (fun q => absurd hc q) (fun _ => ?_)
            refine j_iconst (dt_Text_advance 83 (166, .iconst 3, 1) rfl) ic_3 ?_
            refine j_goto (dt_Text_advance 84 (167, .goto 4, 3) rfl) rfl ?_
            cases hj163
            exact j_sub rfl hP163
          · refine j_icmp_ne (dt_Text_advance 82 (163, .if_icmp .ne 7, 3) rfl) rfl (fun _ => ?_) (fun q => absurd q hc)
            refine j_iconst (dt_Text_advance 85 (170, .iconst 4, 1) rfl) ic_4 ?_
            cases hj163
            exact j_sub rfl hP163
        refine jite hk132 (fun hc hk132 => ?_) (fun hc hk132 => ?_)
        · refine j_icmp_lt (dt_Text_advance 66 (132, .if_icmp .lt 27, 3) rfl) rfl (fun _ => ?_) (fun q => absurd hc q)
          cases hk132
          have hz := hE132 _ rfl
          exact j_sub rfl hz
        · refine j_icmp_lt (dt_Text_advance 66 (132, .if_icmp .lt 27, 3) rfl) rfl (fun q => absurd q hc) (fun _ => ?_)
          refine j_iload_n (dt_Text_advance 67 (135, .iload_n 1, 1) rfl) rfl ?_
          refine j_bipush (dt_Text_advance 68 (136, .bipush 57, 2) rfl) bp_57 ?_
          refine jite hk132 (fun hc hk132 => ?_) (fun hc hk132 => ?_)
          · refine j_icmp_gt (dt_Text_advance 69 (138, .if_icmp .gt 21, 3) rfl) rfl (fun _ => ?_) (fun q => absurd hc q)
            cases hk132
            have hz := hE132 _ rfl
            exact j_sub rfl hz
          · refine j_icmp_gt (dt_Text_advance 69 (138, .if_icmp .gt 21, 3) rfl) rfl (fun q => absurd q hc) (fun _ => ?_)
            refine j_aload_n (dt_Text_advance 70 (141, .aload_n 0, 1) rfl) rfl ?_
            refine j_iconst (dt_Text_advance 71 (142, .iconst 2, 1) rfl) ic_2 ?_
            obtain ⟨V24, hV24, hk132⟩ := jbind hk132
            refine j_putI (dt_Text_advance 72 (143, .putfield 19, 3) rfl) fl_X10_19 hV24 rfl (Or.inl rfl) ?_
            refine j_aload_n (dt_Text_advance 73 (146, .aload_n 0, 1) rfl) rfl ?_
            refine j_bipush (dt_Text_advance 74 (147, .bipush 48, 2) rfl) bp_48 ?_
            refine j_bipush (dt_Text_advance 75 (149, .bipush 57, 2) rfl) bp_57 ?_
            refine j_bipush (dt_Text_advance 76 (151, .bipush 10, 2) rfl) bp_10 ?_
            obtain ⟨V25, hV25, hk132⟩ := jbind hk132
            obtain ⟨b26, hb26⟩ := r_Text_takeRun hV25
            refine j_callV M_Text_takeRun 3 [ai 48, ai 57, ai 10] (rest := []) (dt_Text_advance 77 (153, .invokevirtual 39, 3) rfl) ml_X10_39 ok_Text_takeRun (jfit rfl rfl ⟨rfl, rfl⟩ (nle rfl) (nlt rfl)) rfl rfl (nle rfl) ⟨rfl, rfl⟩ hb26 ((c_Text_takeRun hV25)) ?_
            refine j_goto (dt_Text_advance 78 (156, .goto 28, 3) rfl) rfl ?_
            cases hk132
            cases hf
            exact j_vret (dt_Text_advance 93 (184, .return_, 1) rfl) rfl
      refine jite hk102 (fun hc hk102 => ?_) (fun hc hk102 => ?_)
      · refine j_icmp_lt (dt_Text_advance 51 (102, .if_icmp .lt 27, 3) rfl) rfl (fun _ => ?_) (fun q => absurd hc q)
        cases hk102
        have hz := hE102 _ rfl
        exact j_sub rfl hz
      · refine j_icmp_lt (dt_Text_advance 51 (102, .if_icmp .lt 27, 3) rfl) rfl (fun q => absurd q hc) (fun _ => ?_)
        refine j_iload_n (dt_Text_advance 52 (105, .iload_n 1, 1) rfl) rfl ?_
        refine j_bipush (dt_Text_advance 53 (106, .bipush 122, 2) rfl) bp_122 ?_
        refine jite hk102 (fun hc hk102 => ?_) (fun hc hk102 => ?_)
        · refine j_icmp_gt (dt_Text_advance 54 (108, .if_icmp .gt 21, 3) rfl) rfl (fun _ => ?_) (fun q => absurd hc q)
          cases hk102
          have hz := hE102 _ rfl
          exact j_sub rfl hz
        · refine j_icmp_gt (dt_Text_advance 54 (108, .if_icmp .gt 21, 3) rfl) rfl (fun q => absurd q hc) (fun _ => ?_)
          refine j_aload_n (dt_Text_advance 55 (111, .aload_n 0, 1) rfl) rfl ?_
          refine j_iconst (dt_Text_advance 56 (112, .iconst 1, 1) rfl) ic_1 ?_
          obtain ⟨V27, hV27, hk102⟩ := jbind hk102
          refine j_putI (dt_Text_advance 57 (113, .putfield 19, 3) rfl) fl_X10_19 hV27 rfl (Or.inl rfl) ?_
          refine j_aload_n (dt_Text_advance 58 (116, .aload_n 0, 1) rfl) rfl ?_
          refine j_bipush (dt_Text_advance 59 (117, .bipush 97, 2) rfl) bp_97 ?_
          refine j_bipush (dt_Text_advance 60 (119, .bipush 122, 2) rfl) bp_122 ?_
          refine j_bipush (dt_Text_advance 61 (121, .bipush 32, 2) rfl) bp_32 ?_
          obtain ⟨V28, hV28, hk102⟩ := jbind hk102
          obtain ⟨b29, hb29⟩ := r_Text_takeRun hV28
          refine j_callV M_Text_takeRun 3 [ai 97, ai 122, ai 32] (rest := []) (dt_Text_advance 62 (123, .invokevirtual 39, 3) rfl) ml_X10_39 ok_Text_takeRun (jfit rfl rfl ⟨rfl, rfl⟩ (nle rfl) (nlt rfl)) rfl rfl (nle rfl) ⟨rfl, rfl⟩ hb29 ((c_Text_takeRun hV28)) ?_
          refine j_goto (dt_Text_advance 63 (126, .goto 58, 3) rfl) rfl ?_
          cases hk102
          cases hf
          exact j_vret (dt_Text_advance 93 (184, .return_, 1) rfl) rfl
    · refine j_icmp_lt (dt_Text_advance 44 (88, .if_icmp .lt 11, 3) rfl) rfl (fun q => absurd q hc) (fun _ => ?_)
      refine j_aload_n (dt_Text_advance 45 (91, .aload_n 0, 1) rfl) rfl ?_
      refine j_iconst (dt_Text_advance 46 (92, .iconst 0, 1) rfl) ic_0 ?_
      obtain ⟨V30, hV30, hf⟩ := jbind hf
      refine j_putI (dt_Text_advance 47 (93, .putfield 19, 3) rfl) fl_X10_19 hV30 rfl (Or.inl rfl) ?_
      refine j_goto (dt_Text_advance 48 (96, .goto 88, 3) rfl) rfl ?_
      cases hf
      exact j_vret (dt_Text_advance 93 (184, .return_, 1) rfl) rfl
  refine j_sub (ls' := [(0, ar v0)]) rfl ?_
  refine jloop_J (C := fun s8 => jJ G M_Text_advance (jEnd G M_Text_advance none (S, res)) 0 0 8 [(0, ar v0)] [] (S, s8)) (fun s8 z8_ hy8 hin8 hout8 => ?_) _ _ ht8
  unfold Text_advance_L8 at hy8
  refine j_aload_n (dt_Text_advance 4 (8, .aload_n 0, 1) rfl) rfl ?_
  obtain ⟨x3, hx3, hy8⟩ := jbind hy8
  refine j_getI (dt_Text_advance 5 (9, .getfield 22, 3) rfl) fl_X10_22 hx3 (fun _ _ => rfl) ?_
  refine j_aload_n (dt_Text_advance 6 (12, .aload_n 0, 1) rfl) rfl ?_
  obtain ⟨x4, hx4, hy8⟩ := jbind hy8
  refine j_getI (dt_Text_advance 7 (13, .getfield 15, 3) rfl) fl_X10_15 hx4 (fun _ _ => rfl) ?_
  refine jite hy8 (fun hc hy8 => ?_) (fun hc hy8 => ?_)
  · refine j_icmp_ge (dt_Text_advance 8 (16, .if_icmp .ge 42, 3) rfl) rfl (fun _ => ?_) (fun q => absurd hc q)
    cases hy8
    have hz := hX8 _ (hout8 _ rfl)
    exact j_sub rfl hz
  · refine j_icmp_ge (dt_Text_advance 8 (16, .if_icmp .ge 42, 3) rfl) rfl (fun q => absurd q hc) (fun _ => ?_)
    refine j_aload_n (dt_Text_advance 9 (19, .aload_n 0, 1) rfl) rfl ?_
    refine j_aload_n (dt_Text_advance 10 (20, .aload_n 0, 1) rfl) rfl ?_
    obtain ⟨x5, hx5, hy8⟩ := jbind hy8
    refine j_getI (dt_Text_advance 11 (21, .getfield 22, 3) rfl) fl_X10_22 hx5 (fun _ _ => rfl) ?_
    obtain ⟨x6, hx6, hy8⟩ := jbind hy8
    obtain ⟨b7, hb7⟩ := r_Text_signAt hx6
    refine j_callV M_Text_signAt 1 [ai x5] (rest := []) (dt_Text_advance 12 (24, .invokevirtual 35, 3) rfl) ml_X10_35 ok_Text_signAt (jfit rfl rfl ⟨rfl, rfl⟩ (nle rfl) (nlt rfl)) rfl rfl (nle rfl) ⟨rfl, rfl⟩ hb7 ((c_Text_signAt hx6)) ?_
    refine j_bipush (dt_Text_advance 13 (27, .bipush 32, 2) rfl) bp_32 ?_
    obtain ⟨k29, hk29, hy8⟩ := jbind hy8
    have hE29 : ∀ e29 : Unit, k29 = .inl e29 → jJ G M_Text_advance (jEnd G M_Text_advance none (S, res)) 0 0 45 [(0, ar v0)] [] (S, s8) := by
      intro e29 he29
      subst he29
      refine j_aload_n (dt_Text_advance 21 (45, .aload_n 0, 1) rfl) rfl ?_
      refine j_dup (dt_Text_advance 22 (46, .dup, 1) rfl) rfl ?_
      obtain ⟨x8, hx8, hy8⟩ := jbind hy8
      refine j_getI (dt_Text_advance 23 (47, .getfield 22, 3) rfl) fl_X10_22 hx8 (fun _ _ => rfl) ?_
      refine j_iconst (dt_Text_advance 24 (50, .iconst 1, 1) rfl) ic_1 ?_
      refine j_iadd (dt_Text_advance 25 (51, .iadd, 1) rfl) ?_
      obtain ⟨V9, hV9, hy8⟩ := jbind hy8
      refine j_putI (dt_Text_advance 26 (52, .putfield 22, 3) rfl) fl_X10_22 hV9 rfl (Or.inl rfl) ?_
      refine j_goto (dt_Text_advance 27 (55, .goto (-47), 3) rfl) rfl ?_
      cases hy8
      have hz := hin8 _ rfl
      exact j_sub rfl hz
    refine jite hk29 (fun hc hk29 => ?_) (fun hc hk29 => ?_)
    · refine j_icmp_eq (dt_Text_advance 14 (29, .if_icmp .eq 16, 3) rfl) rfl (fun _ => ?_) (fun q => absurd hc q)
      cases hk29
      have hz := hE29 _ rfl
      exact j_sub rfl hz
    · refine j_icmp_eq (dt_Text_advance 14 (29, .if_icmp .eq 16, 3) rfl) rfl (fun q => absurd q hc) (fun _ => ?_)
      refine j_aload_n (dt_Text_advance 15 (32, .aload_n 0, 1) rfl) rfl ?_
      refine j_aload_n (dt_Text_advance 16 (33, .aload_n 0, 1) rfl) rfl ?_
      obtain ⟨x10, hx10, hk29⟩ := jbind hk29
      refine j_getI (dt_Text_advance 17 (34, .getfield 22, 3) rfl) fl_X10_22 hx10 (fun _ _ => rfl) ?_
      obtain ⟨x11, hx11, hk29⟩ := jbind hk29
      obtain ⟨b12, hb12⟩ := r_Text_signAt hx11
      refine j_callV M_Text_signAt 1 [ai x10] (rest := []) (dt_Text_advance 18 (37, .invokevirtual 35, 3) rfl) ml_X10_35 ok_Text_signAt (jfit rfl rfl ⟨rfl, rfl⟩ (nle rfl) (nlt rfl)) rfl rfl (nle rfl) ⟨rfl, rfl⟩ hb12 ((c_Text_signAt hx11)) ?_
      refine j_bipush (dt_Text_advance 19 (40, .bipush 10, 2) rfl) bp_10 ?_
      refine jite hk29 (fun hc hk29 => ?_) (fun hc hk29 => ?_)
      · refine j_icmp_ne (dt_Text_advance 20 (42, .if_icmp .ne 16, 3) rfl) rfl (fun q => absurd hc q) (fun _ => ?_)
        cases hk29
        have hz := hE29 _ rfl
        exact j_sub rfl hz
      · refine j_icmp_ne (dt_Text_advance 20 (42, .if_icmp .ne 16, 3) rfl) rfl (fun _ => ?_) (fun q => absurd q hc)
        cases hk29
        cases hy8
        have hz := hX8 _ (hout8 _ rfl)
        exact j_sub rfl hz
theorem r_Text_advance {S : hS} {V : hV} {v0 : Option Nat} {res : hV} (hf : Text_advance S v0 V = some res) : ∃ b, rc S 10 v0 = some b := by
  unfold Text_advance at hf
  obtain ⟨b, hb, _⟩ := jbind hf
  exact ⟨b, hb⟩
def tb_Text_begin : List (Nat × Instr × Nat) := [(0, .aload_n 0, 1), (1, .iconst 0, 1), (2, .putfield 25, 3), (5, .aload_n 0, 1), (6, .invokevirtual 32, 3), (9, .return_, 1)]
theorem dt_Text_begin (i : Nat) (q : Nat × Instr × Nat) (h : tb_Text_begin[i]? = some q) : decode prog_12_method_4_code q.1 = .ok q.2 := jdt (by decide +kernel : tb_Text_begin.all (fun q => decide (decode prog_12_method_4_code q.1 = .ok q.2)) = true) h
theorem ok_Text_begin : jOKV M_Text_begin 0 := ⟨⟨gt3 128 rfl rfl, gt1 2 rfl rfl, (by decide : "FirstIn$Text" ≠ "java/lang/invoke/MethodHandle"), (by decide : "FirstIn$Text" ≠ "java/lang/invoke/VarHandle"), (by decide +kernel : (parseMethodDescriptor "()V").map (fun d => d.parameters.length) = some 0)⟩, gt3 126 rfl rfl, gt3 127 rfl rfl, rfl, nlt rfl⟩
set_option maxRecDepth 100000 in
set_option maxHeartbeats 4000000 in
theorem c_Text_begin {G : jG} {S : hS} {V : hV} {v0 : Option Nat} {res : hV} (hf : Text_begin S v0 V = some res) : jC G M_Text_begin [ar v0] (S, V) none (S, res) := by
  unfold Text_begin at hf
  obtain ⟨_, _, hf⟩ := jbind hf
  refine jC_of (pf_X10 _ _) rfl (nle rfl) ?_
  show jJ G M_Text_begin (jEnd G M_Text_begin none (S, res)) 0 0 0 [(0, ar v0)] [] (S, V)
  refine j_aload_n (dt_Text_begin 0 (0, .aload_n 0, 1) rfl) rfl ?_
  refine j_iconst (dt_Text_begin 1 (1, .iconst 0, 1) rfl) ic_0 ?_
  obtain ⟨V1, hV1, hf⟩ := jbind hf
  refine j_putI (dt_Text_begin 2 (2, .putfield 25, 3) rfl) fl_X10_25 hV1 rfl (Or.inl rfl) ?_
  refine j_aload_n (dt_Text_begin 3 (5, .aload_n 0, 1) rfl) rfl ?_
  obtain ⟨V2, hV2, hf⟩ := jbind hf
  obtain ⟨b3, hb3⟩ := r_Text_advance hV2
  refine j_callV M_Text_advance 0 [] (rest := []) (dt_Text_begin 4 (6, .invokevirtual 32, 3) rfl) ml_X10_32 ok_Text_advance (jfit rfl rfl ⟨rfl, rfl⟩ (nle rfl) (nlt rfl)) rfl rfl (nle rfl) ⟨rfl, rfl⟩ hb3 ((c_Text_advance hV2)) ?_
  cases hf
  exact j_vret (dt_Text_begin 5 (9, .return_, 1) rfl) rfl
theorem r_Text_begin {S : hS} {V : hV} {v0 : Option Nat} {res : hV} (hf : Text_begin S v0 V = some res) : ∃ b, rc S 10 v0 = some b := by
  unfold Text_begin at hf
  obtain ⟨b, hb, _⟩ := jbind hf
  exact ⟨b, hb⟩
def tb_Text_isWord : List (Nat × Instr × Nat) := [(0, .aload_n 0, 1), (1, .getfield 19, 3), (4, .iconst 1, 1), (5, .if_icmp .ne 16, 3), (8, .aload_n 0, 1), (9, .getfield 28, 3), (12, .lload_n 1, 1), (13, .lcmp, 1), (14, .ifCond .ne 7, 3), (17, .iconst 1, 1), (18, .goto 4, 3), (21, .iconst 0, 1), (22, .ireturn, 1)]
theorem dt_Text_isWord (i : Nat) (q : Nat × Instr × Nat) (h : tb_Text_isWord[i]? = some q) : decode prog_12_method_8_code q.1 = .ok q.2 := jdt (by decide +kernel : tb_Text_isWord.all (fun q => decide (decode prog_12_method_8_code q.1 = .ok q.2)) = true) h
theorem ok_Text_isWord : jOKV M_Text_isWord 1 := ⟨⟨gt3 149 rfl rfl, gt1 2 rfl rfl, (by decide : "FirstIn$Text" ≠ "java/lang/invoke/MethodHandle"), (by decide : "FirstIn$Text" ≠ "java/lang/invoke/VarHandle"), (by decide +kernel : (parseMethodDescriptor "(J)Z").map (fun d => d.parameters.length) = some 1)⟩, gt3 147 rfl rfl, gt3 148 rfl rfl, rfl, nlt rfl⟩
set_option maxRecDepth 100000 in
set_option maxHeartbeats 4000000 in
theorem c_Text_isWord {G : jG} {S : hS} {V : hV} {v0 : Option Nat} {v1 : Int64} {res : Int32} (hf : Text_isWord S v0 v1 V = some res) : jC G M_Text_isWord [ar v0, al v1] (S, V) (some (ai res)) (S, V) := by
  unfold Text_isWord at hf
  obtain ⟨_, _, hf⟩ := jbind hf
  refine jC_of (pf_X10 _ _) rfl (nle rfl) ?_
  show jJ G M_Text_isWord (jEnd G M_Text_isWord (some (ai res)) (S, V)) 0 0 0 [(0, ar v0), (1, al v1)] [] (S, V)
  refine j_aload_n (dt_Text_isWord 0 (0, .aload_n 0, 1) rfl) rfl ?_
  obtain ⟨x1, hx1, hf⟩ := jbind hf
  refine j_getI (dt_Text_isWord 1 (1, .getfield 19, 3) rfl) fl_X10_19 hx1 (fun _ _ => rfl) ?_
  refine j_iconst (dt_Text_isWord 2 (4, .iconst 1, 1) rfl) ic_1 ?_
  refine jite hf (fun hc hf => ?_) (fun hc hf => ?_)
  · refine j_icmp_ne (dt_Text_isWord 3 (5, .if_icmp .ne 16, 3) rfl) rfl (fun q => absurd hc q) (fun _ => ?_)
    refine j_aload_n (dt_Text_isWord 4 (8, .aload_n 0, 1) rfl) rfl ?_
    obtain ⟨x2, hx2, hf⟩ := jbind hf
    refine j_getL (dt_Text_isWord 5 (9, .getfield 28, 3) rfl) fl_X10_28 hx2 (fun _ _ => rfl) ?_
    refine j_lload_n (dt_Text_isWord 6 (12, .lload_n 1, 1) rfl) rfl ?_
    refine j_lcmp (dt_Text_isWord 7 (13, .lcmp, 1) rfl) ?_
    refine jite hf (fun hc hf => ?_) (fun hc hf => ?_)
    · refine j_if_ne (dt_Text_isWord 8 (14, .ifCond .ne 7, 3) rfl) rfl (fun q => absurd hc q) (fun _ => ?_)
      refine j_iconst (dt_Text_isWord 9 (17, .iconst 1, 1) rfl) ic_1 ?_
      refine j_goto (dt_Text_isWord 10 (18, .goto 4, 3) rfl) rfl ?_
      cases hf
      exact j_zret (x := 1) (dt_Text_isWord 12 (22, .ireturn, 1) rfl) rfl rfl
    · refine j_if_ne (dt_Text_isWord 8 (14, .ifCond .ne 7, 3) rfl) rfl (fun _ => ?_) (fun q => absurd q hc)
      refine j_iconst (dt_Text_isWord 11 (21, .iconst 0, 1) rfl) ic_0 ?_
      cases hf
      exact j_zret (x := 0) (dt_Text_isWord 12 (22, .ireturn, 1) rfl) rfl rfl
  · refine j_icmp_ne (dt_Text_isWord 3 (5, .if_icmp .ne 16, 3) rfl) rfl (fun _ => ?_) (fun q => absurd q hc)
    refine j_iconst (dt_Text_isWord 11 (21, .iconst 0, 1) rfl) ic_0 ?_
    cases hf
    exact j_zret (x := 0) (dt_Text_isWord 12 (22, .ireturn, 1) rfl) rfl rfl
theorem r_Text_isWord {S : hS} {V : hV} {v0 : Option Nat} {v1 : Int64} {res : Int32} (hf : Text_isWord S v0 v1 V = some res) : ∃ b, rc S 10 v0 = some b := by
  unfold Text_isWord at hf
  obtain ⟨b, hb, _⟩ := jbind hf
  exact ⟨b, hb⟩
def tb_Text_isNumber : List (Nat × Instr × Nat) := [(0, .aload_n 0, 1), (1, .getfield 19, 3), (4, .iconst 2, 1), (5, .if_icmp .ne 27, 3), (8, .aload_n 0, 1), (9, .getfield 28, 3), (12, .iload_n 1, 1), (13, .i2l, 1), (14, .lcmp, 1), (15, .ifCond .lt 17, 3), (18, .aload_n 0, 1), (19, .getfield 28, 3), (22, .iload_n 2, 1), (23, .i2l, 1), (24, .lcmp, 1), (25, .ifCond .gt 7, 3), (28, .iconst 1, 1), (29, .goto 4, 3), (32, .iconst 0, 1), (33, .ireturn, 1)]
theorem dt_Text_isNumber (i : Nat) (q : Nat × Instr × Nat) (h : tb_Text_isNumber[i]? = some q) : decode prog_12_method_9_code q.1 = .ok q.2 := jdt (by decide +kernel : tb_Text_isNumber.all (fun q => decide (decode prog_12_method_9_code q.1 = .ok q.2)) = true) h
theorem ok_Text_isNumber : jOKV M_Text_isNumber 2 := ⟨⟨gt3 190 rfl rfl, gt1 2 rfl rfl, (by decide : "FirstIn$Text" ≠ "java/lang/invoke/MethodHandle"), (by decide : "FirstIn$Text" ≠ "java/lang/invoke/VarHandle"), (by decide +kernel : (parseMethodDescriptor "(II)Z").map (fun d => d.parameters.length) = some 2)⟩, gt3 188 rfl rfl, gt3 189 rfl rfl, rfl, nlt rfl⟩
set_option maxRecDepth 100000 in
set_option maxHeartbeats 4000000 in
theorem c_Text_isNumber {G : jG} {S : hS} {V : hV} {v0 : Option Nat} {v1 : Int32} {v2 : Int32} {res : Int32} (hf : Text_isNumber S v0 v1 v2 V = some res) : jC G M_Text_isNumber [ar v0, ai v1, ai v2] (S, V) (some (ai res)) (S, V) := by
  unfold Text_isNumber at hf
  obtain ⟨_, _, hf⟩ := jbind hf
  refine jC_of (pf_X10 _ _) rfl (nle rfl) ?_
  show jJ G M_Text_isNumber (jEnd G M_Text_isNumber (some (ai res)) (S, V)) 0 0 0 [(0, ar v0), (1, ai v1), (2, ai v2)] [] (S, V)
  refine j_aload_n (dt_Text_isNumber 0 (0, .aload_n 0, 1) rfl) rfl ?_
  obtain ⟨x1, hx1, hf⟩ := jbind hf
  refine j_getI (dt_Text_isNumber 1 (1, .getfield 19, 3) rfl) fl_X10_19 hx1 (fun _ _ => rfl) ?_
  refine j_iconst (dt_Text_isNumber 2 (4, .iconst 2, 1) rfl) ic_2 ?_
  refine jite hf (fun hc hf => ?_) (fun hc hf => ?_)
  · refine j_icmp_ne (dt_Text_isNumber 3 (5, .if_icmp .ne 27, 3) rfl) rfl (fun q => absurd hc q) (fun _ => ?_)
    refine j_aload_n (dt_Text_isNumber 4 (8, .aload_n 0, 1) rfl) rfl ?_
    obtain ⟨x2, hx2, hf⟩ := jbind hf
    refine j_getL (dt_Text_isNumber 5 (9, .getfield 28, 3) rfl) fl_X10_28 hx2 (fun _ _ => rfl) ?_
    refine j_iload_n (dt_Text_isNumber 6 (12, .iload_n 1, 1) rfl) rfl ?_
    refine j_i2l (dt_Text_isNumber 7 (13, .i2l, 1) rfl) ?_
    refine j_lcmp (dt_Text_isNumber 8 (14, .lcmp, 1) rfl) ?_
    refine jite hf (fun hc hf => ?_) (fun hc hf => ?_)
    · refine j_if_lt (dt_Text_isNumber 9 (15, .ifCond .lt 17, 3) rfl) rfl (fun _ => ?_) (fun q => absurd hc q)
      refine j_iconst (dt_Text_isNumber 18 (32, .iconst 0, 1) rfl) ic_0 ?_
      cases hf
      exact j_zret (x := 0) (dt_Text_isNumber 19 (33, .ireturn, 1) rfl) rfl rfl
    · refine j_if_lt (dt_Text_isNumber 9 (15, .ifCond .lt 17, 3) rfl) rfl (fun q => absurd q hc) (fun _ => ?_)
      refine j_aload_n (dt_Text_isNumber 10 (18, .aload_n 0, 1) rfl) rfl ?_
      obtain ⟨x3, hx3, hf⟩ := jbind hf
      refine j_getL (dt_Text_isNumber 11 (19, .getfield 28, 3) rfl) fl_X10_28 hx3 (fun _ _ => rfl) ?_
      refine j_iload_n (dt_Text_isNumber 12 (22, .iload_n 2, 1) rfl) rfl ?_
      refine j_i2l (dt_Text_isNumber 13 (23, .i2l, 1) rfl) ?_
      refine j_lcmp (dt_Text_isNumber 14 (24, .lcmp, 1) rfl) ?_
      refine jite hf (fun hc hf => ?_) (fun hc hf => ?_)
      · refine j_if_gt (dt_Text_isNumber 15 (25, .ifCond .gt 7, 3) rfl) rfl (fun _ => ?_) (fun q => absurd hc q)
        refine j_iconst (dt_Text_isNumber 18 (32, .iconst 0, 1) rfl) ic_0 ?_
        cases hf
        exact j_zret (x := 0) (dt_Text_isNumber 19 (33, .ireturn, 1) rfl) rfl rfl
      · refine j_if_gt (dt_Text_isNumber 15 (25, .ifCond .gt 7, 3) rfl) rfl (fun q => absurd q hc) (fun _ => ?_)
        refine j_iconst (dt_Text_isNumber 16 (28, .iconst 1, 1) rfl) ic_1 ?_
        refine j_goto (dt_Text_isNumber 17 (29, .goto 4, 3) rfl) rfl ?_
        cases hf
        exact j_zret (x := 1) (dt_Text_isNumber 19 (33, .ireturn, 1) rfl) rfl rfl
  · refine j_icmp_ne (dt_Text_isNumber 3 (5, .if_icmp .ne 27, 3) rfl) rfl (fun _ => ?_) (fun q => absurd q hc)
    refine j_iconst (dt_Text_isNumber 18 (32, .iconst 0, 1) rfl) ic_0 ?_
    cases hf
    exact j_zret (x := 0) (dt_Text_isNumber 19 (33, .ireturn, 1) rfl) rfl rfl
theorem r_Text_isNumber {S : hS} {V : hV} {v0 : Option Nat} {v1 : Int32} {v2 : Int32} {res : Int32} (hf : Text_isNumber S v0 v1 v2 V = some res) : ∃ b, rc S 10 v0 = some b := by
  unfold Text_isNumber at hf
  obtain ⟨b, hb, _⟩ := jbind hf
  exact ⟨b, hb⟩
def tb_Text_codeOf : List (Nat × Instr × Nat) := [(0, .lconst 0, 1), (1, .lstore_n 1, 1), (2, .iconst 0, 1), (3, .istore_n 3, 1), (4, .iload_n 3, 1), (5, .aload_n 0, 1), (6, .invokevirtual 45, 3), (9, .if_icmp .ge 26, 3), (12, .lload_n 1, 1), (13, .ldc2_w 50, 3), (16, .lmul, 1), (17, .aload_n 0, 1), (18, .iload_n 3, 1), (19, .invokevirtual 52, 3), (22, .i2l, 1), (23, .ladd, 1), (24, .ldc2_w 56, 3), (27, .lsub, 1), (28, .lstore_n 1, 1), (29, .iinc 3 1, 3), (32, .goto (-28), 3), (35, .lload_n 1, 1), (36, .lreturn, 1)]
theorem dt_Text_codeOf (i : Nat) (q : Nat × Instr × Nat) (h : tb_Text_codeOf[i]? = some q) : decode prog_12_method_10_code q.1 = .ok q.2 := jdt (by decide +kernel : tb_Text_codeOf.all (fun q => decide (decode prog_12_method_10_code q.1 = .ok q.2)) = true) h
theorem ok_Text_codeOf : jOKS M_Text_codeOf 1 := ⟨⟨gt1 69 rfl rfl, gt1 2 rfl rfl, (by decide : "FirstIn$Text" ≠ "java/lang/invoke/MethodHandle"), (by decide : "FirstIn$Text" ≠ "java/lang/invoke/VarHandle"), (by decide +kernel : (parseMethodDescriptor "(Ljava/lang/String;)J").map (fun d => d.parameters.length) = some 1)⟩, gt1 68 rfl rfl⟩
set_option maxRecDepth 100000 in
set_option maxHeartbeats 4000000 in
theorem c_Text_codeOf {G : jG} {S : hS} {V : hV} {v0 : Option Nat} {res : Int64} (hf : Text_codeOf S v0 V = some res) : jC G M_Text_codeOf [ar v0] (S, V) (some (al res)) (S, V) := by
  unfold Text_codeOf at hf
  refine jC_of (pf_X10 _ _) rfl (nle rfl) ?_
  show jJ G M_Text_codeOf (jEnd G M_Text_codeOf (some (al res)) (S, V)) 0 0 0 [(0, ar v0)] [] (S, V)
  refine j_lconst (dt_Text_codeOf 0 (0, .lconst 0, 1) rfl) lc_0 ?_
  refine j_lstore_n (dt_Text_codeOf 1 (1, .lstore_n 1, 1) rfl) (nlt rfl) ?_
  refine j_iconst (dt_Text_codeOf 2 (2, .iconst 0, 1) rfl) ic_0 ?_
  refine j_istore_n (dt_Text_codeOf 3 (3, .istore_n 3, 1) rfl) (nlt rfl) ?_
  obtain ⟨t4, ht4, hf⟩ := jbind hf
  have hX4 : ∀ q4 : Int64, q4 = t4 → jJ G M_Text_codeOf (jEnd G M_Text_codeOf (some (al res)) (S, V)) 0 0 35 [(1, al q4)] [] (S, V) := by
    intro q4 hq4
    subst hq4
    refine j_lload_n (dt_Text_codeOf 21 (35, .lload_n 1, 1) rfl) rfl ?_
    cases hf
    exact j_lret (dt_Text_codeOf 22 (36, .lreturn, 1) rfl) rfl
  refine j_sub (ls' := [(0, ar v0), (1, al 0), (3, ai 0)]) rfl ?_
  refine jloop_J (C := fun s4 => jJ G M_Text_codeOf (jEnd G M_Text_codeOf (some (al res)) (S, V)) 0 0 4 [(0, ar v0), (1, al s4.1), (3, ai s4.2)] [] (S, V)) (fun s4 z4_ hy4 hin4 hout4 => ?_) _ _ ht4
  unfold Text_codeOf_L4 at hy4
  refine j_iload_n (dt_Text_codeOf 4 (4, .iload_n 3, 1) rfl) rfl ?_
  refine j_aload_n (dt_Text_codeOf 5 (5, .aload_n 0, 1) rfl) rfl ?_
  obtain ⟨x1, hx1, hy4⟩ := jbind hy4
  refine j_Jd_length (dt_Text_codeOf 6 (6, .invokevirtual 45, 3) rfl) ml_X10_45 hx1 ⟨nle rfl, nle rfl⟩ (nle rfl) ?_
  refine jite hy4 (fun hc hy4 => ?_) (fun hc hy4 => ?_)
  · refine j_icmp_ge (dt_Text_codeOf 7 (9, .if_icmp .ge 26, 3) rfl) rfl (fun _ => ?_) (fun q => absurd hc q)
    cases hy4
    have hz := hX4 _ (hout4 _ rfl)
    exact j_sub rfl hz
  · refine j_icmp_ge (dt_Text_codeOf 7 (9, .if_icmp .ge 26, 3) rfl) rfl (fun q => absurd q hc) (fun _ => ?_)
    refine j_lload_n (dt_Text_codeOf 8 (12, .lload_n 1, 1) rfl) rfl ?_
    refine j_ldc2 32 (dt_Text_codeOf 9 (13, .ldc2_w 50, 3) rfl) (gt1 80 rfl rfl) ?_
    refine j_lmul (dt_Text_codeOf 10 (16, .lmul, 1) rfl) ?_
    refine j_aload_n (dt_Text_codeOf 11 (17, .aload_n 0, 1) rfl) rfl ?_
    refine j_iload_n (dt_Text_codeOf 12 (18, .iload_n 3, 1) rfl) rfl ?_
    obtain ⟨x2, hx2, hy4⟩ := jbind hy4
    refine j_Jd_charAt (dt_Text_codeOf 13 (19, .invokevirtual 52, 3) rfl) ml_X10_52 hx2 ⟨nle rfl, nle rfl⟩ (nle rfl) ?_
    refine j_i2l (dt_Text_codeOf 14 (22, .i2l, 1) rfl) ?_
    refine j_ladd (dt_Text_codeOf 15 (23, .ladd, 1) rfl) ?_
    refine j_ldc2 96 (dt_Text_codeOf 16 (24, .ldc2_w 56, 3) rfl) (gt1 119 rfl rfl) ?_
    refine j_lsub (dt_Text_codeOf 17 (27, .lsub, 1) rfl) ?_
    refine j_lstore_n (dt_Text_codeOf 18 (28, .lstore_n 1, 1) rfl) (nlt rfl) ?_
    refine j_iinc (dt_Text_codeOf 19 (29, .iinc 3 1, 3) rfl) rfl (nlt rfl) (ii_1 _) ?_
    refine j_goto (dt_Text_codeOf 20 (32, .goto (-28), 3) rfl) rfl ?_
    cases hy4
    have hz := hin4 _ rfl
    exact j_sub rfl hz
def tb_Fi_feed : List (Nat × Instr × Nat) := [(0, .aload_n 0, 1), (1, .getfield 12, 3), (4, .getfield 76, 3), (7, .sipush 680, 3), (10, .if_icmp .le 5, 3), (13, .iconst (-1), 1), (14, .ireturn, 1), (15, .aload_n 0, 1), (16, .getfield 12, 3), (19, .iload_n 1, 1), (20, .invokevirtual 79, 3), (23, .aload_n 0, 1), (24, .getfield 12, 3), (27, .iload_n 2, 1), (28, .invokevirtual 79, 3), (31, .aload_n 0, 1), (32, .getfield 12, 3), (35, .iload_n 3, 1), (36, .invokevirtual 79, 3), (39, .aload_n 0, 1), (40, .getfield 12, 3), (43, .iload 4, 2), (45, .invokevirtual 79, 3), (48, .aload_n 0, 1), (49, .getfield 12, 3), (52, .iload 5, 2), (54, .invokevirtual 79, 3), (57, .aload_n 0, 1), (58, .getfield 12, 3), (61, .getfield 76, 3), (64, .ireturn, 1)]
theorem dt_Fi_feed (i : Nat) (q : Nat × Instr × Nat) (h : tb_Fi_feed[i]? = some q) : decode prog_1_method_2_code q.1 = .ok q.2 := jdt (by decide +kernel : tb_Fi_feed.all (fun q => decide (decode prog_1_method_2_code q.1 = .ok q.2)) = true) h
theorem ok_Fi_feed : jOKV M_Fi_feed 5 := ⟨⟨gt3 100 rfl rfl, gt1 1 rfl rfl, (by decide : "FirstIn" ≠ "java/lang/invoke/MethodHandle"), (by decide : "FirstIn" ≠ "java/lang/invoke/VarHandle"), (by decide +kernel : (parseMethodDescriptor "(IIIII)I").map (fun d => d.parameters.length) = some 5)⟩, gt3 98 rfl rfl, gt3 99 rfl rfl, rfl, nlt rfl⟩
set_option maxRecDepth 100000 in
set_option maxHeartbeats 4000000 in
theorem c_Fi_feed {G : jG} {S : hS} {V : hV} {v0 : Option Nat} {v1 : Int32} {v2 : Int32} {v3 : Int32} {v4 : Int32} {v5 : Int32} {res : Int32 × hV} (hf : Fi_feed S v0 v1 v2 v3 v4 v5 V = some res) : jC G M_Fi_feed [ar v0, ai v1, ai v2, ai v3, ai v4, ai v5] (S, V) (some (ai res.1)) (S, res.2) := by
  unfold Fi_feed at hf
  obtain ⟨_, _, hf⟩ := jbind hf
  refine jC_of (pf_X11 _ _) rfl (nle rfl) ?_
  show jJ G M_Fi_feed (jEnd G M_Fi_feed (some (ai res.1)) (S, res.2)) 0 0 0 [(0, ar v0), (1, ai v1), (2, ai v2), (3, ai v3), (4, ai v4), (5, ai v5)] [] (S, V)
  refine j_aload_n (dt_Fi_feed 0 (0, .aload_n 0, 1) rfl) rfl ?_
  obtain ⟨x1, hx1, hf⟩ := jbind hf
  refine j_getR (dt_Fi_feed 1 (1, .getfield 12, 3) rfl) fl_X11_12 hx1 (fun _ _ => rfl) ?_
  obtain ⟨x2, hx2, hf⟩ := jbind hf
  refine j_getI (dt_Fi_feed 2 (4, .getfield 76, 3) rfl) fl_X11_76 hx2 (fun _ _ => rfl) ?_
  refine j_sipush (dt_Fi_feed 3 (7, .sipush 680, 3) rfl) sp_680 ?_
  refine jite hf (fun hc hf => ?_) (fun hc hf => ?_)
  · refine j_icmp_le (dt_Fi_feed 4 (10, .if_icmp .le 5, 3) rfl) rfl (fun _ => ?_) (fun q => absurd hc q)
    refine j_aload_n (dt_Fi_feed 7 (15, .aload_n 0, 1) rfl) rfl ?_
    obtain ⟨x3, hx3, hf⟩ := jbind hf
    refine j_getR (dt_Fi_feed 8 (16, .getfield 12, 3) rfl) fl_X11_12 hx3 (fun _ _ => rfl) ?_
    refine j_iload_n (dt_Fi_feed 9 (19, .iload_n 1, 1) rfl) rfl ?_
    obtain ⟨V4, hV4, hf⟩ := jbind hf
    obtain ⟨b5, hb5⟩ := r_Text_append hV4
    refine j_callV M_Text_append 1 [ai v1] (rest := []) (dt_Fi_feed 10 (20, .invokevirtual 79, 3) rfl) ml_X11_79 ok_Text_append (jfit rfl rfl ⟨rfl, rfl⟩ (nle rfl) (nlt rfl)) rfl rfl (nle rfl) ⟨rfl, rfl⟩ hb5 ((c_Text_append hV4)) ?_
    refine j_aload_n (dt_Fi_feed 11 (23, .aload_n 0, 1) rfl) rfl ?_
    obtain ⟨x6, hx6, hf⟩ := jbind hf
    refine j_getR (dt_Fi_feed 12 (24, .getfield 12, 3) rfl) fl_X11_12 hx6 (fun _ _ => rfl) ?_
    refine j_iload_n (dt_Fi_feed 13 (27, .iload_n 2, 1) rfl) rfl ?_
    obtain ⟨V7, hV7, hf⟩ := jbind hf
    obtain ⟨b8, hb8⟩ := r_Text_append hV7
    refine j_callV M_Text_append 1 [ai v2] (rest := []) (dt_Fi_feed 14 (28, .invokevirtual 79, 3) rfl) ml_X11_79 ok_Text_append (jfit rfl rfl ⟨rfl, rfl⟩ (nle rfl) (nlt rfl)) rfl rfl (nle rfl) ⟨rfl, rfl⟩ hb8 ((c_Text_append hV7)) ?_
    refine j_aload_n (dt_Fi_feed 15 (31, .aload_n 0, 1) rfl) rfl ?_
    obtain ⟨x9, hx9, hf⟩ := jbind hf
    refine j_getR (dt_Fi_feed 16 (32, .getfield 12, 3) rfl) fl_X11_12 hx9 (fun _ _ => rfl) ?_
    refine j_iload_n (dt_Fi_feed 17 (35, .iload_n 3, 1) rfl) rfl ?_
    obtain ⟨V10, hV10, hf⟩ := jbind hf
    obtain ⟨b11, hb11⟩ := r_Text_append hV10
    refine j_callV M_Text_append 1 [ai v3] (rest := []) (dt_Fi_feed 18 (36, .invokevirtual 79, 3) rfl) ml_X11_79 ok_Text_append (jfit rfl rfl ⟨rfl, rfl⟩ (nle rfl) (nlt rfl)) rfl rfl (nle rfl) ⟨rfl, rfl⟩ hb11 ((c_Text_append hV10)) ?_
    refine j_aload_n (dt_Fi_feed 19 (39, .aload_n 0, 1) rfl) rfl ?_
    obtain ⟨x12, hx12, hf⟩ := jbind hf
    refine j_getR (dt_Fi_feed 20 (40, .getfield 12, 3) rfl) fl_X11_12 hx12 (fun _ _ => rfl) ?_
    refine j_iload (dt_Fi_feed 21 (43, .iload 4, 2) rfl) rfl ?_
    obtain ⟨V13, hV13, hf⟩ := jbind hf
    obtain ⟨b14, hb14⟩ := r_Text_append hV13
    refine j_callV M_Text_append 1 [ai v4] (rest := []) (dt_Fi_feed 22 (45, .invokevirtual 79, 3) rfl) ml_X11_79 ok_Text_append (jfit rfl rfl ⟨rfl, rfl⟩ (nle rfl) (nlt rfl)) rfl rfl (nle rfl) ⟨rfl, rfl⟩ hb14 ((c_Text_append hV13)) ?_
    refine j_aload_n (dt_Fi_feed 23 (48, .aload_n 0, 1) rfl) rfl ?_
    obtain ⟨x15, hx15, hf⟩ := jbind hf
    refine j_getR (dt_Fi_feed 24 (49, .getfield 12, 3) rfl) fl_X11_12 hx15 (fun _ _ => rfl) ?_
    refine j_iload (dt_Fi_feed 25 (52, .iload 5, 2) rfl) rfl ?_
    obtain ⟨V16, hV16, hf⟩ := jbind hf
    obtain ⟨b17, hb17⟩ := r_Text_append hV16
    refine j_callV M_Text_append 1 [ai v5] (rest := []) (dt_Fi_feed 26 (54, .invokevirtual 79, 3) rfl) ml_X11_79 ok_Text_append (jfit rfl rfl ⟨rfl, rfl⟩ (nle rfl) (nlt rfl)) rfl rfl (nle rfl) ⟨rfl, rfl⟩ hb17 ((c_Text_append hV16)) ?_
    refine j_aload_n (dt_Fi_feed 27 (57, .aload_n 0, 1) rfl) rfl ?_
    obtain ⟨x18, hx18, hf⟩ := jbind hf
    refine j_getR (dt_Fi_feed 28 (58, .getfield 12, 3) rfl) fl_X11_12 hx18 (fun _ _ => rfl) ?_
    obtain ⟨x19, hx19, hf⟩ := jbind hf
    refine j_getI (dt_Fi_feed 29 (61, .getfield 76, 3) rfl) fl_X11_76 hx19 (fun _ _ => rfl) ?_
    cases hf
    exact j_iret (dt_Fi_feed 30 (64, .ireturn, 1) rfl) rfl
  · refine j_icmp_le (dt_Fi_feed 4 (10, .if_icmp .le 5, 3) rfl) rfl (fun q => absurd q hc) (fun _ => ?_)
    refine j_iconst (dt_Fi_feed 5 (13, .iconst (-1), 1) rfl) ic_m1 ?_
    cases hf
    exact j_iret (dt_Fi_feed 6 (14, .ireturn, 1) rfl) rfl
theorem r_Fi_feed {S : hS} {V : hV} {v0 : Option Nat} {v1 : Int32} {v2 : Int32} {v3 : Int32} {v4 : Int32} {v5 : Int32} {res : Int32 × hV} (hf : Fi_feed S v0 v1 v2 v3 v4 v5 V = some res) : ∃ b, rc S 11 v0 = some b := by
  unfold Fi_feed at hf
  obtain ⟨b, hb, _⟩ := jbind hf
  exact ⟨b, hb⟩
def tb_Fi_end : List (Nat × Instr × Nat) := [(0, .aload_n 0, 1), (1, .getfield 12, 3), (4, .iload_n 1, 1), (5, .invokevirtual 82, 3), (8, .ireturn, 1)]
theorem dt_Fi_end (i : Nat) (q : Nat × Instr × Nat) (h : tb_Fi_end[i]? = some q) : decode prog_1_method_3_code q.1 = .ok q.2 := jdt (by decide +kernel : tb_Fi_end.all (fun q => decide (decode prog_1_method_3_code q.1 = .ok q.2)) = true) h
theorem ok_Fi_end : jOKV M_Fi_end 1 := ⟨⟨gt3 108 rfl rfl, gt1 1 rfl rfl, (by decide : "FirstIn" ≠ "java/lang/invoke/MethodHandle"), (by decide : "FirstIn" ≠ "java/lang/invoke/VarHandle"), (by decide +kernel : (parseMethodDescriptor "(I)Z").map (fun d => d.parameters.length) = some 1)⟩, gt3 106 rfl rfl, gt3 107 rfl rfl, rfl, nlt rfl⟩
set_option maxRecDepth 100000 in
set_option maxHeartbeats 4000000 in
theorem c_Fi_end {G : jG} {S : hS} {V : hV} {v0 : Option Nat} {v1 : Int32} {res : Int32 × hV} (hf : Fi_end S v0 v1 V = some res) : jC G M_Fi_end [ar v0, ai v1] (S, V) (some (ai res.1)) (S, res.2) := by
  unfold Fi_end at hf
  obtain ⟨_, _, hf⟩ := jbind hf
  refine jC_of (pf_X11 _ _) rfl (nle rfl) ?_
  show jJ G M_Fi_end (jEnd G M_Fi_end (some (ai res.1)) (S, res.2)) 0 0 0 [(0, ar v0), (1, ai v1)] [] (S, V)
  refine j_aload_n (dt_Fi_end 0 (0, .aload_n 0, 1) rfl) rfl ?_
  obtain ⟨x1, hx1, hf⟩ := jbind hf
  refine j_getR (dt_Fi_end 1 (1, .getfield 12, 3) rfl) fl_X11_12 hx1 (fun _ _ => rfl) ?_
  refine j_iload_n (dt_Fi_end 2 (4, .iload_n 1, 1) rfl) rfl ?_
  obtain ⟨w2, hw2, hf⟩ := jbind hf
  obtain ⟨b3, hb3⟩ := r_Text_cutTo hw2
  refine j_callV M_Text_cutTo 1 [ai v1] (rest := []) (dt_Fi_end 3 (5, .invokevirtual 82, 3) rfl) ml_X11_82 ok_Text_cutTo (jfit rfl rfl ⟨rfl, rfl⟩ (nle rfl) (nlt rfl)) rfl rfl (nle rfl) ⟨rfl, rfl⟩ hb3 ((c_Text_cutTo hw2)) ?_
  cases hf
  exact j_zretN (dt_Fi_end 4 (8, .ireturn, 1) rfl) rfl
theorem r_Fi_end {S : hS} {V : hV} {v0 : Option Nat} {v1 : Int32} {res : Int32 × hV} (hf : Fi_end S v0 v1 V = some res) : ∃ b, rc S 11 v0 = some b := by
  unfold Fi_end at hf
  obtain ⟨b, hb, _⟩ := jbind hf
  exact ⟨b, hb⟩
def tb_Reader_isKeyword : List (Nat × Instr × Nat) := [(0, .lload_n 1, 1), (1, .aload_n 0, 1), (2, .getfield 17, 3), (5, .lcmp, 1), (6, .ifCond .eq 75, 3), (9, .lload_n 1, 1), (10, .aload_n 0, 1), (11, .getfield 25, 3), (14, .lcmp, 1), (15, .ifCond .eq 66, 3), (18, .lload_n 1, 1), (19, .aload_n 0, 1), (20, .getfield 30, 3), (23, .lcmp, 1), (24, .ifCond .eq 57, 3), (27, .lload_n 1, 1), (28, .aload_n 0, 1), (29, .getfield 35, 3), (32, .lcmp, 1), (33, .ifCond .eq 48, 3), (36, .lload_n 1, 1), (37, .aload_n 0, 1), (38, .getfield 40, 3), (41, .lcmp, 1), (42, .ifCond .eq 39, 3), (45, .lload_n 1, 1), (46, .aload_n 0, 1), (47, .getfield 45, 3), (50, .lcmp, 1), (51, .ifCond .eq 30, 3), (54, .lload_n 1, 1), (55, .aload_n 0, 1), (56, .getfield 50, 3), (59, .lcmp, 1), (60, .ifCond .eq 21, 3), (63, .lload_n 1, 1), (64, .aload_n 0, 1), (65, .getfield 55, 3), (68, .lcmp, 1), (69, .ifCond .eq 12, 3), (72, .lload_n 1, 1), (73, .aload_n 0, 1), (74, .getfield 60, 3), (77, .lcmp, 1), (78, .ifCond .ne 7, 3), (81, .iconst 1, 1), (82, .goto 4, 3), (85, .iconst 0, 1), (86, .ireturn, 1)]
theorem dt_Reader_isKeyword (i : Nat) (q : Nat × Instr × Nat) (h : tb_Reader_isKeyword[i]? = some q) : decode prog_7_method_12_code q.1 = .ok q.2 := jdt (by decide +kernel : tb_Reader_isKeyword.all (fun q => decide (decode prog_7_method_12_code q.1 = .ok q.2)) = true) h
theorem ok_Reader_isKeyword : jOKV M_Reader_isKeyword 1 := ⟨⟨gt3 163 rfl rfl, gt1 3 rfl rfl, (by decide : "FirstIn$Reader" ≠ "java/lang/invoke/MethodHandle"), (by decide : "FirstIn$Reader" ≠ "java/lang/invoke/VarHandle"), (by decide +kernel : (parseMethodDescriptor "(J)Z").map (fun d => d.parameters.length) = some 1)⟩, gt3 161 rfl rfl, gt3 162 rfl rfl, rfl, nlt rfl⟩
set_option maxRecDepth 100000 in
set_option maxHeartbeats 4000000 in
theorem c_Reader_isKeyword {G : jG} {S : hS} {V : hV} {v0 : Option Nat} {v1 : Int64} {res : Int32} (hf : Reader_isKeyword S v0 v1 V = some res) : jC G M_Reader_isKeyword [ar v0, al v1] (S, V) (some (ai res)) (S, V) := by
  unfold Reader_isKeyword at hf
  obtain ⟨_, _, hf⟩ := jbind hf
  refine jC_of (pf_X5 _ _) rfl (nle rfl) ?_
  show jJ G M_Reader_isKeyword (jEnd G M_Reader_isKeyword (some (ai res)) (S, V)) 0 0 0 [(0, ar v0), (1, al v1)] [] (S, V)
  refine j_lload_n (dt_Reader_isKeyword 0 (0, .lload_n 1, 1) rfl) rfl ?_
  refine j_aload_n (dt_Reader_isKeyword 1 (1, .aload_n 0, 1) rfl) rfl ?_
  obtain ⟨x1, hx1, hf⟩ := jbind hf
  refine j_getL (dt_Reader_isKeyword 2 (2, .getfield 17, 3) rfl) fl_X5_17 hx1 (fun _ _ => rfl) ?_
  refine j_lcmp (dt_Reader_isKeyword 3 (5, .lcmp, 1) rfl) ?_
  refine jite hf (fun hc hf => ?_) (fun hc hf => ?_)
  · refine j_if_eq (dt_Reader_isKeyword 4 (6, .ifCond .eq 75, 3) rfl) rfl (fun _ => ?_) (fun q => absurd hc q)
    refine j_iconst (dt_Reader_isKeyword 45 (81, .iconst 1, 1) rfl) ic_1 ?_
    refine j_goto (dt_Reader_isKeyword 46 (82, .goto 4, 3) rfl) rfl ?_
    cases hf
    exact j_zret (x := 1) (dt_Reader_isKeyword 48 (86, .ireturn, 1) rfl) rfl rfl
  · refine j_if_eq (dt_Reader_isKeyword 4 (6, .ifCond .eq 75, 3) rfl) rfl (fun q => absurd q hc) (fun _ => ?_)
    refine j_lload_n (dt_Reader_isKeyword 5 (9, .lload_n 1, 1) rfl) rfl ?_
    refine j_aload_n (dt_Reader_isKeyword 6 (10, .aload_n 0, 1) rfl) rfl ?_
    obtain ⟨x2, hx2, hf⟩ := jbind hf
    refine j_getL (dt_Reader_isKeyword 7 (11, .getfield 25, 3) rfl) fl_X5_25 hx2 (fun _ _ => rfl) ?_
    refine j_lcmp (dt_Reader_isKeyword 8 (14, .lcmp, 1) rfl) ?_
    refine jite hf (fun hc hf => ?_) (fun hc hf => ?_)
    · refine j_if_eq (dt_Reader_isKeyword 9 (15, .ifCond .eq 66, 3) rfl) rfl (fun _ => ?_) (fun q => absurd hc q)
      refine j_iconst (dt_Reader_isKeyword 45 (81, .iconst 1, 1) rfl) ic_1 ?_
      refine j_goto (dt_Reader_isKeyword 46 (82, .goto 4, 3) rfl) rfl ?_
      cases hf
      exact j_zret (x := 1) (dt_Reader_isKeyword 48 (86, .ireturn, 1) rfl) rfl rfl
    · refine j_if_eq (dt_Reader_isKeyword 9 (15, .ifCond .eq 66, 3) rfl) rfl (fun q => absurd q hc) (fun _ => ?_)
      refine j_lload_n (dt_Reader_isKeyword 10 (18, .lload_n 1, 1) rfl) rfl ?_
      refine j_aload_n (dt_Reader_isKeyword 11 (19, .aload_n 0, 1) rfl) rfl ?_
      obtain ⟨x3, hx3, hf⟩ := jbind hf
      refine j_getL (dt_Reader_isKeyword 12 (20, .getfield 30, 3) rfl) fl_X5_30 hx3 (fun _ _ => rfl) ?_
      refine j_lcmp (dt_Reader_isKeyword 13 (23, .lcmp, 1) rfl) ?_
      refine jite hf (fun hc hf => ?_) (fun hc hf => ?_)
      · refine j_if_eq (dt_Reader_isKeyword 14 (24, .ifCond .eq 57, 3) rfl) rfl (fun _ => ?_) (fun q => absurd hc q)
        refine j_iconst (dt_Reader_isKeyword 45 (81, .iconst 1, 1) rfl) ic_1 ?_
        refine j_goto (dt_Reader_isKeyword 46 (82, .goto 4, 3) rfl) rfl ?_
        cases hf
        exact j_zret (x := 1) (dt_Reader_isKeyword 48 (86, .ireturn, 1) rfl) rfl rfl
      · refine j_if_eq (dt_Reader_isKeyword 14 (24, .ifCond .eq 57, 3) rfl) rfl (fun q => absurd q hc) (fun _ => ?_)
        refine j_lload_n (dt_Reader_isKeyword 15 (27, .lload_n 1, 1) rfl) rfl ?_
        refine j_aload_n (dt_Reader_isKeyword 16 (28, .aload_n 0, 1) rfl) rfl ?_
        obtain ⟨x4, hx4, hf⟩ := jbind hf
        refine j_getL (dt_Reader_isKeyword 17 (29, .getfield 35, 3) rfl) fl_X5_35 hx4 (fun _ _ => rfl) ?_
        refine j_lcmp (dt_Reader_isKeyword 18 (32, .lcmp, 1) rfl) ?_
        refine jite hf (fun hc hf => ?_) (fun hc hf => ?_)
        · refine j_if_eq (dt_Reader_isKeyword 19 (33, .ifCond .eq 48, 3) rfl) rfl (fun _ => ?_) (fun q => absurd hc q)
          refine j_iconst (dt_Reader_isKeyword 45 (81, .iconst 1, 1) rfl) ic_1 ?_
          refine j_goto (dt_Reader_isKeyword 46 (82, .goto 4, 3) rfl) rfl ?_
          cases hf
          exact j_zret (x := 1) (dt_Reader_isKeyword 48 (86, .ireturn, 1) rfl) rfl rfl
        · refine j_if_eq (dt_Reader_isKeyword 19 (33, .ifCond .eq 48, 3) rfl) rfl (fun q => absurd q hc) (fun _ => ?_)
          refine j_lload_n (dt_Reader_isKeyword 20 (36, .lload_n 1, 1) rfl) rfl ?_
          refine j_aload_n (dt_Reader_isKeyword 21 (37, .aload_n 0, 1) rfl) rfl ?_
          obtain ⟨x5, hx5, hf⟩ := jbind hf
          refine j_getL (dt_Reader_isKeyword 22 (38, .getfield 40, 3) rfl) fl_X5_40 hx5 (fun _ _ => rfl) ?_
          refine j_lcmp (dt_Reader_isKeyword 23 (41, .lcmp, 1) rfl) ?_
          refine jite hf (fun hc hf => ?_) (fun hc hf => ?_)
          · refine j_if_eq (dt_Reader_isKeyword 24 (42, .ifCond .eq 39, 3) rfl) rfl (fun _ => ?_) (fun q => absurd hc q)
            refine j_iconst (dt_Reader_isKeyword 45 (81, .iconst 1, 1) rfl) ic_1 ?_
            refine j_goto (dt_Reader_isKeyword 46 (82, .goto 4, 3) rfl) rfl ?_
            cases hf
            exact j_zret (x := 1) (dt_Reader_isKeyword 48 (86, .ireturn, 1) rfl) rfl rfl
          · refine j_if_eq (dt_Reader_isKeyword 24 (42, .ifCond .eq 39, 3) rfl) rfl (fun q => absurd q hc) (fun _ => ?_)
            refine j_lload_n (dt_Reader_isKeyword 25 (45, .lload_n 1, 1) rfl) rfl ?_
            refine j_aload_n (dt_Reader_isKeyword 26 (46, .aload_n 0, 1) rfl) rfl ?_
            obtain ⟨x6, hx6, hf⟩ := jbind hf
            refine j_getL (dt_Reader_isKeyword 27 (47, .getfield 45, 3) rfl) fl_X5_45 hx6 (fun _ _ => rfl) ?_
            refine j_lcmp (dt_Reader_isKeyword 28 (50, .lcmp, 1) rfl) ?_
            refine jite hf (fun hc hf => ?_) (fun hc hf => ?_)
            · refine j_if_eq (dt_Reader_isKeyword 29 (51, .ifCond .eq 30, 3) rfl) rfl (fun _ => ?_) (fun q => absurd hc q)
              refine j_iconst (dt_Reader_isKeyword 45 (81, .iconst 1, 1) rfl) ic_1 ?_
              refine j_goto (dt_Reader_isKeyword 46 (82, .goto 4, 3) rfl) rfl ?_
              cases hf
              exact j_zret (x := 1) (dt_Reader_isKeyword 48 (86, .ireturn, 1) rfl) rfl rfl
            · refine j_if_eq (dt_Reader_isKeyword 29 (51, .ifCond .eq 30, 3) rfl) rfl (fun q => absurd q hc) (fun _ => ?_)
              refine j_lload_n (dt_Reader_isKeyword 30 (54, .lload_n 1, 1) rfl) rfl ?_
              refine j_aload_n (dt_Reader_isKeyword 31 (55, .aload_n 0, 1) rfl) rfl ?_
              obtain ⟨x7, hx7, hf⟩ := jbind hf
              refine j_getL (dt_Reader_isKeyword 32 (56, .getfield 50, 3) rfl) fl_X5_50 hx7 (fun _ _ => rfl) ?_
              refine j_lcmp (dt_Reader_isKeyword 33 (59, .lcmp, 1) rfl) ?_
              refine jite hf (fun hc hf => ?_) (fun hc hf => ?_)
              · refine j_if_eq (dt_Reader_isKeyword 34 (60, .ifCond .eq 21, 3) rfl) rfl (fun _ => ?_) (fun q => absurd hc q)
                refine j_iconst (dt_Reader_isKeyword 45 (81, .iconst 1, 1) rfl) ic_1 ?_
                refine j_goto (dt_Reader_isKeyword 46 (82, .goto 4, 3) rfl) rfl ?_
                cases hf
                exact j_zret (x := 1) (dt_Reader_isKeyword 48 (86, .ireturn, 1) rfl) rfl rfl
              · refine j_if_eq (dt_Reader_isKeyword 34 (60, .ifCond .eq 21, 3) rfl) rfl (fun q => absurd q hc) (fun _ => ?_)
                refine j_lload_n (dt_Reader_isKeyword 35 (63, .lload_n 1, 1) rfl) rfl ?_
                refine j_aload_n (dt_Reader_isKeyword 36 (64, .aload_n 0, 1) rfl) rfl ?_
                obtain ⟨x8, hx8, hf⟩ := jbind hf
                refine j_getL (dt_Reader_isKeyword 37 (65, .getfield 55, 3) rfl) fl_X5_55 hx8 (fun _ _ => rfl) ?_
                refine j_lcmp (dt_Reader_isKeyword 38 (68, .lcmp, 1) rfl) ?_
                refine jite hf (fun hc hf => ?_) (fun hc hf => ?_)
                · refine j_if_eq (dt_Reader_isKeyword 39 (69, .ifCond .eq 12, 3) rfl) rfl (fun _ => ?_) (fun q => absurd hc q)
                  refine j_iconst (dt_Reader_isKeyword 45 (81, .iconst 1, 1) rfl) ic_1 ?_
                  refine j_goto (dt_Reader_isKeyword 46 (82, .goto 4, 3) rfl) rfl ?_
                  cases hf
                  exact j_zret (x := 1) (dt_Reader_isKeyword 48 (86, .ireturn, 1) rfl) rfl rfl
                · refine j_if_eq (dt_Reader_isKeyword 39 (69, .ifCond .eq 12, 3) rfl) rfl (fun q => absurd q hc) (fun _ => ?_)
                  refine j_lload_n (dt_Reader_isKeyword 40 (72, .lload_n 1, 1) rfl) rfl ?_
                  refine j_aload_n (dt_Reader_isKeyword 41 (73, .aload_n 0, 1) rfl) rfl ?_
                  obtain ⟨x9, hx9, hf⟩ := jbind hf
                  refine j_getL (dt_Reader_isKeyword 42 (74, .getfield 60, 3) rfl) fl_X5_60 hx9 (fun _ _ => rfl) ?_
                  refine j_lcmp (dt_Reader_isKeyword 43 (77, .lcmp, 1) rfl) ?_
                  refine jite hf (fun hc hf => ?_) (fun hc hf => ?_)
                  · refine j_if_ne (dt_Reader_isKeyword 44 (78, .ifCond .ne 7, 3) rfl) rfl (fun q => absurd hc q) (fun _ => ?_)
                    refine j_iconst (dt_Reader_isKeyword 45 (81, .iconst 1, 1) rfl) ic_1 ?_
                    refine j_goto (dt_Reader_isKeyword 46 (82, .goto 4, 3) rfl) rfl ?_
                    cases hf
                    exact j_zret (x := 1) (dt_Reader_isKeyword 48 (86, .ireturn, 1) rfl) rfl rfl
                  · refine j_if_ne (dt_Reader_isKeyword 44 (78, .ifCond .ne 7, 3) rfl) rfl (fun _ => ?_) (fun q => absurd q hc)
                    refine j_iconst (dt_Reader_isKeyword 47 (85, .iconst 0, 1) rfl) ic_0 ?_
                    cases hf
                    exact j_zret (x := 0) (dt_Reader_isKeyword 48 (86, .ireturn, 1) rfl) rfl rfl
theorem r_Reader_isKeyword {S : hS} {V : hV} {v0 : Option Nat} {v1 : Int64} {res : Int32} (hf : Reader_isKeyword S v0 v1 V = some res) : ∃ b, rc S 5 v0 = some b := by
  unfold Reader_isKeyword at hf
  obtain ⟨b, hb, _⟩ := jbind hf
  exact ⟨b, hb⟩
def tb_Reader_meaning : List (Nat × Instr × Nat) := [(0, .iconst 0, 1), (1, .istore_n 1, 1), (2, .iload_n 1, 1), (3, .aload_n 0, 1), (4, .getfield 71, 3), (7, .if_icmp .ge 38, 3), (10, .iload_n 1, 1), (11, .bipush 15, 2), (13, .if_icmp .ge 32, 3), (16, .aload_n 0, 1), (17, .getfield 75, 3), (20, .aload_n 0, 1), (21, .getfield 63, 3), (24, .iload_n 1, 1), (25, .laload, 1), (26, .invokevirtual 100, 3), (29, .ifCond .eq 10, 3), (32, .aload_n 0, 1), (33, .getfield 67, 3), (36, .iload_n 1, 1), (37, .iaload, 1), (38, .ireturn, 1), (39, .iinc 1 1, 3), (42, .goto (-40), 3), (45, .iconst (-1), 1), (46, .ireturn, 1)]
theorem dt_Reader_meaning (i : Nat) (q : Nat × Instr × Nat) (h : tb_Reader_meaning[i]? = some q) : decode prog_7_method_13_code q.1 = .ok q.2 := jdt (by decide +kernel : tb_Reader_meaning.all (fun q => decide (decode prog_7_method_13_code q.1 = .ok q.2)) = true) h
theorem ok_Reader_meaning : jOKV M_Reader_meaning 0 := ⟨⟨gt3 167 rfl rfl, gt1 3 rfl rfl, (by decide : "FirstIn$Reader" ≠ "java/lang/invoke/MethodHandle"), (by decide : "FirstIn$Reader" ≠ "java/lang/invoke/VarHandle"), (by decide +kernel : (parseMethodDescriptor "()I").map (fun d => d.parameters.length) = some 0)⟩, gt3 165 rfl rfl, gt3 166 rfl rfl, rfl, nlt rfl⟩
set_option maxRecDepth 100000 in
set_option maxHeartbeats 4000000 in
theorem c_Reader_meaning {G : jG} {S : hS} {V : hV} {v0 : Option Nat} {res : Int32} (hf : Reader_meaning S v0 V = some res) : jC G M_Reader_meaning [ar v0] (S, V) (some (ai res)) (S, V) := by
  unfold Reader_meaning at hf
  obtain ⟨_, _, hf⟩ := jbind hf
  refine jC_of (pf_X5 _ _) rfl (nle rfl) ?_
  show jJ G M_Reader_meaning (jEnd G M_Reader_meaning (some (ai res)) (S, V)) 0 0 0 [(0, ar v0)] [] (S, V)
  refine j_iconst (dt_Reader_meaning 0 (0, .iconst 0, 1) rfl) ic_0 ?_
  refine j_istore_n (dt_Reader_meaning 1 (1, .istore_n 1, 1) rfl) (nlt rfl) ?_
  obtain ⟨t2, ht2, hf⟩ := jbind hf
  have hX2 : ∀ q2 : Unit, t2 = .inl q2 → jJ G M_Reader_meaning (jEnd G M_Reader_meaning (some (ai res)) (S, V)) 0 0 45 [] [] (S, V) := by
    intro q2 hq2
    subst hq2
    refine j_iconst (dt_Reader_meaning 24 (45, .iconst (-1), 1) rfl) ic_m1 ?_
    cases hf
    exact j_iret (dt_Reader_meaning 25 (46, .ireturn, 1) rfl) rfl
  have hR2 : ∀ v : Int32, t2 = .inr v → v = res := by
    intro v hv
    subst hv
    cases hf
    rfl
  refine j_sub (ls' := [(0, ar v0), (1, ai 0)]) rfl ?_
  refine jloop_J (C := fun s2 => jJ G M_Reader_meaning (jEnd G M_Reader_meaning (some (ai res)) (S, V)) 0 0 2 [(0, ar v0), (1, ai s2)] [] (S, V)) (fun s2 z2_ hy2 hin2 hout2 => ?_) _ _ ht2
  unfold Reader_meaning_L2 at hy2
  refine j_iload_n (dt_Reader_meaning 2 (2, .iload_n 1, 1) rfl) rfl ?_
  refine j_aload_n (dt_Reader_meaning 3 (3, .aload_n 0, 1) rfl) rfl ?_
  obtain ⟨x1, hx1, hy2⟩ := jbind hy2
  refine j_getI (dt_Reader_meaning 4 (4, .getfield 71, 3) rfl) fl_X5_71 hx1 (fun _ _ => rfl) ?_
  refine jite hy2 (fun hc hy2 => ?_) (fun hc hy2 => ?_)
  · refine j_icmp_ge (dt_Reader_meaning 5 (7, .if_icmp .ge 38, 3) rfl) rfl (fun _ => ?_) (fun q => absurd hc q)
    cases hy2
    have hz := hX2 _ (hout2 _ rfl).symm
    exact j_sub rfl hz
  · refine j_icmp_ge (dt_Reader_meaning 5 (7, .if_icmp .ge 38, 3) rfl) rfl (fun q => absurd q hc) (fun _ => ?_)
    refine j_iload_n (dt_Reader_meaning 6 (10, .iload_n 1, 1) rfl) rfl ?_
    refine j_bipush (dt_Reader_meaning 7 (11, .bipush 15, 2) rfl) bp_15 ?_
    refine jite hy2 (fun hc hy2 => ?_) (fun hc hy2 => ?_)
    · refine j_icmp_ge (dt_Reader_meaning 8 (13, .if_icmp .ge 32, 3) rfl) rfl (fun _ => ?_) (fun q => absurd hc q)
      cases hy2
      have hz := hX2 _ (hout2 _ rfl).symm
      exact j_sub rfl hz
    · refine j_icmp_ge (dt_Reader_meaning 8 (13, .if_icmp .ge 32, 3) rfl) rfl (fun q => absurd q hc) (fun _ => ?_)
      refine j_aload_n (dt_Reader_meaning 9 (16, .aload_n 0, 1) rfl) rfl ?_
      obtain ⟨x2, hx2, hy2⟩ := jbind hy2
      refine j_getR (dt_Reader_meaning 10 (17, .getfield 75, 3) rfl) fl_X5_75 hx2 (fun _ _ => rfl) ?_
      refine j_aload_n (dt_Reader_meaning 11 (20, .aload_n 0, 1) rfl) rfl ?_
      obtain ⟨x3, hx3, hy2⟩ := jbind hy2
      refine j_getR (dt_Reader_meaning 12 (21, .getfield 63, 3) rfl) fl_X5_63 hx3 (fun _ _ => rfl) ?_
      refine j_iload_n (dt_Reader_meaning 13 (24, .iload_n 1, 1) rfl) rfl ?_
      obtain ⟨x4, hx4, hy2⟩ := jbind hy2
      refine j_aldL (dt_Reader_meaning 14 (25, .laload, 1) rfl) hx4 ?_
      obtain ⟨x5, hx5, hy2⟩ := jbind hy2
      obtain ⟨b6, hb6⟩ := r_Text_isWord hx5
      refine j_callV M_Text_isWord 1 [al x4] (rest := []) (dt_Reader_meaning 15 (26, .invokevirtual 100, 3) rfl) ml_X5_100 ok_Text_isWord (jfit rfl rfl ⟨rfl, rfl⟩ (nle rfl) (nlt rfl)) rfl rfl (nle rfl) ⟨rfl, rfl⟩ hb6 ((c_Text_isWord hx5)) ?_
      refine jite hy2 (fun hc hy2 => ?_) (fun hc hy2 => ?_)
      · refine j_if_eq (dt_Reader_meaning 16 (29, .ifCond .eq 10, 3) rfl) rfl (fun _ => ?_) (fun q => absurd hc q)
        refine j_iinc (dt_Reader_meaning 22 (39, .iinc 1 1, 3) rfl) rfl (nlt rfl) (ii_1 _) ?_
        refine j_goto (dt_Reader_meaning 23 (42, .goto (-40), 3) rfl) rfl ?_
        cases hy2
        have hz := hin2 _ rfl
        exact j_sub rfl hz
      · refine j_if_eq (dt_Reader_meaning 16 (29, .ifCond .eq 10, 3) rfl) rfl (fun q => absurd q hc) (fun _ => ?_)
        refine j_aload_n (dt_Reader_meaning 17 (32, .aload_n 0, 1) rfl) rfl ?_
        obtain ⟨x7, hx7, hy2⟩ := jbind hy2
        refine j_getR (dt_Reader_meaning 18 (33, .getfield 67, 3) rfl) fl_X5_67 hx7 (fun _ _ => rfl) ?_
        refine j_iload_n (dt_Reader_meaning 19 (36, .iload_n 1, 1) rfl) rfl ?_
        obtain ⟨x8, hx8, hy2⟩ := jbind hy2
        refine j_aldI (dt_Reader_meaning 20 (37, .iaload, 1) rfl) hx8 ?_
        cases hy2
        obtain rfl := hR2 _ (hout2 _ rfl).symm
        exact j_iret (dt_Reader_meaning 21 (38, .ireturn, 1) rfl) rfl
theorem r_Reader_meaning {S : hS} {V : hV} {v0 : Option Nat} {res : Int32} (hf : Reader_meaning S v0 V = some res) : ∃ b, rc S 5 v0 = some b := by
  unfold Reader_meaning at hf
  obtain ⟨b, hb, _⟩ := jbind hf
  exact ⟨b, hb⟩
def tb_Reader_readNewName : List (Nat × Instr × Nat) := [(0, .aload_n 0, 1), (1, .getfield 75, 3), (4, .getfield 87, 3), (7, .iconst 1, 1), (8, .if_icmp .ne 21, 3), (11, .aload_n 0, 1), (12, .getfield 75, 3), (15, .getfield 160, 3), (18, .ldc2_w 186, 3), (21, .lcmp, 1), (22, .ifCond .ge 7, 3), (25, .iconst 1, 1), (26, .goto 4, 3), (29, .iconst 0, 1), (30, .istore_n 2, 1), (31, .iload_n 2, 1), (32, .ifCond .eq 41, 3), (35, .aload_n 0, 1), (36, .aload_n 0, 1), (37, .getfield 75, 3), (40, .getfield 160, 3), (43, .invokevirtual 188, 3), (46, .ifCond .ne 27, 3), (49, .aload_n 0, 1), (50, .invokevirtual 130, 3), (53, .iconst (-1), 1), (54, .if_icmp .ne 19, 3), (57, .aload_n 0, 1), (58, .getfield 71, 3), (61, .ifCond .lt 12, 3), (64, .aload_n 0, 1), (65, .getfield 71, 3), (68, .bipush 15, 2), (70, .if_icmp .lt 5, 3), (73, .iconst 0, 1), (74, .ireturn, 1), (75, .aload_n 0, 1), (76, .getfield 63, 3), (79, .aload_n 0, 1), (80, .getfield 71, 3), (83, .aload_n 0, 1), (84, .getfield 75, 3), (87, .getfield 160, 3), (90, .lastore, 1), (91, .aload_n 0, 1), (92, .getfield 67, 3), (95, .aload_n 0, 1), (96, .getfield 71, 3), (99, .iload_n 1, 1), (100, .iastore, 1), (101, .aload_n 0, 1), (102, .dup, 1), (103, .getfield 71, 3), (106, .iconst 1, 1), (107, .iadd, 1), (108, .putfield 71, 3), (111, .aload_n 0, 1), (112, .getfield 75, 3), (115, .invokevirtual 113, 3), (118, .iconst 1, 1), (119, .ireturn, 1)]
theorem dt_Reader_readNewName (i : Nat) (q : Nat × Instr × Nat) (h : tb_Reader_readNewName[i]? = some q) : decode prog_7_method_11_code q.1 = .ok q.2 := jdt (by decide +kernel : tb_Reader_readNewName.all (fun q => decide (decode prog_7_method_11_code q.1 = .ok q.2)) = true) h
theorem ok_Reader_readNewName : jOKV M_Reader_readNewName 1 := ⟨⟨gt3 158 rfl rfl, gt1 3 rfl rfl, (by decide : "FirstIn$Reader" ≠ "java/lang/invoke/MethodHandle"), (by decide : "FirstIn$Reader" ≠ "java/lang/invoke/VarHandle"), (by decide +kernel : (parseMethodDescriptor "(I)Z").map (fun d => d.parameters.length) = some 1)⟩, gt3 156 rfl rfl, gt3 157 rfl rfl, rfl, nlt rfl⟩
set_option maxRecDepth 100000 in
set_option maxHeartbeats 4000000 in
theorem c_Reader_readNewName {G : jG} {S : hS} {V : hV} {v0 : Option Nat} {v1 : Int32} {res : Int32 × hV} (hf : Reader_readNewName S v0 v1 V = some res) : jC G M_Reader_readNewName [ar v0, ai v1] (S, V) (some (ai res.1)) (S, res.2) := by
  unfold Reader_readNewName at hf
  obtain ⟨_, _, hf⟩ := jbind hf
  refine jC_of (pf_X5 _ _) rfl (nle rfl) ?_
  show jJ G M_Reader_readNewName (jEnd G M_Reader_readNewName (some (ai res.1)) (S, res.2)) 0 0 0 [(0, ar v0), (1, ai v1)] [] (S, V)
  refine j_aload_n (dt_Reader_readNewName 0 (0, .aload_n 0, 1) rfl) rfl ?_
  obtain ⟨x1, hx1, hf⟩ := jbind hf
  refine j_getR (dt_Reader_readNewName 1 (1, .getfield 75, 3) rfl) fl_X5_75 hx1 (fun _ _ => rfl) ?_
  obtain ⟨x2, hx2, hf⟩ := jbind hf
  refine j_getI (dt_Reader_readNewName 2 (4, .getfield 87, 3) rfl) fl_X5_87 hx2 (fun _ _ => rfl) ?_
  refine j_iconst (dt_Reader_readNewName 3 (7, .iconst 1, 1) rfl) ic_1 ?_
  obtain ⟨j8, hj8, hf⟩ := jbind hf
  have hP8 : jJ G M_Reader_readNewName (jEnd G M_Reader_readNewName (some (ai res.1)) (S, res.2)) 0 0 30 [(0, ar v0), (1, ai v1)] [ai j8] (S, V) := by
    refine j_istore_n (dt_Reader_readNewName 14 (30, .istore_n 2, 1) rfl) (nlt rfl) ?_
    refine j_iload_n (dt_Reader_readNewName 15 (31, .iload_n 2, 1) rfl) rfl ?_
    refine jite hf (fun hc hf => ?_) (fun hc hf => ?_)
    · refine j_if_eq (dt_Reader_readNewName 16 (32, .ifCond .eq 41, 3) rfl) rfl (fun _ => ?_) (fun q => absurd hc q)
      refine j_iconst (dt_Reader_readNewName 34 (73, .iconst 0, 1) rfl) ic_0 ?_
      cases hf
      exact j_zret (x := 0) (dt_Reader_readNewName 35 (74, .ireturn, 1) rfl) rfl rfl
    · refine j_if_eq (dt_Reader_readNewName 16 (32, .ifCond .eq 41, 3) rfl) rfl (fun q => absurd q hc) (fun _ => ?_)
      refine j_aload_n (dt_Reader_readNewName 17 (35, .aload_n 0, 1) rfl) rfl ?_
      refine j_aload_n (dt_Reader_readNewName 18 (36, .aload_n 0, 1) rfl) rfl ?_
      obtain ⟨x3, hx3, hf⟩ := jbind hf
      refine j_getR (dt_Reader_readNewName 19 (37, .getfield 75, 3) rfl) fl_X5_75 hx3 (fun _ _ => rfl) ?_
      obtain ⟨x4, hx4, hf⟩ := jbind hf
      refine j_getL (dt_Reader_readNewName 20 (40, .getfield 160, 3) rfl) fl_X5_160 hx4 (fun _ _ => rfl) ?_
      obtain ⟨x5, hx5, hf⟩ := jbind hf
      obtain ⟨b6, hb6⟩ := r_Reader_isKeyword hx5
      refine j_callV M_Reader_isKeyword 1 [al x4] (rest := []) (dt_Reader_readNewName 21 (43, .invokevirtual 188, 3) rfl) ml_X5_188 ok_Reader_isKeyword (jfit rfl rfl ⟨rfl, rfl⟩ (nle rfl) (nlt rfl)) rfl rfl (nle rfl) ⟨rfl, rfl⟩ hb6 ((c_Reader_isKeyword hx5)) ?_
      refine jite hf (fun hc hf => ?_) (fun hc hf => ?_)
      · refine j_if_ne (dt_Reader_readNewName 22 (46, .ifCond .ne 27, 3) rfl) rfl (fun q => absurd hc q) (fun _ => ?_)
        refine j_aload_n (dt_Reader_readNewName 23 (49, .aload_n 0, 1) rfl) rfl ?_
        obtain ⟨x7, hx7, hf⟩ := jbind hf
        obtain ⟨b8, hb8⟩ := r_Reader_meaning hx7
        refine j_callV M_Reader_meaning 0 [] (rest := []) (dt_Reader_readNewName 24 (50, .invokevirtual 130, 3) rfl) ml_X5_130 ok_Reader_meaning (jfit rfl rfl ⟨rfl, rfl⟩ (nle rfl) (nlt rfl)) rfl rfl (nle rfl) ⟨rfl, rfl⟩ hb8 ((c_Reader_meaning hx7)) ?_
        refine j_iconst (dt_Reader_readNewName 25 (53, .iconst (-1), 1) rfl) ic_m1 ?_
        refine jite hf (fun hc hf => ?_) (fun hc hf => ?_)
        · refine j_icmp_ne (dt_Reader_readNewName 26 (54, .if_icmp .ne 19, 3) rfl) rfl (fun q => absurd hc q) (fun _ => ?_)
          refine j_aload_n (dt_Reader_readNewName 27 (57, .aload_n 0, 1) rfl) rfl ?_
          obtain ⟨x9, hx9, hf⟩ := jbind hf
          refine j_getI (dt_Reader_readNewName 28 (58, .getfield 71, 3) rfl) fl_X5_71 hx9 (fun _ _ => rfl) ?_
          refine jite hf (fun hc hf => ?_) (fun hc hf => ?_)
          · refine j_if_lt (dt_Reader_readNewName 29 (61, .ifCond .lt 12, 3) rfl) rfl (fun _ => ?_) (fun q => absurd hc q)
            refine j_iconst (dt_Reader_readNewName 34 (73, .iconst 0, 1) rfl) ic_0 ?_
            cases hf
            exact j_zret (x := 0) (dt_Reader_readNewName 35 (74, .ireturn, 1) rfl) rfl rfl
          · refine j_if_lt (dt_Reader_readNewName 29 (61, .ifCond .lt 12, 3) rfl) rfl (fun q => absurd q hc) (fun _ => ?_)
            refine j_aload_n (dt_Reader_readNewName 30 (64, .aload_n 0, 1) rfl) rfl ?_
            obtain ⟨x10, hx10, hf⟩ := jbind hf
            refine j_getI (dt_Reader_readNewName 31 (65, .getfield 71, 3) rfl) fl_X5_71 hx10 (fun _ _ => rfl) ?_
            refine j_bipush (dt_Reader_readNewName 32 (68, .bipush 15, 2) rfl) bp_15 ?_
            refine jite hf (fun hc hf => ?_) (fun hc hf => ?_)
            · refine j_icmp_lt (dt_Reader_readNewName 33 (70, .if_icmp .lt 5, 3) rfl) rfl (fun _ => ?_) (fun q => absurd hc q)
              refine j_aload_n (dt_Reader_readNewName 36 (75, .aload_n 0, 1) rfl) rfl ?_
              obtain ⟨x11, hx11, hf⟩ := jbind hf
              refine j_getR (dt_Reader_readNewName 37 (76, .getfield 63, 3) rfl) fl_X5_63 hx11 (fun _ _ => rfl) ?_
              refine j_aload_n (dt_Reader_readNewName 38 (79, .aload_n 0, 1) rfl) rfl ?_
              obtain ⟨x12, hx12, hf⟩ := jbind hf
              refine j_getI (dt_Reader_readNewName 39 (80, .getfield 71, 3) rfl) fl_X5_71 hx12 (fun _ _ => rfl) ?_
              refine j_aload_n (dt_Reader_readNewName 40 (83, .aload_n 0, 1) rfl) rfl ?_
              obtain ⟨x13, hx13, hf⟩ := jbind hf
              refine j_getR (dt_Reader_readNewName 41 (84, .getfield 75, 3) rfl) fl_X5_75 hx13 (fun _ _ => rfl) ?_
              obtain ⟨x14, hx14, hf⟩ := jbind hf
              refine j_getL (dt_Reader_readNewName 42 (87, .getfield 160, 3) rfl) fl_X5_160 hx14 (fun _ _ => rfl) ?_
              obtain ⟨V15, hV15, hf⟩ := jbind hf
              refine j_astL (dt_Reader_readNewName 43 (90, .lastore, 1) rfl) hV15 ?_
              refine j_aload_n (dt_Reader_readNewName 44 (91, .aload_n 0, 1) rfl) rfl ?_
              obtain ⟨x16, hx16, hf⟩ := jbind hf
              refine j_getR (dt_Reader_readNewName 45 (92, .getfield 67, 3) rfl) fl_X5_67 hx16 (fun _ _ => rfl) ?_
              refine j_aload_n (dt_Reader_readNewName 46 (95, .aload_n 0, 1) rfl) rfl ?_
              obtain ⟨x17, hx17, hf⟩ := jbind hf
              refine j_getI (dt_Reader_readNewName 47 (96, .getfield 71, 3) rfl) fl_X5_71 hx17 (fun _ _ => rfl) ?_
              refine j_iload_n (dt_Reader_readNewName 48 (99, .iload_n 1, 1) rfl) rfl ?_
              obtain ⟨V18, hV18, hf⟩ := jbind hf
              refine j_astI (dt_Reader_readNewName 49 (100, .iastore, 1) rfl) hV18 ?_
              refine j_aload_n (dt_Reader_readNewName 50 (101, .aload_n 0, 1) rfl) rfl ?_
              refine j_dup (dt_Reader_readNewName 51 (102, .dup, 1) rfl) rfl ?_
              obtain ⟨x19, hx19, hf⟩ := jbind hf
              refine j_getI (dt_Reader_readNewName 52 (103, .getfield 71, 3) rfl) fl_X5_71 hx19 (fun _ _ => rfl) ?_
              refine j_iconst (dt_Reader_readNewName 53 (106, .iconst 1, 1) rfl) ic_1 ?_
              refine j_iadd (dt_Reader_readNewName 54 (107, .iadd, 1) rfl) ?_
              obtain ⟨V20, hV20, hf⟩ := jbind hf
              refine j_putI (dt_Reader_readNewName 55 (108, .putfield 71, 3) rfl) fl_X5_71 hV20 rfl (Or.inl rfl) ?_
              refine j_aload_n (dt_Reader_readNewName 56 (111, .aload_n 0, 1) rfl) rfl ?_
              obtain ⟨x21, hx21, hf⟩ := jbind hf
              refine j_getR (dt_Reader_readNewName 57 (112, .getfield 75, 3) rfl) fl_X5_75 hx21 (fun _ _ => rfl) ?_
              obtain ⟨V22, hV22, hf⟩ := jbind hf
              obtain ⟨b23, hb23⟩ := r_Text_advance hV22
              refine j_callV M_Text_advance 0 [] (rest := []) (dt_Reader_readNewName 58 (115, .invokevirtual 113, 3) rfl) ml_X5_113 ok_Text_advance (jfit rfl rfl ⟨rfl, rfl⟩ (nle rfl) (nlt rfl)) rfl rfl (nle rfl) ⟨rfl, rfl⟩ hb23 ((c_Text_advance hV22)) ?_
              refine j_iconst (dt_Reader_readNewName 59 (118, .iconst 1, 1) rfl) ic_1 ?_
              cases hf
              exact j_zret (x := 1) (dt_Reader_readNewName 60 (119, .ireturn, 1) rfl) rfl rfl
            · refine j_icmp_lt (dt_Reader_readNewName 33 (70, .if_icmp .lt 5, 3) rfl) rfl (fun q => absurd q hc) (fun _ => ?_)
              refine j_iconst (dt_Reader_readNewName 34 (73, .iconst 0, 1) rfl) ic_0 ?_
              cases hf
              exact j_zret (x := 0) (dt_Reader_readNewName 35 (74, .ireturn, 1) rfl) rfl rfl
        · refine j_icmp_ne (dt_Reader_readNewName 26 (54, .if_icmp .ne 19, 3) rfl) rfl (fun _ => ?_) (fun q => absurd q hc)
          refine j_iconst (dt_Reader_readNewName 34 (73, .iconst 0, 1) rfl) ic_0 ?_
          cases hf
          exact j_zret (x := 0) (dt_Reader_readNewName 35 (74, .ireturn, 1) rfl) rfl rfl
      · refine j_if_ne (dt_Reader_readNewName 22 (46, .ifCond .ne 27, 3) rfl) rfl (fun _ => ?_) (fun q => absurd q hc)
        refine j_iconst (dt_Reader_readNewName 34 (73, .iconst 0, 1) rfl) ic_0 ?_
        cases hf
        exact j_zret (x := 0) (dt_Reader_readNewName 35 (74, .ireturn, 1) rfl) rfl rfl
  refine jite hj8 (fun hc hj8 => ?_) (fun hc hj8 => ?_)
  · refine j_icmp_ne (dt_Reader_readNewName 4 (8, .if_icmp .ne 21, 3) rfl) rfl (fun q => absurd hc q) (fun _ => ?_)
    refine j_aload_n (dt_Reader_readNewName 5 (11, .aload_n 0, 1) rfl) rfl ?_
    obtain ⟨x24, hx24, hj8⟩ := jbind hj8
    refine j_getR (dt_Reader_readNewName 6 (12, .getfield 75, 3) rfl) fl_X5_75 hx24 (fun _ _ => rfl) ?_
    obtain ⟨x25, hx25, hj8⟩ := jbind hj8
    refine j_getL (dt_Reader_readNewName 7 (15, .getfield 160, 3) rfl) fl_X5_160 hx25 (fun _ _ => rfl) ?_
    refine j_ldc2 1099511627776 (dt_Reader_readNewName 8 (18, .ldc2_w 186, 3) rfl) (gt3 159 rfl rfl) ?_
    refine j_lcmp (dt_Reader_readNewName 9 (21, .lcmp, 1) rfl) ?_
    refine jite hj8 (fun hc hj8 => ?_) (fun hc hj8 => ?_)
    · refine j_if_ge (dt_Reader_readNewName 10 (22, .ifCond .ge 7, 3) rfl) rfl (fun _ => ?_) (fun q => absurd hc q)
      refine j_iconst (dt_Reader_readNewName 13 (29, .iconst 0, 1) rfl) ic_0 ?_
      cases hj8
      exact j_sub rfl hP8
    · refine j_if_ge (dt_Reader_readNewName 10 (22, .ifCond .ge 7, 3) rfl) rfl (fun q => absurd q hc) (fun _ => ?_)
      refine j_iconst (dt_Reader_readNewName 11 (25, .iconst 1, 1) rfl) ic_1 ?_
      refine j_goto (dt_Reader_readNewName 12 (26, .goto 4, 3) rfl) rfl ?_
      cases hj8
      exact j_sub rfl hP8
  · refine j_icmp_ne (dt_Reader_readNewName 4 (8, .if_icmp .ne 21, 3) rfl) rfl (fun _ => ?_) (fun q => absurd q hc)
    refine j_iconst (dt_Reader_readNewName 13 (29, .iconst 0, 1) rfl) ic_0 ?_
    cases hj8
    exact j_sub rfl hP8
theorem r_Reader_readNewName {S : hS} {V : hV} {v0 : Option Nat} {v1 : Int32} {res : Int32 × hV} (hf : Reader_readNewName S v0 v1 V = some res) : ∃ b, rc S 5 v0 = some b := by
  unfold Reader_readNewName at hf
  obtain ⟨b, hb, _⟩ := jbind hf
  exact ⟨b, hb⟩
def tb_Reader_readStop : List (Nat × Instr × Nat) := [(0, .aload_n 0, 1), (1, .getfield 75, 3), (4, .getfield 87, 3), (7, .iconst 3, 1), (8, .if_icmp .eq 5, 3), (11, .iconst 0, 1), (12, .ireturn, 1), (13, .aload_n 0, 1), (14, .getfield 75, 3), (17, .invokevirtual 113, 3), (20, .iconst 1, 1), (21, .ireturn, 1)]
theorem dt_Reader_readStop (i : Nat) (q : Nat × Instr × Nat) (h : tb_Reader_readStop[i]? = some q) : decode prog_7_method_9_code q.1 = .ok q.2 := jdt (by decide +kernel : tb_Reader_readStop.all (fun q => decide (decode prog_7_method_9_code q.1 = .ok q.2)) = true) h
theorem ok_Reader_readStop : jOKV M_Reader_readStop 0 := ⟨⟨gt3 171 rfl rfl, gt1 3 rfl rfl, (by decide : "FirstIn$Reader" ≠ "java/lang/invoke/MethodHandle"), (by decide : "FirstIn$Reader" ≠ "java/lang/invoke/VarHandle"), (by decide +kernel : (parseMethodDescriptor "()Z").map (fun d => d.parameters.length) = some 0)⟩, gt3 169 rfl rfl, gt3 170 rfl rfl, rfl, nlt rfl⟩
set_option maxRecDepth 100000 in
set_option maxHeartbeats 4000000 in
theorem c_Reader_readStop {G : jG} {S : hS} {V : hV} {v0 : Option Nat} {res : Int32 × hV} (hf : Reader_readStop S v0 V = some res) : jC G M_Reader_readStop [ar v0] (S, V) (some (ai res.1)) (S, res.2) := by
  unfold Reader_readStop at hf
  obtain ⟨_, _, hf⟩ := jbind hf
  refine jC_of (pf_X5 _ _) rfl (nle rfl) ?_
  show jJ G M_Reader_readStop (jEnd G M_Reader_readStop (some (ai res.1)) (S, res.2)) 0 0 0 [(0, ar v0)] [] (S, V)
  refine j_aload_n (dt_Reader_readStop 0 (0, .aload_n 0, 1) rfl) rfl ?_
  obtain ⟨x1, hx1, hf⟩ := jbind hf
  refine j_getR (dt_Reader_readStop 1 (1, .getfield 75, 3) rfl) fl_X5_75 hx1 (fun _ _ => rfl) ?_
  obtain ⟨x2, hx2, hf⟩ := jbind hf
  refine j_getI (dt_Reader_readStop 2 (4, .getfield 87, 3) rfl) fl_X5_87 hx2 (fun _ _ => rfl) ?_
  refine j_iconst (dt_Reader_readStop 3 (7, .iconst 3, 1) rfl) ic_3 ?_
  refine jite hf (fun hc hf => ?_) (fun hc hf => ?_)
  · refine j_icmp_eq (dt_Reader_readStop 4 (8, .if_icmp .eq 5, 3) rfl) rfl (fun _ => ?_) (fun q => absurd hc q)
    refine j_aload_n (dt_Reader_readStop 7 (13, .aload_n 0, 1) rfl) rfl ?_
    obtain ⟨x3, hx3, hf⟩ := jbind hf
    refine j_getR (dt_Reader_readStop 8 (14, .getfield 75, 3) rfl) fl_X5_75 hx3 (fun _ _ => rfl) ?_
    obtain ⟨V4, hV4, hf⟩ := jbind hf
    obtain ⟨b5, hb5⟩ := r_Text_advance hV4
    refine j_callV M_Text_advance 0 [] (rest := []) (dt_Reader_readStop 9 (17, .invokevirtual 113, 3) rfl) ml_X5_113 ok_Text_advance (jfit rfl rfl ⟨rfl, rfl⟩ (nle rfl) (nlt rfl)) rfl rfl (nle rfl) ⟨rfl, rfl⟩ hb5 ((c_Text_advance hV4)) ?_
    refine j_iconst (dt_Reader_readStop 10 (20, .iconst 1, 1) rfl) ic_1 ?_
    cases hf
    exact j_zret (x := 1) (dt_Reader_readStop 11 (21, .ireturn, 1) rfl) rfl rfl
  · refine j_icmp_eq (dt_Reader_readStop 4 (8, .if_icmp .eq 5, 3) rfl) rfl (fun q => absurd q hc) (fun _ => ?_)
    refine j_iconst (dt_Reader_readStop 5 (11, .iconst 0, 1) rfl) ic_0 ?_
    cases hf
    exact j_zret (x := 0) (dt_Reader_readStop 6 (12, .ireturn, 1) rfl) rfl rfl
theorem r_Reader_readStop {S : hS} {V : hV} {v0 : Option Nat} {res : Int32 × hV} (hf : Reader_readStop S v0 V = some res) : ∃ b, rc S 5 v0 = some b := by
  unfold Reader_readStop at hf
  obtain ⟨b, hb, _⟩ := jbind hf
  exact ⟨b, hb⟩
def tb_Reader_readGuest : List (Nat × Instr × Nat) := [(0, .aload_n 1, 1), (1, .getfield 97, 3), (4, .bipush 10, 2), (6, .if_icmp .lt 5, 3), (9, .iconst 0, 1), (10, .ireturn, 1), (11, .aload_n 0, 1), (12, .getfield 75, 3), (15, .invokevirtual 113, 3), (18, .aload_n 0, 1), (19, .aload_n 1, 1), (20, .getfield 97, 3), (23, .invokevirtual 116, 3), (26, .ifCond .ne 5, 3), (29, .iconst 0, 1), (30, .ireturn, 1), (31, .aload_n 1, 1), (32, .dup, 1), (33, .getfield 97, 3), (36, .iconst 1, 1), (37, .iadd, 1), (38, .putfield 97, 3), (41, .aload_n 0, 1), (42, .invokevirtual 120, 3), (45, .ireturn, 1)]
theorem dt_Reader_readGuest (i : Nat) (q : Nat × Instr × Nat) (h : tb_Reader_readGuest[i]? = some q) : decode prog_7_method_4_code q.1 = .ok q.2 := jdt (by decide +kernel : tb_Reader_readGuest.all (fun q => decide (decode prog_7_method_4_code q.1 = .ok q.2)) = true) h
theorem ok_Reader_readGuest : jOKV M_Reader_readGuest 1 := ⟨⟨gt3 153 rfl rfl, gt1 3 rfl rfl, (by decide : "FirstIn$Reader" ≠ "java/lang/invoke/MethodHandle"), (by decide : "FirstIn$Reader" ≠ "java/lang/invoke/VarHandle"), (by decide +kernel : (parseMethodDescriptor "(LFirstIn$Court;)Z").map (fun d => d.parameters.length) = some 1)⟩, gt3 151 rfl rfl, gt3 152 rfl rfl, rfl, nlt rfl⟩
set_option maxRecDepth 100000 in
set_option maxHeartbeats 4000000 in
theorem c_Reader_readGuest {G : jG} {S : hS} {V : hV} {v0 : Option Nat} {v1 : Option Nat} {res : Int32 × hV} (hf : Reader_readGuest S v0 v1 V = some res) : jC G M_Reader_readGuest [ar v0, ar v1] (S, V) (some (ai res.1)) (S, res.2) := by
  unfold Reader_readGuest at hf
  obtain ⟨_, _, hf⟩ := jbind hf
  refine jC_of (pf_X5 _ _) rfl (nle rfl) ?_
  show jJ G M_Reader_readGuest (jEnd G M_Reader_readGuest (some (ai res.1)) (S, res.2)) 0 0 0 [(0, ar v0), (1, ar v1)] [] (S, V)
  refine j_aload_n (dt_Reader_readGuest 0 (0, .aload_n 1, 1) rfl) rfl ?_
  obtain ⟨x1, hx1, hf⟩ := jbind hf
  refine j_getI (dt_Reader_readGuest 1 (1, .getfield 97, 3) rfl) fl_X5_97 hx1 (fun _ _ => rfl) ?_
  refine j_bipush (dt_Reader_readGuest 2 (4, .bipush 10, 2) rfl) bp_10 ?_
  refine jite hf (fun hc hf => ?_) (fun hc hf => ?_)
  · refine j_icmp_lt (dt_Reader_readGuest 3 (6, .if_icmp .lt 5, 3) rfl) rfl (fun _ => ?_) (fun q => absurd hc q)
    refine j_aload_n (dt_Reader_readGuest 6 (11, .aload_n 0, 1) rfl) rfl ?_
    obtain ⟨x2, hx2, hf⟩ := jbind hf
    refine j_getR (dt_Reader_readGuest 7 (12, .getfield 75, 3) rfl) fl_X5_75 hx2 (fun _ _ => rfl) ?_
    obtain ⟨V3, hV3, hf⟩ := jbind hf
    obtain ⟨b4, hb4⟩ := r_Text_advance hV3
    refine j_callV M_Text_advance 0 [] (rest := []) (dt_Reader_readGuest 8 (15, .invokevirtual 113, 3) rfl) ml_X5_113 ok_Text_advance (jfit rfl rfl ⟨rfl, rfl⟩ (nle rfl) (nlt rfl)) rfl rfl (nle rfl) ⟨rfl, rfl⟩ hb4 ((c_Text_advance hV3)) ?_
    refine j_aload_n (dt_Reader_readGuest 9 (18, .aload_n 0, 1) rfl) rfl ?_
    refine j_aload_n (dt_Reader_readGuest 10 (19, .aload_n 1, 1) rfl) rfl ?_
    obtain ⟨x5, hx5, hf⟩ := jbind hf
    refine j_getI (dt_Reader_readGuest 11 (20, .getfield 97, 3) rfl) fl_X5_97 hx5 (fun _ _ => rfl) ?_
    obtain ⟨w6, hw6, hf⟩ := jbind hf
    obtain ⟨b7, hb7⟩ := r_Reader_readNewName hw6
    refine j_callV M_Reader_readNewName 1 [ai x5] (rest := []) (dt_Reader_readGuest 12 (23, .invokevirtual 116, 3) rfl) ml_X5_116 ok_Reader_readNewName (jfit rfl rfl ⟨rfl, rfl⟩ (nle rfl) (nlt rfl)) rfl rfl (nle rfl) ⟨rfl, rfl⟩ hb7 ((c_Reader_readNewName hw6)) ?_
    refine jite hf (fun hc hf => ?_) (fun hc hf => ?_)
    · refine j_if_ne (dt_Reader_readGuest 13 (26, .ifCond .ne 5, 3) rfl) rfl (fun q => absurd hc q) (fun _ => ?_)
      refine j_iconst (dt_Reader_readGuest 14 (29, .iconst 0, 1) rfl) ic_0 ?_
      cases hf
      exact j_zret (x := 0) (dt_Reader_readGuest 15 (30, .ireturn, 1) rfl) rfl rfl
    · refine j_if_ne (dt_Reader_readGuest 13 (26, .ifCond .ne 5, 3) rfl) rfl (fun _ => ?_) (fun q => absurd q hc)
      refine j_aload_n (dt_Reader_readGuest 16 (31, .aload_n 1, 1) rfl) rfl ?_
      refine j_dup (dt_Reader_readGuest 17 (32, .dup, 1) rfl) rfl ?_
      obtain ⟨x8, hx8, hf⟩ := jbind hf
      refine j_getI (dt_Reader_readGuest 18 (33, .getfield 97, 3) rfl) fl_X5_97 hx8 (fun _ _ => rfl) ?_
      refine j_iconst (dt_Reader_readGuest 19 (36, .iconst 1, 1) rfl) ic_1 ?_
      refine j_iadd (dt_Reader_readGuest 20 (37, .iadd, 1) rfl) ?_
      obtain ⟨V9, hV9, hf⟩ := jbind hf
      refine j_putI (dt_Reader_readGuest 21 (38, .putfield 97, 3) rfl) fl_X5_97 hV9 rfl (Or.inl rfl) ?_
      refine j_aload_n (dt_Reader_readGuest 22 (41, .aload_n 0, 1) rfl) rfl ?_
      obtain ⟨w10, hw10, hf⟩ := jbind hf
      obtain ⟨b11, hb11⟩ := r_Reader_readStop hw10
      refine j_callV M_Reader_readStop 0 [] (rest := []) (dt_Reader_readGuest 23 (42, .invokevirtual 120, 3) rfl) ml_X5_120 ok_Reader_readStop (jfit rfl rfl ⟨rfl, rfl⟩ (nle rfl) (nlt rfl)) rfl rfl (nle rfl) ⟨rfl, rfl⟩ hb11 ((c_Reader_readStop hw10)) ?_
      cases hf
      exact j_zretN (dt_Reader_readGuest 24 (45, .ireturn, 1) rfl) rfl
  · refine j_icmp_lt (dt_Reader_readGuest 3 (6, .if_icmp .lt 5, 3) rfl) rfl (fun q => absurd q hc) (fun _ => ?_)
    refine j_iconst (dt_Reader_readGuest 4 (9, .iconst 0, 1) rfl) ic_0 ?_
    cases hf
    exact j_zret (x := 0) (dt_Reader_readGuest 5 (10, .ireturn, 1) rfl) rfl rfl
theorem r_Reader_readGuest {S : hS} {V : hV} {v0 : Option Nat} {v1 : Option Nat} {res : Int32 × hV} (hf : Reader_readGuest S v0 v1 V = some res) : ∃ b, rc S 5 v0 = some b := by
  unfold Reader_readGuest at hf
  obtain ⟨b, hb, _⟩ := jbind hf
  exact ⟨b, hb⟩
def tb_Reader_readWord : List (Nat × Instr × Nat) := [(0, .aload_n 0, 1), (1, .getfield 75, 3), (4, .lload_n 1, 1), (5, .invokevirtual 100, 3), (8, .ifCond .ne 5, 3), (11, .iconst 0, 1), (12, .ireturn, 1), (13, .aload_n 0, 1), (14, .getfield 75, 3), (17, .invokevirtual 113, 3), (20, .iconst 1, 1), (21, .ireturn, 1)]
theorem dt_Reader_readWord (i : Nat) (q : Nat × Instr × Nat) (h : tb_Reader_readWord[i]? = some q) : decode prog_7_method_10_code q.1 = .ok q.2 := jdt (by decide +kernel : tb_Reader_readWord.all (fun q => decide (decode prog_7_method_10_code q.1 = .ok q.2)) = true) h
theorem ok_Reader_readWord : jOKV M_Reader_readWord 1 := ⟨⟨gt3 179 rfl rfl, gt1 3 rfl rfl, (by decide : "FirstIn$Reader" ≠ "java/lang/invoke/MethodHandle"), (by decide : "FirstIn$Reader" ≠ "java/lang/invoke/VarHandle"), (by decide +kernel : (parseMethodDescriptor "(J)Z").map (fun d => d.parameters.length) = some 1)⟩, gt3 177 rfl rfl, gt3 178 rfl rfl, rfl, nlt rfl⟩
set_option maxRecDepth 100000 in
set_option maxHeartbeats 4000000 in
theorem c_Reader_readWord {G : jG} {S : hS} {V : hV} {v0 : Option Nat} {v1 : Int64} {res : Int32 × hV} (hf : Reader_readWord S v0 v1 V = some res) : jC G M_Reader_readWord [ar v0, al v1] (S, V) (some (ai res.1)) (S, res.2) := by
  unfold Reader_readWord at hf
  obtain ⟨_, _, hf⟩ := jbind hf
  refine jC_of (pf_X5 _ _) rfl (nle rfl) ?_
  show jJ G M_Reader_readWord (jEnd G M_Reader_readWord (some (ai res.1)) (S, res.2)) 0 0 0 [(0, ar v0), (1, al v1)] [] (S, V)
  refine j_aload_n (dt_Reader_readWord 0 (0, .aload_n 0, 1) rfl) rfl ?_
  obtain ⟨x1, hx1, hf⟩ := jbind hf
  refine j_getR (dt_Reader_readWord 1 (1, .getfield 75, 3) rfl) fl_X5_75 hx1 (fun _ _ => rfl) ?_
  refine j_lload_n (dt_Reader_readWord 2 (4, .lload_n 1, 1) rfl) rfl ?_
  obtain ⟨x2, hx2, hf⟩ := jbind hf
  obtain ⟨b3, hb3⟩ := r_Text_isWord hx2
  refine j_callV M_Text_isWord 1 [al v1] (rest := []) (dt_Reader_readWord 3 (5, .invokevirtual 100, 3) rfl) ml_X5_100 ok_Text_isWord (jfit rfl rfl ⟨rfl, rfl⟩ (nle rfl) (nlt rfl)) rfl rfl (nle rfl) ⟨rfl, rfl⟩ hb3 ((c_Text_isWord hx2)) ?_
  refine jite hf (fun hc hf => ?_) (fun hc hf => ?_)
  · refine j_if_ne (dt_Reader_readWord 4 (8, .ifCond .ne 5, 3) rfl) rfl (fun q => absurd hc q) (fun _ => ?_)
    refine j_iconst (dt_Reader_readWord 5 (11, .iconst 0, 1) rfl) ic_0 ?_
    cases hf
    exact j_zret (x := 0) (dt_Reader_readWord 6 (12, .ireturn, 1) rfl) rfl rfl
  · refine j_if_ne (dt_Reader_readWord 4 (8, .ifCond .ne 5, 3) rfl) rfl (fun _ => ?_) (fun q => absurd q hc)
    refine j_aload_n (dt_Reader_readWord 7 (13, .aload_n 0, 1) rfl) rfl ?_
    obtain ⟨x4, hx4, hf⟩ := jbind hf
    refine j_getR (dt_Reader_readWord 8 (14, .getfield 75, 3) rfl) fl_X5_75 hx4 (fun _ _ => rfl) ?_
    obtain ⟨V5, hV5, hf⟩ := jbind hf
    obtain ⟨b6, hb6⟩ := r_Text_advance hV5
    refine j_callV M_Text_advance 0 [] (rest := []) (dt_Reader_readWord 9 (17, .invokevirtual 113, 3) rfl) ml_X5_113 ok_Text_advance (jfit rfl rfl ⟨rfl, rfl⟩ (nle rfl) (nlt rfl)) rfl rfl (nle rfl) ⟨rfl, rfl⟩ hb6 ((c_Text_advance hV5)) ?_
    refine j_iconst (dt_Reader_readWord 10 (20, .iconst 1, 1) rfl) ic_1 ?_
    cases hf
    exact j_zret (x := 1) (dt_Reader_readWord 11 (21, .ireturn, 1) rfl) rfl rfl
theorem r_Reader_readWord {S : hS} {V : hV} {v0 : Option Nat} {v1 : Int64} {res : Int32 × hV} (hf : Reader_readWord S v0 v1 V = some res) : ∃ b, rc S 5 v0 = some b := by
  unfold Reader_readWord at hf
  obtain ⟨b, hb, _⟩ := jbind hf
  exact ⟨b, hb⟩
def tb_Reader_readMark : List (Nat × Instr × Nat) := [(0, .aload_n 1, 1), (1, .getfield 124, 3), (4, .ifCond .lt 11, 3), (7, .aload_n 1, 1), (8, .getfield 124, 3), (11, .iconst 5, 1), (12, .if_icmp .lt 5, 3), (15, .iconst 0, 1), (16, .ireturn, 1), (17, .aload_n 0, 1), (18, .getfield 75, 3), (21, .invokevirtual 113, 3), (24, .aload_n 0, 1), (25, .bipush 100, 2), (27, .aload_n 1, 1), (28, .getfield 124, 3), (31, .iadd, 1), (32, .invokevirtual 116, 3), (35, .ifCond .eq 14, 3), (38, .aload_n 0, 1), (39, .aload_n 0, 1), (40, .getfield 30, 3), (43, .invokevirtual 127, 3), (46, .ifCond .ne 5, 3), (49, .iconst 0, 1), (50, .ireturn, 1), (51, .iconst 0, 1), (52, .istore_n 2, 1), (53, .iconst 0, 1), (54, .istore_n 3, 1), (55, .iload_n 3, 1), (56, .bipush 10, 2), (58, .if_icmp .gt 68, 3), (61, .iload_n 3, 1), (62, .ifCond .eq 14, 3), (65, .aload_n 0, 1), (66, .getfield 75, 3), (69, .getfield 87, 3), (72, .iconst 3, 1), (73, .if_icmp .eq 53, 3), (76, .aload_n 0, 1), (77, .invokevirtual 130, 3), (80, .istore 4, 2), (82, .iload 4, 2), (84, .iconst (-1), 1), (85, .if_icmp .eq 19, 3), (88, .iload 4, 2), (90, .bipush 10, 2), (92, .if_icmp .ge 12, 3), (95, .iload_n 2, 1), (96, .iload 4, 2), (98, .invokestatic 134, 3), (101, .ifCond .eq 5, 3), (104, .iconst 0, 1), (105, .ireturn, 1), (106, .iload_n 2, 1), (107, .iconst 1, 1), (108, .iload 4, 2), (110, .ishl, 1), (111, .ior, 1), (112, .istore_n 2, 1), (113, .aload_n 0, 1), (114, .getfield 75, 3), (117, .invokevirtual 113, 3), (120, .iinc 3 1, 3), (123, .goto (-68), 3), (126, .aload_n 1, 1), (127, .getfield 138, 3), (130, .aload_n 1, 1), (131, .getfield 124, 3), (134, .iload_n 2, 1), (135, .iastore, 1), (136, .aload_n 1, 1), (137, .dup, 1), (138, .getfield 124, 3), (141, .iconst 1, 1), (142, .iadd, 1), (143, .putfield 124, 3), (146, .aload_n 0, 1), (147, .invokevirtual 120, 3), (150, .ireturn, 1)]
theorem dt_Reader_readMark (i : Nat) (q : Nat × Instr × Nat) (h : tb_Reader_readMark[i]? = some q) : decode prog_7_method_5_code q.1 = .ok q.2 := jdt (by decide +kernel : tb_Reader_readMark.all (fun q => decide (decode prog_7_method_5_code q.1 = .ok q.2)) = true) h
theorem ok_Reader_readMark : jOKV M_Reader_readMark 1 := ⟨⟨gt3 175 rfl rfl, gt1 3 rfl rfl, (by decide : "FirstIn$Reader" ≠ "java/lang/invoke/MethodHandle"), (by decide : "FirstIn$Reader" ≠ "java/lang/invoke/VarHandle"), (by decide +kernel : (parseMethodDescriptor "(LFirstIn$Court;)Z").map (fun d => d.parameters.length) = some 1)⟩, gt3 173 rfl rfl, gt3 174 rfl rfl, rfl, nlt rfl⟩
set_option maxRecDepth 100000 in
set_option maxHeartbeats 4000000 in
theorem c_Reader_readMark {G : jG} {S : hS} {V : hV} {v0 : Option Nat} {v1 : Option Nat} {res : Int32 × hV} (hf : Reader_readMark S v0 v1 V = some res) : jC G M_Reader_readMark [ar v0, ar v1] (S, V) (some (ai res.1)) (S, res.2) := by
  unfold Reader_readMark at hf
  obtain ⟨_, _, hf⟩ := jbind hf
  refine jC_of (pf_X5 _ _) rfl (nle rfl) ?_
  show jJ G M_Reader_readMark (jEnd G M_Reader_readMark (some (ai res.1)) (S, res.2)) 0 0 0 [(0, ar v0), (1, ar v1)] [] (S, V)
  refine j_aload_n (dt_Reader_readMark 0 (0, .aload_n 1, 1) rfl) rfl ?_
  obtain ⟨x1, hx1, hf⟩ := jbind hf
  refine j_getI (dt_Reader_readMark 1 (1, .getfield 124, 3) rfl) fl_X5_124 hx1 (fun _ _ => rfl) ?_
  refine jite hf (fun hc hf => ?_) (fun hc hf => ?_)
  · refine j_if_lt (dt_Reader_readMark 2 (4, .ifCond .lt 11, 3) rfl) rfl (fun _ => ?_) (fun q => absurd hc q)
    refine j_iconst (dt_Reader_readMark 7 (15, .iconst 0, 1) rfl) ic_0 ?_
    cases hf
    exact j_zret (x := 0) (dt_Reader_readMark 8 (16, .ireturn, 1) rfl) rfl rfl
  · refine j_if_lt (dt_Reader_readMark 2 (4, .ifCond .lt 11, 3) rfl) rfl (fun q => absurd q hc) (fun _ => ?_)
    refine j_aload_n (dt_Reader_readMark 3 (7, .aload_n 1, 1) rfl) rfl ?_
    obtain ⟨x2, hx2, hf⟩ := jbind hf
    refine j_getI (dt_Reader_readMark 4 (8, .getfield 124, 3) rfl) fl_X5_124 hx2 (fun _ _ => rfl) ?_
    refine j_iconst (dt_Reader_readMark 5 (11, .iconst 5, 1) rfl) ic_5 ?_
    refine jite hf (fun hc hf => ?_) (fun hc hf => ?_)
    · refine j_icmp_lt (dt_Reader_readMark 6 (12, .if_icmp .lt 5, 3) rfl) rfl (fun _ => ?_) (fun q => absurd hc q)
      refine j_aload_n (dt_Reader_readMark 9 (17, .aload_n 0, 1) rfl) rfl ?_
      obtain ⟨x3, hx3, hf⟩ := jbind hf
      refine j_getR (dt_Reader_readMark 10 (18, .getfield 75, 3) rfl) fl_X5_75 hx3 (fun _ _ => rfl) ?_
      obtain ⟨V4, hV4, hf⟩ := jbind hf
      obtain ⟨b5, hb5⟩ := r_Text_advance hV4
      refine j_callV M_Text_advance 0 [] (rest := []) (dt_Reader_readMark 11 (21, .invokevirtual 113, 3) rfl) ml_X5_113 ok_Text_advance (jfit rfl rfl ⟨rfl, rfl⟩ (nle rfl) (nlt rfl)) rfl rfl (nle rfl) ⟨rfl, rfl⟩ hb5 ((c_Text_advance hV4)) ?_
      refine j_aload_n (dt_Reader_readMark 12 (24, .aload_n 0, 1) rfl) rfl ?_
      refine j_bipush (dt_Reader_readMark 13 (25, .bipush 100, 2) rfl) bp_100 ?_
      refine j_aload_n (dt_Reader_readMark 14 (27, .aload_n 1, 1) rfl) rfl ?_
      obtain ⟨x6, hx6, hf⟩ := jbind hf
      refine j_getI (dt_Reader_readMark 15 (28, .getfield 124, 3) rfl) fl_X5_124 hx6 (fun _ _ => rfl) ?_
      refine j_iadd (dt_Reader_readMark 16 (31, .iadd, 1) rfl) ?_
      obtain ⟨w7, hw7, hf⟩ := jbind hf
      obtain ⟨b8, hb8⟩ := r_Reader_readNewName hw7
      refine j_callV M_Reader_readNewName 1 [ai (100 + x6)] (rest := []) (dt_Reader_readMark 17 (32, .invokevirtual 116, 3) rfl) ml_X5_116 ok_Reader_readNewName (jfit rfl rfl ⟨rfl, rfl⟩ (nle rfl) (nlt rfl)) rfl rfl (nle rfl) ⟨rfl, rfl⟩ hb8 ((c_Reader_readNewName hw7)) ?_
      refine jite hf (fun hc hf => ?_) (fun hc hf => ?_)
      · refine j_if_eq (dt_Reader_readMark 18 (35, .ifCond .eq 14, 3) rfl) rfl (fun _ => ?_) (fun q => absurd hc q)
        refine j_iconst (dt_Reader_readMark 24 (49, .iconst 0, 1) rfl) ic_0 ?_
        cases hf
        exact j_zret (x := 0) (dt_Reader_readMark 25 (50, .ireturn, 1) rfl) rfl rfl
      · refine j_if_eq (dt_Reader_readMark 18 (35, .ifCond .eq 14, 3) rfl) rfl (fun q => absurd q hc) (fun _ => ?_)
        refine j_aload_n (dt_Reader_readMark 19 (38, .aload_n 0, 1) rfl) rfl ?_
        refine j_aload_n (dt_Reader_readMark 20 (39, .aload_n 0, 1) rfl) rfl ?_
        obtain ⟨x9, hx9, hf⟩ := jbind hf
        refine j_getL (dt_Reader_readMark 21 (40, .getfield 30, 3) rfl) fl_X5_30 hx9 (fun _ _ => rfl) ?_
        obtain ⟨w10, hw10, hf⟩ := jbind hf
        obtain ⟨b11, hb11⟩ := r_Reader_readWord hw10
        refine j_callV M_Reader_readWord 1 [al x9] (rest := []) (dt_Reader_readMark 22 (43, .invokevirtual 127, 3) rfl) ml_X5_127 ok_Reader_readWord (jfit rfl rfl ⟨rfl, rfl⟩ (nle rfl) (nlt rfl)) rfl rfl (nle rfl) ⟨rfl, rfl⟩ hb11 ((c_Reader_readWord hw10)) ?_
        refine jite hf (fun hc hf => ?_) (fun hc hf => ?_)
        · refine j_if_ne (dt_Reader_readMark 23 (46, .ifCond .ne 5, 3) rfl) rfl (fun q => absurd hc q) (fun _ => ?_)
          refine j_iconst (dt_Reader_readMark 24 (49, .iconst 0, 1) rfl) ic_0 ?_
          cases hf
          exact j_zret (x := 0) (dt_Reader_readMark 25 (50, .ireturn, 1) rfl) rfl rfl
        · refine j_if_ne (dt_Reader_readMark 23 (46, .ifCond .ne 5, 3) rfl) rfl (fun _ => ?_) (fun q => absurd q hc)
          refine j_iconst (dt_Reader_readMark 26 (51, .iconst 0, 1) rfl) ic_0 ?_
          refine j_istore_n (dt_Reader_readMark 27 (52, .istore_n 2, 1) rfl) (nlt rfl) ?_
          refine j_iconst (dt_Reader_readMark 28 (53, .iconst 0, 1) rfl) ic_0 ?_
          refine j_istore_n (dt_Reader_readMark 29 (54, .istore_n 3, 1) rfl) (nlt rfl) ?_
          obtain ⟨t55, ht55, hf⟩ := jbind hf
          have hX55 : ∀ q55 : Int32 × hV, t55 = .inl q55 → jJ G M_Reader_readMark (jEnd G M_Reader_readMark (some (ai res.1)) (S, res.2)) 0 0 126 [(0, ar v0), (1, ar v1), (2, ai q55.1)] [] (S, q55.2) := by
            intro q55 hq55
            subst hq55
            refine j_aload_n (dt_Reader_readMark 66 (126, .aload_n 1, 1) rfl) rfl ?_
            obtain ⟨x19, hx19, hf⟩ := jbind hf
            refine j_getR (dt_Reader_readMark 67 (127, .getfield 138, 3) rfl) fl_X5_138 hx19 (fun _ _ => rfl) ?_
            refine j_aload_n (dt_Reader_readMark 68 (130, .aload_n 1, 1) rfl) rfl ?_
            obtain ⟨x20, hx20, hf⟩ := jbind hf
            refine j_getI (dt_Reader_readMark 69 (131, .getfield 124, 3) rfl) fl_X5_124 hx20 (fun _ _ => rfl) ?_
            refine j_iload_n (dt_Reader_readMark 70 (134, .iload_n 2, 1) rfl) rfl ?_
            obtain ⟨V21, hV21, hf⟩ := jbind hf
            refine j_astI (dt_Reader_readMark 71 (135, .iastore, 1) rfl) hV21 ?_
            refine j_aload_n (dt_Reader_readMark 72 (136, .aload_n 1, 1) rfl) rfl ?_
            refine j_dup (dt_Reader_readMark 73 (137, .dup, 1) rfl) rfl ?_
            obtain ⟨x22, hx22, hf⟩ := jbind hf
            refine j_getI (dt_Reader_readMark 74 (138, .getfield 124, 3) rfl) fl_X5_124 hx22 (fun _ _ => rfl) ?_
            refine j_iconst (dt_Reader_readMark 75 (141, .iconst 1, 1) rfl) ic_1 ?_
            refine j_iadd (dt_Reader_readMark 76 (142, .iadd, 1) rfl) ?_
            obtain ⟨V23, hV23, hf⟩ := jbind hf
            refine j_putI (dt_Reader_readMark 77 (143, .putfield 124, 3) rfl) fl_X5_124 hV23 rfl (Or.inl rfl) ?_
            refine j_aload_n (dt_Reader_readMark 78 (146, .aload_n 0, 1) rfl) rfl ?_
            obtain ⟨w24, hw24, hf⟩ := jbind hf
            obtain ⟨b25, hb25⟩ := r_Reader_readStop hw24
            refine j_callV M_Reader_readStop 0 [] (rest := []) (dt_Reader_readMark 79 (147, .invokevirtual 120, 3) rfl) ml_X5_120 ok_Reader_readStop (jfit rfl rfl ⟨rfl, rfl⟩ (nle rfl) (nlt rfl)) rfl rfl (nle rfl) ⟨rfl, rfl⟩ hb25 ((c_Reader_readStop hw24)) ?_
            cases hf
            exact j_zretN (dt_Reader_readMark 80 (150, .ireturn, 1) rfl) rfl
          have hR55 : ∀ v : Int32 × hV, t55 = .inr v → v = res := by
            intro v hv
            subst hv
            cases hf
            rfl
          refine j_sub (ls' := [(0, ar v0), (1, ar v1), (2, ai 0), (3, ai 0)]) rfl ?_
          refine jloop_J (C := fun s55 => jJ G M_Reader_readMark (jEnd G M_Reader_readMark (some (ai res.1)) (S, res.2)) 0 0 55 [(0, ar v0), (1, ar v1), (2, ai s55.1), (3, ai s55.2.1)] [] (S, s55.2.2)) (fun s55 z55_ hy55 hin55 hout55 => ?_) _ _ ht55
          unfold Reader_readMark_L55 at hy55
          refine j_iload_n (dt_Reader_readMark 30 (55, .iload_n 3, 1) rfl) rfl ?_
          refine j_bipush (dt_Reader_readMark 31 (56, .bipush 10, 2) rfl) bp_10 ?_
          refine jite hy55 (fun hc hy55 => ?_) (fun hc hy55 => ?_)
          · refine j_icmp_gt (dt_Reader_readMark 32 (58, .if_icmp .gt 68, 3) rfl) rfl (fun _ => ?_) (fun q => absurd hc q)
            cases hy55
            have hz := hX55 _ (hout55 _ rfl).symm
            exact j_sub rfl hz
          · refine j_icmp_gt (dt_Reader_readMark 32 (58, .if_icmp .gt 68, 3) rfl) rfl (fun q => absurd q hc) (fun _ => ?_)
            refine j_iload_n (dt_Reader_readMark 33 (61, .iload_n 3, 1) rfl) rfl ?_
            obtain ⟨k62, hk62, hy55⟩ := jbind hy55
            have hE62 : ∀ e62 : Unit, k62 = .inl e62 → jJ G M_Reader_readMark (jEnd G M_Reader_readMark (some (ai res.1)) (S, res.2)) 0 0 76 [(0, ar v0), (1, ar v1), (2, ai s55.1), (3, ai s55.2.1)] [] (S, s55.2.2) := by
              intro e62 he62
              subst he62
              refine j_aload_n (dt_Reader_readMark 40 (76, .aload_n 0, 1) rfl) rfl ?_
              obtain ⟨x12, hx12, hy55⟩ := jbind hy55
              obtain ⟨b13, hb13⟩ := r_Reader_meaning hx12
              refine j_callV M_Reader_meaning 0 [] (rest := []) (dt_Reader_readMark 41 (77, .invokevirtual 130, 3) rfl) ml_X5_130 ok_Reader_meaning (jfit rfl rfl ⟨rfl, rfl⟩ (nle rfl) (nlt rfl)) rfl rfl (nle rfl) ⟨rfl, rfl⟩ hb13 ((c_Reader_meaning hx12)) ?_
              refine j_istore (dt_Reader_readMark 42 (80, .istore 4, 2) rfl) (nlt rfl) ?_
              refine j_iload (dt_Reader_readMark 43 (82, .iload 4, 2) rfl) rfl ?_
              refine j_iconst (dt_Reader_readMark 44 (84, .iconst (-1), 1) rfl) ic_m1 ?_
              refine jite hy55 (fun hc hy55 => ?_) (fun hc hy55 => ?_)
              · refine j_icmp_eq (dt_Reader_readMark 45 (85, .if_icmp .eq 19, 3) rfl) rfl (fun _ => ?_) (fun q => absurd hc q)
                refine j_iconst (dt_Reader_readMark 53 (104, .iconst 0, 1) rfl) ic_0 ?_
                cases hy55
                obtain rfl := hR55 _ (hout55 _ rfl).symm
                exact j_zret (x := 0) (dt_Reader_readMark 54 (105, .ireturn, 1) rfl) rfl rfl
              · refine j_icmp_eq (dt_Reader_readMark 45 (85, .if_icmp .eq 19, 3) rfl) rfl (fun q => absurd q hc) (fun _ => ?_)
                refine j_iload (dt_Reader_readMark 46 (88, .iload 4, 2) rfl) rfl ?_
                refine j_bipush (dt_Reader_readMark 47 (90, .bipush 10, 2) rfl) bp_10 ?_
                refine jite hy55 (fun hc hy55 => ?_) (fun hc hy55 => ?_)
                · refine j_icmp_ge (dt_Reader_readMark 48 (92, .if_icmp .ge 12, 3) rfl) rfl (fun _ => ?_) (fun q => absurd hc q)
                  refine j_iconst (dt_Reader_readMark 53 (104, .iconst 0, 1) rfl) ic_0 ?_
                  cases hy55
                  obtain rfl := hR55 _ (hout55 _ rfl).symm
                  exact j_zret (x := 0) (dt_Reader_readMark 54 (105, .ireturn, 1) rfl) rfl rfl
                · refine j_icmp_ge (dt_Reader_readMark 48 (92, .if_icmp .ge 12, 3) rfl) rfl (fun q => absurd q hc) (fun _ => ?_)
                  refine j_iload_n (dt_Reader_readMark 49 (95, .iload_n 2, 1) rfl) rfl ?_
                  refine j_iload (dt_Reader_readMark 50 (96, .iload 4, 2) rfl) rfl ?_
                  refine j_callSN M_Fi_has 2 [ai s55.1, ai x12] (rest := []) (dt_Reader_readMark 51 (98, .invokestatic 134, 3) rfl) ml_X5_134 ok_Fi_has (jfit rfl rfl ⟨rfl, rfl⟩ (nle rfl) (nlt rfl)) rfl rfl (nle rfl) ⟨rfl, rfl⟩ (c_Fi_has rfl) ?_
                  refine jite hy55 (fun hc hy55 => ?_) (fun hc hy55 => ?_)
                  · refine j_if_eq (dt_Reader_readMark 52 (101, .ifCond .eq 5, 3) rfl) rfl (fun _ => ?_) (fun q => absurd hc q)
                    refine j_iload_n (dt_Reader_readMark 55 (106, .iload_n 2, 1) rfl) rfl ?_
                    refine j_iconst (dt_Reader_readMark 56 (107, .iconst 1, 1) rfl) ic_1 ?_
                    refine j_iload (dt_Reader_readMark 57 (108, .iload 4, 2) rfl) rfl ?_
                    refine j_ishl (dt_Reader_readMark 58 (110, .ishl, 1) rfl) ?_
                    refine j_ior (dt_Reader_readMark 59 (111, .ior, 1) rfl) ?_
                    refine j_istore_n (dt_Reader_readMark 60 (112, .istore_n 2, 1) rfl) (nlt rfl) ?_
                    refine j_aload_n (dt_Reader_readMark 61 (113, .aload_n 0, 1) rfl) rfl ?_
                    obtain ⟨x14, hx14, hy55⟩ := jbind hy55
                    refine j_getR (dt_Reader_readMark 62 (114, .getfield 75, 3) rfl) fl_X5_75 hx14 (fun _ _ => rfl) ?_
                    obtain ⟨V15, hV15, hy55⟩ := jbind hy55
                    obtain ⟨b16, hb16⟩ := r_Text_advance hV15
                    refine j_callV M_Text_advance 0 [] (rest := []) (dt_Reader_readMark 63 (117, .invokevirtual 113, 3) rfl) ml_X5_113 ok_Text_advance (jfit rfl rfl ⟨rfl, rfl⟩ (nle rfl) (nlt rfl)) rfl rfl (nle rfl) ⟨rfl, rfl⟩ hb16 ((c_Text_advance hV15)) ?_
                    refine j_iinc (dt_Reader_readMark 64 (120, .iinc 3 1, 3) rfl) rfl (nlt rfl) (ii_1 _) ?_
                    refine j_goto (dt_Reader_readMark 65 (123, .goto (-68), 3) rfl) rfl ?_
                    cases hy55
                    have hz := hin55 _ rfl
                    exact j_sub rfl hz
                  · refine j_if_eq (dt_Reader_readMark 52 (101, .ifCond .eq 5, 3) rfl) rfl (fun q => absurd q hc) (fun _ => ?_)
                    refine j_iconst (dt_Reader_readMark 53 (104, .iconst 0, 1) rfl) ic_0 ?_
                    cases hy55
                    obtain rfl := hR55 _ (hout55 _ rfl).symm
                    exact j_zret (x := 0) (dt_Reader_readMark 54 (105, .ireturn, 1) rfl) rfl rfl
            refine jite hk62 (fun hc hk62 => ?_) (fun hc hk62 => ?_)
            · refine j_if_eq (dt_Reader_readMark 34 (62, .ifCond .eq 14, 3) rfl) rfl (fun _ => ?_) (fun q => absurd hc q)
              cases hk62
              have hz := hE62 _ rfl
              exact j_sub rfl hz
            · refine j_if_eq (dt_Reader_readMark 34 (62, .ifCond .eq 14, 3) rfl) rfl (fun q => absurd q hc) (fun _ => ?_)
              refine j_aload_n (dt_Reader_readMark 35 (65, .aload_n 0, 1) rfl) rfl ?_
              obtain ⟨x17, hx17, hk62⟩ := jbind hk62
              refine j_getR (dt_Reader_readMark 36 (66, .getfield 75, 3) rfl) fl_X5_75 hx17 (fun _ _ => rfl) ?_
              obtain ⟨x18, hx18, hk62⟩ := jbind hk62
              refine j_getI (dt_Reader_readMark 37 (69, .getfield 87, 3) rfl) fl_X5_87 hx18 (fun _ _ => rfl) ?_
              refine j_iconst (dt_Reader_readMark 38 (72, .iconst 3, 1) rfl) ic_3 ?_
              refine jite hk62 (fun hc hk62 => ?_) (fun hc hk62 => ?_)
              · refine j_icmp_eq (dt_Reader_readMark 39 (73, .if_icmp .eq 53, 3) rfl) rfl (fun _ => ?_) (fun q => absurd hc q)
                cases hk62
                cases hy55
                have hz := hX55 _ (hout55 _ rfl).symm
                exact j_sub rfl hz
              · refine j_icmp_eq (dt_Reader_readMark 39 (73, .if_icmp .eq 53, 3) rfl) rfl (fun q => absurd q hc) (fun _ => ?_)
                cases hk62
                have hz := hE62 _ rfl
                exact j_sub rfl hz
    · refine j_icmp_lt (dt_Reader_readMark 6 (12, .if_icmp .lt 5, 3) rfl) rfl (fun q => absurd q hc) (fun _ => ?_)
      refine j_iconst (dt_Reader_readMark 7 (15, .iconst 0, 1) rfl) ic_0 ?_
      cases hf
      exact j_zret (x := 0) (dt_Reader_readMark 8 (16, .ireturn, 1) rfl) rfl rfl
theorem r_Reader_readMark {S : hS} {V : hV} {v0 : Option Nat} {v1 : Option Nat} {res : Int32 × hV} (hf : Reader_readMark S v0 v1 V = some res) : ∃ b, rc S 5 v0 = some b := by
  unfold Reader_readMark at hf
  obtain ⟨b, hb, _⟩ := jbind hf
  exact ⟨b, hb⟩
def tb_Reader_readRoom : List (Nat × Instr × Nat) := [(0, .aload_n 1, 1), (1, .iconst (-1), 1), (2, .putfield 183, 3), (5, .aload_n 0, 1), (6, .getfield 75, 3), (9, .aload_n 0, 1), (10, .getfield 55, 3), (13, .invokevirtual 100, 3), (16, .ifCond .ne 5, 3), (19, .iconst 1, 1), (20, .ireturn, 1), (21, .aload_n 0, 1), (22, .getfield 75, 3), (25, .invokevirtual 113, 3), (28, .aload_n 0, 1), (29, .getfield 75, 3), (32, .iconst 0, 1), (33, .iconst 3, 1), (34, .invokevirtual 157, 3), (37, .ifCond .ne 5, 3), (40, .iconst 0, 1), (41, .ireturn, 1), (42, .aload_n 1, 1), (43, .aload_n 0, 1), (44, .getfield 75, 3), (47, .getfield 160, 3), (50, .l2i, 1), (51, .putfield 183, 3), (54, .aload_n 0, 1), (55, .getfield 75, 3), (58, .invokevirtual 113, 3), (61, .iconst 1, 1), (62, .ireturn, 1)]
theorem dt_Reader_readRoom (i : Nat) (q : Nat × Instr × Nat) (h : tb_Reader_readRoom[i]? = some q) : decode prog_7_method_7_code q.1 = .ok q.2 := jdt (by decide +kernel : tb_Reader_readRoom.all (fun q => decide (decode prog_7_method_7_code q.1 = .ok q.2)) = true) h
theorem ok_Reader_readRoom : jOKV M_Reader_readRoom 1 := ⟨⟨gt3 194 rfl rfl, gt1 3 rfl rfl, (by decide : "FirstIn$Reader" ≠ "java/lang/invoke/MethodHandle"), (by decide : "FirstIn$Reader" ≠ "java/lang/invoke/VarHandle"), (by decide +kernel : (parseMethodDescriptor "(LFirstIn$Rule;)Z").map (fun d => d.parameters.length) = some 1)⟩, gt3 192 rfl rfl, gt3 193 rfl rfl, rfl, nlt rfl⟩
set_option maxRecDepth 100000 in
set_option maxHeartbeats 4000000 in
theorem c_Reader_readRoom {G : jG} {S : hS} {V : hV} {v0 : Option Nat} {v1 : Option Nat} {res : Int32 × hV} (hf : Reader_readRoom S v0 v1 V = some res) : jC G M_Reader_readRoom [ar v0, ar v1] (S, V) (some (ai res.1)) (S, res.2) := by
  unfold Reader_readRoom at hf
  obtain ⟨_, _, hf⟩ := jbind hf
  refine jC_of (pf_X5 _ _) rfl (nle rfl) ?_
  show jJ G M_Reader_readRoom (jEnd G M_Reader_readRoom (some (ai res.1)) (S, res.2)) 0 0 0 [(0, ar v0), (1, ar v1)] [] (S, V)
  refine j_aload_n (dt_Reader_readRoom 0 (0, .aload_n 1, 1) rfl) rfl ?_
  refine j_iconst (dt_Reader_readRoom 1 (1, .iconst (-1), 1) rfl) ic_m1 ?_
  obtain ⟨V1, hV1, hf⟩ := jbind hf
  refine j_putI (dt_Reader_readRoom 2 (2, .putfield 183, 3) rfl) fl_X5_183 hV1 rfl (Or.inl rfl) ?_
  refine j_aload_n (dt_Reader_readRoom 3 (5, .aload_n 0, 1) rfl) rfl ?_
  obtain ⟨x2, hx2, hf⟩ := jbind hf
  refine j_getR (dt_Reader_readRoom 4 (6, .getfield 75, 3) rfl) fl_X5_75 hx2 (fun _ _ => rfl) ?_
  refine j_aload_n (dt_Reader_readRoom 5 (9, .aload_n 0, 1) rfl) rfl ?_
  obtain ⟨x3, hx3, hf⟩ := jbind hf
  refine j_getL (dt_Reader_readRoom 6 (10, .getfield 55, 3) rfl) fl_X5_55 hx3 (fun _ _ => rfl) ?_
  obtain ⟨x4, hx4, hf⟩ := jbind hf
  obtain ⟨b5, hb5⟩ := r_Text_isWord hx4
  refine j_callV M_Text_isWord 1 [al x3] (rest := []) (dt_Reader_readRoom 7 (13, .invokevirtual 100, 3) rfl) ml_X5_100 ok_Text_isWord (jfit rfl rfl ⟨rfl, rfl⟩ (nle rfl) (nlt rfl)) rfl rfl (nle rfl) ⟨rfl, rfl⟩ hb5 ((c_Text_isWord hx4)) ?_
  refine jite hf (fun hc hf => ?_) (fun hc hf => ?_)
  · refine j_if_ne (dt_Reader_readRoom 8 (16, .ifCond .ne 5, 3) rfl) rfl (fun q => absurd hc q) (fun _ => ?_)
    refine j_iconst (dt_Reader_readRoom 9 (19, .iconst 1, 1) rfl) ic_1 ?_
    cases hf
    exact j_zret (x := 1) (dt_Reader_readRoom 10 (20, .ireturn, 1) rfl) rfl rfl
  · refine j_if_ne (dt_Reader_readRoom 8 (16, .ifCond .ne 5, 3) rfl) rfl (fun _ => ?_) (fun q => absurd q hc)
    refine j_aload_n (dt_Reader_readRoom 11 (21, .aload_n 0, 1) rfl) rfl ?_
    obtain ⟨x6, hx6, hf⟩ := jbind hf
    refine j_getR (dt_Reader_readRoom 12 (22, .getfield 75, 3) rfl) fl_X5_75 hx6 (fun _ _ => rfl) ?_
    obtain ⟨V7, hV7, hf⟩ := jbind hf
    obtain ⟨b8, hb8⟩ := r_Text_advance hV7
    refine j_callV M_Text_advance 0 [] (rest := []) (dt_Reader_readRoom 13 (25, .invokevirtual 113, 3) rfl) ml_X5_113 ok_Text_advance (jfit rfl rfl ⟨rfl, rfl⟩ (nle rfl) (nlt rfl)) rfl rfl (nle rfl) ⟨rfl, rfl⟩ hb8 ((c_Text_advance hV7)) ?_
    refine j_aload_n (dt_Reader_readRoom 14 (28, .aload_n 0, 1) rfl) rfl ?_
    obtain ⟨x9, hx9, hf⟩ := jbind hf
    refine j_getR (dt_Reader_readRoom 15 (29, .getfield 75, 3) rfl) fl_X5_75 hx9 (fun _ _ => rfl) ?_
    refine j_iconst (dt_Reader_readRoom 16 (32, .iconst 0, 1) rfl) ic_0 ?_
    refine j_iconst (dt_Reader_readRoom 17 (33, .iconst 3, 1) rfl) ic_3 ?_
    obtain ⟨x10, hx10, hf⟩ := jbind hf
    obtain ⟨b11, hb11⟩ := r_Text_isNumber hx10
    refine j_callV M_Text_isNumber 2 [ai 0, ai 3] (rest := []) (dt_Reader_readRoom 18 (34, .invokevirtual 157, 3) rfl) ml_X5_157 ok_Text_isNumber (jfit rfl rfl ⟨rfl, rfl⟩ (nle rfl) (nlt rfl)) rfl rfl (nle rfl) ⟨rfl, rfl⟩ hb11 ((c_Text_isNumber hx10)) ?_
    refine jite hf (fun hc hf => ?_) (fun hc hf => ?_)
    · refine j_if_ne (dt_Reader_readRoom 19 (37, .ifCond .ne 5, 3) rfl) rfl (fun q => absurd hc q) (fun _ => ?_)
      refine j_iconst (dt_Reader_readRoom 20 (40, .iconst 0, 1) rfl) ic_0 ?_
      cases hf
      exact j_zret (x := 0) (dt_Reader_readRoom 21 (41, .ireturn, 1) rfl) rfl rfl
    · refine j_if_ne (dt_Reader_readRoom 19 (37, .ifCond .ne 5, 3) rfl) rfl (fun _ => ?_) (fun q => absurd q hc)
      refine j_aload_n (dt_Reader_readRoom 22 (42, .aload_n 1, 1) rfl) rfl ?_
      refine j_aload_n (dt_Reader_readRoom 23 (43, .aload_n 0, 1) rfl) rfl ?_
      obtain ⟨x12, hx12, hf⟩ := jbind hf
      refine j_getR (dt_Reader_readRoom 24 (44, .getfield 75, 3) rfl) fl_X5_75 hx12 (fun _ _ => rfl) ?_
      obtain ⟨x13, hx13, hf⟩ := jbind hf
      refine j_getL (dt_Reader_readRoom 25 (47, .getfield 160, 3) rfl) fl_X5_160 hx13 (fun _ _ => rfl) ?_
      refine j_l2i (dt_Reader_readRoom 26 (50, .l2i, 1) rfl) ?_
      obtain ⟨V14, hV14, hf⟩ := jbind hf
      refine j_putI (dt_Reader_readRoom 27 (51, .putfield 183, 3) rfl) fl_X5_183 hV14 rfl (Or.inl rfl) ?_
      refine j_aload_n (dt_Reader_readRoom 28 (54, .aload_n 0, 1) rfl) rfl ?_
      obtain ⟨x15, hx15, hf⟩ := jbind hf
      refine j_getR (dt_Reader_readRoom 29 (55, .getfield 75, 3) rfl) fl_X5_75 hx15 (fun _ _ => rfl) ?_
      obtain ⟨V16, hV16, hf⟩ := jbind hf
      obtain ⟨b17, hb17⟩ := r_Text_advance hV16
      refine j_callV M_Text_advance 0 [] (rest := []) (dt_Reader_readRoom 30 (58, .invokevirtual 113, 3) rfl) ml_X5_113 ok_Text_advance (jfit rfl rfl ⟨rfl, rfl⟩ (nle rfl) (nlt rfl)) rfl rfl (nle rfl) ⟨rfl, rfl⟩ hb17 ((c_Text_advance hV16)) ?_
      refine j_iconst (dt_Reader_readRoom 31 (61, .iconst 1, 1) rfl) ic_1 ?_
      cases hf
      exact j_zret (x := 1) (dt_Reader_readRoom 32 (62, .ireturn, 1) rfl) rfl rfl
theorem r_Reader_readRoom {S : hS} {V : hV} {v0 : Option Nat} {v1 : Option Nat} {res : Int32 × hV} (hf : Reader_readRoom S v0 v1 V = some res) : ∃ b, rc S 5 v0 = some b := by
  unfold Reader_readRoom at hf
  obtain ⟨b, hb, _⟩ := jbind hf
  exact ⟨b, hb⟩
def tb_Reader_readUnless : List (Nat × Instr × Nat) := [(0, .aload_n 1, 1), (1, .iconst (-1), 1), (2, .putfield 177, 3), (5, .aload_n 0, 1), (6, .getfield 75, 3), (9, .aload_n 0, 1), (10, .getfield 60, 3), (13, .invokevirtual 100, 3), (16, .ifCond .ne 5, 3), (19, .iconst 1, 1), (20, .ireturn, 1), (21, .aload_n 0, 1), (22, .getfield 75, 3), (25, .invokevirtual 113, 3), (28, .aload_n 0, 1), (29, .invokevirtual 130, 3), (32, .istore_n 2, 1), (33, .iload_n 2, 1), (34, .bipush 100, 2), (36, .if_icmp .ge 5, 3), (39, .iconst 0, 1), (40, .ireturn, 1), (41, .aload_n 1, 1), (42, .iload_n 2, 1), (43, .putfield 177, 3), (46, .aload_n 0, 1), (47, .getfield 75, 3), (50, .invokevirtual 113, 3), (53, .iconst 1, 1), (54, .ireturn, 1)]
theorem dt_Reader_readUnless (i : Nat) (q : Nat × Instr × Nat) (h : tb_Reader_readUnless[i]? = some q) : decode prog_7_method_8_code q.1 = .ok q.2 := jdt (by decide +kernel : tb_Reader_readUnless.all (fun q => decide (decode prog_7_method_8_code q.1 = .ok q.2)) = true) h
theorem ok_Reader_readUnless : jOKV M_Reader_readUnless 1 := ⟨⟨gt3 198 rfl rfl, gt1 3 rfl rfl, (by decide : "FirstIn$Reader" ≠ "java/lang/invoke/MethodHandle"), (by decide : "FirstIn$Reader" ≠ "java/lang/invoke/VarHandle"), (by decide +kernel : (parseMethodDescriptor "(LFirstIn$Rule;)Z").map (fun d => d.parameters.length) = some 1)⟩, gt3 196 rfl rfl, gt3 197 rfl rfl, rfl, nlt rfl⟩
set_option maxRecDepth 100000 in
set_option maxHeartbeats 4000000 in
theorem c_Reader_readUnless {G : jG} {S : hS} {V : hV} {v0 : Option Nat} {v1 : Option Nat} {res : Int32 × hV} (hf : Reader_readUnless S v0 v1 V = some res) : jC G M_Reader_readUnless [ar v0, ar v1] (S, V) (some (ai res.1)) (S, res.2) := by
  unfold Reader_readUnless at hf
  obtain ⟨_, _, hf⟩ := jbind hf
  refine jC_of (pf_X5 _ _) rfl (nle rfl) ?_
  show jJ G M_Reader_readUnless (jEnd G M_Reader_readUnless (some (ai res.1)) (S, res.2)) 0 0 0 [(0, ar v0), (1, ar v1)] [] (S, V)
  refine j_aload_n (dt_Reader_readUnless 0 (0, .aload_n 1, 1) rfl) rfl ?_
  refine j_iconst (dt_Reader_readUnless 1 (1, .iconst (-1), 1) rfl) ic_m1 ?_
  obtain ⟨V1, hV1, hf⟩ := jbind hf
  refine j_putI (dt_Reader_readUnless 2 (2, .putfield 177, 3) rfl) fl_X5_177 hV1 rfl (Or.inl rfl) ?_
  refine j_aload_n (dt_Reader_readUnless 3 (5, .aload_n 0, 1) rfl) rfl ?_
  obtain ⟨x2, hx2, hf⟩ := jbind hf
  refine j_getR (dt_Reader_readUnless 4 (6, .getfield 75, 3) rfl) fl_X5_75 hx2 (fun _ _ => rfl) ?_
  refine j_aload_n (dt_Reader_readUnless 5 (9, .aload_n 0, 1) rfl) rfl ?_
  obtain ⟨x3, hx3, hf⟩ := jbind hf
  refine j_getL (dt_Reader_readUnless 6 (10, .getfield 60, 3) rfl) fl_X5_60 hx3 (fun _ _ => rfl) ?_
  obtain ⟨x4, hx4, hf⟩ := jbind hf
  obtain ⟨b5, hb5⟩ := r_Text_isWord hx4
  refine j_callV M_Text_isWord 1 [al x3] (rest := []) (dt_Reader_readUnless 7 (13, .invokevirtual 100, 3) rfl) ml_X5_100 ok_Text_isWord (jfit rfl rfl ⟨rfl, rfl⟩ (nle rfl) (nlt rfl)) rfl rfl (nle rfl) ⟨rfl, rfl⟩ hb5 ((c_Text_isWord hx4)) ?_
  refine jite hf (fun hc hf => ?_) (fun hc hf => ?_)
  · refine j_if_ne (dt_Reader_readUnless 8 (16, .ifCond .ne 5, 3) rfl) rfl (fun q => absurd hc q) (fun _ => ?_)
    refine j_iconst (dt_Reader_readUnless 9 (19, .iconst 1, 1) rfl) ic_1 ?_
    cases hf
    exact j_zret (x := 1) (dt_Reader_readUnless 10 (20, .ireturn, 1) rfl) rfl rfl
  · refine j_if_ne (dt_Reader_readUnless 8 (16, .ifCond .ne 5, 3) rfl) rfl (fun _ => ?_) (fun q => absurd q hc)
    refine j_aload_n (dt_Reader_readUnless 11 (21, .aload_n 0, 1) rfl) rfl ?_
    obtain ⟨x6, hx6, hf⟩ := jbind hf
    refine j_getR (dt_Reader_readUnless 12 (22, .getfield 75, 3) rfl) fl_X5_75 hx6 (fun _ _ => rfl) ?_
    obtain ⟨V7, hV7, hf⟩ := jbind hf
    obtain ⟨b8, hb8⟩ := r_Text_advance hV7
    refine j_callV M_Text_advance 0 [] (rest := []) (dt_Reader_readUnless 13 (25, .invokevirtual 113, 3) rfl) ml_X5_113 ok_Text_advance (jfit rfl rfl ⟨rfl, rfl⟩ (nle rfl) (nlt rfl)) rfl rfl (nle rfl) ⟨rfl, rfl⟩ hb8 ((c_Text_advance hV7)) ?_
    refine j_aload_n (dt_Reader_readUnless 14 (28, .aload_n 0, 1) rfl) rfl ?_
    obtain ⟨x9, hx9, hf⟩ := jbind hf
    obtain ⟨b10, hb10⟩ := r_Reader_meaning hx9
    refine j_callV M_Reader_meaning 0 [] (rest := []) (dt_Reader_readUnless 15 (29, .invokevirtual 130, 3) rfl) ml_X5_130 ok_Reader_meaning (jfit rfl rfl ⟨rfl, rfl⟩ (nle rfl) (nlt rfl)) rfl rfl (nle rfl) ⟨rfl, rfl⟩ hb10 ((c_Reader_meaning hx9)) ?_
    refine j_istore_n (dt_Reader_readUnless 16 (32, .istore_n 2, 1) rfl) (nlt rfl) ?_
    refine j_iload_n (dt_Reader_readUnless 17 (33, .iload_n 2, 1) rfl) rfl ?_
    refine j_bipush (dt_Reader_readUnless 18 (34, .bipush 100, 2) rfl) bp_100 ?_
    refine jite hf (fun hc hf => ?_) (fun hc hf => ?_)
    · refine j_icmp_ge (dt_Reader_readUnless 19 (36, .if_icmp .ge 5, 3) rfl) rfl (fun _ => ?_) (fun q => absurd hc q)
      refine j_aload_n (dt_Reader_readUnless 22 (41, .aload_n 1, 1) rfl) rfl ?_
      refine j_iload_n (dt_Reader_readUnless 23 (42, .iload_n 2, 1) rfl) rfl ?_
      obtain ⟨V11, hV11, hf⟩ := jbind hf
      refine j_putI (dt_Reader_readUnless 24 (43, .putfield 177, 3) rfl) fl_X5_177 hV11 rfl (Or.inl rfl) ?_
      refine j_aload_n (dt_Reader_readUnless 25 (46, .aload_n 0, 1) rfl) rfl ?_
      obtain ⟨x12, hx12, hf⟩ := jbind hf
      refine j_getR (dt_Reader_readUnless 26 (47, .getfield 75, 3) rfl) fl_X5_75 hx12 (fun _ _ => rfl) ?_
      obtain ⟨V13, hV13, hf⟩ := jbind hf
      obtain ⟨b14, hb14⟩ := r_Text_advance hV13
      refine j_callV M_Text_advance 0 [] (rest := []) (dt_Reader_readUnless 27 (50, .invokevirtual 113, 3) rfl) ml_X5_113 ok_Text_advance (jfit rfl rfl ⟨rfl, rfl⟩ (nle rfl) (nlt rfl)) rfl rfl (nle rfl) ⟨rfl, rfl⟩ hb14 ((c_Text_advance hV13)) ?_
      refine j_iconst (dt_Reader_readUnless 28 (53, .iconst 1, 1) rfl) ic_1 ?_
      cases hf
      exact j_zret (x := 1) (dt_Reader_readUnless 29 (54, .ireturn, 1) rfl) rfl rfl
    · refine j_icmp_ge (dt_Reader_readUnless 19 (36, .if_icmp .ge 5, 3) rfl) rfl (fun q => absurd q hc) (fun _ => ?_)
      refine j_iconst (dt_Reader_readUnless 20 (39, .iconst 0, 1) rfl) ic_0 ?_
      cases hf
      exact j_zret (x := 0) (dt_Reader_readUnless 21 (40, .ireturn, 1) rfl) rfl rfl
theorem r_Reader_readUnless {S : hS} {V : hV} {v0 : Option Nat} {v1 : Option Nat} {res : Int32 × hV} (hf : Reader_readUnless S v0 v1 V = some res) : ∃ b, rc S 5 v0 = some b := by
  unfold Reader_readUnless at hf
  obtain ⟨b, hb, _⟩ := jbind hf
  exact ⟨b, hb⟩
def tb_Rule_pairUp : List (Nat × Instr × Nat) := [(0, .aload_n 0, 1), (1, .getfield 34, 3), (4, .iconst 0, 1), (5, .invokestatic 38, 3), (8, .iconst 0, 1), (9, .istore_n 3, 1), (10, .iload_n 3, 1), (11, .bipush 10, 2), (13, .if_icmp .ge 100, 3), (16, .iconst 0, 1), (17, .istore 4, 2), (19, .iload 4, 2), (21, .bipush 10, 2), (23, .if_icmp .ge 84, 3), (26, .iload_n 3, 1), (27, .iload 4, 2), (29, .if_icmp .eq 72, 3), (32, .iload_n 1, 1), (33, .iload_n 3, 1), (34, .invokestatic 44, 3), (37, .ifCond .eq 64, 3), (40, .iload_n 2, 1), (41, .iload 4, 2), (43, .invokestatic 44, 3), (46, .ifCond .eq 55, 3), (49, .aload_n 0, 1), (50, .getfield 9, 3), (53, .ifCond .eq 13, 3), (56, .iload 4, 2), (58, .iload_n 3, 1), (59, .if_icmp .ge 7, 3), (62, .iconst 1, 1), (63, .goto 4, 3), (66, .iconst 0, 1), (67, .istore 5, 2), (69, .aload_n 0, 1), (70, .getfield 34, 3), (73, .iload 5, 2), (75, .ifCond .eq 8, 3), (78, .iload 4, 2), (80, .goto 4, 3), (83, .iload_n 3, 1), (84, .dup2, 1), (85, .iaload, 1), (86, .iconst 1, 1), (87, .iload 5, 2), (89, .ifCond .eq 7, 3), (92, .iload_n 3, 1), (93, .goto 5, 3), (96, .iload 4, 2), (98, .ishl, 1), (99, .ior, 1), (100, .iastore, 1), (101, .iinc 4 1, 3), (104, .goto (-85), 3), (107, .iinc 3 1, 3), (110, .goto (-100), 3), (113, .return_, 1)]
theorem dt_Rule_pairUp (i : Nat) (q : Nat × Instr × Nat) (h : tb_Rule_pairUp[i]? = some q) : decode prog_9_method_2_code q.1 = .ok q.2 := jdt (by decide +kernel : tb_Rule_pairUp.all (fun q => decide (decode prog_9_method_2_code q.1 = .ok q.2)) = true) h
theorem ok_Rule_pairUp : jOKV M_Rule_pairUp 2 := ⟨⟨gt3 210 rfl rfl, gt1 16 rfl rfl, (by decide : "FirstIn$Rule" ≠ "java/lang/invoke/MethodHandle"), (by decide : "FirstIn$Rule" ≠ "java/lang/invoke/VarHandle"), (by decide +kernel : (parseMethodDescriptor "(II)V").map (fun d => d.parameters.length) = some 2)⟩, gt3 208 rfl rfl, gt3 209 rfl rfl, rfl, nlt rfl⟩
set_option maxRecDepth 100000 in
set_option maxHeartbeats 4000000 in
theorem c_Rule_pairUp {G : jG} {S : hS} {V : hV} {v0 : Option Nat} {v1 : Int32} {v2 : Int32} {res : hV} (hf : Rule_pairUp S v0 v1 v2 V = some res) : jC G M_Rule_pairUp [ar v0, ai v1, ai v2] (S, V) none (S, res) := by
  unfold Rule_pairUp at hf
  obtain ⟨_, _, hf⟩ := jbind hf
  refine jC_of (pf_X7 _ _) rfl (nle rfl) ?_
  show jJ G M_Rule_pairUp (jEnd G M_Rule_pairUp none (S, res)) 0 0 0 [(0, ar v0), (1, ai v1), (2, ai v2)] [] (S, V)
  refine j_aload_n (dt_Rule_pairUp 0 (0, .aload_n 0, 1) rfl) rfl ?_
  obtain ⟨x1, hx1, hf⟩ := jbind hf
  refine j_getR (dt_Rule_pairUp 1 (1, .getfield 34, 3) rfl) fl_X7_34 hx1 (fun _ _ => rfl) ?_
  refine j_iconst (dt_Rule_pairUp 2 (4, .iconst 0, 1) rfl) ic_0 ?_
  obtain ⟨V2, hV2, hf⟩ := jbind hf
  refine j_callS M_Jd_fill 2 [ar x1, ai 0] (rest := []) (dt_Rule_pairUp 3 (5, .invokestatic 38, 3) rfl) ml_X7_38 ok_Jd_fill (jfit rfl rfl ⟨rfl, rfl⟩ (nle rfl) (nlt rfl)) rfl rfl (nle rfl) ⟨rfl, rfl⟩ ((c_Jd_fill hV2)) ?_
  refine j_iconst (dt_Rule_pairUp 4 (8, .iconst 0, 1) rfl) ic_0 ?_
  refine j_istore_n (dt_Rule_pairUp 5 (9, .istore_n 3, 1) rfl) (nlt rfl) ?_
  obtain ⟨t10, ht10, hf⟩ := jbind hf
  have hX10 : ∀ q10 : hV, q10 = t10 → jJ G M_Rule_pairUp (jEnd G M_Rule_pairUp none (S, res)) 0 0 113 [] [] (S, q10) := by
    intro q10 hq10
    subst hq10
    cases hf
    exact j_vret (dt_Rule_pairUp 57 (113, .return_, 1) rfl) rfl
  refine j_sub (ls' := [(0, ar v0), (1, ai v1), (2, ai v2), (3, ai 0)]) rfl ?_
  refine jloop_J (C := fun s10 => jJ G M_Rule_pairUp (jEnd G M_Rule_pairUp none (S, res)) 0 0 10 [(0, ar v0), (1, ai v1), (2, ai v2), (3, ai s10.1)] [] (S, s10.2)) (fun s10 z10_ hy10 hin10 hout10 => ?_) _ _ ht10
  unfold Rule_pairUp_L10 at hy10
  refine j_iload_n (dt_Rule_pairUp 6 (10, .iload_n 3, 1) rfl) rfl ?_
  refine j_bipush (dt_Rule_pairUp 7 (11, .bipush 10, 2) rfl) bp_10 ?_
  refine jite hy10 (fun hc hy10 => ?_) (fun hc hy10 => ?_)
  · refine j_icmp_ge (dt_Rule_pairUp 8 (13, .if_icmp .ge 100, 3) rfl) rfl (fun _ => ?_) (fun q => absurd hc q)
    cases hy10
    have hz := hX10 _ (hout10 _ rfl)
    exact j_sub rfl hz
  · refine j_icmp_ge (dt_Rule_pairUp 8 (13, .if_icmp .ge 100, 3) rfl) rfl (fun q => absurd q hc) (fun _ => ?_)
    refine j_iconst (dt_Rule_pairUp 9 (16, .iconst 0, 1) rfl) ic_0 ?_
    refine j_istore (dt_Rule_pairUp 10 (17, .istore 4, 2) rfl) (nlt rfl) ?_
    obtain ⟨t19, ht19, hy10⟩ := jbind hy10
    have hX19 : ∀ q19 : hV, q19 = t19 → jJ G M_Rule_pairUp (jEnd G M_Rule_pairUp none (S, res)) 0 0 107 [(0, ar v0), (1, ai v1), (2, ai v2), (3, ai s10.1)] [] (S, q19) := by
      intro q19 hq19
      subst hq19
      refine j_iinc (dt_Rule_pairUp 55 (107, .iinc 3 1, 3) rfl) rfl (nlt rfl) (ii_1 _) ?_
      refine j_goto (dt_Rule_pairUp 56 (110, .goto (-100), 3) rfl) rfl ?_
      cases hy10
      have hz := hin10 _ rfl
      exact j_sub rfl hz
    refine j_sub (ls' := [(0, ar v0), (1, ai v1), (2, ai v2), (3, ai s10.1), (4, ai 0)]) rfl ?_
    refine jloop_J (C := fun s19 => jJ G M_Rule_pairUp (jEnd G M_Rule_pairUp none (S, res)) 0 0 19 [(0, ar v0), (1, ai v1), (2, ai v2), (3, ai s10.1), (4, ai s19.1)] [] (S, s19.2)) (fun s19 z19_ hy19 hin19 hout19 => ?_) _ _ ht19
    unfold Rule_pairUp_L19 at hy19
    refine j_iload (dt_Rule_pairUp 11 (19, .iload 4, 2) rfl) rfl ?_
    refine j_bipush (dt_Rule_pairUp 12 (21, .bipush 10, 2) rfl) bp_10 ?_
    refine jite hy19 (fun hc hy19 => ?_) (fun hc hy19 => ?_)
    · refine j_icmp_ge (dt_Rule_pairUp 13 (23, .if_icmp .ge 84, 3) rfl) rfl (fun _ => ?_) (fun q => absurd hc q)
      cases hy19
      have hz := hX19 _ (hout19 _ rfl)
      exact j_sub rfl hz
    · refine j_icmp_ge (dt_Rule_pairUp 13 (23, .if_icmp .ge 84, 3) rfl) rfl (fun q => absurd q hc) (fun _ => ?_)
      refine j_iload_n (dt_Rule_pairUp 14 (26, .iload_n 3, 1) rfl) rfl ?_
      refine j_iload (dt_Rule_pairUp 15 (27, .iload 4, 2) rfl) rfl ?_
      refine jite hy19 (fun hc hy19 => ?_) (fun hc hy19 => ?_)
      · refine j_icmp_eq (dt_Rule_pairUp 16 (29, .if_icmp .eq 72, 3) rfl) rfl (fun _ => ?_) (fun q => absurd hc q)
        refine j_iinc (dt_Rule_pairUp 53 (101, .iinc 4 1, 3) rfl) rfl (nlt rfl) (ii_1 _) ?_
        refine j_goto (dt_Rule_pairUp 54 (104, .goto (-85), 3) rfl) rfl ?_
        cases hy19
        have hz := hin19 _ rfl
        exact j_sub rfl hz
      · refine j_icmp_eq (dt_Rule_pairUp 16 (29, .if_icmp .eq 72, 3) rfl) rfl (fun q => absurd q hc) (fun _ => ?_)
        refine j_iload_n (dt_Rule_pairUp 17 (32, .iload_n 1, 1) rfl) rfl ?_
        refine j_iload_n (dt_Rule_pairUp 18 (33, .iload_n 3, 1) rfl) rfl ?_
        refine j_callSN M_Fi_has 2 [ai v1, ai s10.1] (rest := []) (dt_Rule_pairUp 19 (34, .invokestatic 44, 3) rfl) ml_X7_44 ok_Fi_has (jfit rfl rfl ⟨rfl, rfl⟩ (nle rfl) (nlt rfl)) rfl rfl (nle rfl) ⟨rfl, rfl⟩ (c_Fi_has rfl) ?_
        refine jite hy19 (fun hc hy19 => ?_) (fun hc hy19 => ?_)
        · refine j_if_eq (dt_Rule_pairUp 20 (37, .ifCond .eq 64, 3) rfl) rfl (fun _ => ?_) (fun q => absurd hc q)
          refine j_iinc (dt_Rule_pairUp 53 (101, .iinc 4 1, 3) rfl) rfl (nlt rfl) (ii_1 _) ?_
          refine j_goto (dt_Rule_pairUp 54 (104, .goto (-85), 3) rfl) rfl ?_
          cases hy19
          have hz := hin19 _ rfl
          exact j_sub rfl hz
        · refine j_if_eq (dt_Rule_pairUp 20 (37, .ifCond .eq 64, 3) rfl) rfl (fun q => absurd q hc) (fun _ => ?_)
          refine j_iload_n (dt_Rule_pairUp 21 (40, .iload_n 2, 1) rfl) rfl ?_
          refine j_iload (dt_Rule_pairUp 22 (41, .iload 4, 2) rfl) rfl ?_
          refine j_callSN M_Fi_has 2 [ai v2, ai s19.1] (rest := []) (dt_Rule_pairUp 23 (43, .invokestatic 44, 3) rfl) ml_X7_44 ok_Fi_has (jfit rfl rfl ⟨rfl, rfl⟩ (nle rfl) (nlt rfl)) rfl rfl (nle rfl) ⟨rfl, rfl⟩ (c_Fi_has rfl) ?_
          refine jite hy19 (fun hc hy19 => ?_) (fun hc hy19 => ?_)
          · refine j_if_eq (dt_Rule_pairUp 24 (46, .ifCond .eq 55, 3) rfl) rfl (fun _ => ?_) (fun q => absurd hc q)
            refine j_iinc (dt_Rule_pairUp 53 (101, .iinc 4 1, 3) rfl) rfl (nlt rfl) (ii_1 _) ?_
            refine j_goto (dt_Rule_pairUp 54 (104, .goto (-85), 3) rfl) rfl ?_
            cases hy19
            have hz := hin19 _ rfl
            exact j_sub rfl hz
          · refine j_if_eq (dt_Rule_pairUp 24 (46, .ifCond .eq 55, 3) rfl) rfl (fun q => absurd q hc) (fun _ => ?_)
            refine j_aload_n (dt_Rule_pairUp 25 (49, .aload_n 0, 1) rfl) rfl ?_
            obtain ⟨x3, hx3, hy19⟩ := jbind hy19
            refine j_getI (dt_Rule_pairUp 26 (50, .getfield 9, 3) rfl) fl_X7_9 hx3 (fun _ _ => rfl) ?_
            obtain ⟨j53, hj53, hy19⟩ := jbind hy19
            have hP53 : jJ G M_Rule_pairUp (jEnd G M_Rule_pairUp none (S, res)) 0 0 67 [(0, ar v0), (1, ai v1), (2, ai v2), (3, ai s10.1), (4, ai s19.1)] [ai j53] (S, s19.2) := by
              refine j_istore (dt_Rule_pairUp 34 (67, .istore 5, 2) rfl) (nlt rfl) ?_
              refine j_aload_n (dt_Rule_pairUp 35 (69, .aload_n 0, 1) rfl) rfl ?_
              obtain ⟨x4, hx4, hy19⟩ := jbind hy19
              refine j_getR (dt_Rule_pairUp 36 (70, .getfield 34, 3) rfl) fl_X7_34 hx4 (fun _ _ => rfl) ?_
              refine j_iload (dt_Rule_pairUp 37 (73, .iload 5, 2) rfl) rfl ?_
              obtain ⟨j75, hj75, hy19⟩ := jbind hy19
              have hP75 : jJ G M_Rule_pairUp (jEnd G M_Rule_pairUp none (S, res)) 0 0 84 [(0, ar v0), (1, ai v1), (2, ai v2), (3, ai s10.1), (4, ai s19.1), (5, ai j53)] [ai j75, ar x4] (S, s19.2) := by
                refine j_dup2 (dt_Rule_pairUp 42 (84, .dup2, 1) rfl) rfl rfl ?_
                obtain ⟨x5, hx5, hy19⟩ := jbind hy19
                refine j_aldI (dt_Rule_pairUp 43 (85, .iaload, 1) rfl) hx5 ?_
                refine j_iconst (dt_Rule_pairUp 44 (86, .iconst 1, 1) rfl) ic_1 ?_
                refine j_iload (dt_Rule_pairUp 45 (87, .iload 5, 2) rfl) rfl ?_
                obtain ⟨j89, hj89, hy19⟩ := jbind hy19
                have hP89 : jJ G M_Rule_pairUp (jEnd G M_Rule_pairUp none (S, res)) 0 0 98 [(0, ar v0), (1, ai v1), (2, ai v2), (3, ai s10.1), (4, ai s19.1)] [ai j89, ai 1, ai x5, ai j75, ar x4] (S, s19.2) := by
                  refine j_ishl (dt_Rule_pairUp 50 (98, .ishl, 1) rfl) ?_
                  refine j_ior (dt_Rule_pairUp 51 (99, .ior, 1) rfl) ?_
                  obtain ⟨V6, hV6, hy19⟩ := jbind hy19
                  refine j_astI (dt_Rule_pairUp 52 (100, .iastore, 1) rfl) hV6 ?_
                  refine j_iinc (dt_Rule_pairUp 53 (101, .iinc 4 1, 3) rfl) rfl (nlt rfl) (ii_1 _) ?_
                  refine j_goto (dt_Rule_pairUp 54 (104, .goto (-85), 3) rfl) rfl ?_
                  cases hy19
                  have hz := hin19 _ rfl
                  exact j_sub rfl hz
                refine jite hj89 (fun hc hj89 => ?_) (fun hc hj89 => ?_)
                · refine j_if_eq (dt_Rule_pairUp 46 (89, .ifCond .eq 7, 3) rfl) rfl (fun _ => ?_) (fun q => absurd hc q)
                  refine j_iload (dt_Rule_pairUp 49 (96, .iload 4, 2) rfl) rfl ?_
                  cases hj89
                  exact j_sub rfl hP89
                · refine j_if_eq (dt_Rule_pairUp 46 (89, .ifCond .eq 7, 3) rfl) rfl (fun q => absurd q hc) (fun _ => ?_)
                  refine j_iload_n (dt_Rule_pairUp 47 (92, .iload_n 3, 1) rfl) rfl ?_
                  refine j_goto (dt_Rule_pairUp 48 (93, .goto 5, 3) rfl) rfl ?_
                  cases hj89
                  exact j_sub rfl hP89
              refine jite hj75 (fun hc hj75 => ?_) (fun hc hj75 => ?_)
              · refine j_if_eq (dt_Rule_pairUp 38 (75, .ifCond .eq 8, 3) rfl) rfl (fun _ => ?_) (fun q => absurd hc q)
                refine j_iload_n (dt_Rule_pairUp 41 (83, .iload_n 3, 1) rfl) rfl ?_
                cases hj75
                exact j_sub rfl hP75
              · refine j_if_eq (dt_Rule_pairUp 38 (75, .ifCond .eq 8, 3) rfl) rfl (fun q => absurd q hc) (fun _ => ?_)
                refine j_iload (dt_Rule_pairUp 39 (78, .iload 4, 2) rfl) rfl ?_
                refine j_goto (dt_Rule_pairUp 40 (80, .goto 4, 3) rfl) rfl ?_
                cases hj75
                exact j_sub rfl hP75
            refine jite hj53 (fun hc hj53 => ?_) (fun hc hj53 => ?_)
            · refine j_if_eq (dt_Rule_pairUp 27 (53, .ifCond .eq 13, 3) rfl) rfl (fun _ => ?_) (fun q => absurd hc q)
              refine j_iconst (dt_Rule_pairUp 33 (66, .iconst 0, 1) rfl) ic_0 ?_
              cases hj53
              exact j_sub rfl hP53
            · refine j_if_eq (dt_Rule_pairUp 27 (53, .ifCond .eq 13, 3) rfl) rfl (fun q => absurd q hc) (fun _ => ?_)
              refine j_iload (dt_Rule_pairUp 28 (56, .iload 4, 2) rfl) rfl ?_
              refine j_iload_n (dt_Rule_pairUp 29 (58, .iload_n 3, 1) rfl) rfl ?_
              refine jite hj53 (fun hc hj53 => ?_) (fun hc hj53 => ?_)
              · refine j_icmp_ge (dt_Rule_pairUp 30 (59, .if_icmp .ge 7, 3) rfl) rfl (fun _ => ?_) (fun q => absurd hc q)
                refine j_iconst (dt_Rule_pairUp 33 (66, .iconst 0, 1) rfl) ic_0 ?_
                cases hj53
                exact j_sub rfl hP53
              · refine j_icmp_ge (dt_Rule_pairUp 30 (59, .if_icmp .ge 7, 3) rfl) rfl (fun q => absurd q hc) (fun _ => ?_)
                refine j_iconst (dt_Rule_pairUp 31 (62, .iconst 1, 1) rfl) ic_1 ?_
                refine j_goto (dt_Rule_pairUp 32 (63, .goto 4, 3) rfl) rfl ?_
                cases hj53
                exact j_sub rfl hP53
theorem r_Rule_pairUp {S : hS} {V : hV} {v0 : Option Nat} {v1 : Int32} {v2 : Int32} {res : hV} (hf : Rule_pairUp S v0 v1 v2 V = some res) : ∃ b, rc S 7 v0 = some b := by
  unfold Rule_pairUp at hf
  obtain ⟨b, hb, _⟩ := jbind hf
  exact ⟨b, hb⟩
def tb_Reader_readRule : List (Nat × Instr × Nat) := [(0, .aload_n 1, 1), (1, .getfield 141, 3), (4, .ifCond .lt 12, 3), (7, .aload_n 1, 1), (8, .getfield 141, 3), (11, .bipush 12, 2), (13, .if_icmp .lt 5, 3), (16, .iconst 0, 1), (17, .ireturn, 1), (18, .aload_n 1, 1), (19, .getfield 144, 3), (22, .aload_n 1, 1), (23, .getfield 141, 3), (26, .aaload, 1), (27, .astore_n 3, 1), (28, .aload_n 3, 1), (29, .iload_n 2, 1), (30, .putfield 148, 3), (33, .aload_n 0, 1), (34, .getfield 75, 3), (37, .invokevirtual 113, 3), (40, .aload_n 3, 1), (41, .aload_n 0, 1), (42, .invokevirtual 130, 3), (45, .putfield 151, 3), (48, .aload_n 3, 1), (49, .getfield 151, 3), (52, .iconst (-1), 1), (53, .if_icmp .ne 5, 3), (56, .iconst 0, 1), (57, .ireturn, 1), (58, .aload_n 0, 1), (59, .getfield 75, 3), (62, .invokevirtual 113, 3), (65, .aload_n 3, 1), (66, .aload_n 0, 1), (67, .invokevirtual 130, 3), (70, .putfield 154, 3), (73, .aload_n 3, 1), (74, .getfield 154, 3), (77, .iconst (-1), 1), (78, .if_icmp .ne 5, 3), (81, .iconst 0, 1), (82, .ireturn, 1), (83, .aload_n 0, 1), (84, .getfield 75, 3), (87, .invokevirtual 113, 3), (90, .aload_n 0, 1), (91, .aload_n 0, 1), (92, .getfield 50, 3), (95, .invokevirtual 127, 3), (98, .ifCond .eq 16, 3), (101, .aload_n 0, 1), (102, .getfield 75, 3), (105, .iconst 1, 1), (106, .bipush 9, 2), (108, .invokevirtual 157, 3), (111, .ifCond .ne 5, 3), (114, .iconst 0, 1), (115, .ireturn, 1), (116, .aload_n 3, 1), (117, .aload_n 0, 1), (118, .getfield 75, 3), (121, .getfield 160, 3), (124, .l2i, 1), (125, .putfield 163, 3), (128, .aload_n 0, 1), (129, .getfield 75, 3), (132, .invokevirtual 113, 3), (135, .aload_n 0, 1), (136, .aload_n 3, 1), (137, .invokevirtual 166, 3), (140, .ifCond .eq 11, 3), (143, .aload_n 0, 1), (144, .aload_n 3, 1), (145, .invokevirtual 170, 3), (148, .ifCond .ne 5, 3), (151, .iconst 0, 1), (152, .ireturn, 1), (153, .aload_n 3, 1), (154, .aload_n 1, 1), (155, .aload_n 3, 1), (156, .getfield 151, 3), (159, .invokevirtual 173, 3), (162, .aload_n 1, 1), (163, .aload_n 3, 1), (164, .getfield 154, 3), (167, .invokevirtual 173, 3), (170, .aload_n 1, 1), (171, .aload_n 3, 1), (172, .getfield 177, 3), (175, .invokevirtual 173, 3), (178, .iconst (-1), 1), (179, .ixor, 1), (180, .iand, 1), (181, .invokevirtual 179, 3), (184, .aload_n 1, 1), (185, .dup, 1), (186, .getfield 141, 3), (189, .iconst 1, 1), (190, .iadd, 1), (191, .putfield 141, 3), (194, .aload_n 0, 1), (195, .invokevirtual 120, 3), (198, .ireturn, 1)]
theorem dt_Reader_readRule (i : Nat) (q : Nat × Instr × Nat) (h : tb_Reader_readRule[i]? = some q) : decode prog_7_method_6_code q.1 = .ok q.2 := jdt (by decide +kernel : tb_Reader_readRule.all (fun q => decide (decode prog_7_method_6_code q.1 = .ok q.2)) = true) h
theorem ok_Reader_readRule : jOKV M_Reader_readRule 2 := ⟨⟨gt3 186 rfl rfl, gt1 3 rfl rfl, (by decide : "FirstIn$Reader" ≠ "java/lang/invoke/MethodHandle"), (by decide : "FirstIn$Reader" ≠ "java/lang/invoke/VarHandle"), (by decide +kernel : (parseMethodDescriptor "(LFirstIn$Court;I)Z").map (fun d => d.parameters.length) = some 2)⟩, gt3 184 rfl rfl, gt3 185 rfl rfl, rfl, nlt rfl⟩
set_option maxRecDepth 100000 in
set_option maxHeartbeats 4000000 in
theorem c_Reader_readRule {G : jG} {S : hS} {V : hV} {v0 : Option Nat} {v1 : Option Nat} {v2 : Int32} {res : Int32 × hV} (hf : Reader_readRule S v0 v1 v2 V = some res) : jC G M_Reader_readRule [ar v0, ar v1, ai v2] (S, V) (some (ai res.1)) (S, res.2) := by
  unfold Reader_readRule at hf
  obtain ⟨_, _, hf⟩ := jbind hf
  refine jC_of (pf_X5 _ _) rfl (nle rfl) ?_
  show jJ G M_Reader_readRule (jEnd G M_Reader_readRule (some (ai res.1)) (S, res.2)) 0 0 0 [(0, ar v0), (1, ar v1), (2, ai v2)] [] (S, V)
  refine j_aload_n (dt_Reader_readRule 0 (0, .aload_n 1, 1) rfl) rfl ?_
  obtain ⟨x1, hx1, hf⟩ := jbind hf
  refine j_getI (dt_Reader_readRule 1 (1, .getfield 141, 3) rfl) fl_X5_141 hx1 (fun _ _ => rfl) ?_
  refine jite hf (fun hc hf => ?_) (fun hc hf => ?_)
  · refine j_if_lt (dt_Reader_readRule 2 (4, .ifCond .lt 12, 3) rfl) rfl (fun _ => ?_) (fun q => absurd hc q)
    refine j_iconst (dt_Reader_readRule 7 (16, .iconst 0, 1) rfl) ic_0 ?_
    cases hf
    exact j_zret (x := 0) (dt_Reader_readRule 8 (17, .ireturn, 1) rfl) rfl rfl
  · refine j_if_lt (dt_Reader_readRule 2 (4, .ifCond .lt 12, 3) rfl) rfl (fun q => absurd q hc) (fun _ => ?_)
    refine j_aload_n (dt_Reader_readRule 3 (7, .aload_n 1, 1) rfl) rfl ?_
    obtain ⟨x2, hx2, hf⟩ := jbind hf
    refine j_getI (dt_Reader_readRule 4 (8, .getfield 141, 3) rfl) fl_X5_141 hx2 (fun _ _ => rfl) ?_
    refine j_bipush (dt_Reader_readRule 5 (11, .bipush 12, 2) rfl) bp_12 ?_
    refine jite hf (fun hc hf => ?_) (fun hc hf => ?_)
    · refine j_icmp_lt (dt_Reader_readRule 6 (13, .if_icmp .lt 5, 3) rfl) rfl (fun _ => ?_) (fun q => absurd hc q)
      refine j_aload_n (dt_Reader_readRule 9 (18, .aload_n 1, 1) rfl) rfl ?_
      obtain ⟨x3, hx3, hf⟩ := jbind hf
      refine j_getR (dt_Reader_readRule 10 (19, .getfield 144, 3) rfl) fl_X5_144 hx3 (fun _ _ => rfl) ?_
      refine j_aload_n (dt_Reader_readRule 11 (22, .aload_n 1, 1) rfl) rfl ?_
      obtain ⟨x4, hx4, hf⟩ := jbind hf
      refine j_getI (dt_Reader_readRule 12 (23, .getfield 141, 3) rfl) fl_X5_141 hx4 (fun _ _ => rfl) ?_
      obtain ⟨x5, hx5, hf⟩ := jbind hf
      refine j_aldR 105 (dt_Reader_readRule 13 (26, .aaload, 1) rfl) (by decide) hx5 ?_
      refine j_astore_n (dt_Reader_readRule 14 (27, .astore_n 3, 1) rfl) (nlt rfl) ?_
      refine j_aload_n (dt_Reader_readRule 15 (28, .aload_n 3, 1) rfl) rfl ?_
      refine j_iload_n (dt_Reader_readRule 16 (29, .iload_n 2, 1) rfl) rfl ?_
      obtain ⟨V6, hV6, hf⟩ := jbind hf
      refine j_putI (dt_Reader_readRule 17 (30, .putfield 148, 3) rfl) fl_X5_148 hV6 rfl (Or.inl rfl) ?_
      refine j_aload_n (dt_Reader_readRule 18 (33, .aload_n 0, 1) rfl) rfl ?_
      obtain ⟨x7, hx7, hf⟩ := jbind hf
      refine j_getR (dt_Reader_readRule 19 (34, .getfield 75, 3) rfl) fl_X5_75 hx7 (fun _ _ => rfl) ?_
      obtain ⟨V8, hV8, hf⟩ := jbind hf
      obtain ⟨b9, hb9⟩ := r_Text_advance hV8
      refine j_callV M_Text_advance 0 [] (rest := []) (dt_Reader_readRule 20 (37, .invokevirtual 113, 3) rfl) ml_X5_113 ok_Text_advance (jfit rfl rfl ⟨rfl, rfl⟩ (nle rfl) (nlt rfl)) rfl rfl (nle rfl) ⟨rfl, rfl⟩ hb9 ((c_Text_advance hV8)) ?_
      refine j_aload_n (dt_Reader_readRule 21 (40, .aload_n 3, 1) rfl) rfl ?_
      refine j_aload_n (dt_Reader_readRule 22 (41, .aload_n 0, 1) rfl) rfl ?_
      obtain ⟨x10, hx10, hf⟩ := jbind hf
      obtain ⟨b11, hb11⟩ := r_Reader_meaning hx10
      refine j_callV M_Reader_meaning 0 [] (rest := [ar x5]) (dt_Reader_readRule 23 (42, .invokevirtual 130, 3) rfl) ml_X5_130 ok_Reader_meaning (jfit rfl rfl ⟨rfl, rfl⟩ (nle rfl) (nlt rfl)) rfl rfl (nle rfl) ⟨rfl, rfl⟩ hb11 ((c_Reader_meaning hx10)) ?_
      obtain ⟨V12, hV12, hf⟩ := jbind hf
      refine j_putI (dt_Reader_readRule 24 (45, .putfield 151, 3) rfl) fl_X5_151 hV12 rfl (Or.inl rfl) ?_
      refine j_aload_n (dt_Reader_readRule 25 (48, .aload_n 3, 1) rfl) rfl ?_
      obtain ⟨x13, hx13, hf⟩ := jbind hf
      refine j_getI (dt_Reader_readRule 26 (49, .getfield 151, 3) rfl) fl_X5_151 hx13 (fun _ _ => rfl) ?_
      refine j_iconst (dt_Reader_readRule 27 (52, .iconst (-1), 1) rfl) ic_m1 ?_
      refine jite hf (fun hc hf => ?_) (fun hc hf => ?_)
      · refine j_icmp_ne (dt_Reader_readRule 28 (53, .if_icmp .ne 5, 3) rfl) rfl (fun q => absurd hc q) (fun _ => ?_)
        refine j_iconst (dt_Reader_readRule 29 (56, .iconst 0, 1) rfl) ic_0 ?_
        cases hf
        exact j_zret (x := 0) (dt_Reader_readRule 30 (57, .ireturn, 1) rfl) rfl rfl
      · refine j_icmp_ne (dt_Reader_readRule 28 (53, .if_icmp .ne 5, 3) rfl) rfl (fun _ => ?_) (fun q => absurd q hc)
        refine j_aload_n (dt_Reader_readRule 31 (58, .aload_n 0, 1) rfl) rfl ?_
        obtain ⟨x14, hx14, hf⟩ := jbind hf
        refine j_getR (dt_Reader_readRule 32 (59, .getfield 75, 3) rfl) fl_X5_75 hx14 (fun _ _ => rfl) ?_
        obtain ⟨V15, hV15, hf⟩ := jbind hf
        obtain ⟨b16, hb16⟩ := r_Text_advance hV15
        refine j_callV M_Text_advance 0 [] (rest := []) (dt_Reader_readRule 33 (62, .invokevirtual 113, 3) rfl) ml_X5_113 ok_Text_advance (jfit rfl rfl ⟨rfl, rfl⟩ (nle rfl) (nlt rfl)) rfl rfl (nle rfl) ⟨rfl, rfl⟩ hb16 ((c_Text_advance hV15)) ?_
        refine j_aload_n (dt_Reader_readRule 34 (65, .aload_n 3, 1) rfl) rfl ?_
        refine j_aload_n (dt_Reader_readRule 35 (66, .aload_n 0, 1) rfl) rfl ?_
        obtain ⟨x17, hx17, hf⟩ := jbind hf
        obtain ⟨b18, hb18⟩ := r_Reader_meaning hx17
        refine j_callV M_Reader_meaning 0 [] (rest := [ar x5]) (dt_Reader_readRule 36 (67, .invokevirtual 130, 3) rfl) ml_X5_130 ok_Reader_meaning (jfit rfl rfl ⟨rfl, rfl⟩ (nle rfl) (nlt rfl)) rfl rfl (nle rfl) ⟨rfl, rfl⟩ hb18 ((c_Reader_meaning hx17)) ?_
        obtain ⟨V19, hV19, hf⟩ := jbind hf
        refine j_putI (dt_Reader_readRule 37 (70, .putfield 154, 3) rfl) fl_X5_154 hV19 rfl (Or.inl rfl) ?_
        refine j_aload_n (dt_Reader_readRule 38 (73, .aload_n 3, 1) rfl) rfl ?_
        obtain ⟨x20, hx20, hf⟩ := jbind hf
        refine j_getI (dt_Reader_readRule 39 (74, .getfield 154, 3) rfl) fl_X5_154 hx20 (fun _ _ => rfl) ?_
        refine j_iconst (dt_Reader_readRule 40 (77, .iconst (-1), 1) rfl) ic_m1 ?_
        refine jite hf (fun hc hf => ?_) (fun hc hf => ?_)
        · refine j_icmp_ne (dt_Reader_readRule 41 (78, .if_icmp .ne 5, 3) rfl) rfl (fun q => absurd hc q) (fun _ => ?_)
          refine j_iconst (dt_Reader_readRule 42 (81, .iconst 0, 1) rfl) ic_0 ?_
          cases hf
          exact j_zret (x := 0) (dt_Reader_readRule 43 (82, .ireturn, 1) rfl) rfl rfl
        · refine j_icmp_ne (dt_Reader_readRule 41 (78, .if_icmp .ne 5, 3) rfl) rfl (fun _ => ?_) (fun q => absurd q hc)
          refine j_aload_n (dt_Reader_readRule 44 (83, .aload_n 0, 1) rfl) rfl ?_
          obtain ⟨x21, hx21, hf⟩ := jbind hf
          refine j_getR (dt_Reader_readRule 45 (84, .getfield 75, 3) rfl) fl_X5_75 hx21 (fun _ _ => rfl) ?_
          obtain ⟨V22, hV22, hf⟩ := jbind hf
          obtain ⟨b23, hb23⟩ := r_Text_advance hV22
          refine j_callV M_Text_advance 0 [] (rest := []) (dt_Reader_readRule 46 (87, .invokevirtual 113, 3) rfl) ml_X5_113 ok_Text_advance (jfit rfl rfl ⟨rfl, rfl⟩ (nle rfl) (nlt rfl)) rfl rfl (nle rfl) ⟨rfl, rfl⟩ hb23 ((c_Text_advance hV22)) ?_
          refine j_aload_n (dt_Reader_readRule 47 (90, .aload_n 0, 1) rfl) rfl ?_
          refine j_aload_n (dt_Reader_readRule 48 (91, .aload_n 0, 1) rfl) rfl ?_
          obtain ⟨x24, hx24, hf⟩ := jbind hf
          refine j_getL (dt_Reader_readRule 49 (92, .getfield 50, 3) rfl) fl_X5_50 hx24 (fun _ _ => rfl) ?_
          obtain ⟨w25, hw25, hf⟩ := jbind hf
          obtain ⟨b26, hb26⟩ := r_Reader_readWord hw25
          refine j_callV M_Reader_readWord 1 [al x24] (rest := []) (dt_Reader_readRule 50 (95, .invokevirtual 127, 3) rfl) ml_X5_127 ok_Reader_readWord (jfit rfl rfl ⟨rfl, rfl⟩ (nle rfl) (nlt rfl)) rfl rfl (nle rfl) ⟨rfl, rfl⟩ hb26 ((c_Reader_readWord hw25)) ?_
          refine jite hf (fun hc hf => ?_) (fun hc hf => ?_)
          · refine j_if_eq (dt_Reader_readRule 51 (98, .ifCond .eq 16, 3) rfl) rfl (fun _ => ?_) (fun q => absurd hc q)
            refine j_iconst (dt_Reader_readRule 58 (114, .iconst 0, 1) rfl) ic_0 ?_
            cases hf
            exact j_zret (x := 0) (dt_Reader_readRule 59 (115, .ireturn, 1) rfl) rfl rfl
          · refine j_if_eq (dt_Reader_readRule 51 (98, .ifCond .eq 16, 3) rfl) rfl (fun q => absurd q hc) (fun _ => ?_)
            refine j_aload_n (dt_Reader_readRule 52 (101, .aload_n 0, 1) rfl) rfl ?_
            obtain ⟨x27, hx27, hf⟩ := jbind hf
            refine j_getR (dt_Reader_readRule 53 (102, .getfield 75, 3) rfl) fl_X5_75 hx27 (fun _ _ => rfl) ?_
            refine j_iconst (dt_Reader_readRule 54 (105, .iconst 1, 1) rfl) ic_1 ?_
            refine j_bipush (dt_Reader_readRule 55 (106, .bipush 9, 2) rfl) bp_9 ?_
            obtain ⟨x28, hx28, hf⟩ := jbind hf
            obtain ⟨b29, hb29⟩ := r_Text_isNumber hx28
            refine j_callV M_Text_isNumber 2 [ai 1, ai 9] (rest := []) (dt_Reader_readRule 56 (108, .invokevirtual 157, 3) rfl) ml_X5_157 ok_Text_isNumber (jfit rfl rfl ⟨rfl, rfl⟩ (nle rfl) (nlt rfl)) rfl rfl (nle rfl) ⟨rfl, rfl⟩ hb29 ((c_Text_isNumber hx28)) ?_
            refine jite hf (fun hc hf => ?_) (fun hc hf => ?_)
            · refine j_if_ne (dt_Reader_readRule 57 (111, .ifCond .ne 5, 3) rfl) rfl (fun q => absurd hc q) (fun _ => ?_)
              refine j_iconst (dt_Reader_readRule 58 (114, .iconst 0, 1) rfl) ic_0 ?_
              cases hf
              exact j_zret (x := 0) (dt_Reader_readRule 59 (115, .ireturn, 1) rfl) rfl rfl
            · refine j_if_ne (dt_Reader_readRule 57 (111, .ifCond .ne 5, 3) rfl) rfl (fun _ => ?_) (fun q => absurd q hc)
              refine j_aload_n (dt_Reader_readRule 60 (116, .aload_n 3, 1) rfl) rfl ?_
              refine j_aload_n (dt_Reader_readRule 61 (117, .aload_n 0, 1) rfl) rfl ?_
              obtain ⟨x30, hx30, hf⟩ := jbind hf
              refine j_getR (dt_Reader_readRule 62 (118, .getfield 75, 3) rfl) fl_X5_75 hx30 (fun _ _ => rfl) ?_
              obtain ⟨x31, hx31, hf⟩ := jbind hf
              refine j_getL (dt_Reader_readRule 63 (121, .getfield 160, 3) rfl) fl_X5_160 hx31 (fun _ _ => rfl) ?_
              refine j_l2i (dt_Reader_readRule 64 (124, .l2i, 1) rfl) ?_
              obtain ⟨V32, hV32, hf⟩ := jbind hf
              refine j_putI (dt_Reader_readRule 65 (125, .putfield 163, 3) rfl) fl_X5_163 hV32 rfl (Or.inl rfl) ?_
              refine j_aload_n (dt_Reader_readRule 66 (128, .aload_n 0, 1) rfl) rfl ?_
              obtain ⟨x33, hx33, hf⟩ := jbind hf
              refine j_getR (dt_Reader_readRule 67 (129, .getfield 75, 3) rfl) fl_X5_75 hx33 (fun _ _ => rfl) ?_
              obtain ⟨V34, hV34, hf⟩ := jbind hf
              obtain ⟨b35, hb35⟩ := r_Text_advance hV34
              refine j_callV M_Text_advance 0 [] (rest := []) (dt_Reader_readRule 68 (132, .invokevirtual 113, 3) rfl) ml_X5_113 ok_Text_advance (jfit rfl rfl ⟨rfl, rfl⟩ (nle rfl) (nlt rfl)) rfl rfl (nle rfl) ⟨rfl, rfl⟩ hb35 ((c_Text_advance hV34)) ?_
              refine j_aload_n (dt_Reader_readRule 69 (135, .aload_n 0, 1) rfl) rfl ?_
              refine j_aload_n (dt_Reader_readRule 70 (136, .aload_n 3, 1) rfl) rfl ?_
              obtain ⟨w36, hw36, hf⟩ := jbind hf
              obtain ⟨b37, hb37⟩ := r_Reader_readRoom hw36
              refine j_callV M_Reader_readRoom 1 [ar x5] (rest := []) (dt_Reader_readRule 71 (137, .invokevirtual 166, 3) rfl) ml_X5_166 ok_Reader_readRoom (jfit rfl rfl ⟨rfl, rfl⟩ (nle rfl) (nlt rfl)) rfl rfl (nle rfl) ⟨rfl, rfl⟩ hb37 ((c_Reader_readRoom hw36)) ?_
              refine jite hf (fun hc hf => ?_) (fun hc hf => ?_)
              · refine j_if_eq (dt_Reader_readRule 72 (140, .ifCond .eq 11, 3) rfl) rfl (fun _ => ?_) (fun q => absurd hc q)
                refine j_iconst (dt_Reader_readRule 77 (151, .iconst 0, 1) rfl) ic_0 ?_
                cases hf
                exact j_zret (x := 0) (dt_Reader_readRule 78 (152, .ireturn, 1) rfl) rfl rfl
              · refine j_if_eq (dt_Reader_readRule 72 (140, .ifCond .eq 11, 3) rfl) rfl (fun q => absurd q hc) (fun _ => ?_)
                refine j_aload_n (dt_Reader_readRule 73 (143, .aload_n 0, 1) rfl) rfl ?_
                refine j_aload_n (dt_Reader_readRule 74 (144, .aload_n 3, 1) rfl) rfl ?_
                obtain ⟨w38, hw38, hf⟩ := jbind hf
                obtain ⟨b39, hb39⟩ := r_Reader_readUnless hw38
                refine j_callV M_Reader_readUnless 1 [ar x5] (rest := []) (dt_Reader_readRule 75 (145, .invokevirtual 170, 3) rfl) ml_X5_170 ok_Reader_readUnless (jfit rfl rfl ⟨rfl, rfl⟩ (nle rfl) (nlt rfl)) rfl rfl (nle rfl) ⟨rfl, rfl⟩ hb39 ((c_Reader_readUnless hw38)) ?_
                refine jite hf (fun hc hf => ?_) (fun hc hf => ?_)
                · refine j_if_ne (dt_Reader_readRule 76 (148, .ifCond .ne 5, 3) rfl) rfl (fun q => absurd hc q) (fun _ => ?_)
                  refine j_iconst (dt_Reader_readRule 77 (151, .iconst 0, 1) rfl) ic_0 ?_
                  cases hf
                  exact j_zret (x := 0) (dt_Reader_readRule 78 (152, .ireturn, 1) rfl) rfl rfl
                · refine j_if_ne (dt_Reader_readRule 76 (148, .ifCond .ne 5, 3) rfl) rfl (fun _ => ?_) (fun q => absurd q hc)
                  refine j_aload_n (dt_Reader_readRule 79 (153, .aload_n 3, 1) rfl) rfl ?_
                  refine j_aload_n (dt_Reader_readRule 80 (154, .aload_n 1, 1) rfl) rfl ?_
                  refine j_aload_n (dt_Reader_readRule 81 (155, .aload_n 3, 1) rfl) rfl ?_
                  obtain ⟨x40, hx40, hf⟩ := jbind hf
                  refine j_getI (dt_Reader_readRule 82 (156, .getfield 151, 3) rfl) fl_X5_151 hx40 (fun _ _ => rfl) ?_
                  obtain ⟨x41, hx41, hf⟩ := jbind hf
                  obtain ⟨b42, hb42⟩ := r_Court_guestsOf hx41
                  refine j_callV M_Court_guestsOf 1 [ai x40] (rest := [ar x5]) (dt_Reader_readRule 83 (159, .invokevirtual 173, 3) rfl) ml_X5_173 ok_Court_guestsOf (jfit rfl rfl ⟨rfl, rfl⟩ (nle rfl) (nlt rfl)) rfl rfl (nle rfl) ⟨rfl, rfl⟩ hb42 ((c_Court_guestsOf hx41)) ?_
                  refine j_aload_n (dt_Reader_readRule 84 (162, .aload_n 1, 1) rfl) rfl ?_
                  refine j_aload_n (dt_Reader_readRule 85 (163, .aload_n 3, 1) rfl) rfl ?_
                  obtain ⟨x43, hx43, hf⟩ := jbind hf
                  refine j_getI (dt_Reader_readRule 86 (164, .getfield 154, 3) rfl) fl_X5_154 hx43 (fun _ _ => rfl) ?_
                  obtain ⟨x44, hx44, hf⟩ := jbind hf
                  obtain ⟨b45, hb45⟩ := r_Court_guestsOf hx44
                  refine j_callV M_Court_guestsOf 1 [ai x43] (rest := [ai x41, ar x5]) (dt_Reader_readRule 87 (167, .invokevirtual 173, 3) rfl) ml_X5_173 ok_Court_guestsOf (jfit rfl rfl ⟨rfl, rfl⟩ (nle rfl) (nlt rfl)) rfl rfl (nle rfl) ⟨rfl, rfl⟩ hb45 ((c_Court_guestsOf hx44)) ?_
                  refine j_aload_n (dt_Reader_readRule 88 (170, .aload_n 1, 1) rfl) rfl ?_
                  refine j_aload_n (dt_Reader_readRule 89 (171, .aload_n 3, 1) rfl) rfl ?_
                  obtain ⟨x46, hx46, hf⟩ := jbind hf
                  refine j_getI (dt_Reader_readRule 90 (172, .getfield 177, 3) rfl) fl_X5_177 hx46 (fun _ _ => rfl) ?_
                  obtain ⟨x47, hx47, hf⟩ := jbind hf
                  obtain ⟨b48, hb48⟩ := r_Court_guestsOf hx47
                  refine j_callV M_Court_guestsOf 1 [ai x46] (rest := [ai x44, ai x41, ar x5]) (dt_Reader_readRule 91 (175, .invokevirtual 173, 3) rfl) ml_X5_173 ok_Court_guestsOf (jfit rfl rfl ⟨rfl, rfl⟩ (nle rfl) (nlt rfl)) rfl rfl (nle rfl) ⟨rfl, rfl⟩ hb48 ((c_Court_guestsOf hx47)) ?_
                  refine j_iconst (dt_Reader_readRule 92 (178, .iconst (-1), 1) rfl) ic_m1 ?_
                  refine j_ixor (dt_Reader_readRule 93 (179, .ixor, 1) rfl) ?_
                  refine j_iand (dt_Reader_readRule 94 (180, .iand, 1) rfl) ?_
                  obtain ⟨V49, hV49, hf⟩ := jbind hf
                  obtain ⟨b50, hb50⟩ := r_Rule_pairUp hV49
                  refine j_callV M_Rule_pairUp 2 [ai x41, ai (x44 &&& (x47 ^^^ (-1)))] (rest := []) (dt_Reader_readRule 95 (181, .invokevirtual 179, 3) rfl) ml_X5_179 ok_Rule_pairUp (jfit rfl rfl ⟨rfl, rfl⟩ (nle rfl) (nlt rfl)) rfl rfl (nle rfl) ⟨rfl, rfl⟩ hb50 ((c_Rule_pairUp hV49)) ?_
                  refine j_aload_n (dt_Reader_readRule 96 (184, .aload_n 1, 1) rfl) rfl ?_
                  refine j_dup (dt_Reader_readRule 97 (185, .dup, 1) rfl) rfl ?_
                  obtain ⟨x51, hx51, hf⟩ := jbind hf
                  refine j_getI (dt_Reader_readRule 98 (186, .getfield 141, 3) rfl) fl_X5_141 hx51 (fun _ _ => rfl) ?_
                  refine j_iconst (dt_Reader_readRule 99 (189, .iconst 1, 1) rfl) ic_1 ?_
                  refine j_iadd (dt_Reader_readRule 100 (190, .iadd, 1) rfl) ?_
                  obtain ⟨V52, hV52, hf⟩ := jbind hf
                  refine j_putI (dt_Reader_readRule 101 (191, .putfield 141, 3) rfl) fl_X5_141 hV52 rfl (Or.inl rfl) ?_
                  refine j_aload_n (dt_Reader_readRule 102 (194, .aload_n 0, 1) rfl) rfl ?_
                  obtain ⟨w53, hw53, hf⟩ := jbind hf
                  obtain ⟨b54, hb54⟩ := r_Reader_readStop hw53
                  refine j_callV M_Reader_readStop 0 [] (rest := []) (dt_Reader_readRule 103 (195, .invokevirtual 120, 3) rfl) ml_X5_120 ok_Reader_readStop (jfit rfl rfl ⟨rfl, rfl⟩ (nle rfl) (nlt rfl)) rfl rfl (nle rfl) ⟨rfl, rfl⟩ hb54 ((c_Reader_readStop hw53)) ?_
                  cases hf
                  exact j_zretN (dt_Reader_readRule 104 (198, .ireturn, 1) rfl) rfl
    · refine j_icmp_lt (dt_Reader_readRule 6 (13, .if_icmp .lt 5, 3) rfl) rfl (fun q => absurd q hc) (fun _ => ?_)
      refine j_iconst (dt_Reader_readRule 7 (16, .iconst 0, 1) rfl) ic_0 ?_
      cases hf
      exact j_zret (x := 0) (dt_Reader_readRule 8 (17, .ireturn, 1) rfl) rfl rfl
theorem r_Reader_readRule {S : hS} {V : hV} {v0 : Option Nat} {v1 : Option Nat} {v2 : Int32} {res : Int32 × hV} (hf : Reader_readRule S v0 v1 v2 V = some res) : ∃ b, rc S 5 v0 = some b := by
  unfold Reader_readRule at hf
  obtain ⟨b, hb, _⟩ := jbind hf
  exact ⟨b, hb⟩
def tb_Reader_readLine : List (Nat × Instr × Nat) := [(0, .aload_n 0, 1), (1, .getfield 75, 3), (4, .aload_n 0, 1), (5, .getfield 17, 3), (8, .invokevirtual 100, 3), (11, .ifCond .eq 9, 3), (14, .aload_n 0, 1), (15, .aload_n 1, 1), (16, .invokevirtual 103, 3), (19, .ireturn, 1), (20, .aload_n 0, 1), (21, .getfield 75, 3), (24, .aload_n 0, 1), (25, .getfield 25, 3), (28, .invokevirtual 100, 3), (31, .ifCond .eq 9, 3), (34, .aload_n 0, 1), (35, .aload_n 1, 1), (36, .invokevirtual 106, 3), (39, .ireturn, 1), (40, .aload_n 0, 1), (41, .getfield 75, 3), (44, .aload_n 0, 1), (45, .getfield 35, 3), (48, .invokevirtual 100, 3), (51, .ifCond .eq 10, 3), (54, .aload_n 0, 1), (55, .aload_n 1, 1), (56, .iconst 0, 1), (57, .invokevirtual 109, 3), (60, .ireturn, 1), (61, .aload_n 0, 1), (62, .getfield 75, 3), (65, .aload_n 0, 1), (66, .getfield 40, 3), (69, .invokevirtual 100, 3), (72, .ifCond .eq 10, 3), (75, .aload_n 0, 1), (76, .aload_n 1, 1), (77, .iconst 1, 1), (78, .invokevirtual 109, 3), (81, .ireturn, 1), (82, .aload_n 0, 1), (83, .getfield 75, 3), (86, .aload_n 0, 1), (87, .getfield 45, 3), (90, .invokevirtual 100, 3), (93, .ifCond .eq 16, 3), (96, .aload_n 0, 1), (97, .aload_n 1, 1), (98, .iconst 2, 1), (99, .invokevirtual 109, 3), (102, .ifCond .eq 7, 3), (105, .iconst 1, 1), (106, .goto 4, 3), (109, .iconst 0, 1), (110, .ireturn, 1)]
theorem dt_Reader_readLine (i : Nat) (q : Nat × Instr × Nat) (h : tb_Reader_readLine[i]? = some q) : decode prog_7_method_3_code q.1 = .ok q.2 := jdt (by decide +kernel : tb_Reader_readLine.all (fun q => decide (decode prog_7_method_3_code q.1 = .ok q.2)) = true) h
theorem ok_Reader_readLine : jOKV M_Reader_readLine 1 := ⟨⟨gt3 145 rfl rfl, gt1 3 rfl rfl, (by decide : "FirstIn$Reader" ≠ "java/lang/invoke/MethodHandle"), (by decide : "FirstIn$Reader" ≠ "java/lang/invoke/VarHandle"), (by decide +kernel : (parseMethodDescriptor "(LFirstIn$Court;)Z").map (fun d => d.parameters.length) = some 1)⟩, gt3 143 rfl rfl, gt3 144 rfl rfl, rfl, nlt rfl⟩
set_option maxRecDepth 100000 in
set_option maxHeartbeats 4000000 in
theorem c_Reader_readLine {G : jG} {S : hS} {V : hV} {v0 : Option Nat} {v1 : Option Nat} {res : Int32 × hV} (hf : Reader_readLine S v0 v1 V = some res) : jC G M_Reader_readLine [ar v0, ar v1] (S, V) (some (ai res.1)) (S, res.2) := by
  unfold Reader_readLine at hf
  obtain ⟨_, _, hf⟩ := jbind hf
  refine jC_of (pf_X5 _ _) rfl (nle rfl) ?_
  show jJ G M_Reader_readLine (jEnd G M_Reader_readLine (some (ai res.1)) (S, res.2)) 0 0 0 [(0, ar v0), (1, ar v1)] [] (S, V)
  refine j_aload_n (dt_Reader_readLine 0 (0, .aload_n 0, 1) rfl) rfl ?_
  obtain ⟨x1, hx1, hf⟩ := jbind hf
  refine j_getR (dt_Reader_readLine 1 (1, .getfield 75, 3) rfl) fl_X5_75 hx1 (fun _ _ => rfl) ?_
  refine j_aload_n (dt_Reader_readLine 2 (4, .aload_n 0, 1) rfl) rfl ?_
  obtain ⟨x2, hx2, hf⟩ := jbind hf
  refine j_getL (dt_Reader_readLine 3 (5, .getfield 17, 3) rfl) fl_X5_17 hx2 (fun _ _ => rfl) ?_
  obtain ⟨x3, hx3, hf⟩ := jbind hf
  obtain ⟨b4, hb4⟩ := r_Text_isWord hx3
  refine j_callV M_Text_isWord 1 [al x2] (rest := []) (dt_Reader_readLine 4 (8, .invokevirtual 100, 3) rfl) ml_X5_100 ok_Text_isWord (jfit rfl rfl ⟨rfl, rfl⟩ (nle rfl) (nlt rfl)) rfl rfl (nle rfl) ⟨rfl, rfl⟩ hb4 ((c_Text_isWord hx3)) ?_
  refine jite hf (fun hc hf => ?_) (fun hc hf => ?_)
  · refine j_if_eq (dt_Reader_readLine 5 (11, .ifCond .eq 9, 3) rfl) rfl (fun _ => ?_) (fun q => absurd hc q)
    refine j_aload_n (dt_Reader_readLine 10 (20, .aload_n 0, 1) rfl) rfl ?_
    obtain ⟨x5, hx5, hf⟩ := jbind hf
    refine j_getR (dt_Reader_readLine 11 (21, .getfield 75, 3) rfl) fl_X5_75 hx5 (fun _ _ => rfl) ?_
    refine j_aload_n (dt_Reader_readLine 12 (24, .aload_n 0, 1) rfl) rfl ?_
    obtain ⟨x6, hx6, hf⟩ := jbind hf
    refine j_getL (dt_Reader_readLine 13 (25, .getfield 25, 3) rfl) fl_X5_25 hx6 (fun _ _ => rfl) ?_
    obtain ⟨x7, hx7, hf⟩ := jbind hf
    obtain ⟨b8, hb8⟩ := r_Text_isWord hx7
    refine j_callV M_Text_isWord 1 [al x6] (rest := []) (dt_Reader_readLine 14 (28, .invokevirtual 100, 3) rfl) ml_X5_100 ok_Text_isWord (jfit rfl rfl ⟨rfl, rfl⟩ (nle rfl) (nlt rfl)) rfl rfl (nle rfl) ⟨rfl, rfl⟩ hb8 ((c_Text_isWord hx7)) ?_
    refine jite hf (fun hc hf => ?_) (fun hc hf => ?_)
    · refine j_if_eq (dt_Reader_readLine 15 (31, .ifCond .eq 9, 3) rfl) rfl (fun _ => ?_) (fun q => absurd hc q)
      refine j_aload_n (dt_Reader_readLine 20 (40, .aload_n 0, 1) rfl) rfl ?_
      obtain ⟨x9, hx9, hf⟩ := jbind hf
      refine j_getR (dt_Reader_readLine 21 (41, .getfield 75, 3) rfl) fl_X5_75 hx9 (fun _ _ => rfl) ?_
      refine j_aload_n (dt_Reader_readLine 22 (44, .aload_n 0, 1) rfl) rfl ?_
      obtain ⟨x10, hx10, hf⟩ := jbind hf
      refine j_getL (dt_Reader_readLine 23 (45, .getfield 35, 3) rfl) fl_X5_35 hx10 (fun _ _ => rfl) ?_
      obtain ⟨x11, hx11, hf⟩ := jbind hf
      obtain ⟨b12, hb12⟩ := r_Text_isWord hx11
      refine j_callV M_Text_isWord 1 [al x10] (rest := []) (dt_Reader_readLine 24 (48, .invokevirtual 100, 3) rfl) ml_X5_100 ok_Text_isWord (jfit rfl rfl ⟨rfl, rfl⟩ (nle rfl) (nlt rfl)) rfl rfl (nle rfl) ⟨rfl, rfl⟩ hb12 ((c_Text_isWord hx11)) ?_
      refine jite hf (fun hc hf => ?_) (fun hc hf => ?_)
      · refine j_if_eq (dt_Reader_readLine 25 (51, .ifCond .eq 10, 3) rfl) rfl (fun _ => ?_) (fun q => absurd hc q)
        refine j_aload_n (dt_Reader_readLine 31 (61, .aload_n 0, 1) rfl) rfl ?_
        obtain ⟨x13, hx13, hf⟩ := jbind hf
        refine j_getR (dt_Reader_readLine 32 (62, .getfield 75, 3) rfl) fl_X5_75 hx13 (fun _ _ => rfl) ?_
        refine j_aload_n (dt_Reader_readLine 33 (65, .aload_n 0, 1) rfl) rfl ?_
        obtain ⟨x14, hx14, hf⟩ := jbind hf
        refine j_getL (dt_Reader_readLine 34 (66, .getfield 40, 3) rfl) fl_X5_40 hx14 (fun _ _ => rfl) ?_
        obtain ⟨x15, hx15, hf⟩ := jbind hf
        obtain ⟨b16, hb16⟩ := r_Text_isWord hx15
        refine j_callV M_Text_isWord 1 [al x14] (rest := []) (dt_Reader_readLine 35 (69, .invokevirtual 100, 3) rfl) ml_X5_100 ok_Text_isWord (jfit rfl rfl ⟨rfl, rfl⟩ (nle rfl) (nlt rfl)) rfl rfl (nle rfl) ⟨rfl, rfl⟩ hb16 ((c_Text_isWord hx15)) ?_
        refine jite hf (fun hc hf => ?_) (fun hc hf => ?_)
        · refine j_if_eq (dt_Reader_readLine 36 (72, .ifCond .eq 10, 3) rfl) rfl (fun _ => ?_) (fun q => absurd hc q)
          refine j_aload_n (dt_Reader_readLine 42 (82, .aload_n 0, 1) rfl) rfl ?_
          obtain ⟨x17, hx17, hf⟩ := jbind hf
          refine j_getR (dt_Reader_readLine 43 (83, .getfield 75, 3) rfl) fl_X5_75 hx17 (fun _ _ => rfl) ?_
          refine j_aload_n (dt_Reader_readLine 44 (86, .aload_n 0, 1) rfl) rfl ?_
          obtain ⟨x18, hx18, hf⟩ := jbind hf
          refine j_getL (dt_Reader_readLine 45 (87, .getfield 45, 3) rfl) fl_X5_45 hx18 (fun _ _ => rfl) ?_
          obtain ⟨x19, hx19, hf⟩ := jbind hf
          obtain ⟨b20, hb20⟩ := r_Text_isWord hx19
          refine j_callV M_Text_isWord 1 [al x18] (rest := []) (dt_Reader_readLine 46 (90, .invokevirtual 100, 3) rfl) ml_X5_100 ok_Text_isWord (jfit rfl rfl ⟨rfl, rfl⟩ (nle rfl) (nlt rfl)) rfl rfl (nle rfl) ⟨rfl, rfl⟩ hb20 ((c_Text_isWord hx19)) ?_
          refine jite hf (fun hc hf => ?_) (fun hc hf => ?_)
          · refine j_if_eq (dt_Reader_readLine 47 (93, .ifCond .eq 16, 3) rfl) rfl (fun _ => ?_) (fun q => absurd hc q)
            refine j_iconst (dt_Reader_readLine 55 (109, .iconst 0, 1) rfl) ic_0 ?_
            cases hf
            exact j_zret (x := 0) (dt_Reader_readLine 56 (110, .ireturn, 1) rfl) rfl rfl
          · refine j_if_eq (dt_Reader_readLine 47 (93, .ifCond .eq 16, 3) rfl) rfl (fun q => absurd q hc) (fun _ => ?_)
            refine j_aload_n (dt_Reader_readLine 48 (96, .aload_n 0, 1) rfl) rfl ?_
            refine j_aload_n (dt_Reader_readLine 49 (97, .aload_n 1, 1) rfl) rfl ?_
            refine j_iconst (dt_Reader_readLine 50 (98, .iconst 2, 1) rfl) ic_2 ?_
            obtain ⟨w21, hw21, hf⟩ := jbind hf
            obtain ⟨b22, hb22⟩ := r_Reader_readRule hw21
            refine j_callV M_Reader_readRule 2 [ar v1, ai 2] (rest := []) (dt_Reader_readLine 51 (99, .invokevirtual 109, 3) rfl) ml_X5_109 ok_Reader_readRule (jfit rfl rfl ⟨rfl, rfl⟩ (nle rfl) (nlt rfl)) rfl rfl (nle rfl) ⟨rfl, rfl⟩ hb22 ((c_Reader_readRule hw21)) ?_
            refine jite hf (fun hc hf => ?_) (fun hc hf => ?_)
            · refine j_if_eq (dt_Reader_readLine 52 (102, .ifCond .eq 7, 3) rfl) rfl (fun _ => ?_) (fun q => absurd hc q)
              refine j_iconst (dt_Reader_readLine 55 (109, .iconst 0, 1) rfl) ic_0 ?_
              cases hf
              exact j_zret (x := 0) (dt_Reader_readLine 56 (110, .ireturn, 1) rfl) rfl rfl
            · refine j_if_eq (dt_Reader_readLine 52 (102, .ifCond .eq 7, 3) rfl) rfl (fun q => absurd q hc) (fun _ => ?_)
              refine j_iconst (dt_Reader_readLine 53 (105, .iconst 1, 1) rfl) ic_1 ?_
              refine j_goto (dt_Reader_readLine 54 (106, .goto 4, 3) rfl) rfl ?_
              cases hf
              exact j_zret (x := 1) (dt_Reader_readLine 56 (110, .ireturn, 1) rfl) rfl rfl
        · refine j_if_eq (dt_Reader_readLine 36 (72, .ifCond .eq 10, 3) rfl) rfl (fun q => absurd q hc) (fun _ => ?_)
          refine j_aload_n (dt_Reader_readLine 37 (75, .aload_n 0, 1) rfl) rfl ?_
          refine j_aload_n (dt_Reader_readLine 38 (76, .aload_n 1, 1) rfl) rfl ?_
          refine j_iconst (dt_Reader_readLine 39 (77, .iconst 1, 1) rfl) ic_1 ?_
          obtain ⟨w23, hw23, hf⟩ := jbind hf
          obtain ⟨b24, hb24⟩ := r_Reader_readRule hw23
          refine j_callV M_Reader_readRule 2 [ar v1, ai 1] (rest := []) (dt_Reader_readLine 40 (78, .invokevirtual 109, 3) rfl) ml_X5_109 ok_Reader_readRule (jfit rfl rfl ⟨rfl, rfl⟩ (nle rfl) (nlt rfl)) rfl rfl (nle rfl) ⟨rfl, rfl⟩ hb24 ((c_Reader_readRule hw23)) ?_
          cases hf
          exact j_zretN (dt_Reader_readLine 41 (81, .ireturn, 1) rfl) rfl
      · refine j_if_eq (dt_Reader_readLine 25 (51, .ifCond .eq 10, 3) rfl) rfl (fun q => absurd q hc) (fun _ => ?_)
        refine j_aload_n (dt_Reader_readLine 26 (54, .aload_n 0, 1) rfl) rfl ?_
        refine j_aload_n (dt_Reader_readLine 27 (55, .aload_n 1, 1) rfl) rfl ?_
        refine j_iconst (dt_Reader_readLine 28 (56, .iconst 0, 1) rfl) ic_0 ?_
        obtain ⟨w25, hw25, hf⟩ := jbind hf
        obtain ⟨b26, hb26⟩ := r_Reader_readRule hw25
        refine j_callV M_Reader_readRule 2 [ar v1, ai 0] (rest := []) (dt_Reader_readLine 29 (57, .invokevirtual 109, 3) rfl) ml_X5_109 ok_Reader_readRule (jfit rfl rfl ⟨rfl, rfl⟩ (nle rfl) (nlt rfl)) rfl rfl (nle rfl) ⟨rfl, rfl⟩ hb26 ((c_Reader_readRule hw25)) ?_
        cases hf
        exact j_zretN (dt_Reader_readLine 30 (60, .ireturn, 1) rfl) rfl
    · refine j_if_eq (dt_Reader_readLine 15 (31, .ifCond .eq 9, 3) rfl) rfl (fun q => absurd q hc) (fun _ => ?_)
      refine j_aload_n (dt_Reader_readLine 16 (34, .aload_n 0, 1) rfl) rfl ?_
      refine j_aload_n (dt_Reader_readLine 17 (35, .aload_n 1, 1) rfl) rfl ?_
      obtain ⟨w27, hw27, hf⟩ := jbind hf
      obtain ⟨b28, hb28⟩ := r_Reader_readMark hw27
      refine j_callV M_Reader_readMark 1 [ar v1] (rest := []) (dt_Reader_readLine 18 (36, .invokevirtual 106, 3) rfl) ml_X5_106 ok_Reader_readMark (jfit rfl rfl ⟨rfl, rfl⟩ (nle rfl) (nlt rfl)) rfl rfl (nle rfl) ⟨rfl, rfl⟩ hb28 ((c_Reader_readMark hw27)) ?_
      cases hf
      exact j_zretN (dt_Reader_readLine 19 (39, .ireturn, 1) rfl) rfl
  · refine j_if_eq (dt_Reader_readLine 5 (11, .ifCond .eq 9, 3) rfl) rfl (fun q => absurd q hc) (fun _ => ?_)
    refine j_aload_n (dt_Reader_readLine 6 (14, .aload_n 0, 1) rfl) rfl ?_
    refine j_aload_n (dt_Reader_readLine 7 (15, .aload_n 1, 1) rfl) rfl ?_
    obtain ⟨w29, hw29, hf⟩ := jbind hf
    obtain ⟨b30, hb30⟩ := r_Reader_readGuest hw29
    refine j_callV M_Reader_readGuest 1 [ar v1] (rest := []) (dt_Reader_readLine 8 (16, .invokevirtual 103, 3) rfl) ml_X5_103 ok_Reader_readGuest (jfit rfl rfl ⟨rfl, rfl⟩ (nle rfl) (nlt rfl)) rfl rfl (nle rfl) ⟨rfl, rfl⟩ hb30 ((c_Reader_readGuest hw29)) ?_
    cases hf
    exact j_zretN (dt_Reader_readLine 9 (19, .ireturn, 1) rfl) rfl
theorem r_Reader_readLine {S : hS} {V : hV} {v0 : Option Nat} {v1 : Option Nat} {res : Int32 × hV} (hf : Reader_readLine S v0 v1 V = some res) : ∃ b, rc S 5 v0 = some b := by
  unfold Reader_readLine at hf
  obtain ⟨b, hb, _⟩ := jbind hf
  exact ⟨b, hb⟩
def tb_Reader_readInto : List (Nat × Instr × Nat) := [(0, .aload_n 0, 1), (1, .iconst 0, 1), (2, .putfield 71, 3), (5, .aload_n 1, 1), (6, .invokevirtual 79, 3), (9, .aload_n 0, 1), (10, .getfield 75, 3), (13, .invokevirtual 84, 3), (16, .iconst 0, 1), (17, .istore_n 2, 1), (18, .iload_n 2, 1), (19, .sipush 700, 3), (22, .if_icmp .ge 35, 3), (25, .aload_n 0, 1), (26, .getfield 75, 3), (29, .getfield 87, 3), (32, .ifCond .eq 25, 3), (35, .aload_n 0, 1), (36, .aload_n 1, 1), (37, .invokevirtual 90, 3), (40, .ifCond .ne 11, 3), (43, .aload_n 0, 1), (44, .getfield 75, 3), (47, .getfield 94, 3), (50, .ireturn, 1), (51, .iinc 2 1, 3), (54, .goto (-36), 3), (57, .aload_n 1, 1), (58, .getfield 97, 3), (61, .ifCond .ne 13, 3), (64, .aload_n 0, 1), (65, .getfield 75, 3), (68, .getfield 94, 3), (71, .goto 4, 3), (74, .iconst (-1), 1), (75, .ireturn, 1)]
theorem dt_Reader_readInto (i : Nat) (q : Nat × Instr × Nat) (h : tb_Reader_readInto[i]? = some q) : decode prog_7_method_2_code q.1 = .ok q.2 := jdt (by decide +kernel : tb_Reader_readInto.all (fun q => decide (decode prog_7_method_2_code q.1 = .ok q.2)) = true) h
theorem ok_Reader_readInto : jOKV M_Reader_readInto 1 := ⟨⟨gt3 120 rfl rfl, gt1 3 rfl rfl, (by decide : "FirstIn$Reader" ≠ "java/lang/invoke/MethodHandle"), (by decide : "FirstIn$Reader" ≠ "java/lang/invoke/VarHandle"), (by decide +kernel : (parseMethodDescriptor "(LFirstIn$Court;)I").map (fun d => d.parameters.length) = some 1)⟩, gt3 118 rfl rfl, gt3 119 rfl rfl, rfl, nlt rfl⟩
set_option maxRecDepth 100000 in
set_option maxHeartbeats 4000000 in
theorem c_Reader_readInto {G : jG} {S : hS} {V : hV} {v0 : Option Nat} {v1 : Option Nat} {res : Int32 × hV} (hf : Reader_readInto S v0 v1 V = some res) : jC G M_Reader_readInto [ar v0, ar v1] (S, V) (some (ai res.1)) (S, res.2) := by
  unfold Reader_readInto at hf
  obtain ⟨_, _, hf⟩ := jbind hf
  refine jC_of (pf_X5 _ _) rfl (nle rfl) ?_
  show jJ G M_Reader_readInto (jEnd G M_Reader_readInto (some (ai res.1)) (S, res.2)) 0 0 0 [(0, ar v0), (1, ar v1)] [] (S, V)
  refine j_aload_n (dt_Reader_readInto 0 (0, .aload_n 0, 1) rfl) rfl ?_
  refine j_iconst (dt_Reader_readInto 1 (1, .iconst 0, 1) rfl) ic_0 ?_
  obtain ⟨V1, hV1, hf⟩ := jbind hf
  refine j_putI (dt_Reader_readInto 2 (2, .putfield 71, 3) rfl) fl_X5_71 hV1 rfl (Or.inl rfl) ?_
  refine j_aload_n (dt_Reader_readInto 3 (5, .aload_n 1, 1) rfl) rfl ?_
  obtain ⟨V2, hV2, hf⟩ := jbind hf
  obtain ⟨b3, hb3⟩ := r_Court_empty hV2
  refine j_callV M_Court_empty 0 [] (rest := []) (dt_Reader_readInto 4 (6, .invokevirtual 79, 3) rfl) ml_X5_79 ok_Court_empty (jfit rfl rfl ⟨rfl, rfl⟩ (nle rfl) (nlt rfl)) rfl rfl (nle rfl) ⟨rfl, rfl⟩ hb3 ((c_Court_empty hV2)) ?_
  refine j_aload_n (dt_Reader_readInto 5 (9, .aload_n 0, 1) rfl) rfl ?_
  obtain ⟨x4, hx4, hf⟩ := jbind hf
  refine j_getR (dt_Reader_readInto 6 (10, .getfield 75, 3) rfl) fl_X5_75 hx4 (fun _ _ => rfl) ?_
  obtain ⟨V5, hV5, hf⟩ := jbind hf
  obtain ⟨b6, hb6⟩ := r_Text_begin hV5
  refine j_callV M_Text_begin 0 [] (rest := []) (dt_Reader_readInto 7 (13, .invokevirtual 84, 3) rfl) ml_X5_84 ok_Text_begin (jfit rfl rfl ⟨rfl, rfl⟩ (nle rfl) (nlt rfl)) rfl rfl (nle rfl) ⟨rfl, rfl⟩ hb6 ((c_Text_begin hV5)) ?_
  refine j_iconst (dt_Reader_readInto 8 (16, .iconst 0, 1) rfl) ic_0 ?_
  refine j_istore_n (dt_Reader_readInto 9 (17, .istore_n 2, 1) rfl) (nlt rfl) ?_
  obtain ⟨t18, ht18, hf⟩ := jbind hf
  have hX18 : ∀ q18 : hV, t18 = .inl q18 → jJ G M_Reader_readInto (jEnd G M_Reader_readInto (some (ai res.1)) (S, res.2)) 0 0 57 [(0, ar v0), (1, ar v1)] [] (S, q18) := by
    intro q18 hq18
    subst hq18
    refine j_aload_n (dt_Reader_readInto 27 (57, .aload_n 1, 1) rfl) rfl ?_
    obtain ⟨x13, hx13, hf⟩ := jbind hf
    refine j_getI (dt_Reader_readInto 28 (58, .getfield 97, 3) rfl) fl_X5_97 hx13 (fun _ _ => rfl) ?_
    refine jite hf (fun hc hf => ?_) (fun hc hf => ?_)
    · refine j_if_ne (dt_Reader_readInto 29 (61, .ifCond .ne 13, 3) rfl) rfl (fun q => absurd hc q) (fun _ => ?_)
      refine j_aload_n (dt_Reader_readInto 30 (64, .aload_n 0, 1) rfl) rfl ?_
      obtain ⟨x14, hx14, hf⟩ := jbind hf
      refine j_getR (dt_Reader_readInto 31 (65, .getfield 75, 3) rfl) fl_X5_75 hx14 (fun _ _ => rfl) ?_
      obtain ⟨x15, hx15, hf⟩ := jbind hf
      refine j_getI (dt_Reader_readInto 32 (68, .getfield 94, 3) rfl) fl_X5_94 hx15 (fun _ _ => rfl) ?_
      refine j_goto (dt_Reader_readInto 33 (71, .goto 4, 3) rfl) rfl ?_
      cases hf
      exact j_iret (dt_Reader_readInto 35 (75, .ireturn, 1) rfl) rfl
    · refine j_if_ne (dt_Reader_readInto 29 (61, .ifCond .ne 13, 3) rfl) rfl (fun _ => ?_) (fun q => absurd q hc)
      refine j_iconst (dt_Reader_readInto 34 (74, .iconst (-1), 1) rfl) ic_m1 ?_
      cases hf
      exact j_iret (dt_Reader_readInto 35 (75, .ireturn, 1) rfl) rfl
  have hR18 : ∀ v : Int32 × hV, t18 = .inr v → v = res := by
    intro v hv
    subst hv
    cases hf
    rfl
  refine j_sub (ls' := [(0, ar v0), (1, ar v1), (2, ai 0)]) rfl ?_
  refine jloop_J (C := fun s18 => jJ G M_Reader_readInto (jEnd G M_Reader_readInto (some (ai res.1)) (S, res.2)) 0 0 18 [(0, ar v0), (1, ar v1), (2, ai s18.1)] [] (S, s18.2)) (fun s18 z18_ hy18 hin18 hout18 => ?_) _ _ ht18
  unfold Reader_readInto_L18 at hy18
  refine j_iload_n (dt_Reader_readInto 10 (18, .iload_n 2, 1) rfl) rfl ?_
  refine j_sipush (dt_Reader_readInto 11 (19, .sipush 700, 3) rfl) sp_700 ?_
  refine jite hy18 (fun hc hy18 => ?_) (fun hc hy18 => ?_)
  · refine j_icmp_ge (dt_Reader_readInto 12 (22, .if_icmp .ge 35, 3) rfl) rfl (fun _ => ?_) (fun q => absurd hc q)
    cases hy18
    have hz := hX18 _ (hout18 _ rfl).symm
    exact j_sub rfl hz
  · refine j_icmp_ge (dt_Reader_readInto 12 (22, .if_icmp .ge 35, 3) rfl) rfl (fun q => absurd q hc) (fun _ => ?_)
    refine j_aload_n (dt_Reader_readInto 13 (25, .aload_n 0, 1) rfl) rfl ?_
    obtain ⟨x7, hx7, hy18⟩ := jbind hy18
    refine j_getR (dt_Reader_readInto 14 (26, .getfield 75, 3) rfl) fl_X5_75 hx7 (fun _ _ => rfl) ?_
    obtain ⟨x8, hx8, hy18⟩ := jbind hy18
    refine j_getI (dt_Reader_readInto 15 (29, .getfield 87, 3) rfl) fl_X5_87 hx8 (fun _ _ => rfl) ?_
    refine jite hy18 (fun hc hy18 => ?_) (fun hc hy18 => ?_)
    · refine j_if_eq (dt_Reader_readInto 16 (32, .ifCond .eq 25, 3) rfl) rfl (fun _ => ?_) (fun q => absurd hc q)
      cases hy18
      have hz := hX18 _ (hout18 _ rfl).symm
      exact j_sub rfl hz
    · refine j_if_eq (dt_Reader_readInto 16 (32, .ifCond .eq 25, 3) rfl) rfl (fun q => absurd q hc) (fun _ => ?_)
      refine j_aload_n (dt_Reader_readInto 17 (35, .aload_n 0, 1) rfl) rfl ?_
      refine j_aload_n (dt_Reader_readInto 18 (36, .aload_n 1, 1) rfl) rfl ?_
      obtain ⟨w9, hw9, hy18⟩ := jbind hy18
      obtain ⟨b10, hb10⟩ := r_Reader_readLine hw9
      refine j_callV M_Reader_readLine 1 [ar v1] (rest := []) (dt_Reader_readInto 19 (37, .invokevirtual 90, 3) rfl) ml_X5_90 ok_Reader_readLine (jfit rfl rfl ⟨rfl, rfl⟩ (nle rfl) (nlt rfl)) rfl rfl (nle rfl) ⟨rfl, rfl⟩ hb10 ((c_Reader_readLine hw9)) ?_
      refine jite hy18 (fun hc hy18 => ?_) (fun hc hy18 => ?_)
      · refine j_if_ne (dt_Reader_readInto 20 (40, .ifCond .ne 11, 3) rfl) rfl (fun q => absurd hc q) (fun _ => ?_)
        refine j_aload_n (dt_Reader_readInto 21 (43, .aload_n 0, 1) rfl) rfl ?_
        obtain ⟨x11, hx11, hy18⟩ := jbind hy18
        refine j_getR (dt_Reader_readInto 22 (44, .getfield 75, 3) rfl) fl_X5_75 hx11 (fun _ _ => rfl) ?_
        obtain ⟨x12, hx12, hy18⟩ := jbind hy18
        refine j_getI (dt_Reader_readInto 23 (47, .getfield 94, 3) rfl) fl_X5_94 hx12 (fun _ _ => rfl) ?_
        cases hy18
        obtain rfl := hR18 _ (hout18 _ rfl).symm
        exact j_iret (dt_Reader_readInto 24 (50, .ireturn, 1) rfl) rfl
      · refine j_if_ne (dt_Reader_readInto 20 (40, .ifCond .ne 11, 3) rfl) rfl (fun _ => ?_) (fun q => absurd q hc)
        refine j_iinc (dt_Reader_readInto 25 (51, .iinc 2 1, 3) rfl) rfl (nlt rfl) (ii_1 _) ?_
        refine j_goto (dt_Reader_readInto 26 (54, .goto (-36), 3) rfl) rfl ?_
        cases hy18
        have hz := hin18 _ rfl
        exact j_sub rfl hz
theorem r_Reader_readInto {S : hS} {V : hV} {v0 : Option Nat} {v1 : Option Nat} {res : Int32 × hV} (hf : Reader_readInto S v0 v1 V = some res) : ∃ b, rc S 5 v0 = some b := by
  unfold Reader_readInto at hf
  obtain ⟨b, hb, _⟩ := jbind hf
  exact ⟨b, hb⟩
def tb_Fi_fault : List (Nat × Instr × Nat) := [(0, .aload_n 0, 1), (1, .getfield 21, 3), (4, .aload_n 0, 1), (5, .getfield 69, 3), (8, .invokevirtual 86, 3), (11, .ireturn, 1)]
theorem dt_Fi_fault (i : Nat) (q : Nat × Instr × Nat) (h : tb_Fi_fault[i]? = some q) : decode prog_1_method_4_code q.1 = .ok q.2 := jdt (by decide +kernel : tb_Fi_fault.all (fun q => decide (decode prog_1_method_4_code q.1 = .ok q.2)) = true) h
theorem ok_Fi_fault : jOKV M_Fi_fault 0 := ⟨⟨gt3 116 rfl rfl, gt1 1 rfl rfl, (by decide : "FirstIn" ≠ "java/lang/invoke/MethodHandle"), (by decide : "FirstIn" ≠ "java/lang/invoke/VarHandle"), (by decide +kernel : (parseMethodDescriptor "()I").map (fun d => d.parameters.length) = some 0)⟩, gt3 114 rfl rfl, gt3 115 rfl rfl, rfl, nlt rfl⟩
set_option maxRecDepth 100000 in
set_option maxHeartbeats 4000000 in
theorem c_Fi_fault {G : jG} {S : hS} {V : hV} {v0 : Option Nat} {res : Int32 × hV} (hf : Fi_fault S v0 V = some res) : jC G M_Fi_fault [ar v0] (S, V) (some (ai res.1)) (S, res.2) := by
  unfold Fi_fault at hf
  obtain ⟨_, _, hf⟩ := jbind hf
  refine jC_of (pf_X11 _ _) rfl (nle rfl) ?_
  show jJ G M_Fi_fault (jEnd G M_Fi_fault (some (ai res.1)) (S, res.2)) 0 0 0 [(0, ar v0)] [] (S, V)
  refine j_aload_n (dt_Fi_fault 0 (0, .aload_n 0, 1) rfl) rfl ?_
  obtain ⟨x1, hx1, hf⟩ := jbind hf
  refine j_getR (dt_Fi_fault 1 (1, .getfield 21, 3) rfl) fl_X11_21 hx1 (fun _ _ => rfl) ?_
  refine j_aload_n (dt_Fi_fault 2 (4, .aload_n 0, 1) rfl) rfl ?_
  obtain ⟨x2, hx2, hf⟩ := jbind hf
  refine j_getR (dt_Fi_fault 3 (5, .getfield 69, 3) rfl) fl_X11_69 hx2 (fun _ _ => rfl) ?_
  obtain ⟨w3, hw3, hf⟩ := jbind hf
  obtain ⟨b4, hb4⟩ := r_Reader_readInto hw3
  refine j_callV M_Reader_readInto 1 [ar x2] (rest := []) (dt_Fi_fault 4 (8, .invokevirtual 86, 3) rfl) ml_X11_86 ok_Reader_readInto (jfit rfl rfl ⟨rfl, rfl⟩ (nle rfl) (nlt rfl)) rfl rfl (nle rfl) ⟨rfl, rfl⟩ hb4 ((c_Reader_readInto hw3)) ?_
  cases hf
  exact j_iret (dt_Fi_fault 5 (11, .ireturn, 1) rfl) rfl
theorem r_Fi_fault {S : hS} {V : hV} {v0 : Option Nat} {res : Int32 × hV} (hf : Fi_fault S v0 V = some res) : ∃ b, rc S 11 v0 = some b := by
  unfold Fi_fault at hf
  obtain ⟨b, hb, _⟩ := jbind hf
  exact ⟨b, hb⟩
