/-! ===== walks ===== -/
def tb_Mo_in : List (Nat × Instr × Nat) := [(0, .lload_n 0, 1), (1, .lload_n 2, 1), (2, .lcmp, 1), (3, .ifCond .lt 14, 3), (6, .lload_n 0, 1), (7, .lload 4, 2), (9, .lcmp, 1), (10, .ifCond .gt 7, 3), (13, .iconst 1, 1), (14, .goto 4, 3), (17, .iconst 0, 1), (18, .ireturn, 1)]
theorem dt_Mo_in (i : Nat) (q : Nat × Instr × Nat) (h : tb_Mo_in[i]? = some q) : decode prog_14_method_2_code q.1 = .ok q.2 := jdt (by decide +kernel : tb_Mo_in.all (fun q => decide (decode prog_14_method_2_code q.1 = .ok q.2)) = true) h
theorem ok_Mo_in : jOKS M_Mo_in 3 := ⟨⟨gt6 228 rfl rfl, gt1 17 rfl rfl, (by decide : "FirstInModel" ≠ "java/lang/invoke/MethodHandle"), (by decide : "FirstInModel" ≠ "java/lang/invoke/VarHandle"), (by decide +kernel : (parseMethodDescriptor "(JJJ)Z").map (fun d => d.parameters.length) = some 3)⟩, gt6 227 rfl rfl⟩
set_option maxRecDepth 100000 in
set_option maxHeartbeats 4000000 in
theorem c_Mo_in {G : jG} {S : hS} {V : hV} {v0 : Int64} {v2 : Int64} {v4 : Int64} {res : Int32} (hf : Mo_in v0 v2 v4 = res) : jC G M_Mo_in [al v0, al v2, al v4] (S, V) (some (ai res)) (S, V) := by
  unfold Mo_in at hf
  refine jC_of (pf_X12 _ _) rfl (nle rfl) ?_
  show jJ G M_Mo_in (jEnd G M_Mo_in (some (ai res)) (S, V)) 0 0 0 [(0, al v0), (2, al v2), (4, al v4)] [] (S, V)
  refine j_lload_n (dt_Mo_in 0 (0, .lload_n 0, 1) rfl) rfl ?_
  refine j_lload_n (dt_Mo_in 1 (1, .lload_n 2, 1) rfl) rfl ?_
  refine j_lcmp (dt_Mo_in 2 (2, .lcmp, 1) rfl) ?_
  refine jite hf (fun hc hf => ?_) (fun hc hf => ?_)
  · refine j_if_lt (dt_Mo_in 3 (3, .ifCond .lt 14, 3) rfl) rfl (fun _ => ?_) (fun q => absurd hc q)
    refine j_iconst (dt_Mo_in 10 (17, .iconst 0, 1) rfl) ic_0 ?_
    cases hf
    exact j_zret (x := 0) (dt_Mo_in 11 (18, .ireturn, 1) rfl) rfl rfl
  · refine j_if_lt (dt_Mo_in 3 (3, .ifCond .lt 14, 3) rfl) rfl (fun q => absurd q hc) (fun _ => ?_)
    refine j_lload_n (dt_Mo_in 4 (6, .lload_n 0, 1) rfl) rfl ?_
    refine j_lload (dt_Mo_in 5 (7, .lload 4, 2) rfl) rfl ?_
    refine j_lcmp (dt_Mo_in 6 (9, .lcmp, 1) rfl) ?_
    refine jite hf (fun hc hf => ?_) (fun hc hf => ?_)
    · refine j_if_gt (dt_Mo_in 7 (10, .ifCond .gt 7, 3) rfl) rfl (fun _ => ?_) (fun q => absurd hc q)
      refine j_iconst (dt_Mo_in 10 (17, .iconst 0, 1) rfl) ic_0 ?_
      cases hf
      exact j_zret (x := 0) (dt_Mo_in 11 (18, .ireturn, 1) rfl) rfl rfl
    · refine j_if_gt (dt_Mo_in 7 (10, .ifCond .gt 7, 3) rfl) rfl (fun q => absurd q hc) (fun _ => ?_)
      refine j_iconst (dt_Mo_in 8 (13, .iconst 1, 1) rfl) ic_1 ?_
      refine j_goto (dt_Mo_in 9 (14, .goto 4, 3) rfl) rfl ?_
      cases hf
      exact j_zret (x := 1) (dt_Mo_in 11 (18, .ireturn, 1) rfl) rfl rfl
def tb_Mo_feeds : List (Nat × Instr × Nat) := [(0, .iconst 3, 1), (1, .istore_n 2, 1), (2, .iload_n 2, 1), (3, .ifCond .lt 35, 3), (6, .aload_n 0, 1), (7, .getfield 9, 3), (10, .aload_n 0, 1), (11, .getfield 175, 3), (14, .iload_n 1, 1), (15, .bipush 8, 2), (17, .iload_n 2, 1), (18, .imul, 1), (19, .iushr, 1), (20, .i2b, 1), (21, .bastore, 1), (22, .aload_n 0, 1), (23, .dup, 1), (24, .getfield 175, 3), (27, .iconst 1, 1), (28, .iadd, 1), (29, .putfield 175, 3), (32, .iinc 2 (-1), 3), (35, .goto (-33), 3), (38, .return_, 1)]
theorem dt_Mo_feeds (i : Nat) (q : Nat × Instr × Nat) (h : tb_Mo_feeds[i]? = some q) : decode prog_14_method_3_code q.1 = .ok q.2 := jdt (by decide +kernel : tb_Mo_feeds.all (fun q => decide (decode prog_14_method_3_code q.1 = .ok q.2)) = true) h
theorem ok_Mo_feeds : jOKV M_Mo_feeds 1 := ⟨⟨gt6 221 rfl rfl, gt1 17 rfl rfl, (by decide : "FirstInModel" ≠ "java/lang/invoke/MethodHandle"), (by decide : "FirstInModel" ≠ "java/lang/invoke/VarHandle"), (by decide +kernel : (parseMethodDescriptor "(I)V").map (fun d => d.parameters.length) = some 1)⟩, gt6 220 rfl rfl, gs_in 4 rfl, rfl, nlt rfl⟩
set_option maxRecDepth 100000 in
set_option maxHeartbeats 4000000 in
theorem c_Mo_feeds {G : jG} {S : hS} {V : hV} {v0 : Option Nat} {v1 : Int32} {res : hV} (hf : Mo_feeds S v0 v1 V = some res) : jC G M_Mo_feeds [ar v0, ai v1] (S, V) none (S, res) := by
  unfold Mo_feeds at hf
  obtain ⟨_, _, hf⟩ := jbind hf
  refine jC_of (pf_X12 _ _) rfl (nle rfl) ?_
  show jJ G M_Mo_feeds (jEnd G M_Mo_feeds none (S, res)) 0 0 0 [(0, ar v0), (1, ai v1)] [] (S, V)
  refine j_iconst (dt_Mo_feeds 0 (0, .iconst 3, 1) rfl) ic_3 ?_
  refine j_istore_n (dt_Mo_feeds 1 (1, .istore_n 2, 1) rfl) (nlt rfl) ?_
  obtain ⟨t2, ht2, hf⟩ := jbind hf
  have hX2 : ∀ q2 : hV, q2 = t2 → jJ G M_Mo_feeds (jEnd G M_Mo_feeds none (S, res)) 0 0 38 [] [] (S, q2) := by
    intro q2 hq2
    subst hq2
    cases hf
    exact j_vret (dt_Mo_feeds 23 (38, .return_, 1) rfl) rfl
  refine j_sub (ls' := [(0, ar v0), (1, ai v1), (2, ai 3)]) rfl ?_
  refine jloop_J (C := fun s2 => jJ G M_Mo_feeds (jEnd G M_Mo_feeds none (S, res)) 0 0 2 [(0, ar v0), (1, ai v1), (2, ai s2.1)] [] (S, s2.2)) (fun s2 z2_ hy2 hin2 hout2 => ?_) _ _ ht2
  unfold Mo_feeds_L2 at hy2
  refine j_iload_n (dt_Mo_feeds 2 (2, .iload_n 2, 1) rfl) rfl ?_
  refine jite hy2 (fun hc hy2 => ?_) (fun hc hy2 => ?_)
  · refine j_if_lt (dt_Mo_feeds 3 (3, .ifCond .lt 35, 3) rfl) rfl (fun _ => ?_) (fun q => absurd hc q)
    cases hy2
    have hz := hX2 _ (hout2 _ rfl)
    exact j_sub rfl hz
  · refine j_if_lt (dt_Mo_feeds 3 (3, .ifCond .lt 35, 3) rfl) rfl (fun q => absurd q hc) (fun _ => ?_)
    refine j_aload_n (dt_Mo_feeds 4 (6, .aload_n 0, 1) rfl) rfl ?_
    obtain ⟨x1, hx1, hy2⟩ := jbind hy2
    refine j_getR (dt_Mo_feeds 5 (7, .getfield 9, 3) rfl) fl_X12_9 hx1 (fun _ _ => rfl) ?_
    refine j_aload_n (dt_Mo_feeds 6 (10, .aload_n 0, 1) rfl) rfl ?_
    obtain ⟨x2, hx2, hy2⟩ := jbind hy2
    refine j_getI (dt_Mo_feeds 7 (11, .getfield 175, 3) rfl) fl_X12_175 hx2 (fun _ _ => rfl) ?_
    refine j_iload_n (dt_Mo_feeds 8 (14, .iload_n 1, 1) rfl) rfl ?_
    refine j_bipush (dt_Mo_feeds 9 (15, .bipush 8, 2) rfl) bp_8 ?_
    refine j_iload_n (dt_Mo_feeds 10 (17, .iload_n 2, 1) rfl) rfl ?_
    refine j_imul (dt_Mo_feeds 11 (18, .imul, 1) rfl) ?_
    refine j_iushr (dt_Mo_feeds 12 (19, .iushr, 1) rfl) ?_
    refine j_i2b (dt_Mo_feeds 13 (20, .i2b, 1) rfl) ?_
    obtain ⟨V3, hV3, hy2⟩ := jbind hy2
    refine j_astB (dt_Mo_feeds 14 (21, .bastore, 1) rfl) hV3 ?_
    refine j_aload_n (dt_Mo_feeds 15 (22, .aload_n 0, 1) rfl) rfl ?_
    refine j_dup (dt_Mo_feeds 16 (23, .dup, 1) rfl) rfl ?_
    obtain ⟨x4, hx4, hy2⟩ := jbind hy2
    refine j_getI (dt_Mo_feeds 17 (24, .getfield 175, 3) rfl) fl_X12_175 hx4 (fun _ _ => rfl) ?_
    refine j_iconst (dt_Mo_feeds 18 (27, .iconst 1, 1) rfl) ic_1 ?_
    refine j_iadd (dt_Mo_feeds 19 (28, .iadd, 1) rfl) ?_
    obtain ⟨V5, hV5, hy2⟩ := jbind hy2
    refine j_putI (dt_Mo_feeds 20 (29, .putfield 175, 3) rfl) fl_X12_175 hV5 rfl (Or.inl rfl) ?_
    refine j_iinc (dt_Mo_feeds 21 (32, .iinc 2 (-1), 3) rfl) rfl (nlt rfl) (ii_m1 _) ?_
    refine j_goto (dt_Mo_feeds 22 (35, .goto (-33), 3) rfl) rfl ?_
    cases hy2
    have hz := hin2 _ rfl
    exact j_sub rfl hz
theorem r_Mo_feeds {S : hS} {V : hV} {v0 : Option Nat} {v1 : Int32} {res : hV} (hf : Mo_feeds S v0 v1 V = some res) : ∃ b, rc S 12 v0 = some b := by
  unfold Mo_feeds at hf
  obtain ⟨b, hb, _⟩ := jbind hf
  exact ⟨b, hb⟩
def tb_Mo_feed : List (Nat × Instr × Nat) := [(0, .aload_n 0, 1), (1, .getfield 175, 3), (4, .bipush 20, 2), (6, .iadd, 1), (7, .sipush 700, 3), (10, .if_icmp .le 5, 3), (13, .iconst (-1), 1), (14, .ireturn, 1), (15, .aload_n 0, 1), (16, .iload_n 1, 1), (17, .invokevirtual 179, 3), (20, .aload_n 0, 1), (21, .iload_n 2, 1), (22, .invokevirtual 179, 3), (25, .aload_n 0, 1), (26, .iload_n 3, 1), (27, .invokevirtual 179, 3), (30, .aload_n 0, 1), (31, .iload 4, 2), (33, .invokevirtual 179, 3), (36, .aload_n 0, 1), (37, .iload 5, 2), (39, .invokevirtual 179, 3), (42, .aload_n 0, 1), (43, .getfield 175, 3), (46, .ireturn, 1)]
theorem dt_Mo_feed (i : Nat) (q : Nat × Instr × Nat) (h : tb_Mo_feed[i]? = some q) : decode prog_14_method_4_code q.1 = .ok q.2 := jdt (by decide +kernel : tb_Mo_feed.all (fun q => decide (decode prog_14_method_4_code q.1 = .ok q.2)) = true) h
theorem ok_Mo_feed : jOKV M_Mo_feed 5 := ⟨⟨gt6 217 rfl rfl, gt1 17 rfl rfl, (by decide : "FirstInModel" ≠ "java/lang/invoke/MethodHandle"), (by decide : "FirstInModel" ≠ "java/lang/invoke/VarHandle"), (by decide +kernel : (parseMethodDescriptor "(IIIII)I").map (fun d => d.parameters.length) = some 5)⟩, gt6 215 rfl rfl, gt6 216 rfl rfl, rfl, nlt rfl⟩
set_option maxRecDepth 100000 in
set_option maxHeartbeats 4000000 in
theorem c_Mo_feed {G : jG} {S : hS} {V : hV} {v0 : Option Nat} {v1 : Int32} {v2 : Int32} {v3 : Int32} {v4 : Int32} {v5 : Int32} {res : Int32 × hV} (hf : Mo_feed S v0 v1 v2 v3 v4 v5 V = some res) : jC G M_Mo_feed [ar v0, ai v1, ai v2, ai v3, ai v4, ai v5] (S, V) (some (ai res.1)) (S, res.2) := by
  unfold Mo_feed at hf
  obtain ⟨_, _, hf⟩ := jbind hf
  refine jC_of (pf_X12 _ _) rfl (nle rfl) ?_
  show jJ G M_Mo_feed (jEnd G M_Mo_feed (some (ai res.1)) (S, res.2)) 0 0 0 [(0, ar v0), (1, ai v1), (2, ai v2), (3, ai v3), (4, ai v4), (5, ai v5)] [] (S, V)
  refine j_aload_n (dt_Mo_feed 0 (0, .aload_n 0, 1) rfl) rfl ?_
  obtain ⟨x1, hx1, hf⟩ := jbind hf
  refine j_getI (dt_Mo_feed 1 (1, .getfield 175, 3) rfl) fl_X12_175 hx1 (fun _ _ => rfl) ?_
  refine j_bipush (dt_Mo_feed 2 (4, .bipush 20, 2) rfl) bp_20 ?_
  refine j_iadd (dt_Mo_feed 3 (6, .iadd, 1) rfl) ?_
  refine j_sipush (dt_Mo_feed 4 (7, .sipush 700, 3) rfl) sp_700 ?_
  refine jite hf (fun hc hf => ?_) (fun hc hf => ?_)
  · refine j_icmp_le (dt_Mo_feed 5 (10, .if_icmp .le 5, 3) rfl) rfl (fun _ => ?_) (fun q => absurd hc q)
    refine j_aload_n (dt_Mo_feed 8 (15, .aload_n 0, 1) rfl) rfl ?_
    refine j_iload_n (dt_Mo_feed 9 (16, .iload_n 1, 1) rfl) rfl ?_
    obtain ⟨V2, hV2, hf⟩ := jbind hf
    obtain ⟨b3, hb3⟩ := r_Mo_feeds hV2
    refine j_callV M_Mo_feeds 1 [ai v1] (rest := []) (dt_Mo_feed 10 (17, .invokevirtual 179, 3) rfl) ml_X12_179 ok_Mo_feeds (jfit rfl rfl ⟨rfl, rfl⟩ (nle rfl) (nlt rfl)) rfl rfl (nle rfl) ⟨rfl, rfl⟩ hb3 ((c_Mo_feeds hV2)) ?_
    refine j_aload_n (dt_Mo_feed 11 (20, .aload_n 0, 1) rfl) rfl ?_
    refine j_iload_n (dt_Mo_feed 12 (21, .iload_n 2, 1) rfl) rfl ?_
    obtain ⟨V4, hV4, hf⟩ := jbind hf
    obtain ⟨b5, hb5⟩ := r_Mo_feeds hV4
    refine j_callV M_Mo_feeds 1 [ai v2] (rest := []) (dt_Mo_feed 13 (22, .invokevirtual 179, 3) rfl) ml_X12_179 ok_Mo_feeds (jfit rfl rfl ⟨rfl, rfl⟩ (nle rfl) (nlt rfl)) rfl rfl (nle rfl) ⟨rfl, rfl⟩ hb5 ((c_Mo_feeds hV4)) ?_
    refine j_aload_n (dt_Mo_feed 14 (25, .aload_n 0, 1) rfl) rfl ?_
    refine j_iload_n (dt_Mo_feed 15 (26, .iload_n 3, 1) rfl) rfl ?_
    obtain ⟨V6, hV6, hf⟩ := jbind hf
    obtain ⟨b7, hb7⟩ := r_Mo_feeds hV6
    refine j_callV M_Mo_feeds 1 [ai v3] (rest := []) (dt_Mo_feed 16 (27, .invokevirtual 179, 3) rfl) ml_X12_179 ok_Mo_feeds (jfit rfl rfl ⟨rfl, rfl⟩ (nle rfl) (nlt rfl)) rfl rfl (nle rfl) ⟨rfl, rfl⟩ hb7 ((c_Mo_feeds hV6)) ?_
    refine j_aload_n (dt_Mo_feed 17 (30, .aload_n 0, 1) rfl) rfl ?_
    refine j_iload (dt_Mo_feed 18 (31, .iload 4, 2) rfl) rfl ?_
    obtain ⟨V8, hV8, hf⟩ := jbind hf
    obtain ⟨b9, hb9⟩ := r_Mo_feeds hV8
    refine j_callV M_Mo_feeds 1 [ai v4] (rest := []) (dt_Mo_feed 19 (33, .invokevirtual 179, 3) rfl) ml_X12_179 ok_Mo_feeds (jfit rfl rfl ⟨rfl, rfl⟩ (nle rfl) (nlt rfl)) rfl rfl (nle rfl) ⟨rfl, rfl⟩ hb9 ((c_Mo_feeds hV8)) ?_
    refine j_aload_n (dt_Mo_feed 20 (36, .aload_n 0, 1) rfl) rfl ?_
    refine j_iload (dt_Mo_feed 21 (37, .iload 5, 2) rfl) rfl ?_
    obtain ⟨V10, hV10, hf⟩ := jbind hf
    obtain ⟨b11, hb11⟩ := r_Mo_feeds hV10
    refine j_callV M_Mo_feeds 1 [ai v5] (rest := []) (dt_Mo_feed 22 (39, .invokevirtual 179, 3) rfl) ml_X12_179 ok_Mo_feeds (jfit rfl rfl ⟨rfl, rfl⟩ (nle rfl) (nlt rfl)) rfl rfl (nle rfl) ⟨rfl, rfl⟩ hb11 ((c_Mo_feeds hV10)) ?_
    refine j_aload_n (dt_Mo_feed 23 (42, .aload_n 0, 1) rfl) rfl ?_
    obtain ⟨x12, hx12, hf⟩ := jbind hf
    refine j_getI (dt_Mo_feed 24 (43, .getfield 175, 3) rfl) fl_X12_175 hx12 (fun _ _ => rfl) ?_
    cases hf
    exact j_iret (dt_Mo_feed 25 (46, .ireturn, 1) rfl) rfl
  · refine j_icmp_le (dt_Mo_feed 5 (10, .if_icmp .le 5, 3) rfl) rfl (fun q => absurd q hc) (fun _ => ?_)
    refine j_iconst (dt_Mo_feed 6 (13, .iconst (-1), 1) rfl) ic_m1 ?_
    cases hf
    exact j_iret (dt_Mo_feed 7 (14, .ireturn, 1) rfl) rfl
theorem r_Mo_feed {S : hS} {V : hV} {v0 : Option Nat} {v1 : Int32} {v2 : Int32} {v3 : Int32} {v4 : Int32} {v5 : Int32} {res : Int32 × hV} (hf : Mo_feed S v0 v1 v2 v3 v4 v5 V = some res) : ∃ b, rc S 12 v0 = some b := by
  unfold Mo_feed at hf
  obtain ⟨b, hb, _⟩ := jbind hf
  exact ⟨b, hb⟩
def tb_Mo_end : List (Nat × Instr × Nat) := [(0, .iload_n 1, 1), (1, .i2l, 1), (2, .lconst 0, 1), (3, .aload_n 0, 1), (4, .getfield 175, 3), (7, .i2l, 1), (8, .invokestatic 183, 3), (11, .ifCond .ne 5, 3), (14, .iconst 0, 1), (15, .ireturn, 1), (16, .aload_n 0, 1), (17, .iload_n 1, 1), (18, .putfield 175, 3), (21, .iconst 1, 1), (22, .ireturn, 1)]
theorem dt_Mo_end (i : Nat) (q : Nat × Instr × Nat) (h : tb_Mo_end[i]? = some q) : decode prog_14_method_5_code q.1 = .ok q.2 := jdt (by decide +kernel : tb_Mo_end.all (fun q => decide (decode prog_14_method_5_code q.1 = .ok q.2)) = true) h
theorem ok_Mo_end : jOKV M_Mo_end 1 := ⟨⟨gt6 225 rfl rfl, gt1 17 rfl rfl, (by decide : "FirstInModel" ≠ "java/lang/invoke/MethodHandle"), (by decide : "FirstInModel" ≠ "java/lang/invoke/VarHandle"), (by decide +kernel : (parseMethodDescriptor "(I)Z").map (fun d => d.parameters.length) = some 1)⟩, gt6 223 rfl rfl, gt6 224 rfl rfl, rfl, nlt rfl⟩
set_option maxRecDepth 100000 in
set_option maxHeartbeats 4000000 in
theorem c_Mo_end {G : jG} {S : hS} {V : hV} {v0 : Option Nat} {v1 : Int32} {res : Int32 × hV} (hf : Mo_end S v0 v1 V = some res) : jC G M_Mo_end [ar v0, ai v1] (S, V) (some (ai res.1)) (S, res.2) := by
  unfold Mo_end at hf
  obtain ⟨_, _, hf⟩ := jbind hf
  refine jC_of (pf_X12 _ _) rfl (nle rfl) ?_
  show jJ G M_Mo_end (jEnd G M_Mo_end (some (ai res.1)) (S, res.2)) 0 0 0 [(0, ar v0), (1, ai v1)] [] (S, V)
  refine j_iload_n (dt_Mo_end 0 (0, .iload_n 1, 1) rfl) rfl ?_
  refine j_i2l (dt_Mo_end 1 (1, .i2l, 1) rfl) ?_
  refine j_lconst (dt_Mo_end 2 (2, .lconst 0, 1) rfl) lc_0 ?_
  refine j_aload_n (dt_Mo_end 3 (3, .aload_n 0, 1) rfl) rfl ?_
  obtain ⟨x1, hx1, hf⟩ := jbind hf
  refine j_getI (dt_Mo_end 4 (4, .getfield 175, 3) rfl) fl_X12_175 hx1 (fun _ _ => rfl) ?_
  refine j_i2l (dt_Mo_end 5 (7, .i2l, 1) rfl) ?_
  refine j_callS M_Mo_in 3 [al ((v1 : Int32).toInt64), al 0, al ((x1 : Int32).toInt64)] (rest := []) (dt_Mo_end 6 (8, .invokestatic 183, 3) rfl) ml_X12_183 ok_Mo_in (jfit rfl rfl ⟨rfl, rfl⟩ (nle rfl) (nlt rfl)) rfl rfl (nle rfl) ⟨rfl, rfl⟩ (c_Mo_in rfl) ?_
  refine jite hf (fun hc hf => ?_) (fun hc hf => ?_)
  · refine j_if_ne (dt_Mo_end 7 (11, .ifCond .ne 5, 3) rfl) rfl (fun q => absurd hc q) (fun _ => ?_)
    refine j_iconst (dt_Mo_end 8 (14, .iconst 0, 1) rfl) ic_0 ?_
    cases hf
    exact j_zret (x := 0) (dt_Mo_end 9 (15, .ireturn, 1) rfl) rfl rfl
  · refine j_if_ne (dt_Mo_end 7 (11, .ifCond .ne 5, 3) rfl) rfl (fun _ => ?_) (fun q => absurd q hc)
    refine j_aload_n (dt_Mo_end 10 (16, .aload_n 0, 1) rfl) rfl ?_
    refine j_iload_n (dt_Mo_end 11 (17, .iload_n 1, 1) rfl) rfl ?_
    obtain ⟨V2, hV2, hf⟩ := jbind hf
    refine j_putI (dt_Mo_end 12 (18, .putfield 175, 3) rfl) fl_X12_175 hV2 rfl (Or.inl rfl) ?_
    refine j_iconst (dt_Mo_end 13 (21, .iconst 1, 1) rfl) ic_1 ?_
    cases hf
    exact j_zret (x := 1) (dt_Mo_end 14 (22, .ireturn, 1) rfl) rfl rfl
theorem r_Mo_end {S : hS} {V : hV} {v0 : Option Nat} {v1 : Int32} {res : Int32 × hV} (hf : Mo_end S v0 v1 V = some res) : ∃ b, rc S 12 v0 = some b := by
  unfold Mo_end at hf
  obtain ⟨b, hb, _⟩ := jbind hf
  exact ⟨b, hb⟩
def tb_Mo_between : List (Nat × Instr × Nat) := [(0, .iload_n 1, 1), (1, .aload_n 0, 1), (2, .getfield 175, 3), (5, .if_icmp .ge 27, 3), (8, .aload_n 0, 1), (9, .getfield 9, 3), (12, .iload_n 1, 1), (13, .baload, 1), (14, .iload_n 2, 1), (15, .if_icmp .lt 17, 3), (18, .aload_n 0, 1), (19, .getfield 9, 3), (22, .iload_n 1, 1), (23, .baload, 1), (24, .iload_n 3, 1), (25, .if_icmp .gt 7, 3), (28, .iconst 1, 1), (29, .goto 4, 3), (32, .iconst 0, 1), (33, .ireturn, 1)]
theorem dt_Mo_between (i : Nat) (q : Nat × Instr × Nat) (h : tb_Mo_between[i]? = some q) : decode prog_14_method_6_code q.1 = .ok q.2 := jdt (by decide +kernel : tb_Mo_between.all (fun q => decide (decode prog_14_method_6_code q.1 = .ok q.2)) = true) h
theorem ok_Mo_between : jOKV M_Mo_between 3 := ⟨⟨gt7 4 rfl rfl, gt1 17 rfl rfl, (by decide : "FirstInModel" ≠ "java/lang/invoke/MethodHandle"), (by decide : "FirstInModel" ≠ "java/lang/invoke/VarHandle"), (by decide +kernel : (parseMethodDescriptor "(III)Z").map (fun d => d.parameters.length) = some 3)⟩, gt7 3 rfl rfl, gs_in 7 rfl, rfl, nlt rfl⟩
set_option maxRecDepth 100000 in
set_option maxHeartbeats 4000000 in
theorem c_Mo_between {G : jG} {S : hS} {V : hV} {v0 : Option Nat} {v1 : Int32} {v2 : Int32} {v3 : Int32} {res : Int32} (hf : Mo_between S v0 v1 v2 v3 V = some res) : jC G M_Mo_between [ar v0, ai v1, ai v2, ai v3] (S, V) (some (ai res)) (S, V) := by
  unfold Mo_between at hf
  obtain ⟨_, _, hf⟩ := jbind hf
  refine jC_of (pf_X12 _ _) rfl (nle rfl) ?_
  show jJ G M_Mo_between (jEnd G M_Mo_between (some (ai res)) (S, V)) 0 0 0 [(0, ar v0), (1, ai v1), (2, ai v2), (3, ai v3)] [] (S, V)
  refine j_iload_n (dt_Mo_between 0 (0, .iload_n 1, 1) rfl) rfl ?_
  refine j_aload_n (dt_Mo_between 1 (1, .aload_n 0, 1) rfl) rfl ?_
  obtain ⟨x1, hx1, hf⟩ := jbind hf
  refine j_getI (dt_Mo_between 2 (2, .getfield 175, 3) rfl) fl_X12_175 hx1 (fun _ _ => rfl) ?_
  refine jite hf (fun hc hf => ?_) (fun hc hf => ?_)
  · refine j_icmp_ge (dt_Mo_between 3 (5, .if_icmp .ge 27, 3) rfl) rfl (fun _ => ?_) (fun q => absurd hc q)
    refine j_iconst (dt_Mo_between 18 (32, .iconst 0, 1) rfl) ic_0 ?_
    cases hf
    exact j_zret (x := 0) (dt_Mo_between 19 (33, .ireturn, 1) rfl) rfl rfl
  · refine j_icmp_ge (dt_Mo_between 3 (5, .if_icmp .ge 27, 3) rfl) rfl (fun q => absurd q hc) (fun _ => ?_)
    refine j_aload_n (dt_Mo_between 4 (8, .aload_n 0, 1) rfl) rfl ?_
    obtain ⟨x2, hx2, hf⟩ := jbind hf
    refine j_getR (dt_Mo_between 5 (9, .getfield 9, 3) rfl) fl_X12_9 hx2 (fun _ _ => rfl) ?_
    refine j_iload_n (dt_Mo_between 6 (12, .iload_n 1, 1) rfl) rfl ?_
    obtain ⟨x3, hx3, hf⟩ := jbind hf
    refine j_aldB (dt_Mo_between 7 (13, .baload, 1) rfl) hx3 ?_
    refine j_iload_n (dt_Mo_between 8 (14, .iload_n 2, 1) rfl) rfl ?_
    refine jite hf (fun hc hf => ?_) (fun hc hf => ?_)
    · refine j_icmp_lt (dt_Mo_between 9 (15, .if_icmp .lt 17, 3) rfl) rfl (fun _ => ?_) (fun q => absurd hc q)
      refine j_iconst (dt_Mo_between 18 (32, .iconst 0, 1) rfl) ic_0 ?_
      cases hf
      exact j_zret (x := 0) (dt_Mo_between 19 (33, .ireturn, 1) rfl) rfl rfl
    · refine j_icmp_lt (dt_Mo_between 9 (15, .if_icmp .lt 17, 3) rfl) rfl (fun q => absurd q hc) (fun _ => ?_)
      refine j_aload_n (dt_Mo_between 10 (18, .aload_n 0, 1) rfl) rfl ?_
      obtain ⟨x4, hx4, hf⟩ := jbind hf
      refine j_getR (dt_Mo_between 11 (19, .getfield 9, 3) rfl) fl_X12_9 hx4 (fun _ _ => rfl) ?_
      refine j_iload_n (dt_Mo_between 12 (22, .iload_n 1, 1) rfl) rfl ?_
      obtain ⟨x5, hx5, hf⟩ := jbind hf
      refine j_aldB (dt_Mo_between 13 (23, .baload, 1) rfl) hx5 ?_
      refine j_iload_n (dt_Mo_between 14 (24, .iload_n 3, 1) rfl) rfl ?_
      refine jite hf (fun hc hf => ?_) (fun hc hf => ?_)
      · refine j_icmp_gt (dt_Mo_between 15 (25, .if_icmp .gt 7, 3) rfl) rfl (fun _ => ?_) (fun q => absurd hc q)
        refine j_iconst (dt_Mo_between 18 (32, .iconst 0, 1) rfl) ic_0 ?_
        cases hf
        exact j_zret (x := 0) (dt_Mo_between 19 (33, .ireturn, 1) rfl) rfl rfl
      · refine j_icmp_gt (dt_Mo_between 15 (25, .if_icmp .gt 7, 3) rfl) rfl (fun q => absurd q hc) (fun _ => ?_)
        refine j_iconst (dt_Mo_between 16 (28, .iconst 1, 1) rfl) ic_1 ?_
        refine j_goto (dt_Mo_between 17 (29, .goto 4, 3) rfl) rfl ?_
        cases hf
        exact j_zret (x := 1) (dt_Mo_between 19 (33, .ireturn, 1) rfl) rfl rfl
theorem r_Mo_between {S : hS} {V : hV} {v0 : Option Nat} {v1 : Int32} {v2 : Int32} {v3 : Int32} {res : Int32} (hf : Mo_between S v0 v1 v2 v3 V = some res) : ∃ b, rc S 12 v0 = some b := by
  unfold Mo_between at hf
  obtain ⟨b, hb, _⟩ := jbind hf
  exact ⟨b, hb⟩
def tb_Mo_next : List (Nat × Instr × Nat) := [(0, .aload_n 0, 1), (1, .aload_n 0, 1), (2, .getfield 186, 3), (5, .putfield 189, 3), (8, .aload_n 0, 1), (9, .getfield 189, 3), (12, .aload_n 0, 1), (13, .getfield 175, 3), (16, .if_icmp .ge 44, 3), (19, .aload_n 0, 1), (20, .getfield 9, 3), (23, .aload_n 0, 1), (24, .getfield 189, 3), (27, .baload, 1), (28, .bipush 32, 2), (30, .if_icmp .eq 17, 3), (33, .aload_n 0, 1), (34, .getfield 9, 3), (37, .aload_n 0, 1), (38, .getfield 189, 3), (41, .baload, 1), (42, .bipush 10, 2), (44, .if_icmp .ne 16, 3), (47, .aload_n 0, 1), (48, .dup, 1), (49, .getfield 189, 3), (52, .iconst 1, 1), (53, .iadd, 1), (54, .putfield 189, 3), (57, .goto (-49), 3), (60, .aload_n 0, 1), (61, .aload_n 0, 1), (62, .getfield 189, 3), (65, .putfield 186, 3), (68, .aload_n 0, 1), (69, .aload_n 0, 1), (70, .getfield 189, 3), (73, .bipush 97, 2), (75, .bipush 122, 2), (77, .invokevirtual 192, 3), (80, .ifCond .eq 31, 3), (83, .aload_n 0, 1), (84, .aload_n 0, 1), (85, .getfield 186, 3), (88, .bipush 97, 2), (90, .bipush 122, 2), (92, .invokevirtual 192, 3), (95, .ifCond .eq 80, 3), (98, .aload_n 0, 1), (99, .dup, 1), (100, .getfield 186, 3), (103, .iconst 1, 1), (104, .iadd, 1), (105, .putfield 186, 3), (108, .goto (-25), 3), (111, .aload_n 0, 1), (112, .aload_n 0, 1), (113, .getfield 189, 3), (116, .bipush 48, 2), (118, .bipush 57, 2), (120, .invokevirtual 192, 3), (123, .ifCond .eq 31, 3), (126, .aload_n 0, 1), (127, .aload_n 0, 1), (128, .getfield 186, 3), (131, .bipush 48, 2), (133, .bipush 57, 2), (135, .invokevirtual 192, 3), (138, .ifCond .eq 37, 3), (141, .aload_n 0, 1), (142, .dup, 1), (143, .getfield 186, 3), (146, .iconst 1, 1), (147, .iadd, 1), (148, .putfield 186, 3), (151, .goto (-25), 3), (154, .aload_n 0, 1), (155, .getfield 189, 3), (158, .aload_n 0, 1), (159, .getfield 175, 3), (162, .if_icmp .ge 13, 3), (165, .aload_n 0, 1), (166, .dup, 1), (167, .getfield 186, 3), (170, .iconst 1, 1), (171, .iadd, 1), (172, .putfield 186, 3), (175, .return_, 1)]
theorem dt_Mo_next (i : Nat) (q : Nat × Instr × Nat) (h : tb_Mo_next[i]? = some q) : decode prog_14_method_7_code q.1 = .ok q.2 := jdt (by decide +kernel : tb_Mo_next.all (fun q => decide (decode prog_14_method_7_code q.1 = .ok q.2)) = true) h
theorem ok_Mo_next : jOKV M_Mo_next 0 := ⟨⟨gt7 0 rfl rfl, gt1 17 rfl rfl, (by decide : "FirstInModel" ≠ "java/lang/invoke/MethodHandle"), (by decide : "FirstInModel" ≠ "java/lang/invoke/VarHandle"), (by decide +kernel : (parseMethodDescriptor "()V").map (fun d => d.parameters.length) = some 0)⟩, gt6 239 rfl rfl, gs_in 6 rfl, rfl, nlt rfl⟩
set_option maxRecDepth 100000 in
set_option maxHeartbeats 4000000 in
theorem c_Mo_next {G : jG} {S : hS} {V : hV} {v0 : Option Nat} {res : hV} (hf : Mo_next S v0 V = some res) : jC G M_Mo_next [ar v0] (S, V) none (S, res) := by
  unfold Mo_next at hf
  obtain ⟨_, _, hf⟩ := jbind hf
  refine jC_of (pf_X12 _ _) rfl (nle rfl) ?_
  show jJ G M_Mo_next (jEnd G M_Mo_next none (S, res)) 0 0 0 [(0, ar v0)] [] (S, V)
  refine j_aload_n (dt_Mo_next 0 (0, .aload_n 0, 1) rfl) rfl ?_
  refine j_aload_n (dt_Mo_next 1 (1, .aload_n 0, 1) rfl) rfl ?_
  obtain ⟨x1, hx1, hf⟩ := jbind hf
  refine j_getI (dt_Mo_next 2 (2, .getfield 186, 3) rfl) fl_X12_186 hx1 (fun _ _ => rfl) ?_
  obtain ⟨V2, hV2, hf⟩ := jbind hf
  refine j_putI (dt_Mo_next 3 (5, .putfield 189, 3) rfl) fl_X12_189 hV2 rfl (Or.inl rfl) ?_
  obtain ⟨t8, ht8, hf⟩ := jbind hf
  have hX8 : ∀ q8 : hV, q8 = t8 → jJ G M_Mo_next (jEnd G M_Mo_next none (S, res)) 0 0 60 [(0, ar v0)] [] (S, q8) := by
    intro q8 hq8
    subst hq8
    refine j_aload_n (dt_Mo_next 30 (60, .aload_n 0, 1) rfl) rfl ?_
    refine j_aload_n (dt_Mo_next 31 (61, .aload_n 0, 1) rfl) rfl ?_
    obtain ⟨x13, hx13, hf⟩ := jbind hf
    refine j_getI (dt_Mo_next 32 (62, .getfield 189, 3) rfl) fl_X12_189 hx13 (fun _ _ => rfl) ?_
    obtain ⟨V14, hV14, hf⟩ := jbind hf
    refine j_putI (dt_Mo_next 33 (65, .putfield 186, 3) rfl) fl_X12_186 hV14 rfl (Or.inl rfl) ?_
    refine j_aload_n (dt_Mo_next 34 (68, .aload_n 0, 1) rfl) rfl ?_
    refine j_aload_n (dt_Mo_next 35 (69, .aload_n 0, 1) rfl) rfl ?_
    obtain ⟨x15, hx15, hf⟩ := jbind hf
    refine j_getI (dt_Mo_next 36 (70, .getfield 189, 3) rfl) fl_X12_189 hx15 (fun _ _ => rfl) ?_
    refine j_bipush (dt_Mo_next 37 (73, .bipush 97, 2) rfl) bp_97 ?_
    refine j_bipush (dt_Mo_next 38 (75, .bipush 122, 2) rfl) bp_122 ?_
    obtain ⟨x16, hx16, hf⟩ := jbind hf
    obtain ⟨b17, hb17⟩ := r_Mo_between hx16
    refine j_callV M_Mo_between 3 [ai x15, ai 97, ai 122] (rest := []) (dt_Mo_next 39 (77, .invokevirtual 192, 3) rfl) ml_X12_192 ok_Mo_between (jfit rfl rfl ⟨rfl, rfl⟩ (nle rfl) (nlt rfl)) rfl rfl (nle rfl) ⟨rfl, rfl⟩ hb17 ((c_Mo_between hx16)) ?_
    refine jite hf (fun hc hf => ?_) (fun hc hf => ?_)
    · refine j_if_eq (dt_Mo_next 40 (80, .ifCond .eq 31, 3) rfl) rfl (fun _ => ?_) (fun q => absurd hc q)
      refine j_aload_n (dt_Mo_next 55 (111, .aload_n 0, 1) rfl) rfl ?_
      refine j_aload_n (dt_Mo_next 56 (112, .aload_n 0, 1) rfl) rfl ?_
      obtain ⟨x18, hx18, hf⟩ := jbind hf
      refine j_getI (dt_Mo_next 57 (113, .getfield 189, 3) rfl) fl_X12_189 hx18 (fun _ _ => rfl) ?_
      refine j_bipush (dt_Mo_next 58 (116, .bipush 48, 2) rfl) bp_48 ?_
      refine j_bipush (dt_Mo_next 59 (118, .bipush 57, 2) rfl) bp_57 ?_
      obtain ⟨x19, hx19, hf⟩ := jbind hf
      obtain ⟨b20, hb20⟩ := r_Mo_between hx19
      refine j_callV M_Mo_between 3 [ai x18, ai 48, ai 57] (rest := []) (dt_Mo_next 60 (120, .invokevirtual 192, 3) rfl) ml_X12_192 ok_Mo_between (jfit rfl rfl ⟨rfl, rfl⟩ (nle rfl) (nlt rfl)) rfl rfl (nle rfl) ⟨rfl, rfl⟩ hb20 ((c_Mo_between hx19)) ?_
      refine jite hf (fun hc hf => ?_) (fun hc hf => ?_)
      · refine j_if_eq (dt_Mo_next 61 (123, .ifCond .eq 31, 3) rfl) rfl (fun _ => ?_) (fun q => absurd hc q)
        refine j_aload_n (dt_Mo_next 76 (154, .aload_n 0, 1) rfl) rfl ?_
        obtain ⟨x21, hx21, hf⟩ := jbind hf
        refine j_getI (dt_Mo_next 77 (155, .getfield 189, 3) rfl) fl_X12_189 hx21 (fun _ _ => rfl) ?_
        refine j_aload_n (dt_Mo_next 78 (158, .aload_n 0, 1) rfl) rfl ?_
        obtain ⟨x22, hx22, hf⟩ := jbind hf
        refine j_getI (dt_Mo_next 79 (159, .getfield 175, 3) rfl) fl_X12_175 hx22 (fun _ _ => rfl) ?_
        refine jite hf (fun hc hf => ?_) (fun hc hf => ?_)
        · refine j_icmp_ge (dt_Mo_next 80 (162, .if_icmp .ge 13, 3) rfl) rfl (fun _ => ?_) (fun q => absurd hc q)
          cases hf
          exact j_vret (dt_Mo_next 87 (175, .return_, 1) rfl) rfl
        · refine j_icmp_ge (dt_Mo_next 80 (162, .if_icmp .ge 13, 3) rfl) rfl (fun q => absurd q hc) (fun _ => ?_)
          refine j_aload_n (dt_Mo_next 81 (165, .aload_n 0, 1) rfl) rfl ?_
          refine j_dup (dt_Mo_next 82 (166, .dup, 1) rfl) rfl ?_
          obtain ⟨x23, hx23, hf⟩ := jbind hf
          refine j_getI (dt_Mo_next 83 (167, .getfield 186, 3) rfl) fl_X12_186 hx23 (fun _ _ => rfl) ?_
          refine j_iconst (dt_Mo_next 84 (170, .iconst 1, 1) rfl) ic_1 ?_
          refine j_iadd (dt_Mo_next 85 (171, .iadd, 1) rfl) ?_
          obtain ⟨V24, hV24, hf⟩ := jbind hf
          refine j_putI (dt_Mo_next 86 (172, .putfield 186, 3) rfl) fl_X12_186 hV24 rfl (Or.inl rfl) ?_
          cases hf
          exact j_vret (dt_Mo_next 87 (175, .return_, 1) rfl) rfl
      · refine j_if_eq (dt_Mo_next 61 (123, .ifCond .eq 31, 3) rfl) rfl (fun q => absurd q hc) (fun _ => ?_)
        obtain ⟨t126, ht126, hf⟩ := jbind hf
        have hX126 : ∀ q126 : hV, q126 = t126 → jJ G M_Mo_next (jEnd G M_Mo_next none (S, res)) 0 0 175 [] [] (S, q126) := by
          intro q126 hq126
          subst hq126
          cases hf
          exact j_vret (dt_Mo_next 87 (175, .return_, 1) rfl) rfl
        refine j_sub (ls' := [(0, ar v0)]) rfl ?_
        refine jloop_J (C := fun s126 => jJ G M_Mo_next (jEnd G M_Mo_next none (S, res)) 0 0 126 [(0, ar v0)] [] (S, s126)) (fun s126 z126_ hy126 hin126 hout126 => ?_) _ _ ht126
        unfold Mo_next_L126 at hy126
        refine j_aload_n (dt_Mo_next 62 (126, .aload_n 0, 1) rfl) rfl ?_
        refine j_aload_n (dt_Mo_next 63 (127, .aload_n 0, 1) rfl) rfl ?_
        obtain ⟨x25, hx25, hy126⟩ := jbind hy126
        refine j_getI (dt_Mo_next 64 (128, .getfield 186, 3) rfl) fl_X12_186 hx25 (fun _ _ => rfl) ?_
        refine j_bipush (dt_Mo_next 65 (131, .bipush 48, 2) rfl) bp_48 ?_
        refine j_bipush (dt_Mo_next 66 (133, .bipush 57, 2) rfl) bp_57 ?_
        obtain ⟨x26, hx26, hy126⟩ := jbind hy126
        obtain ⟨b27, hb27⟩ := r_Mo_between hx26
        refine j_callV M_Mo_between 3 [ai x25, ai 48, ai 57] (rest := []) (dt_Mo_next 67 (135, .invokevirtual 192, 3) rfl) ml_X12_192 ok_Mo_between (jfit rfl rfl ⟨rfl, rfl⟩ (nle rfl) (nlt rfl)) rfl rfl (nle rfl) ⟨rfl, rfl⟩ hb27 ((c_Mo_between hx26)) ?_
        refine jite hy126 (fun hc hy126 => ?_) (fun hc hy126 => ?_)
        · refine j_if_eq (dt_Mo_next 68 (138, .ifCond .eq 37, 3) rfl) rfl (fun _ => ?_) (fun q => absurd hc q)
          cases hy126
          have hz := hX126 _ (hout126 _ rfl)
          exact j_sub rfl hz
        · refine j_if_eq (dt_Mo_next 68 (138, .ifCond .eq 37, 3) rfl) rfl (fun q => absurd q hc) (fun _ => ?_)
          refine j_aload_n (dt_Mo_next 69 (141, .aload_n 0, 1) rfl) rfl ?_
          refine j_dup (dt_Mo_next 70 (142, .dup, 1) rfl) rfl ?_
          obtain ⟨x28, hx28, hy126⟩ := jbind hy126
          refine j_getI (dt_Mo_next 71 (143, .getfield 186, 3) rfl) fl_X12_186 hx28 (fun _ _ => rfl) ?_
          refine j_iconst (dt_Mo_next 72 (146, .iconst 1, 1) rfl) ic_1 ?_
          refine j_iadd (dt_Mo_next 73 (147, .iadd, 1) rfl) ?_
          obtain ⟨V29, hV29, hy126⟩ := jbind hy126
          refine j_putI (dt_Mo_next 74 (148, .putfield 186, 3) rfl) fl_X12_186 hV29 rfl (Or.inl rfl) ?_
          refine j_goto (dt_Mo_next 75 (151, .goto (-25), 3) rfl) rfl ?_
          cases hy126
          have hz := hin126 _ rfl
          exact j_sub rfl hz
    · refine j_if_eq (dt_Mo_next 40 (80, .ifCond .eq 31, 3) rfl) rfl (fun q => absurd q hc) (fun _ => ?_)
      obtain ⟨t83, ht83, hf⟩ := jbind hf
      have hX83 : ∀ q83 : hV, q83 = t83 → jJ G M_Mo_next (jEnd G M_Mo_next none (S, res)) 0 0 175 [] [] (S, q83) := by
        intro q83 hq83
        subst hq83
        cases hf
        exact j_vret (dt_Mo_next 87 (175, .return_, 1) rfl) rfl
      refine j_sub (ls' := [(0, ar v0)]) rfl ?_
      refine jloop_J (C := fun s83 => jJ G M_Mo_next (jEnd G M_Mo_next none (S, res)) 0 0 83 [(0, ar v0)] [] (S, s83)) (fun s83 z83_ hy83 hin83 hout83 => ?_) _ _ ht83
      unfold Mo_next_L83 at hy83
      refine j_aload_n (dt_Mo_next 41 (83, .aload_n 0, 1) rfl) rfl ?_
      refine j_aload_n (dt_Mo_next 42 (84, .aload_n 0, 1) rfl) rfl ?_
      obtain ⟨x30, hx30, hy83⟩ := jbind hy83
      refine j_getI (dt_Mo_next 43 (85, .getfield 186, 3) rfl) fl_X12_186 hx30 (fun _ _ => rfl) ?_
      refine j_bipush (dt_Mo_next 44 (88, .bipush 97, 2) rfl) bp_97 ?_
      refine j_bipush (dt_Mo_next 45 (90, .bipush 122, 2) rfl) bp_122 ?_
      obtain ⟨x31, hx31, hy83⟩ := jbind hy83
      obtain ⟨b32, hb32⟩ := r_Mo_between hx31
      refine j_callV M_Mo_between 3 [ai x30, ai 97, ai 122] (rest := []) (dt_Mo_next 46 (92, .invokevirtual 192, 3) rfl) ml_X12_192 ok_Mo_between (jfit rfl rfl ⟨rfl, rfl⟩ (nle rfl) (nlt rfl)) rfl rfl (nle rfl) ⟨rfl, rfl⟩ hb32 ((c_Mo_between hx31)) ?_
      refine jite hy83 (fun hc hy83 => ?_) (fun hc hy83 => ?_)
      · refine j_if_eq (dt_Mo_next 47 (95, .ifCond .eq 80, 3) rfl) rfl (fun _ => ?_) (fun q => absurd hc q)
        cases hy83
        have hz := hX83 _ (hout83 _ rfl)
        exact j_sub rfl hz
      · refine j_if_eq (dt_Mo_next 47 (95, .ifCond .eq 80, 3) rfl) rfl (fun q => absurd q hc) (fun _ => ?_)
        refine j_aload_n (dt_Mo_next 48 (98, .aload_n 0, 1) rfl) rfl ?_
        refine j_dup (dt_Mo_next 49 (99, .dup, 1) rfl) rfl ?_
        obtain ⟨x33, hx33, hy83⟩ := jbind hy83
        refine j_getI (dt_Mo_next 50 (100, .getfield 186, 3) rfl) fl_X12_186 hx33 (fun _ _ => rfl) ?_
        refine j_iconst (dt_Mo_next 51 (103, .iconst 1, 1) rfl) ic_1 ?_
        refine j_iadd (dt_Mo_next 52 (104, .iadd, 1) rfl) ?_
        obtain ⟨V34, hV34, hy83⟩ := jbind hy83
        refine j_putI (dt_Mo_next 53 (105, .putfield 186, 3) rfl) fl_X12_186 hV34 rfl (Or.inl rfl) ?_
        refine j_goto (dt_Mo_next 54 (108, .goto (-25), 3) rfl) rfl ?_
        cases hy83
        have hz := hin83 _ rfl
        exact j_sub rfl hz
  refine j_sub (ls' := [(0, ar v0)]) rfl ?_
  refine jloop_J (C := fun s8 => jJ G M_Mo_next (jEnd G M_Mo_next none (S, res)) 0 0 8 [(0, ar v0)] [] (S, s8)) (fun s8 z8_ hy8 hin8 hout8 => ?_) _ _ ht8
  unfold Mo_next_L8 at hy8
  refine j_aload_n (dt_Mo_next 4 (8, .aload_n 0, 1) rfl) rfl ?_
  obtain ⟨x3, hx3, hy8⟩ := jbind hy8
  refine j_getI (dt_Mo_next 5 (9, .getfield 189, 3) rfl) fl_X12_189 hx3 (fun _ _ => rfl) ?_
  refine j_aload_n (dt_Mo_next 6 (12, .aload_n 0, 1) rfl) rfl ?_
  obtain ⟨x4, hx4, hy8⟩ := jbind hy8
  refine j_getI (dt_Mo_next 7 (13, .getfield 175, 3) rfl) fl_X12_175 hx4 (fun _ _ => rfl) ?_
  refine jite hy8 (fun hc hy8 => ?_) (fun hc hy8 => ?_)
  · refine j_icmp_ge (dt_Mo_next 8 (16, .if_icmp .ge 44, 3) rfl) rfl (fun _ => ?_) (fun q => absurd hc q)
    cases hy8
    have hz := hX8 _ (hout8 _ rfl)
    exact j_sub rfl hz
  · refine j_icmp_ge (dt_Mo_next 8 (16, .if_icmp .ge 44, 3) rfl) rfl (fun q => absurd q hc) (fun _ => ?_)
    refine j_aload_n (dt_Mo_next 9 (19, .aload_n 0, 1) rfl) rfl ?_
    obtain ⟨x5, hx5, hy8⟩ := jbind hy8
    refine j_getR (dt_Mo_next 10 (20, .getfield 9, 3) rfl) fl_X12_9 hx5 (fun _ _ => rfl) ?_
    refine j_aload_n (dt_Mo_next 11 (23, .aload_n 0, 1) rfl) rfl ?_
    obtain ⟨x6, hx6, hy8⟩ := jbind hy8
    refine j_getI (dt_Mo_next 12 (24, .getfield 189, 3) rfl) fl_X12_189 hx6 (fun _ _ => rfl) ?_
    obtain ⟨x7, hx7, hy8⟩ := jbind hy8
    refine j_aldB (dt_Mo_next 13 (27, .baload, 1) rfl) hx7 ?_
    refine j_bipush (dt_Mo_next 14 (28, .bipush 32, 2) rfl) bp_32 ?_
    obtain ⟨k30, hk30, hy8⟩ := jbind hy8
    have hE30 : ∀ e30 : Unit, k30 = .inl e30 → jJ G M_Mo_next (jEnd G M_Mo_next none (S, res)) 0 0 47 [(0, ar v0)] [] (S, s8) := by
      intro e30 he30
      subst he30
      refine j_aload_n (dt_Mo_next 23 (47, .aload_n 0, 1) rfl) rfl ?_
      refine j_dup (dt_Mo_next 24 (48, .dup, 1) rfl) rfl ?_
      obtain ⟨x8, hx8, hy8⟩ := jbind hy8
      refine j_getI (dt_Mo_next 25 (49, .getfield 189, 3) rfl) fl_X12_189 hx8 (fun _ _ => rfl) ?_
      refine j_iconst (dt_Mo_next 26 (52, .iconst 1, 1) rfl) ic_1 ?_
      refine j_iadd (dt_Mo_next 27 (53, .iadd, 1) rfl) ?_
      obtain ⟨V9, hV9, hy8⟩ := jbind hy8
      refine j_putI (dt_Mo_next 28 (54, .putfield 189, 3) rfl) fl_X12_189 hV9 rfl (Or.inl rfl) ?_
      refine j_goto (dt_Mo_next 29 (57, .goto (-49), 3) rfl) rfl ?_
      cases hy8
      have hz := hin8 _ rfl
      exact j_sub rfl hz
    refine jite hk30 (fun hc hk30 => ?_) (fun hc hk30 => ?_)
    · refine j_icmp_eq (dt_Mo_next 15 (30, .if_icmp .eq 17, 3) rfl) rfl (fun _ => ?_) (fun q => absurd hc q)
      cases hk30
      have hz := hE30 _ rfl
      exact j_sub rfl hz
    · refine j_icmp_eq (dt_Mo_next 15 (30, .if_icmp .eq 17, 3) rfl) rfl (fun q => absurd q hc) (fun _ => ?_)
      refine j_aload_n (dt_Mo_next 16 (33, .aload_n 0, 1) rfl) rfl ?_
      obtain ⟨x10, hx10, hk30⟩ := jbind hk30
      refine j_getR (dt_Mo_next 17 (34, .getfield 9, 3) rfl) fl_X12_9 hx10 (fun _ _ => rfl) ?_
      refine j_aload_n (dt_Mo_next 18 (37, .aload_n 0, 1) rfl) rfl ?_
      obtain ⟨x11, hx11, hk30⟩ := jbind hk30
      refine j_getI (dt_Mo_next 19 (38, .getfield 189, 3) rfl) fl_X12_189 hx11 (fun _ _ => rfl) ?_
      obtain ⟨x12, hx12, hk30⟩ := jbind hk30
      refine j_aldB (dt_Mo_next 20 (41, .baload, 1) rfl) hx12 ?_
      refine j_bipush (dt_Mo_next 21 (42, .bipush 10, 2) rfl) bp_10 ?_
      refine jite hk30 (fun hc hk30 => ?_) (fun hc hk30 => ?_)
      · refine j_icmp_ne (dt_Mo_next 22 (44, .if_icmp .ne 16, 3) rfl) rfl (fun q => absurd hc q) (fun _ => ?_)
        cases hk30
        have hz := hE30 _ rfl
        exact j_sub rfl hz
      · refine j_icmp_ne (dt_Mo_next 22 (44, .if_icmp .ne 16, 3) rfl) rfl (fun _ => ?_) (fun q => absurd q hc)
        cases hk30
        cases hy8
        have hz := hX8 _ (hout8 _ rfl)
        exact j_sub rfl hz
theorem r_Mo_next {S : hS} {V : hV} {v0 : Option Nat} {res : hV} (hf : Mo_next S v0 V = some res) : ∃ b, rc S 12 v0 = some b := by
  unfold Mo_next at hf
  obtain ⟨b, hb, _⟩ := jbind hf
  exact ⟨b, hb⟩
def tb_Mo_passes : List (Nat × Instr × Nat) := [(0, .iload_n 1, 1), (1, .ifCond .ne 21, 3), (4, .aload_n 0, 1), (5, .getfield 196, 3), (8, .iconst (-1), 1), (9, .if_icmp .ne 11, 3), (12, .aload_n 0, 1), (13, .aload_n 0, 1), (14, .getfield 189, 3), (17, .putfield 196, 3), (20, .iconst 0, 1), (21, .ireturn, 1), (22, .aload_n 0, 1), (23, .invokevirtual 199, 3), (26, .iconst 1, 1), (27, .ireturn, 1)]
theorem dt_Mo_passes (i : Nat) (q : Nat × Instr × Nat) (h : tb_Mo_passes[i]? = some q) : decode prog_14_method_8_code q.1 = .ok q.2 := jdt (by decide +kernel : tb_Mo_passes.all (fun q => decide (decode prog_14_method_8_code q.1 = .ok q.2)) = true) h
theorem ok_Mo_passes : jOKV M_Mo_passes 1 := ⟨⟨gt7 18 rfl rfl, gt1 17 rfl rfl, (by decide : "FirstInModel" ≠ "java/lang/invoke/MethodHandle"), (by decide : "FirstInModel" ≠ "java/lang/invoke/VarHandle"), (by decide +kernel : (parseMethodDescriptor "(Z)Z").map (fun d => d.parameters.length) = some 1)⟩, gt7 17 rfl rfl, gs_in 10 rfl, rfl, nlt rfl⟩
set_option maxRecDepth 100000 in
set_option maxHeartbeats 4000000 in
theorem c_Mo_passes {G : jG} {S : hS} {V : hV} {v0 : Option Nat} {v1 : Int32} {res : Int32 × hV} (hf : Mo_passes S v0 v1 V = some res) : jC G M_Mo_passes [ar v0, ai v1] (S, V) (some (ai res.1)) (S, res.2) := by
  unfold Mo_passes at hf
  obtain ⟨_, _, hf⟩ := jbind hf
  refine jC_of (pf_X12 _ _) rfl (nle rfl) ?_
  show jJ G M_Mo_passes (jEnd G M_Mo_passes (some (ai res.1)) (S, res.2)) 0 0 0 [(0, ar v0), (1, ai v1)] [] (S, V)
  refine j_iload_n (dt_Mo_passes 0 (0, .iload_n 1, 1) rfl) rfl ?_
  refine jite hf (fun hc hf => ?_) (fun hc hf => ?_)
  · refine j_if_ne (dt_Mo_passes 1 (1, .ifCond .ne 21, 3) rfl) rfl (fun q => absurd hc q) (fun _ => ?_)
    refine j_aload_n (dt_Mo_passes 2 (4, .aload_n 0, 1) rfl) rfl ?_
    obtain ⟨x3, hx3, hf⟩ := jbind hf
    refine j_getI (dt_Mo_passes 3 (5, .getfield 196, 3) rfl) fl_X12_196 hx3 (fun _ _ => rfl) ?_
    refine j_iconst (dt_Mo_passes 4 (8, .iconst (-1), 1) rfl) ic_m1 ?_
    refine jite hf (fun hc hf => ?_) (fun hc hf => ?_)
    · refine j_icmp_ne (dt_Mo_passes 5 (9, .if_icmp .ne 11, 3) rfl) rfl (fun q => absurd hc q) (fun _ => ?_)
      refine j_aload_n (dt_Mo_passes 6 (12, .aload_n 0, 1) rfl) rfl ?_
      refine j_aload_n (dt_Mo_passes 7 (13, .aload_n 0, 1) rfl) rfl ?_
      obtain ⟨x4, hx4, hf⟩ := jbind hf
      refine j_getI (dt_Mo_passes 8 (14, .getfield 189, 3) rfl) fl_X12_189 hx4 (fun _ _ => rfl) ?_
      obtain ⟨V5, hV5, hf⟩ := jbind hf
      refine j_putI (dt_Mo_passes 9 (17, .putfield 196, 3) rfl) fl_X12_196 hV5 rfl (Or.inl rfl) ?_
      refine j_iconst (dt_Mo_passes 10 (20, .iconst 0, 1) rfl) ic_0 ?_
      cases hf
      exact j_zret (x := 0) (dt_Mo_passes 11 (21, .ireturn, 1) rfl) rfl rfl
    · refine j_icmp_ne (dt_Mo_passes 5 (9, .if_icmp .ne 11, 3) rfl) rfl (fun _ => ?_) (fun q => absurd q hc)
      refine j_iconst (dt_Mo_passes 10 (20, .iconst 0, 1) rfl) ic_0 ?_
      cases hf
      exact j_zret (x := 0) (dt_Mo_passes 11 (21, .ireturn, 1) rfl) rfl rfl
  · refine j_if_ne (dt_Mo_passes 1 (1, .ifCond .ne 21, 3) rfl) rfl (fun _ => ?_) (fun q => absurd q hc)
    refine j_aload_n (dt_Mo_passes 12 (22, .aload_n 0, 1) rfl) rfl ?_
    obtain ⟨V1, hV1, hf⟩ := jbind hf
    obtain ⟨b2, hb2⟩ := r_Mo_next hV1
    refine j_callV M_Mo_next 0 [] (rest := []) (dt_Mo_passes 13 (23, .invokevirtual 199, 3) rfl) ml_X12_199 ok_Mo_next (jfit rfl rfl ⟨rfl, rfl⟩ (nle rfl) (nlt rfl)) rfl rfl (nle rfl) ⟨rfl, rfl⟩ hb2 ((c_Mo_next hV1)) ?_
    refine j_iconst (dt_Mo_passes 14 (26, .iconst 1, 1) rfl) ic_1 ?_
    cases hf
    exact j_zret (x := 1) (dt_Mo_passes 15 (27, .ireturn, 1) rfl) rfl rfl
theorem r_Mo_passes {S : hS} {V : hV} {v0 : Option Nat} {v1 : Int32} {res : Int32 × hV} (hf : Mo_passes S v0 v1 V = some res) : ∃ b, rc S 12 v0 = some b := by
  unfold Mo_passes at hf
  obtain ⟨b, hb, _⟩ := jbind hf
  exact ⟨b, hb⟩
def tb_Mo_isWord : List (Nat × Instr × Nat) := [(0, .aload_n 0, 1), (1, .getfield 189, 3), (4, .aload_n 0, 1), (5, .getfield 175, 3), (8, .if_icmp .eq 24, 3), (11, .aload_n 0, 1), (12, .getfield 186, 3), (15, .aload_n 0, 1), (16, .getfield 189, 3), (19, .isub, 1), (20, .aload_n 0, 1), (21, .getfield 73, 3), (24, .iload_n 1, 1), (25, .aaload, 1), (26, .invokevirtual 202, 3), (29, .if_icmp .eq 5, 3), (32, .iconst 0, 1), (33, .ireturn, 1), (34, .aload_n 0, 1), (35, .getfield 189, 3), (38, .istore_n 2, 1), (39, .iload_n 2, 1), (40, .aload_n 0, 1), (41, .getfield 186, 3), (44, .if_icmp .ge 35, 3), (47, .aload_n 0, 1), (48, .getfield 9, 3), (51, .iload_n 2, 1), (52, .baload, 1), (53, .aload_n 0, 1), (54, .getfield 73, 3), (57, .iload_n 1, 1), (58, .aaload, 1), (59, .iload_n 2, 1), (60, .aload_n 0, 1), (61, .getfield 189, 3), (64, .isub, 1), (65, .invokevirtual 206, 3), (68, .if_icmp .eq 5, 3), (71, .iconst 0, 1), (72, .ireturn, 1), (73, .iinc 2 1, 3), (76, .goto (-37), 3), (79, .iconst 1, 1), (80, .ireturn, 1)]
theorem dt_Mo_isWord (i : Nat) (q : Nat × Instr × Nat) (h : tb_Mo_isWord[i]? = some q) : decode prog_14_method_9_code q.1 = .ok q.2 := jdt (by decide +kernel : tb_Mo_isWord.all (fun q => decide (decode prog_14_method_9_code q.1 = .ok q.2)) = true) h
theorem ok_Mo_isWord : jOKV M_Mo_isWord 1 := ⟨⟨gt7 12 rfl rfl, gt1 17 rfl rfl, (by decide : "FirstInModel" ≠ "java/lang/invoke/MethodHandle"), (by decide : "FirstInModel" ≠ "java/lang/invoke/VarHandle"), (by decide +kernel : (parseMethodDescriptor "(I)Z").map (fun d => d.parameters.length) = some 1)⟩, gt7 11 rfl rfl, gs_in 9 rfl, rfl, nlt rfl⟩
set_option maxRecDepth 100000 in
set_option maxHeartbeats 4000000 in
theorem c_Mo_isWord {G : jG} {S : hS} {V : hV} {v0 : Option Nat} {v1 : Int32} {res : Int32} (hf : Mo_isWord S v0 v1 V = some res) : jC G M_Mo_isWord [ar v0, ai v1] (S, V) (some (ai res)) (S, V) := by
  unfold Mo_isWord at hf
  obtain ⟨_, _, hf⟩ := jbind hf
  refine jC_of (pf_X12 _ _) rfl (nle rfl) ?_
  show jJ G M_Mo_isWord (jEnd G M_Mo_isWord (some (ai res)) (S, V)) 0 0 0 [(0, ar v0), (1, ai v1)] [] (S, V)
  refine j_aload_n (dt_Mo_isWord 0 (0, .aload_n 0, 1) rfl) rfl ?_
  obtain ⟨x1, hx1, hf⟩ := jbind hf
  refine j_getI (dt_Mo_isWord 1 (1, .getfield 189, 3) rfl) fl_X12_189 hx1 (fun _ _ => rfl) ?_
  refine j_aload_n (dt_Mo_isWord 2 (4, .aload_n 0, 1) rfl) rfl ?_
  obtain ⟨x2, hx2, hf⟩ := jbind hf
  refine j_getI (dt_Mo_isWord 3 (5, .getfield 175, 3) rfl) fl_X12_175 hx2 (fun _ _ => rfl) ?_
  refine jite hf (fun hc hf => ?_) (fun hc hf => ?_)
  · refine j_icmp_eq (dt_Mo_isWord 4 (8, .if_icmp .eq 24, 3) rfl) rfl (fun _ => ?_) (fun q => absurd hc q)
    refine j_iconst (dt_Mo_isWord 16 (32, .iconst 0, 1) rfl) ic_0 ?_
    cases hf
    exact j_zret (x := 0) (dt_Mo_isWord 17 (33, .ireturn, 1) rfl) rfl rfl
  · refine j_icmp_eq (dt_Mo_isWord 4 (8, .if_icmp .eq 24, 3) rfl) rfl (fun q => absurd q hc) (fun _ => ?_)
    refine j_aload_n (dt_Mo_isWord 5 (11, .aload_n 0, 1) rfl) rfl ?_
    obtain ⟨x3, hx3, hf⟩ := jbind hf
    refine j_getI (dt_Mo_isWord 6 (12, .getfield 186, 3) rfl) fl_X12_186 hx3 (fun _ _ => rfl) ?_
    refine j_aload_n (dt_Mo_isWord 7 (15, .aload_n 0, 1) rfl) rfl ?_
    obtain ⟨x4, hx4, hf⟩ := jbind hf
    refine j_getI (dt_Mo_isWord 8 (16, .getfield 189, 3) rfl) fl_X12_189 hx4 (fun _ _ => rfl) ?_
    refine j_isub (dt_Mo_isWord 9 (19, .isub, 1) rfl) ?_
    refine j_aload_n (dt_Mo_isWord 10 (20, .aload_n 0, 1) rfl) rfl ?_
    obtain ⟨x5, hx5, hf⟩ := jbind hf
    refine j_getR (dt_Mo_isWord 11 (21, .getfield 73, 3) rfl) fl_X12_73 hx5 (fun _ _ => rfl) ?_
    refine j_iload_n (dt_Mo_isWord 12 (24, .iload_n 1, 1) rfl) rfl ?_
    obtain ⟨x6, hx6, hf⟩ := jbind hf
    refine j_aldR 106 (dt_Mo_isWord 13 (25, .aaload, 1) rfl) (by decide) hx6 ?_
    obtain ⟨x7, hx7, hf⟩ := jbind hf
    refine j_Jd_length (dt_Mo_isWord 14 (26, .invokevirtual 202, 3) rfl) ml_X12_202 hx7 ⟨nle rfl, nle rfl⟩ (nle rfl) ?_
    refine jite hf (fun hc hf => ?_) (fun hc hf => ?_)
    · refine j_icmp_eq (dt_Mo_isWord 15 (29, .if_icmp .eq 5, 3) rfl) rfl (fun _ => ?_) (fun q => absurd hc q)
      refine j_aload_n (dt_Mo_isWord 18 (34, .aload_n 0, 1) rfl) rfl ?_
      obtain ⟨x8, hx8, hf⟩ := jbind hf
      refine j_getI (dt_Mo_isWord 19 (35, .getfield 189, 3) rfl) fl_X12_189 hx8 (fun _ _ => rfl) ?_
      refine j_istore_n (dt_Mo_isWord 20 (38, .istore_n 2, 1) rfl) (nlt rfl) ?_
      obtain ⟨t39, ht39, hf⟩ := jbind hf
      have hX39 : ∀ q39 : Unit, t39 = .inl q39 → jJ G M_Mo_isWord (jEnd G M_Mo_isWord (some (ai res)) (S, V)) 0 0 79 [] [] (S, V) := by
        intro q39 hq39
        subst hq39
        refine j_iconst (dt_Mo_isWord 43 (79, .iconst 1, 1) rfl) ic_1 ?_
        cases hf
        exact j_zret (x := 1) (dt_Mo_isWord 44 (80, .ireturn, 1) rfl) rfl rfl
      have hR39 : ∀ v : Int32, t39 = .inr v → v = res := by
        intro v hv
        subst hv
        cases hf
        rfl
      refine j_sub (ls' := [(0, ar v0), (1, ai v1), (2, ai x8)]) rfl ?_
      refine jloop_J (C := fun s39 => jJ G M_Mo_isWord (jEnd G M_Mo_isWord (some (ai res)) (S, V)) 0 0 39 [(0, ar v0), (1, ai v1), (2, ai s39)] [] (S, V)) (fun s39 z39_ hy39 hin39 hout39 => ?_) _ _ ht39
      unfold Mo_isWord_L39 at hy39
      refine j_iload_n (dt_Mo_isWord 21 (39, .iload_n 2, 1) rfl) rfl ?_
      refine j_aload_n (dt_Mo_isWord 22 (40, .aload_n 0, 1) rfl) rfl ?_
      obtain ⟨x9, hx9, hy39⟩ := jbind hy39
      refine j_getI (dt_Mo_isWord 23 (41, .getfield 186, 3) rfl) fl_X12_186 hx9 (fun _ _ => rfl) ?_
      refine jite hy39 (fun hc hy39 => ?_) (fun hc hy39 => ?_)
      · refine j_icmp_ge (dt_Mo_isWord 24 (44, .if_icmp .ge 35, 3) rfl) rfl (fun _ => ?_) (fun q => absurd hc q)
        cases hy39
        have hz := hX39 _ (hout39 _ rfl).symm
        exact j_sub rfl hz
      · refine j_icmp_ge (dt_Mo_isWord 24 (44, .if_icmp .ge 35, 3) rfl) rfl (fun q => absurd q hc) (fun _ => ?_)
        refine j_aload_n (dt_Mo_isWord 25 (47, .aload_n 0, 1) rfl) rfl ?_
        obtain ⟨x10, hx10, hy39⟩ := jbind hy39
        refine j_getR (dt_Mo_isWord 26 (48, .getfield 9, 3) rfl) fl_X12_9 hx10 (fun _ _ => rfl) ?_
        refine j_iload_n (dt_Mo_isWord 27 (51, .iload_n 2, 1) rfl) rfl ?_
        obtain ⟨x11, hx11, hy39⟩ := jbind hy39
        refine j_aldB (dt_Mo_isWord 28 (52, .baload, 1) rfl) hx11 ?_
        refine j_aload_n (dt_Mo_isWord 29 (53, .aload_n 0, 1) rfl) rfl ?_
        obtain ⟨x12, hx12, hy39⟩ := jbind hy39
        refine j_getR (dt_Mo_isWord 30 (54, .getfield 73, 3) rfl) fl_X12_73 hx12 (fun _ _ => rfl) ?_
        refine j_iload_n (dt_Mo_isWord 31 (57, .iload_n 1, 1) rfl) rfl ?_
        obtain ⟨x13, hx13, hy39⟩ := jbind hy39
        refine j_aldR 106 (dt_Mo_isWord 32 (58, .aaload, 1) rfl) (by decide) hx13 ?_
        refine j_iload_n (dt_Mo_isWord 33 (59, .iload_n 2, 1) rfl) rfl ?_
        refine j_aload_n (dt_Mo_isWord 34 (60, .aload_n 0, 1) rfl) rfl ?_
        obtain ⟨x14, hx14, hy39⟩ := jbind hy39
        refine j_getI (dt_Mo_isWord 35 (61, .getfield 189, 3) rfl) fl_X12_189 hx14 (fun _ _ => rfl) ?_
        refine j_isub (dt_Mo_isWord 36 (64, .isub, 1) rfl) ?_
        obtain ⟨x15, hx15, hy39⟩ := jbind hy39
        refine j_Jd_charAt (dt_Mo_isWord 37 (65, .invokevirtual 206, 3) rfl) ml_X12_206 hx15 ⟨nle rfl, nle rfl⟩ (nle rfl) ?_
        refine jite hy39 (fun hc hy39 => ?_) (fun hc hy39 => ?_)
        · refine j_icmp_eq (dt_Mo_isWord 38 (68, .if_icmp .eq 5, 3) rfl) rfl (fun _ => ?_) (fun q => absurd hc q)
          refine j_iinc (dt_Mo_isWord 41 (73, .iinc 2 1, 3) rfl) rfl (nlt rfl) (ii_1 _) ?_
          refine j_goto (dt_Mo_isWord 42 (76, .goto (-37), 3) rfl) rfl ?_
          cases hy39
          have hz := hin39 _ rfl
          exact j_sub rfl hz
        · refine j_icmp_eq (dt_Mo_isWord 38 (68, .if_icmp .eq 5, 3) rfl) rfl (fun q => absurd q hc) (fun _ => ?_)
          refine j_iconst (dt_Mo_isWord 39 (71, .iconst 0, 1) rfl) ic_0 ?_
          cases hy39
          obtain rfl := hR39 _ (hout39 _ rfl).symm
          exact j_zret (x := 0) (dt_Mo_isWord 40 (72, .ireturn, 1) rfl) rfl rfl
    · refine j_icmp_eq (dt_Mo_isWord 15 (29, .if_icmp .eq 5, 3) rfl) rfl (fun q => absurd q hc) (fun _ => ?_)
      refine j_iconst (dt_Mo_isWord 16 (32, .iconst 0, 1) rfl) ic_0 ?_
      cases hf
      exact j_zret (x := 0) (dt_Mo_isWord 17 (33, .ireturn, 1) rfl) rfl rfl
theorem r_Mo_isWord {S : hS} {V : hV} {v0 : Option Nat} {v1 : Int32} {res : Int32} (hf : Mo_isWord S v0 v1 V = some res) : ∃ b, rc S 12 v0 = some b := by
  unfold Mo_isWord at hf
  obtain ⟨b, hb, _⟩ := jbind hf
  exact ⟨b, hb⟩
def tb_Mo_closes : List (Nat × Instr × Nat) := [(0, .aload_n 0, 1), (1, .aload_n 0, 1), (2, .getfield 189, 3), (5, .aload_n 0, 1), (6, .getfield 175, 3), (9, .if_icmp .ge 21, 3), (12, .aload_n 0, 1), (13, .getfield 9, 3), (16, .aload_n 0, 1), (17, .getfield 189, 3), (20, .baload, 1), (21, .bipush 59, 2), (23, .if_icmp .ne 7, 3), (26, .iconst 1, 1), (27, .goto 4, 3), (30, .iconst 0, 1), (31, .invokevirtual 210, 3), (34, .ireturn, 1)]
theorem dt_Mo_closes (i : Nat) (q : Nat × Instr × Nat) (h : tb_Mo_closes[i]? = some q) : decode prog_14_method_10_code q.1 = .ok q.2 := jdt (by decide +kernel : tb_Mo_closes.all (fun q => decide (decode prog_14_method_10_code q.1 = .ok q.2)) = true) h
theorem ok_Mo_closes : jOKV M_Mo_closes 0 := ⟨⟨gt7 45 rfl rfl, gt1 17 rfl rfl, (by decide : "FirstInModel" ≠ "java/lang/invoke/MethodHandle"), (by decide : "FirstInModel" ≠ "java/lang/invoke/VarHandle"), (by decide +kernel : (parseMethodDescriptor "()Z").map (fun d => d.parameters.length) = some 0)⟩, gt7 44 rfl rfl, gs_in 16 rfl, rfl, nlt rfl⟩
set_option maxRecDepth 100000 in
set_option maxHeartbeats 4000000 in
theorem c_Mo_closes {G : jG} {S : hS} {V : hV} {v0 : Option Nat} {res : Int32 × hV} (hf : Mo_closes S v0 V = some res) : jC G M_Mo_closes [ar v0] (S, V) (some (ai res.1)) (S, res.2) := by
  unfold Mo_closes at hf
  obtain ⟨_, _, hf⟩ := jbind hf
  refine jC_of (pf_X12 _ _) rfl (nle rfl) ?_
  show jJ G M_Mo_closes (jEnd G M_Mo_closes (some (ai res.1)) (S, res.2)) 0 0 0 [(0, ar v0)] [] (S, V)
  refine j_aload_n (dt_Mo_closes 0 (0, .aload_n 0, 1) rfl) rfl ?_
  refine j_aload_n (dt_Mo_closes 1 (1, .aload_n 0, 1) rfl) rfl ?_
  obtain ⟨x1, hx1, hf⟩ := jbind hf
  refine j_getI (dt_Mo_closes 2 (2, .getfield 189, 3) rfl) fl_X12_189 hx1 (fun _ _ => rfl) ?_
  refine j_aload_n (dt_Mo_closes 3 (5, .aload_n 0, 1) rfl) rfl ?_
  obtain ⟨x2, hx2, hf⟩ := jbind hf
  refine j_getI (dt_Mo_closes 4 (6, .getfield 175, 3) rfl) fl_X12_175 hx2 (fun _ _ => rfl) ?_
  obtain ⟨j9, hj9, hf⟩ := jbind hf
  have hP9 : jJ G M_Mo_closes (jEnd G M_Mo_closes (some (ai res.1)) (S, res.2)) 0 0 31 [] [ai j9, ar v0] (S, V) := by
    obtain ⟨w3, hw3, hf⟩ := jbind hf
    obtain ⟨b4, hb4⟩ := r_Mo_passes hw3
    refine j_callV M_Mo_passes 1 [ai j9] (rest := []) (dt_Mo_closes 16 (31, .invokevirtual 210, 3) rfl) ml_X12_210 ok_Mo_passes (jfit rfl rfl ⟨rfl, rfl⟩ (nle rfl) (nlt rfl)) rfl rfl (nle rfl) ⟨rfl, rfl⟩ hb4 ((c_Mo_passes hw3)) ?_
    cases hf
    exact j_zretN (dt_Mo_closes 17 (34, .ireturn, 1) rfl) rfl
  refine jite hj9 (fun hc hj9 => ?_) (fun hc hj9 => ?_)
  · refine j_icmp_ge (dt_Mo_closes 5 (9, .if_icmp .ge 21, 3) rfl) rfl (fun _ => ?_) (fun q => absurd hc q)
    refine j_iconst (dt_Mo_closes 15 (30, .iconst 0, 1) rfl) ic_0 ?_
    cases hj9
    exact j_sub rfl hP9
  · refine j_icmp_ge (dt_Mo_closes 5 (9, .if_icmp .ge 21, 3) rfl) rfl (fun q => absurd q hc) (fun _ => ?_)
    refine j_aload_n (dt_Mo_closes 6 (12, .aload_n 0, 1) rfl) rfl ?_
    obtain ⟨x5, hx5, hj9⟩ := jbind hj9
    refine j_getR (dt_Mo_closes 7 (13, .getfield 9, 3) rfl) fl_X12_9 hx5 (fun _ _ => rfl) ?_
    refine j_aload_n (dt_Mo_closes 8 (16, .aload_n 0, 1) rfl) rfl ?_
    obtain ⟨x6, hx6, hj9⟩ := jbind hj9
    refine j_getI (dt_Mo_closes 9 (17, .getfield 189, 3) rfl) fl_X12_189 hx6 (fun _ _ => rfl) ?_
    obtain ⟨x7, hx7, hj9⟩ := jbind hj9
    refine j_aldB (dt_Mo_closes 10 (20, .baload, 1) rfl) hx7 ?_
    refine j_bipush (dt_Mo_closes 11 (21, .bipush 59, 2) rfl) bp_59 ?_
    refine jite hj9 (fun hc hj9 => ?_) (fun hc hj9 => ?_)
    · refine j_icmp_ne (dt_Mo_closes 12 (23, .if_icmp .ne 7, 3) rfl) rfl (fun q => absurd hc q) (fun _ => ?_)
      refine j_iconst (dt_Mo_closes 13 (26, .iconst 1, 1) rfl) ic_1 ?_
      refine j_goto (dt_Mo_closes 14 (27, .goto 4, 3) rfl) rfl ?_
      cases hj9
      exact j_sub rfl hP9
    · refine j_icmp_ne (dt_Mo_closes 12 (23, .if_icmp .ne 7, 3) rfl) rfl (fun _ => ?_) (fun q => absurd q hc)
      refine j_iconst (dt_Mo_closes 15 (30, .iconst 0, 1) rfl) ic_0 ?_
      cases hj9
      exact j_sub rfl hP9
theorem r_Mo_closes {S : hS} {V : hV} {v0 : Option Nat} {res : Int32 × hV} (hf : Mo_closes S v0 V = some res) : ∃ b, rc S 12 v0 = some b := by
  unfold Mo_closes at hf
  obtain ⟨b, hb, _⟩ := jbind hf
  exact ⟨b, hb⟩
def tb_Mo_number : List (Nat × Instr × Nat) := [(0, .aload_n 0, 1), (1, .aload_n 0, 1), (2, .getfield 189, 3), (5, .bipush 48, 2), (7, .bipush 57, 2), (9, .invokevirtual 192, 3), (12, .istore_n 3, 1), (13, .iconst 0, 1), (14, .istore 4, 2), (16, .aload_n 0, 1), (17, .getfield 189, 3), (20, .istore 5, 2), (22, .iload_n 3, 1), (23, .ifCond .eq 49, 3), (26, .iload 5, 2), (28, .aload_n 0, 1), (29, .getfield 186, 3), (32, .if_icmp .ge 40, 3), (35, .iload 4, 2), (37, .bipush 99, 2), (39, .if_icmp .le 9, 3), (42, .sipush 999, 3), (45, .goto 19, 3), (48, .bipush 10, 2), (50, .iload 4, 2), (52, .imul, 1), (53, .aload_n 0, 1), (54, .getfield 9, 3), (57, .iload 5, 2), (59, .baload, 1), (60, .iadd, 1), (61, .bipush 48, 2), (63, .isub, 1), (64, .istore 4, 2), (66, .iinc 5 1, 3), (69, .goto (-47), 3), (72, .aload_n 0, 1), (73, .iload 4, 2), (75, .putfield 214, 3), (78, .aload_n 0, 1), (79, .iload_n 3, 1), (80, .ifCond .eq 20, 3), (83, .iload 4, 2), (85, .i2l, 1), (86, .iload_n 1, 1), (87, .i2l, 1), (88, .iload_n 2, 1), (89, .i2l, 1), (90, .invokestatic 183, 3), (93, .ifCond .eq 7, 3), (96, .iconst 1, 1), (97, .goto 4, 3), (100, .iconst 0, 1), (101, .invokevirtual 210, 3), (104, .ireturn, 1)]
theorem dt_Mo_number (i : Nat) (q : Nat × Instr × Nat) (h : tb_Mo_number[i]? = some q) : decode prog_14_method_11_code q.1 = .ok q.2 := jdt (by decide +kernel : tb_Mo_number.all (fun q => decide (decode prog_14_method_11_code q.1 = .ok q.2)) = true) h
theorem ok_Mo_number : jOKV M_Mo_number 2 := ⟨⟨gt7 61 rfl rfl, gt1 17 rfl rfl, (by decide : "FirstInModel" ≠ "java/lang/invoke/MethodHandle"), (by decide : "FirstInModel" ≠ "java/lang/invoke/VarHandle"), (by decide +kernel : (parseMethodDescriptor "(II)Z").map (fun d => d.parameters.length) = some 2)⟩, gt7 60 rfl rfl, gs_in 20 rfl, rfl, nlt rfl⟩
set_option maxRecDepth 100000 in
set_option maxHeartbeats 4000000 in
theorem c_Mo_number {G : jG} {S : hS} {V : hV} {v0 : Option Nat} {v1 : Int32} {v2 : Int32} {res : Int32 × hV} (hf : Mo_number S v0 v1 v2 V = some res) : jC G M_Mo_number [ar v0, ai v1, ai v2] (S, V) (some (ai res.1)) (S, res.2) := by
  unfold Mo_number at hf
  obtain ⟨_, _, hf⟩ := jbind hf
  refine jC_of (pf_X12 _ _) rfl (nle rfl) ?_
  show jJ G M_Mo_number (jEnd G M_Mo_number (some (ai res.1)) (S, res.2)) 0 0 0 [(0, ar v0), (1, ai v1), (2, ai v2)] [] (S, V)
  refine j_aload_n (dt_Mo_number 0 (0, .aload_n 0, 1) rfl) rfl ?_
  refine j_aload_n (dt_Mo_number 1 (1, .aload_n 0, 1) rfl) rfl ?_
  obtain ⟨x1, hx1, hf⟩ := jbind hf
  refine j_getI (dt_Mo_number 2 (2, .getfield 189, 3) rfl) fl_X12_189 hx1 (fun _ _ => rfl) ?_
  refine j_bipush (dt_Mo_number 3 (5, .bipush 48, 2) rfl) bp_48 ?_
  refine j_bipush (dt_Mo_number 4 (7, .bipush 57, 2) rfl) bp_57 ?_
  obtain ⟨x2, hx2, hf⟩ := jbind hf
  obtain ⟨b3, hb3⟩ := r_Mo_between hx2
  refine j_callV M_Mo_between 3 [ai x1, ai 48, ai 57] (rest := []) (dt_Mo_number 5 (9, .invokevirtual 192, 3) rfl) ml_X12_192 ok_Mo_between (jfit rfl rfl ⟨rfl, rfl⟩ (nle rfl) (nlt rfl)) rfl rfl (nle rfl) ⟨rfl, rfl⟩ hb3 ((c_Mo_between hx2)) ?_
  refine j_istore_n (dt_Mo_number 6 (12, .istore_n 3, 1) rfl) (nlt rfl) ?_
  refine j_iconst (dt_Mo_number 7 (13, .iconst 0, 1) rfl) ic_0 ?_
  refine j_istore (dt_Mo_number 8 (14, .istore 4, 2) rfl) (nlt rfl) ?_
  refine j_aload_n (dt_Mo_number 9 (16, .aload_n 0, 1) rfl) rfl ?_
  obtain ⟨x4, hx4, hf⟩ := jbind hf
  refine j_getI (dt_Mo_number 10 (17, .getfield 189, 3) rfl) fl_X12_189 hx4 (fun _ _ => rfl) ?_
  refine j_istore (dt_Mo_number 11 (20, .istore 5, 2) rfl) (nlt rfl) ?_
  obtain ⟨t22, ht22, hf⟩ := jbind hf
  have hX22 : ∀ q22 : Int32, q22 = t22 → jJ G M_Mo_number (jEnd G M_Mo_number (some (ai res.1)) (S, res.2)) 0 0 72 [(0, ar v0), (1, ai v1), (2, ai v2), (3, ai x2), (4, ai q22)] [] (S, V) := by
    intro q22 hq22
    subst hq22
    refine j_aload_n (dt_Mo_number 36 (72, .aload_n 0, 1) rfl) rfl ?_
    refine j_iload (dt_Mo_number 37 (73, .iload 4, 2) rfl) rfl ?_
    obtain ⟨V8, hV8, hf⟩ := jbind hf
    refine j_putI (dt_Mo_number 38 (75, .putfield 214, 3) rfl) fl_X12_214 hV8 rfl (Or.inl rfl) ?_
    refine j_aload_n (dt_Mo_number 39 (78, .aload_n 0, 1) rfl) rfl ?_
    refine j_iload_n (dt_Mo_number 40 (79, .iload_n 3, 1) rfl) rfl ?_
    obtain ⟨j80, hj80, hf⟩ := jbind hf
    have hP80 : jJ G M_Mo_number (jEnd G M_Mo_number (some (ai res.1)) (S, res.2)) 0 0 101 [] [ai j80, ar v0] (S, V8) := by
      obtain ⟨w9, hw9, hf⟩ := jbind hf
      obtain ⟨b10, hb10⟩ := r_Mo_passes hw9
      refine j_callV M_Mo_passes 1 [ai j80] (rest := []) (dt_Mo_number 53 (101, .invokevirtual 210, 3) rfl) ml_X12_210 ok_Mo_passes (jfit rfl rfl ⟨rfl, rfl⟩ (nle rfl) (nlt rfl)) rfl rfl (nle rfl) ⟨rfl, rfl⟩ hb10 ((c_Mo_passes hw9)) ?_
      cases hf
      exact j_zretN (dt_Mo_number 54 (104, .ireturn, 1) rfl) rfl
    refine jite hj80 (fun hc hj80 => ?_) (fun hc hj80 => ?_)
    · refine j_if_eq (dt_Mo_number 41 (80, .ifCond .eq 20, 3) rfl) rfl (fun _ => ?_) (fun q => absurd hc q)
      refine j_iconst (dt_Mo_number 52 (100, .iconst 0, 1) rfl) ic_0 ?_
      cases hj80
      exact j_sub rfl hP80
    · refine j_if_eq (dt_Mo_number 41 (80, .ifCond .eq 20, 3) rfl) rfl (fun q => absurd q hc) (fun _ => ?_)
      refine j_iload (dt_Mo_number 42 (83, .iload 4, 2) rfl) rfl ?_
      refine j_i2l (dt_Mo_number 43 (85, .i2l, 1) rfl) ?_
      refine j_iload_n (dt_Mo_number 44 (86, .iload_n 1, 1) rfl) rfl ?_
      refine j_i2l (dt_Mo_number 45 (87, .i2l, 1) rfl) ?_
      refine j_iload_n (dt_Mo_number 46 (88, .iload_n 2, 1) rfl) rfl ?_
      refine j_i2l (dt_Mo_number 47 (89, .i2l, 1) rfl) ?_
      refine j_callS M_Mo_in 3 [al ((q22 : Int32).toInt64), al ((v1 : Int32).toInt64), al ((v2 : Int32).toInt64)] (rest := [ar v0]) (dt_Mo_number 48 (90, .invokestatic 183, 3) rfl) ml_X12_183 ok_Mo_in (jfit rfl rfl ⟨rfl, rfl⟩ (nle rfl) (nlt rfl)) rfl rfl (nle rfl) ⟨rfl, rfl⟩ (c_Mo_in rfl) ?_
      refine jite hj80 (fun hc hj80 => ?_) (fun hc hj80 => ?_)
      · refine j_if_eq (dt_Mo_number 49 (93, .ifCond .eq 7, 3) rfl) rfl (fun _ => ?_) (fun q => absurd hc q)
        refine j_iconst (dt_Mo_number 52 (100, .iconst 0, 1) rfl) ic_0 ?_
        cases hj80
        exact j_sub rfl hP80
      · refine j_if_eq (dt_Mo_number 49 (93, .ifCond .eq 7, 3) rfl) rfl (fun q => absurd q hc) (fun _ => ?_)
        refine j_iconst (dt_Mo_number 50 (96, .iconst 1, 1) rfl) ic_1 ?_
        refine j_goto (dt_Mo_number 51 (97, .goto 4, 3) rfl) rfl ?_
        cases hj80
        exact j_sub rfl hP80
  refine j_sub (ls' := [(0, ar v0), (1, ai v1), (2, ai v2), (3, ai x2), (4, ai 0), (5, ai x4)]) rfl ?_
  refine jloop_J (C := fun s22 => jJ G M_Mo_number (jEnd G M_Mo_number (some (ai res.1)) (S, res.2)) 0 0 22 [(0, ar v0), (1, ai v1), (2, ai v2), (3, ai x2), (4, ai s22.1), (5, ai s22.2)] [] (S, V)) (fun s22 z22_ hy22 hin22 hout22 => ?_) _ _ ht22
  unfold Mo_number_L22 at hy22
  refine j_iload_n (dt_Mo_number 12 (22, .iload_n 3, 1) rfl) rfl ?_
  refine jite hy22 (fun hc hy22 => ?_) (fun hc hy22 => ?_)
  · refine j_if_eq (dt_Mo_number 13 (23, .ifCond .eq 49, 3) rfl) rfl (fun _ => ?_) (fun q => absurd hc q)
    cases hy22
    have hz := hX22 _ (hout22 _ rfl)
    exact j_sub rfl hz
  · refine j_if_eq (dt_Mo_number 13 (23, .ifCond .eq 49, 3) rfl) rfl (fun q => absurd q hc) (fun _ => ?_)
    refine j_iload (dt_Mo_number 14 (26, .iload 5, 2) rfl) rfl ?_
    refine j_aload_n (dt_Mo_number 15 (28, .aload_n 0, 1) rfl) rfl ?_
    obtain ⟨x5, hx5, hy22⟩ := jbind hy22
    refine j_getI (dt_Mo_number 16 (29, .getfield 186, 3) rfl) fl_X12_186 hx5 (fun _ _ => rfl) ?_
    refine jite hy22 (fun hc hy22 => ?_) (fun hc hy22 => ?_)
    · refine j_icmp_ge (dt_Mo_number 17 (32, .if_icmp .ge 40, 3) rfl) rfl (fun _ => ?_) (fun q => absurd hc q)
      cases hy22
      have hz := hX22 _ (hout22 _ rfl)
      exact j_sub rfl hz
    · refine j_icmp_ge (dt_Mo_number 17 (32, .if_icmp .ge 40, 3) rfl) rfl (fun q => absurd q hc) (fun _ => ?_)
      refine j_iload (dt_Mo_number 18 (35, .iload 4, 2) rfl) rfl ?_
      refine j_bipush (dt_Mo_number 19 (37, .bipush 99, 2) rfl) bp_99 ?_
      refine jite hy22 (fun hc hy22 => ?_) (fun hc hy22 => ?_)
      · refine j_icmp_le (dt_Mo_number 20 (39, .if_icmp .le 9, 3) rfl) rfl (fun _ => ?_) (fun q => absurd hc q)
        refine j_bipush (dt_Mo_number 23 (48, .bipush 10, 2) rfl) bp_10 ?_
        refine j_iload (dt_Mo_number 24 (50, .iload 4, 2) rfl) rfl ?_
        refine j_imul (dt_Mo_number 25 (52, .imul, 1) rfl) ?_
        refine j_aload_n (dt_Mo_number 26 (53, .aload_n 0, 1) rfl) rfl ?_
        obtain ⟨x6, hx6, hy22⟩ := jbind hy22
        refine j_getR (dt_Mo_number 27 (54, .getfield 9, 3) rfl) fl_X12_9 hx6 (fun _ _ => rfl) ?_
        refine j_iload (dt_Mo_number 28 (57, .iload 5, 2) rfl) rfl ?_
        obtain ⟨x7, hx7, hy22⟩ := jbind hy22
        refine j_aldB (dt_Mo_number 29 (59, .baload, 1) rfl) hx7 ?_
        refine j_iadd (dt_Mo_number 30 (60, .iadd, 1) rfl) ?_
        refine j_bipush (dt_Mo_number 31 (61, .bipush 48, 2) rfl) bp_48 ?_
        refine j_isub (dt_Mo_number 32 (63, .isub, 1) rfl) ?_
        refine j_istore (dt_Mo_number 33 (64, .istore 4, 2) rfl) (nlt rfl) ?_
        refine j_iinc (dt_Mo_number 34 (66, .iinc 5 1, 3) rfl) rfl (nlt rfl) (ii_1 _) ?_
        refine j_goto (dt_Mo_number 35 (69, .goto (-47), 3) rfl) rfl ?_
        cases hy22
        have hz := hin22 _ rfl
        exact j_sub rfl hz
      · refine j_icmp_le (dt_Mo_number 20 (39, .if_icmp .le 9, 3) rfl) rfl (fun q => absurd q hc) (fun _ => ?_)
        refine j_sipush (dt_Mo_number 21 (42, .sipush 999, 3) rfl) sp_999 ?_
        refine j_goto (dt_Mo_number 22 (45, .goto 19, 3) rfl) rfl ?_
        refine j_istore (dt_Mo_number 33 (64, .istore 4, 2) rfl) (nlt rfl) ?_
        refine j_iinc (dt_Mo_number 34 (66, .iinc 5 1, 3) rfl) rfl (nlt rfl) (ii_1 _) ?_
        refine j_goto (dt_Mo_number 35 (69, .goto (-47), 3) rfl) rfl ?_
        cases hy22
        have hz := hin22 _ rfl
        exact j_sub rfl hz
theorem r_Mo_number {S : hS} {V : hV} {v0 : Option Nat} {v1 : Int32} {v2 : Int32} {res : Int32 × hV} (hf : Mo_number S v0 v1 v2 V = some res) : ∃ b, rc S 12 v0 = some b := by
  unfold Mo_number at hf
  obtain ⟨b, hb, _⟩ := jbind hf
  exact ⟨b, hb⟩
def tb_Mo_named : List (Nat × Instr × Nat) := [(0, .aload_n 0, 1), (1, .aload_n 0, 1), (2, .getfield 189, 3), (5, .bipush 97, 2), (7, .bipush 122, 2), (9, .invokevirtual 192, 3), (12, .ifCond .eq 17, 3), (15, .aload_n 0, 1), (16, .getfield 186, 3), (19, .aload_n 0, 1), (20, .getfield 189, 3), (23, .isub, 1), (24, .bipush 8, 2), (26, .if_icmp .le 7, 3), (29, .ldc2_w 217, 3), (32, .lreturn, 1), (33, .iconst 0, 1), (34, .istore_n 1, 1), (35, .iload_n 1, 1), (36, .aload_n 0, 1), (37, .getfield 73, 3), (40, .arraylength, 1), (41, .if_icmp .ge 21, 3), (44, .aload_n 0, 1), (45, .iload_n 1, 1), (46, .invokevirtual 219, 3), (49, .ifCond .eq 7, 3), (52, .ldc2_w 217, 3), (55, .lreturn, 1), (56, .iinc 1 1, 3), (59, .goto (-24), 3), (62, .lconst 0, 1), (63, .lstore_n 1, 1), (64, .aload_n 0, 1), (65, .getfield 189, 3), (68, .istore_n 3, 1), (69, .iload_n 3, 1), (70, .aload_n 0, 1), (71, .getfield 186, 3), (74, .if_icmp .ge 29, 3), (77, .ldc2_w 223, 3), (80, .lload_n 1, 1), (81, .lmul, 1), (82, .aload_n 0, 1), (83, .getfield 9, 3), (86, .iload_n 3, 1), (87, .baload, 1), (88, .i2l, 1), (89, .ladd, 1), (90, .ldc2_w 225, 3), (93, .lsub, 1), (94, .lconst 1, 1), (95, .ladd, 1), (96, .lstore_n 1, 1), (97, .iinc 3 1, 3), (100, .goto (-31), 3), (103, .lload_n 1, 1), (104, .lreturn, 1)]
theorem dt_Mo_named (i : Nat) (q : Nat × Instr × Nat) (h : tb_Mo_named[i]? = some q) : decode prog_14_method_12_code q.1 = .ok q.2 := jdt (by decide +kernel : tb_Mo_named.all (fun q => decide (decode prog_14_method_12_code q.1 = .ok q.2)) = true) h
theorem ok_Mo_named : jOKV M_Mo_named 0 := ⟨⟨gt7 26 rfl rfl, gt1 17 rfl rfl, (by decide : "FirstInModel" ≠ "java/lang/invoke/MethodHandle"), (by decide : "FirstInModel" ≠ "java/lang/invoke/VarHandle"), (by decide +kernel : (parseMethodDescriptor "()J").map (fun d => d.parameters.length) = some 0)⟩, gt7 25 rfl rfl, gs_in 12 rfl, rfl, nlt rfl⟩
set_option maxRecDepth 100000 in
set_option maxHeartbeats 4000000 in
theorem c_Mo_named {G : jG} {S : hS} {V : hV} {v0 : Option Nat} {res : Int64} (hf : Mo_named S v0 V = some res) : jC G M_Mo_named [ar v0] (S, V) (some (al res)) (S, V) := by
  unfold Mo_named at hf
  obtain ⟨_, _, hf⟩ := jbind hf
  refine jC_of (pf_X12 _ _) rfl (nle rfl) ?_
  show jJ G M_Mo_named (jEnd G M_Mo_named (some (al res)) (S, V)) 0 0 0 [(0, ar v0)] [] (S, V)
  refine j_aload_n (dt_Mo_named 0 (0, .aload_n 0, 1) rfl) rfl ?_
  refine j_aload_n (dt_Mo_named 1 (1, .aload_n 0, 1) rfl) rfl ?_
  obtain ⟨x1, hx1, hf⟩ := jbind hf
  refine j_getI (dt_Mo_named 2 (2, .getfield 189, 3) rfl) fl_X12_189 hx1 (fun _ _ => rfl) ?_
  refine j_bipush (dt_Mo_named 3 (5, .bipush 97, 2) rfl) bp_97 ?_
  refine j_bipush (dt_Mo_named 4 (7, .bipush 122, 2) rfl) bp_122 ?_
  obtain ⟨x2, hx2, hf⟩ := jbind hf
  obtain ⟨b3, hb3⟩ := r_Mo_between hx2
  refine j_callV M_Mo_between 3 [ai x1, ai 97, ai 122] (rest := []) (dt_Mo_named 5 (9, .invokevirtual 192, 3) rfl) ml_X12_192 ok_Mo_between (jfit rfl rfl ⟨rfl, rfl⟩ (nle rfl) (nlt rfl)) rfl rfl (nle rfl) ⟨rfl, rfl⟩ hb3 ((c_Mo_between hx2)) ?_
  refine jite hf (fun hc hf => ?_) (fun hc hf => ?_)
  · refine j_if_eq (dt_Mo_named 6 (12, .ifCond .eq 17, 3) rfl) rfl (fun _ => ?_) (fun q => absurd hc q)
    refine j_ldc2 (-1) (dt_Mo_named 14 (29, .ldc2_w 217, 3) rfl) (gt7 27 rfl rfl) ?_
    cases hf
    exact j_lret (dt_Mo_named 15 (32, .lreturn, 1) rfl) rfl
  · refine j_if_eq (dt_Mo_named 6 (12, .ifCond .eq 17, 3) rfl) rfl (fun q => absurd q hc) (fun _ => ?_)
    refine j_aload_n (dt_Mo_named 7 (15, .aload_n 0, 1) rfl) rfl ?_
    obtain ⟨x4, hx4, hf⟩ := jbind hf
    refine j_getI (dt_Mo_named 8 (16, .getfield 186, 3) rfl) fl_X12_186 hx4 (fun _ _ => rfl) ?_
    refine j_aload_n (dt_Mo_named 9 (19, .aload_n 0, 1) rfl) rfl ?_
    obtain ⟨x5, hx5, hf⟩ := jbind hf
    refine j_getI (dt_Mo_named 10 (20, .getfield 189, 3) rfl) fl_X12_189 hx5 (fun _ _ => rfl) ?_
    refine j_isub (dt_Mo_named 11 (23, .isub, 1) rfl) ?_
    refine j_bipush (dt_Mo_named 12 (24, .bipush 8, 2) rfl) bp_8 ?_
    refine jite hf (fun hc hf => ?_) (fun hc hf => ?_)
    · refine j_icmp_le (dt_Mo_named 13 (26, .if_icmp .le 7, 3) rfl) rfl (fun _ => ?_) (fun q => absurd hc q)
      refine j_iconst (dt_Mo_named 16 (33, .iconst 0, 1) rfl) ic_0 ?_
      refine j_istore_n (dt_Mo_named 17 (34, .istore_n 1, 1) rfl) (nlt rfl) ?_
      obtain ⟨t35, ht35, hf⟩ := jbind hf
      have hX35 : ∀ q35 : Unit, t35 = .inl q35 → jJ G M_Mo_named (jEnd G M_Mo_named (some (al res)) (S, V)) 0 0 62 [(0, ar v0)] [] (S, V) := by
        intro q35 hq35
        subst hq35
        refine j_lconst (dt_Mo_named 31 (62, .lconst 0, 1) rfl) lc_0 ?_
        refine j_lstore_n (dt_Mo_named 32 (63, .lstore_n 1, 1) rfl) (nlt rfl) ?_
        refine j_aload_n (dt_Mo_named 33 (64, .aload_n 0, 1) rfl) rfl ?_
        obtain ⟨x10, hx10, hf⟩ := jbind hf
        refine j_getI (dt_Mo_named 34 (65, .getfield 189, 3) rfl) fl_X12_189 hx10 (fun _ _ => rfl) ?_
        refine j_istore_n (dt_Mo_named 35 (68, .istore_n 3, 1) rfl) (nlt rfl) ?_
        obtain ⟨t69, ht69, hf⟩ := jbind hf
        have hX69 : ∀ q69 : Int64, q69 = t69 → jJ G M_Mo_named (jEnd G M_Mo_named (some (al res)) (S, V)) 0 0 103 [(1, al q69)] [] (S, V) := by
          intro q69 hq69
          subst hq69
          refine j_lload_n (dt_Mo_named 56 (103, .lload_n 1, 1) rfl) rfl ?_
          cases hf
          exact j_lret (dt_Mo_named 57 (104, .lreturn, 1) rfl) rfl
        refine j_sub (ls' := [(0, ar v0), (1, al 0), (3, ai x10)]) rfl ?_
        refine jloop_J (C := fun s69 => jJ G M_Mo_named (jEnd G M_Mo_named (some (al res)) (S, V)) 0 0 69 [(0, ar v0), (1, al s69.1), (3, ai s69.2)] [] (S, V)) (fun s69 z69_ hy69 hin69 hout69 => ?_) _ _ ht69
        unfold Mo_named_L69 at hy69
        refine j_iload_n (dt_Mo_named 36 (69, .iload_n 3, 1) rfl) rfl ?_
        refine j_aload_n (dt_Mo_named 37 (70, .aload_n 0, 1) rfl) rfl ?_
        obtain ⟨x11, hx11, hy69⟩ := jbind hy69
        refine j_getI (dt_Mo_named 38 (71, .getfield 186, 3) rfl) fl_X12_186 hx11 (fun _ _ => rfl) ?_
        refine jite hy69 (fun hc hy69 => ?_) (fun hc hy69 => ?_)
        · refine j_icmp_ge (dt_Mo_named 39 (74, .if_icmp .ge 29, 3) rfl) rfl (fun _ => ?_) (fun q => absurd hc q)
          cases hy69
          have hz := hX69 _ (hout69 _ rfl)
          exact j_sub rfl hz
        · refine j_icmp_ge (dt_Mo_named 39 (74, .if_icmp .ge 29, 3) rfl) rfl (fun q => absurd q hc) (fun _ => ?_)
          refine j_ldc2 32 (dt_Mo_named 40 (77, .ldc2_w 223, 3) rfl) (gt7 28 rfl rfl) ?_
          refine j_lload_n (dt_Mo_named 41 (80, .lload_n 1, 1) rfl) rfl ?_
          refine j_lmul (dt_Mo_named 42 (81, .lmul, 1) rfl) ?_
          refine j_aload_n (dt_Mo_named 43 (82, .aload_n 0, 1) rfl) rfl ?_
          obtain ⟨x12, hx12, hy69⟩ := jbind hy69
          refine j_getR (dt_Mo_named 44 (83, .getfield 9, 3) rfl) fl_X12_9 hx12 (fun _ _ => rfl) ?_
          refine j_iload_n (dt_Mo_named 45 (86, .iload_n 3, 1) rfl) rfl ?_
          obtain ⟨x13, hx13, hy69⟩ := jbind hy69
          refine j_aldB (dt_Mo_named 46 (87, .baload, 1) rfl) hx13 ?_
          refine j_i2l (dt_Mo_named 47 (88, .i2l, 1) rfl) ?_
          refine j_ladd (dt_Mo_named 48 (89, .ladd, 1) rfl) ?_
          refine j_ldc2 97 (dt_Mo_named 49 (90, .ldc2_w 225, 3) rfl) (gt7 29 rfl rfl) ?_
          refine j_lsub (dt_Mo_named 50 (93, .lsub, 1) rfl) ?_
          refine j_lconst (dt_Mo_named 51 (94, .lconst 1, 1) rfl) lc_1 ?_
          refine j_ladd (dt_Mo_named 52 (95, .ladd, 1) rfl) ?_
          refine j_lstore_n (dt_Mo_named 53 (96, .lstore_n 1, 1) rfl) (nlt rfl) ?_
          refine j_iinc (dt_Mo_named 54 (97, .iinc 3 1, 3) rfl) rfl (nlt rfl) (ii_1 _) ?_
          refine j_goto (dt_Mo_named 55 (100, .goto (-31), 3) rfl) rfl ?_
          cases hy69
          have hz := hin69 _ rfl
          exact j_sub rfl hz
      have hR35 : ∀ v : Int64, t35 = .inr v → v = res := by
        intro v hv
        subst hv
        cases hf
        rfl
      refine j_sub (ls' := [(0, ar v0), (1, ai 0)]) rfl ?_
      refine jloop_J (C := fun s35 => jJ G M_Mo_named (jEnd G M_Mo_named (some (al res)) (S, V)) 0 0 35 [(0, ar v0), (1, ai s35)] [] (S, V)) (fun s35 z35_ hy35 hin35 hout35 => ?_) _ _ ht35
      unfold Mo_named_L35 at hy35
      refine j_iload_n (dt_Mo_named 18 (35, .iload_n 1, 1) rfl) rfl ?_
      refine j_aload_n (dt_Mo_named 19 (36, .aload_n 0, 1) rfl) rfl ?_
      obtain ⟨x6, hx6, hy35⟩ := jbind hy35
      refine j_getR (dt_Mo_named 20 (37, .getfield 73, 3) rfl) fl_X12_73 hx6 (fun _ _ => rfl) ?_
      obtain ⟨x7, hx7, hy35⟩ := jbind hy35
      refine j_alen (dt_Mo_named 21 (40, .arraylength, 1) rfl) hx7 ?_
      refine jite hy35 (fun hc hy35 => ?_) (fun hc hy35 => ?_)
      · refine j_icmp_ge (dt_Mo_named 22 (41, .if_icmp .ge 21, 3) rfl) rfl (fun _ => ?_) (fun q => absurd hc q)
        cases hy35
        have hz := hX35 _ (hout35 _ rfl).symm
        exact j_sub rfl hz
      · refine j_icmp_ge (dt_Mo_named 22 (41, .if_icmp .ge 21, 3) rfl) rfl (fun q => absurd q hc) (fun _ => ?_)
        refine j_aload_n (dt_Mo_named 23 (44, .aload_n 0, 1) rfl) rfl ?_
        refine j_iload_n (dt_Mo_named 24 (45, .iload_n 1, 1) rfl) rfl ?_
        obtain ⟨x8, hx8, hy35⟩ := jbind hy35
        obtain ⟨b9, hb9⟩ := r_Mo_isWord hx8
        refine j_callV M_Mo_isWord 1 [ai s35] (rest := []) (dt_Mo_named 25 (46, .invokevirtual 219, 3) rfl) ml_X12_219 ok_Mo_isWord (jfit rfl rfl ⟨rfl, rfl⟩ (nle rfl) (nlt rfl)) rfl rfl (nle rfl) ⟨rfl, rfl⟩ hb9 ((c_Mo_isWord hx8)) ?_
        refine jite hy35 (fun hc hy35 => ?_) (fun hc hy35 => ?_)
        · refine j_if_eq (dt_Mo_named 26 (49, .ifCond .eq 7, 3) rfl) rfl (fun _ => ?_) (fun q => absurd hc q)
          refine j_iinc (dt_Mo_named 29 (56, .iinc 1 1, 3) rfl) rfl (nlt rfl) (ii_1 _) ?_
          refine j_goto (dt_Mo_named 30 (59, .goto (-24), 3) rfl) rfl ?_
          cases hy35
          have hz := hin35 _ rfl
          exact j_sub rfl hz
        · refine j_if_eq (dt_Mo_named 26 (49, .ifCond .eq 7, 3) rfl) rfl (fun q => absurd q hc) (fun _ => ?_)
          refine j_ldc2 (-1) (dt_Mo_named 27 (52, .ldc2_w 217, 3) rfl) (gt7 27 rfl rfl) ?_
          cases hy35
          obtain rfl := hR35 _ (hout35 _ rfl).symm
          exact j_lret (dt_Mo_named 28 (55, .lreturn, 1) rfl) rfl
    · refine j_icmp_le (dt_Mo_named 13 (26, .if_icmp .le 7, 3) rfl) rfl (fun q => absurd q hc) (fun _ => ?_)
      refine j_ldc2 (-1) (dt_Mo_named 14 (29, .ldc2_w 217, 3) rfl) (gt7 27 rfl rfl) ?_
      cases hf
      exact j_lret (dt_Mo_named 15 (32, .lreturn, 1) rfl) rfl
theorem r_Mo_named {S : hS} {V : hV} {v0 : Option Nat} {res : Int64} (hf : Mo_named S v0 V = some res) : ∃ b, rc S 12 v0 = some b := by
  unfold Mo_named at hf
  obtain ⟨b, hb, _⟩ := jbind hf
  exact ⟨b, hb⟩
def tb_Mo_guestOf : List (Nat × Instr × Nat) := [(0, .iconst 0, 1), (1, .istore_n 3, 1), (2, .iload_n 3, 1), (3, .aload_n 0, 1), (4, .getfield 44, 3), (7, .iconst 1, 1), (8, .iaload, 1), (9, .if_icmp .ge 24, 3), (12, .aload_n 0, 1), (13, .getfield 15, 3), (16, .iconst 1, 1), (17, .aaload, 1), (18, .iload_n 3, 1), (19, .laload, 1), (20, .lload_n 1, 1), (21, .lcmp, 1), (22, .ifCond .ne 5, 3), (25, .iload_n 3, 1), (26, .ireturn, 1), (27, .iinc 3 1, 3), (30, .goto (-28), 3), (33, .iconst (-1), 1), (34, .ireturn, 1)]
theorem dt_Mo_guestOf (i : Nat) (q : Nat × Instr × Nat) (h : tb_Mo_guestOf[i]? = some q) : decode prog_14_method_13_code q.1 = .ok q.2 := jdt (by decide +kernel : tb_Mo_guestOf.all (fun q => decide (decode prog_14_method_13_code q.1 = .ok q.2)) = true) h
theorem ok_Mo_guestOf : jOKV M_Mo_guestOf 1 := ⟨⟨gt7 37 rfl rfl, gt1 17 rfl rfl, (by decide : "FirstInModel" ≠ "java/lang/invoke/MethodHandle"), (by decide : "FirstInModel" ≠ "java/lang/invoke/VarHandle"), (by decide +kernel : (parseMethodDescriptor "(J)I").map (fun d => d.parameters.length) = some 1)⟩, gt7 36 rfl rfl, gs_in 14 rfl, rfl, nlt rfl⟩
set_option maxRecDepth 100000 in
set_option maxHeartbeats 4000000 in
theorem c_Mo_guestOf {G : jG} {S : hS} {V : hV} {v0 : Option Nat} {v1 : Int64} {res : Int32} (hf : Mo_guestOf S v0 v1 V = some res) : jC G M_Mo_guestOf [ar v0, al v1] (S, V) (some (ai res)) (S, V) := by
  unfold Mo_guestOf at hf
  obtain ⟨_, _, hf⟩ := jbind hf
  refine jC_of (pf_X12 _ _) rfl (nle rfl) ?_
  show jJ G M_Mo_guestOf (jEnd G M_Mo_guestOf (some (ai res)) (S, V)) 0 0 0 [(0, ar v0), (1, al v1)] [] (S, V)
  refine j_iconst (dt_Mo_guestOf 0 (0, .iconst 0, 1) rfl) ic_0 ?_
  refine j_istore_n (dt_Mo_guestOf 1 (1, .istore_n 3, 1) rfl) (nlt rfl) ?_
  obtain ⟨t2, ht2, hf⟩ := jbind hf
  have hX2 : ∀ q2 : Unit, t2 = .inl q2 → jJ G M_Mo_guestOf (jEnd G M_Mo_guestOf (some (ai res)) (S, V)) 0 0 33 [] [] (S, V) := by
    intro q2 hq2
    subst hq2
    refine j_iconst (dt_Mo_guestOf 21 (33, .iconst (-1), 1) rfl) ic_m1 ?_
    cases hf
    exact j_iret (dt_Mo_guestOf 22 (34, .ireturn, 1) rfl) rfl
  have hR2 : ∀ v : Int32, t2 = .inr v → v = res := by
    intro v hv
    subst hv
    cases hf
    rfl
  refine j_sub (ls' := [(0, ar v0), (1, al v1), (3, ai 0)]) rfl ?_
  refine jloop_J (C := fun s2 => jJ G M_Mo_guestOf (jEnd G M_Mo_guestOf (some (ai res)) (S, V)) 0 0 2 [(0, ar v0), (1, al v1), (3, ai s2)] [] (S, V)) (fun s2 z2_ hy2 hin2 hout2 => ?_) _ _ ht2
  unfold Mo_guestOf_L2 at hy2
  refine j_iload_n (dt_Mo_guestOf 2 (2, .iload_n 3, 1) rfl) rfl ?_
  refine j_aload_n (dt_Mo_guestOf 3 (3, .aload_n 0, 1) rfl) rfl ?_
  obtain ⟨x1, hx1, hy2⟩ := jbind hy2
  refine j_getR (dt_Mo_guestOf 4 (4, .getfield 44, 3) rfl) fl_X12_44 hx1 (fun _ _ => rfl) ?_
  refine j_iconst (dt_Mo_guestOf 5 (7, .iconst 1, 1) rfl) ic_1 ?_
  obtain ⟨x2, hx2, hy2⟩ := jbind hy2
  refine j_aldI (dt_Mo_guestOf 6 (8, .iaload, 1) rfl) hx2 ?_
  refine jite hy2 (fun hc hy2 => ?_) (fun hc hy2 => ?_)
  · refine j_icmp_ge (dt_Mo_guestOf 7 (9, .if_icmp .ge 24, 3) rfl) rfl (fun _ => ?_) (fun q => absurd hc q)
    cases hy2
    have hz := hX2 _ (hout2 _ rfl).symm
    exact j_sub rfl hz
  · refine j_icmp_ge (dt_Mo_guestOf 7 (9, .if_icmp .ge 24, 3) rfl) rfl (fun q => absurd q hc) (fun _ => ?_)
    refine j_aload_n (dt_Mo_guestOf 8 (12, .aload_n 0, 1) rfl) rfl ?_
    obtain ⟨x3, hx3, hy2⟩ := jbind hy2
    refine j_getR (dt_Mo_guestOf 9 (13, .getfield 15, 3) rfl) fl_X12_15 hx3 (fun _ _ => rfl) ?_
    refine j_iconst (dt_Mo_guestOf 10 (16, .iconst 1, 1) rfl) ic_1 ?_
    obtain ⟨x4, hx4, hy2⟩ := jbind hy2
    refine j_aldR 108 (dt_Mo_guestOf 11 (17, .aaload, 1) rfl) (by decide) hx4 ?_
    refine j_iload_n (dt_Mo_guestOf 12 (18, .iload_n 3, 1) rfl) rfl ?_
    obtain ⟨x5, hx5, hy2⟩ := jbind hy2
    refine j_aldL (dt_Mo_guestOf 13 (19, .laload, 1) rfl) hx5 ?_
    refine j_lload_n (dt_Mo_guestOf 14 (20, .lload_n 1, 1) rfl) rfl ?_
    refine j_lcmp (dt_Mo_guestOf 15 (21, .lcmp, 1) rfl) ?_
    refine jite hy2 (fun hc hy2 => ?_) (fun hc hy2 => ?_)
    · refine j_if_ne (dt_Mo_guestOf 16 (22, .ifCond .ne 5, 3) rfl) rfl (fun q => absurd hc q) (fun _ => ?_)
      refine j_iload_n (dt_Mo_guestOf 17 (25, .iload_n 3, 1) rfl) rfl ?_
      cases hy2
      obtain rfl := hR2 _ (hout2 _ rfl).symm
      exact j_iret (dt_Mo_guestOf 18 (26, .ireturn, 1) rfl) rfl
    · refine j_if_ne (dt_Mo_guestOf 16 (22, .ifCond .ne 5, 3) rfl) rfl (fun _ => ?_) (fun q => absurd q hc)
      refine j_iinc (dt_Mo_guestOf 19 (27, .iinc 3 1, 3) rfl) rfl (nlt rfl) (ii_1 _) ?_
      refine j_goto (dt_Mo_guestOf 20 (30, .goto (-28), 3) rfl) rfl ?_
      cases hy2
      have hz := hin2 _ rfl
      exact j_sub rfl hz
theorem r_Mo_guestOf {S : hS} {V : hV} {v0 : Option Nat} {v1 : Int64} {res : Int32} (hf : Mo_guestOf S v0 v1 V = some res) : ∃ b, rc S 12 v0 = some b := by
  unfold Mo_guestOf at hf
  obtain ⟨b, hb, _⟩ := jbind hf
  exact ⟨b, hb⟩
def tb_Mo_markOf : List (Nat × Instr × Nat) := [(0, .iconst 0, 1), (1, .istore_n 3, 1), (2, .iload_n 3, 1), (3, .aload_n 0, 1), (4, .getfield 48, 3), (7, .iconst 1, 1), (8, .iaload, 1), (9, .if_icmp .ge 24, 3), (12, .aload_n 0, 1), (13, .getfield 18, 3), (16, .iconst 1, 1), (17, .aaload, 1), (18, .iload_n 3, 1), (19, .laload, 1), (20, .lload_n 1, 1), (21, .lcmp, 1), (22, .ifCond .ne 5, 3), (25, .iload_n 3, 1), (26, .ireturn, 1), (27, .iinc 3 1, 3), (30, .goto (-28), 3), (33, .iconst (-1), 1), (34, .ireturn, 1)]
theorem dt_Mo_markOf (i : Nat) (q : Nat × Instr × Nat) (h : tb_Mo_markOf[i]? = some q) : decode prog_14_method_14_code q.1 = .ok q.2 := jdt (by decide +kernel : tb_Mo_markOf.all (fun q => decide (decode prog_14_method_14_code q.1 = .ok q.2)) = true) h
theorem ok_Mo_markOf : jOKV M_Mo_markOf 1 := ⟨⟨gt7 41 rfl rfl, gt1 17 rfl rfl, (by decide : "FirstInModel" ≠ "java/lang/invoke/MethodHandle"), (by decide : "FirstInModel" ≠ "java/lang/invoke/VarHandle"), (by decide +kernel : (parseMethodDescriptor "(J)I").map (fun d => d.parameters.length) = some 1)⟩, gt7 40 rfl rfl, gs_in 15 rfl, rfl, nlt rfl⟩
set_option maxRecDepth 100000 in
set_option maxHeartbeats 4000000 in
theorem c_Mo_markOf {G : jG} {S : hS} {V : hV} {v0 : Option Nat} {v1 : Int64} {res : Int32} (hf : Mo_markOf S v0 v1 V = some res) : jC G M_Mo_markOf [ar v0, al v1] (S, V) (some (ai res)) (S, V) := by
  unfold Mo_markOf at hf
  obtain ⟨_, _, hf⟩ := jbind hf
  refine jC_of (pf_X12 _ _) rfl (nle rfl) ?_
  show jJ G M_Mo_markOf (jEnd G M_Mo_markOf (some (ai res)) (S, V)) 0 0 0 [(0, ar v0), (1, al v1)] [] (S, V)
  refine j_iconst (dt_Mo_markOf 0 (0, .iconst 0, 1) rfl) ic_0 ?_
  refine j_istore_n (dt_Mo_markOf 1 (1, .istore_n 3, 1) rfl) (nlt rfl) ?_
  obtain ⟨t2, ht2, hf⟩ := jbind hf
  have hX2 : ∀ q2 : Unit, t2 = .inl q2 → jJ G M_Mo_markOf (jEnd G M_Mo_markOf (some (ai res)) (S, V)) 0 0 33 [] [] (S, V) := by
    intro q2 hq2
    subst hq2
    refine j_iconst (dt_Mo_markOf 21 (33, .iconst (-1), 1) rfl) ic_m1 ?_
    cases hf
    exact j_iret (dt_Mo_markOf 22 (34, .ireturn, 1) rfl) rfl
  have hR2 : ∀ v : Int32, t2 = .inr v → v = res := by
    intro v hv
    subst hv
    cases hf
    rfl
  refine j_sub (ls' := [(0, ar v0), (1, al v1), (3, ai 0)]) rfl ?_
  refine jloop_J (C := fun s2 => jJ G M_Mo_markOf (jEnd G M_Mo_markOf (some (ai res)) (S, V)) 0 0 2 [(0, ar v0), (1, al v1), (3, ai s2)] [] (S, V)) (fun s2 z2_ hy2 hin2 hout2 => ?_) _ _ ht2
  unfold Mo_markOf_L2 at hy2
  refine j_iload_n (dt_Mo_markOf 2 (2, .iload_n 3, 1) rfl) rfl ?_
  refine j_aload_n (dt_Mo_markOf 3 (3, .aload_n 0, 1) rfl) rfl ?_
  obtain ⟨x1, hx1, hy2⟩ := jbind hy2
  refine j_getR (dt_Mo_markOf 4 (4, .getfield 48, 3) rfl) fl_X12_48 hx1 (fun _ _ => rfl) ?_
  refine j_iconst (dt_Mo_markOf 5 (7, .iconst 1, 1) rfl) ic_1 ?_
  obtain ⟨x2, hx2, hy2⟩ := jbind hy2
  refine j_aldI (dt_Mo_markOf 6 (8, .iaload, 1) rfl) hx2 ?_
  refine jite hy2 (fun hc hy2 => ?_) (fun hc hy2 => ?_)
  · refine j_icmp_ge (dt_Mo_markOf 7 (9, .if_icmp .ge 24, 3) rfl) rfl (fun _ => ?_) (fun q => absurd hc q)
    cases hy2
    have hz := hX2 _ (hout2 _ rfl).symm
    exact j_sub rfl hz
  · refine j_icmp_ge (dt_Mo_markOf 7 (9, .if_icmp .ge 24, 3) rfl) rfl (fun q => absurd q hc) (fun _ => ?_)
    refine j_aload_n (dt_Mo_markOf 8 (12, .aload_n 0, 1) rfl) rfl ?_
    obtain ⟨x3, hx3, hy2⟩ := jbind hy2
    refine j_getR (dt_Mo_markOf 9 (13, .getfield 18, 3) rfl) fl_X12_18 hx3 (fun _ _ => rfl) ?_
    refine j_iconst (dt_Mo_markOf 10 (16, .iconst 1, 1) rfl) ic_1 ?_
    obtain ⟨x4, hx4, hy2⟩ := jbind hy2
    refine j_aldR 108 (dt_Mo_markOf 11 (17, .aaload, 1) rfl) (by decide) hx4 ?_
    refine j_iload_n (dt_Mo_markOf 12 (18, .iload_n 3, 1) rfl) rfl ?_
    obtain ⟨x5, hx5, hy2⟩ := jbind hy2
    refine j_aldL (dt_Mo_markOf 13 (19, .laload, 1) rfl) hx5 ?_
    refine j_lload_n (dt_Mo_markOf 14 (20, .lload_n 1, 1) rfl) rfl ?_
    refine j_lcmp (dt_Mo_markOf 15 (21, .lcmp, 1) rfl) ?_
    refine jite hy2 (fun hc hy2 => ?_) (fun hc hy2 => ?_)
    · refine j_if_ne (dt_Mo_markOf 16 (22, .ifCond .ne 5, 3) rfl) rfl (fun q => absurd hc q) (fun _ => ?_)
      refine j_iload_n (dt_Mo_markOf 17 (25, .iload_n 3, 1) rfl) rfl ?_
      cases hy2
      obtain rfl := hR2 _ (hout2 _ rfl).symm
      exact j_iret (dt_Mo_markOf 18 (26, .ireturn, 1) rfl) rfl
    · refine j_if_ne (dt_Mo_markOf 16 (22, .ifCond .ne 5, 3) rfl) rfl (fun _ => ?_) (fun q => absurd q hc)
      refine j_iinc (dt_Mo_markOf 19 (27, .iinc 3 1, 3) rfl) rfl (nlt rfl) (ii_1 _) ?_
      refine j_goto (dt_Mo_markOf 20 (30, .goto (-28), 3) rfl) rfl ?_
      cases hy2
      have hz := hin2 _ rfl
      exact j_sub rfl hz
theorem r_Mo_markOf {S : hS} {V : hV} {v0 : Option Nat} {v1 : Int64} {res : Int32} (hf : Mo_markOf S v0 v1 V = some res) : ∃ b, rc S 12 v0 = some b := by
  unfold Mo_markOf at hf
  obtain ⟨b, hb, _⟩ := jbind hf
  exact ⟨b, hb⟩
def tb_Mo_isNew : List (Nat × Instr × Nat) := [(0, .lload_n 1, 1), (1, .ldc2_w 217, 3), (4, .lcmp, 1), (5, .ifCond .eq 25, 3), (8, .aload_n 0, 1), (9, .lload_n 1, 1), (10, .invokevirtual 227, 3), (13, .iconst (-1), 1), (14, .if_icmp .ne 16, 3), (17, .aload_n 0, 1), (18, .lload_n 1, 1), (19, .invokevirtual 231, 3), (22, .iconst (-1), 1), (23, .if_icmp .ne 7, 3), (26, .iconst 1, 1), (27, .goto 4, 3), (30, .iconst 0, 1), (31, .ireturn, 1)]
theorem dt_Mo_isNew (i : Nat) (q : Nat × Instr × Nat) (h : tb_Mo_isNew[i]? = some q) : decode prog_14_method_15_code q.1 = .ok q.2 := jdt (by decide +kernel : tb_Mo_isNew.all (fun q => decide (decode prog_14_method_15_code q.1 = .ok q.2)) = true) h
theorem ok_Mo_isNew : jOKV M_Mo_isNew 1 := ⟨⟨gt7 33 rfl rfl, gt1 17 rfl rfl, (by decide : "FirstInModel" ≠ "java/lang/invoke/MethodHandle"), (by decide : "FirstInModel" ≠ "java/lang/invoke/VarHandle"), (by decide +kernel : (parseMethodDescriptor "(J)Z").map (fun d => d.parameters.length) = some 1)⟩, gt7 32 rfl rfl, gs_in 13 rfl, rfl, nlt rfl⟩
set_option maxRecDepth 100000 in
set_option maxHeartbeats 4000000 in
theorem c_Mo_isNew {G : jG} {S : hS} {V : hV} {v0 : Option Nat} {v1 : Int64} {res : Int32} (hf : Mo_isNew S v0 v1 V = some res) : jC G M_Mo_isNew [ar v0, al v1] (S, V) (some (ai res)) (S, V) := by
  unfold Mo_isNew at hf
  obtain ⟨_, _, hf⟩ := jbind hf
  refine jC_of (pf_X12 _ _) rfl (nle rfl) ?_
  show jJ G M_Mo_isNew (jEnd G M_Mo_isNew (some (ai res)) (S, V)) 0 0 0 [(0, ar v0), (1, al v1)] [] (S, V)
  refine j_lload_n (dt_Mo_isNew 0 (0, .lload_n 1, 1) rfl) rfl ?_
  refine j_ldc2 (-1) (dt_Mo_isNew 1 (1, .ldc2_w 217, 3) rfl) (gt7 27 rfl rfl) ?_
  refine j_lcmp (dt_Mo_isNew 2 (4, .lcmp, 1) rfl) ?_
  refine jite hf (fun hc hf => ?_) (fun hc hf => ?_)
  · refine j_if_eq (dt_Mo_isNew 3 (5, .ifCond .eq 25, 3) rfl) rfl (fun _ => ?_) (fun q => absurd hc q)
    refine j_iconst (dt_Mo_isNew 16 (30, .iconst 0, 1) rfl) ic_0 ?_
    cases hf
    exact j_zret (x := 0) (dt_Mo_isNew 17 (31, .ireturn, 1) rfl) rfl rfl
  · refine j_if_eq (dt_Mo_isNew 3 (5, .ifCond .eq 25, 3) rfl) rfl (fun q => absurd q hc) (fun _ => ?_)
    refine j_aload_n (dt_Mo_isNew 4 (8, .aload_n 0, 1) rfl) rfl ?_
    refine j_lload_n (dt_Mo_isNew 5 (9, .lload_n 1, 1) rfl) rfl ?_
    obtain ⟨x1, hx1, hf⟩ := jbind hf
    obtain ⟨b2, hb2⟩ := r_Mo_guestOf hx1
    refine j_callV M_Mo_guestOf 1 [al v1] (rest := []) (dt_Mo_isNew 6 (10, .invokevirtual 227, 3) rfl) ml_X12_227 ok_Mo_guestOf (jfit rfl rfl ⟨rfl, rfl⟩ (nle rfl) (nlt rfl)) rfl rfl (nle rfl) ⟨rfl, rfl⟩ hb2 ((c_Mo_guestOf hx1)) ?_
    refine j_iconst (dt_Mo_isNew 7 (13, .iconst (-1), 1) rfl) ic_m1 ?_
    refine jite hf (fun hc hf => ?_) (fun hc hf => ?_)
    · refine j_icmp_ne (dt_Mo_isNew 8 (14, .if_icmp .ne 16, 3) rfl) rfl (fun q => absurd hc q) (fun _ => ?_)
      refine j_aload_n (dt_Mo_isNew 9 (17, .aload_n 0, 1) rfl) rfl ?_
      refine j_lload_n (dt_Mo_isNew 10 (18, .lload_n 1, 1) rfl) rfl ?_
      obtain ⟨x3, hx3, hf⟩ := jbind hf
      obtain ⟨b4, hb4⟩ := r_Mo_markOf hx3
      refine j_callV M_Mo_markOf 1 [al v1] (rest := []) (dt_Mo_isNew 11 (19, .invokevirtual 231, 3) rfl) ml_X12_231 ok_Mo_markOf (jfit rfl rfl ⟨rfl, rfl⟩ (nle rfl) (nlt rfl)) rfl rfl (nle rfl) ⟨rfl, rfl⟩ hb4 ((c_Mo_markOf hx3)) ?_
      refine j_iconst (dt_Mo_isNew 12 (22, .iconst (-1), 1) rfl) ic_m1 ?_
      refine jite hf (fun hc hf => ?_) (fun hc hf => ?_)
      · refine j_icmp_ne (dt_Mo_isNew 13 (23, .if_icmp .ne 7, 3) rfl) rfl (fun q => absurd hc q) (fun _ => ?_)
        refine j_iconst (dt_Mo_isNew 14 (26, .iconst 1, 1) rfl) ic_1 ?_
        refine j_goto (dt_Mo_isNew 15 (27, .goto 4, 3) rfl) rfl ?_
        cases hf
        exact j_zret (x := 1) (dt_Mo_isNew 17 (31, .ireturn, 1) rfl) rfl rfl
      · refine j_icmp_ne (dt_Mo_isNew 13 (23, .if_icmp .ne 7, 3) rfl) rfl (fun _ => ?_) (fun q => absurd q hc)
        refine j_iconst (dt_Mo_isNew 16 (30, .iconst 0, 1) rfl) ic_0 ?_
        cases hf
        exact j_zret (x := 0) (dt_Mo_isNew 17 (31, .ireturn, 1) rfl) rfl rfl
    · refine j_icmp_ne (dt_Mo_isNew 8 (14, .if_icmp .ne 16, 3) rfl) rfl (fun _ => ?_) (fun q => absurd q hc)
      refine j_iconst (dt_Mo_isNew 16 (30, .iconst 0, 1) rfl) ic_0 ?_
      cases hf
      exact j_zret (x := 0) (dt_Mo_isNew 17 (31, .ireturn, 1) rfl) rfl rfl
theorem r_Mo_isNew {S : hS} {V : hV} {v0 : Option Nat} {v1 : Int64} {res : Int32} (hf : Mo_isNew S v0 v1 V = some res) : ∃ b, rc S 12 v0 = some b := by
  unfold Mo_isNew at hf
  obtain ⟨b, hb, _⟩ := jbind hf
  exact ⟨b, hb⟩
def tb_Mo_guestRead : List (Nat × Instr × Nat) := [(0, .aload_n 0, 1), (1, .invokevirtual 234, 3), (4, .lstore_n 1, 1), (5, .aload_n 0, 1), (6, .aload_n 0, 1), (7, .lload_n 1, 1), (8, .invokevirtual 238, 3), (11, .invokevirtual 210, 3), (14, .ifCond .ne 5, 3), (17, .iconst 0, 1), (18, .ireturn, 1), (19, .aload_n 0, 1), (20, .getfield 15, 3), (23, .iconst 1, 1), (24, .aaload, 1), (25, .aload_n 0, 1), (26, .getfield 44, 3), (29, .iconst 1, 1), (30, .iaload, 1), (31, .lload_n 1, 1), (32, .lastore, 1), (33, .aload_n 0, 1), (34, .getfield 44, 3), (37, .iconst 1, 1), (38, .dup2, 1), (39, .iaload, 1), (40, .iconst 1, 1), (41, .iadd, 1), (42, .iastore, 1), (43, .aload_n 0, 1), (44, .invokevirtual 242, 3), (47, .ireturn, 1)]
theorem dt_Mo_guestRead (i : Nat) (q : Nat × Instr × Nat) (h : tb_Mo_guestRead[i]? = some q) : decode prog_14_method_16_code q.1 = .ok q.2 := jdt (by decide +kernel : tb_Mo_guestRead.all (fun q => decide (decode prog_14_method_16_code q.1 = .ok q.2)) = true) h
theorem ok_Mo_guestRead : jOKV M_Mo_guestRead 0 := ⟨⟨gt7 22 rfl rfl, gt1 17 rfl rfl, (by decide : "FirstInModel" ≠ "java/lang/invoke/MethodHandle"), (by decide : "FirstInModel" ≠ "java/lang/invoke/VarHandle"), (by decide +kernel : (parseMethodDescriptor "()Z").map (fun d => d.parameters.length) = some 0)⟩, gt7 21 rfl rfl, gs_in 11 rfl, rfl, nlt rfl⟩
set_option maxRecDepth 100000 in
set_option maxHeartbeats 4000000 in
theorem c_Mo_guestRead {G : jG} {S : hS} {V : hV} {v0 : Option Nat} {res : Int32 × hV} (hf : Mo_guestRead S v0 V = some res) : jC G M_Mo_guestRead [ar v0] (S, V) (some (ai res.1)) (S, res.2) := by
  unfold Mo_guestRead at hf
  obtain ⟨_, _, hf⟩ := jbind hf
  refine jC_of (pf_X12 _ _) rfl (nle rfl) ?_
  show jJ G M_Mo_guestRead (jEnd G M_Mo_guestRead (some (ai res.1)) (S, res.2)) 0 0 0 [(0, ar v0)] [] (S, V)
  refine j_aload_n (dt_Mo_guestRead 0 (0, .aload_n 0, 1) rfl) rfl ?_
  obtain ⟨x1, hx1, hf⟩ := jbind hf
  obtain ⟨b2, hb2⟩ := r_Mo_named hx1
  refine j_callV M_Mo_named 0 [] (rest := []) (dt_Mo_guestRead 1 (1, .invokevirtual 234, 3) rfl) ml_X12_234 ok_Mo_named (jfit rfl rfl ⟨rfl, rfl⟩ (nle rfl) (nlt rfl)) rfl rfl (nle rfl) ⟨rfl, rfl⟩ hb2 ((c_Mo_named hx1)) ?_
  refine j_lstore_n (dt_Mo_guestRead 2 (4, .lstore_n 1, 1) rfl) (nlt rfl) ?_
  refine j_aload_n (dt_Mo_guestRead 3 (5, .aload_n 0, 1) rfl) rfl ?_
  refine j_aload_n (dt_Mo_guestRead 4 (6, .aload_n 0, 1) rfl) rfl ?_
  refine j_lload_n (dt_Mo_guestRead 5 (7, .lload_n 1, 1) rfl) rfl ?_
  obtain ⟨x3, hx3, hf⟩ := jbind hf
  obtain ⟨b4, hb4⟩ := r_Mo_isNew hx3
  refine j_callV M_Mo_isNew 1 [al x1] (rest := [ar v0]) (dt_Mo_guestRead 6 (8, .invokevirtual 238, 3) rfl) ml_X12_238 ok_Mo_isNew (jfit rfl rfl ⟨rfl, rfl⟩ (nle rfl) (nlt rfl)) rfl rfl (nle rfl) ⟨rfl, rfl⟩ hb4 ((c_Mo_isNew hx3)) ?_
  obtain ⟨w5, hw5, hf⟩ := jbind hf
  obtain ⟨b6, hb6⟩ := r_Mo_passes hw5
  refine j_callV M_Mo_passes 1 [ai x3] (rest := []) (dt_Mo_guestRead 7 (11, .invokevirtual 210, 3) rfl) ml_X12_210 ok_Mo_passes (jfit rfl rfl ⟨rfl, rfl⟩ (nle rfl) (nlt rfl)) rfl rfl (nle rfl) ⟨rfl, rfl⟩ hb6 ((c_Mo_passes hw5)) ?_
  refine jite hf (fun hc hf => ?_) (fun hc hf => ?_)
  · refine j_if_ne (dt_Mo_guestRead 8 (14, .ifCond .ne 5, 3) rfl) rfl (fun q => absurd hc q) (fun _ => ?_)
    refine j_iconst (dt_Mo_guestRead 9 (17, .iconst 0, 1) rfl) ic_0 ?_
    cases hf
    exact j_zret (x := 0) (dt_Mo_guestRead 10 (18, .ireturn, 1) rfl) rfl rfl
  · refine j_if_ne (dt_Mo_guestRead 8 (14, .ifCond .ne 5, 3) rfl) rfl (fun _ => ?_) (fun q => absurd q hc)
    refine j_aload_n (dt_Mo_guestRead 11 (19, .aload_n 0, 1) rfl) rfl ?_
    obtain ⟨x7, hx7, hf⟩ := jbind hf
    refine j_getR (dt_Mo_guestRead 12 (20, .getfield 15, 3) rfl) fl_X12_15 hx7 (fun _ _ => rfl) ?_
    refine j_iconst (dt_Mo_guestRead 13 (23, .iconst 1, 1) rfl) ic_1 ?_
    obtain ⟨x8, hx8, hf⟩ := jbind hf
    refine j_aldR 108 (dt_Mo_guestRead 14 (24, .aaload, 1) rfl) (by decide) hx8 ?_
    refine j_aload_n (dt_Mo_guestRead 15 (25, .aload_n 0, 1) rfl) rfl ?_
    obtain ⟨x9, hx9, hf⟩ := jbind hf
    refine j_getR (dt_Mo_guestRead 16 (26, .getfield 44, 3) rfl) fl_X12_44 hx9 (fun _ _ => rfl) ?_
    refine j_iconst (dt_Mo_guestRead 17 (29, .iconst 1, 1) rfl) ic_1 ?_
    obtain ⟨x10, hx10, hf⟩ := jbind hf
    refine j_aldI (dt_Mo_guestRead 18 (30, .iaload, 1) rfl) hx10 ?_
    refine j_lload_n (dt_Mo_guestRead 19 (31, .lload_n 1, 1) rfl) rfl ?_
    obtain ⟨V11, hV11, hf⟩ := jbind hf
    refine j_astL (dt_Mo_guestRead 20 (32, .lastore, 1) rfl) hV11 ?_
    refine j_aload_n (dt_Mo_guestRead 21 (33, .aload_n 0, 1) rfl) rfl ?_
    obtain ⟨x12, hx12, hf⟩ := jbind hf
    refine j_getR (dt_Mo_guestRead 22 (34, .getfield 44, 3) rfl) fl_X12_44 hx12 (fun _ _ => rfl) ?_
    refine j_iconst (dt_Mo_guestRead 23 (37, .iconst 1, 1) rfl) ic_1 ?_
    refine j_dup2 (dt_Mo_guestRead 24 (38, .dup2, 1) rfl) rfl rfl ?_
    obtain ⟨x13, hx13, hf⟩ := jbind hf
    refine j_aldI (dt_Mo_guestRead 25 (39, .iaload, 1) rfl) hx13 ?_
    refine j_iconst (dt_Mo_guestRead 26 (40, .iconst 1, 1) rfl) ic_1 ?_
    refine j_iadd (dt_Mo_guestRead 27 (41, .iadd, 1) rfl) ?_
    obtain ⟨V14, hV14, hf⟩ := jbind hf
    refine j_astI (dt_Mo_guestRead 28 (42, .iastore, 1) rfl) hV14 ?_
    refine j_aload_n (dt_Mo_guestRead 29 (43, .aload_n 0, 1) rfl) rfl ?_
    obtain ⟨w15, hw15, hf⟩ := jbind hf
    obtain ⟨b16, hb16⟩ := r_Mo_closes hw15
    refine j_callV M_Mo_closes 0 [] (rest := []) (dt_Mo_guestRead 30 (44, .invokevirtual 242, 3) rfl) ml_X12_242 ok_Mo_closes (jfit rfl rfl ⟨rfl, rfl⟩ (nle rfl) (nlt rfl)) rfl rfl (nle rfl) ⟨rfl, rfl⟩ hb16 ((c_Mo_closes hw15)) ?_
    cases hf
    exact j_zretN (dt_Mo_guestRead 31 (47, .ireturn, 1) rfl) rfl
theorem r_Mo_guestRead {S : hS} {V : hV} {v0 : Option Nat} {res : Int32 × hV} (hf : Mo_guestRead S v0 V = some res) : ∃ b, rc S 12 v0 = some b := by
  unfold Mo_guestRead at hf
  obtain ⟨b, hb, _⟩ := jbind hf
  exact ⟨b, hb⟩
def tb_Mo_markRead : List (Nat × Instr × Nat) := [(0, .aload_n 0, 1), (1, .invokevirtual 234, 3), (4, .lstore_n 1, 1), (5, .aload_n 0, 1), (6, .getfield 48, 3), (9, .iconst 1, 1), (10, .iaload, 1), (11, .istore_n 3, 1), (12, .aload_n 0, 1), (13, .aload_n 0, 1), (14, .lload_n 1, 1), (15, .invokevirtual 238, 3), (18, .invokevirtual 210, 3), (21, .ifCond .eq 15, 3), (24, .aload_n 0, 1), (25, .aload_n 0, 1), (26, .iconst 2, 1), (27, .invokevirtual 219, 3), (30, .invokevirtual 210, 3), (33, .ifCond .ne 5, 3), (36, .iconst 0, 1), (37, .ireturn, 1), (38, .aload_n 0, 1), (39, .getfield 18, 3), (42, .iconst 1, 1), (43, .aaload, 1), (44, .iload_n 3, 1), (45, .lload_n 1, 1), (46, .lastore, 1), (47, .aload_n 0, 1), (48, .getfield 23, 3), (51, .iconst 1, 1), (52, .aaload, 1), (53, .iload_n 3, 1), (54, .iconst 0, 1), (55, .iastore, 1), (56, .iconst 1, 1), (57, .istore 4, 2), (59, .iload 4, 2), (61, .ifCond .eq 102, 3), (64, .aload_n 0, 1), (65, .invokevirtual 234, 3), (68, .lstore 5, 2), (70, .lload 5, 2), (72, .ldc2_w 217, 3), (75, .lcmp, 1), (76, .ifCond .ne 7, 3), (79, .iconst (-1), 1), (80, .goto 9, 3), (83, .aload_n 0, 1), (84, .lload 5, 2), (86, .invokevirtual 227, 3), (89, .istore 7, 2), (91, .aload_n 0, 1), (92, .iload 7, 2), (94, .iconst (-1), 1), (95, .if_icmp .eq 23, 3), (98, .aload_n 0, 1), (99, .getfield 23, 3), (102, .iconst 1, 1), (103, .aaload, 1), (104, .iload_n 3, 1), (105, .iaload, 1), (106, .iload 7, 2), (108, .ishr, 1), (109, .iconst 1, 1), (110, .iand, 1), (111, .ifCond .ne 7, 3), (114, .iconst 1, 1), (115, .goto 4, 3), (118, .iconst 0, 1), (119, .invokevirtual 210, 3), (122, .ifCond .ne 5, 3), (125, .iconst 0, 1), (126, .ireturn, 1), (127, .aload_n 0, 1), (128, .getfield 23, 3), (131, .iconst 1, 1), (132, .aaload, 1), (133, .iload_n 3, 1), (134, .dup2, 1), (135, .iaload, 1), (136, .iconst 1, 1), (137, .iload 7, 2), (139, .ishl, 1), (140, .ior, 1), (141, .iastore, 1), (142, .aload_n 0, 1), (143, .invokevirtual 234, 3), (146, .ldc2_w 217, 3), (149, .lcmp, 1), (150, .ifCond .eq 7, 3), (153, .iconst 1, 1), (154, .goto 4, 3), (157, .iconst 0, 1), (158, .istore 4, 2), (160, .goto (-101), 3), (163, .aload_n 0, 1), (164, .getfield 48, 3), (167, .iconst 1, 1), (168, .dup2, 1), (169, .iaload, 1), (170, .iconst 1, 1), (171, .iadd, 1), (172, .iastore, 1), (173, .aload_n 0, 1), (174, .invokevirtual 242, 3), (177, .ireturn, 1)]
theorem dt_Mo_markRead (i : Nat) (q : Nat × Instr × Nat) (h : tb_Mo_markRead[i]? = some q) : decode prog_14_method_17_code q.1 = .ok q.2 := jdt (by decide +kernel : tb_Mo_markRead.all (fun q => decide (decode prog_14_method_17_code q.1 = .ok q.2)) = true) h
theorem ok_Mo_markRead : jOKV M_Mo_markRead 0 := ⟨⟨gt7 49 rfl rfl, gt1 17 rfl rfl, (by decide : "FirstInModel" ≠ "java/lang/invoke/MethodHandle"), (by decide : "FirstInModel" ≠ "java/lang/invoke/VarHandle"), (by decide +kernel : (parseMethodDescriptor "()Z").map (fun d => d.parameters.length) = some 0)⟩, gt7 48 rfl rfl, gs_in 17 rfl, rfl, nlt rfl⟩
set_option maxRecDepth 100000 in
set_option maxHeartbeats 4000000 in
theorem c_Mo_markRead {G : jG} {S : hS} {V : hV} {v0 : Option Nat} {res : Int32 × hV} (hf : Mo_markRead S v0 V = some res) : jC G M_Mo_markRead [ar v0] (S, V) (some (ai res.1)) (S, res.2) := by
  unfold Mo_markRead at hf
  obtain ⟨_, _, hf⟩ := jbind hf
  refine jC_of (pf_X12 _ _) rfl (nle rfl) ?_
  show jJ G M_Mo_markRead (jEnd G M_Mo_markRead (some (ai res.1)) (S, res.2)) 0 0 0 [(0, ar v0)] [] (S, V)
  refine j_aload_n (dt_Mo_markRead 0 (0, .aload_n 0, 1) rfl) rfl ?_
  obtain ⟨x1, hx1, hf⟩ := jbind hf
  obtain ⟨b2, hb2⟩ := r_Mo_named hx1
  refine j_callV M_Mo_named 0 [] (rest := []) (dt_Mo_markRead 1 (1, .invokevirtual 234, 3) rfl) ml_X12_234 ok_Mo_named (jfit rfl rfl ⟨rfl, rfl⟩ (nle rfl) (nlt rfl)) rfl rfl (nle rfl) ⟨rfl, rfl⟩ hb2 ((c_Mo_named hx1)) ?_
  refine j_lstore_n (dt_Mo_markRead 2 (4, .lstore_n 1, 1) rfl) (nlt rfl) ?_
  refine j_aload_n (dt_Mo_markRead 3 (5, .aload_n 0, 1) rfl) rfl ?_
  obtain ⟨x3, hx3, hf⟩ := jbind hf
  refine j_getR (dt_Mo_markRead 4 (6, .getfield 48, 3) rfl) fl_X12_48 hx3 (fun _ _ => rfl) ?_
  refine j_iconst (dt_Mo_markRead 5 (9, .iconst 1, 1) rfl) ic_1 ?_
  obtain ⟨x4, hx4, hf⟩ := jbind hf
  refine j_aldI (dt_Mo_markRead 6 (10, .iaload, 1) rfl) hx4 ?_
  refine j_istore_n (dt_Mo_markRead 7 (11, .istore_n 3, 1) rfl) (nlt rfl) ?_
  refine j_aload_n (dt_Mo_markRead 8 (12, .aload_n 0, 1) rfl) rfl ?_
  refine j_aload_n (dt_Mo_markRead 9 (13, .aload_n 0, 1) rfl) rfl ?_
  refine j_lload_n (dt_Mo_markRead 10 (14, .lload_n 1, 1) rfl) rfl ?_
  obtain ⟨x5, hx5, hf⟩ := jbind hf
  obtain ⟨b6, hb6⟩ := r_Mo_isNew hx5
  refine j_callV M_Mo_isNew 1 [al x1] (rest := [ar v0]) (dt_Mo_markRead 11 (15, .invokevirtual 238, 3) rfl) ml_X12_238 ok_Mo_isNew (jfit rfl rfl ⟨rfl, rfl⟩ (nle rfl) (nlt rfl)) rfl rfl (nle rfl) ⟨rfl, rfl⟩ hb6 ((c_Mo_isNew hx5)) ?_
  obtain ⟨w7, hw7, hf⟩ := jbind hf
  obtain ⟨b8, hb8⟩ := r_Mo_passes hw7
  refine j_callV M_Mo_passes 1 [ai x5] (rest := []) (dt_Mo_markRead 12 (18, .invokevirtual 210, 3) rfl) ml_X12_210 ok_Mo_passes (jfit rfl rfl ⟨rfl, rfl⟩ (nle rfl) (nlt rfl)) rfl rfl (nle rfl) ⟨rfl, rfl⟩ hb8 ((c_Mo_passes hw7)) ?_
  refine jite hf (fun hc hf => ?_) (fun hc hf => ?_)
  · refine j_if_eq (dt_Mo_markRead 13 (21, .ifCond .eq 15, 3) rfl) rfl (fun _ => ?_) (fun q => absurd hc q)
    refine j_iconst (dt_Mo_markRead 20 (36, .iconst 0, 1) rfl) ic_0 ?_
    cases hf
    exact j_zret (x := 0) (dt_Mo_markRead 21 (37, .ireturn, 1) rfl) rfl rfl
  · refine j_if_eq (dt_Mo_markRead 13 (21, .ifCond .eq 15, 3) rfl) rfl (fun q => absurd q hc) (fun _ => ?_)
    refine j_aload_n (dt_Mo_markRead 14 (24, .aload_n 0, 1) rfl) rfl ?_
    refine j_aload_n (dt_Mo_markRead 15 (25, .aload_n 0, 1) rfl) rfl ?_
    refine j_iconst (dt_Mo_markRead 16 (26, .iconst 2, 1) rfl) ic_2 ?_
    obtain ⟨x9, hx9, hf⟩ := jbind hf
    obtain ⟨b10, hb10⟩ := r_Mo_isWord hx9
    refine j_callV M_Mo_isWord 1 [ai 2] (rest := [ar v0]) (dt_Mo_markRead 17 (27, .invokevirtual 219, 3) rfl) ml_X12_219 ok_Mo_isWord (jfit rfl rfl ⟨rfl, rfl⟩ (nle rfl) (nlt rfl)) rfl rfl (nle rfl) ⟨rfl, rfl⟩ hb10 ((c_Mo_isWord hx9)) ?_
    obtain ⟨w11, hw11, hf⟩ := jbind hf
    obtain ⟨b12, hb12⟩ := r_Mo_passes hw11
    refine j_callV M_Mo_passes 1 [ai x9] (rest := []) (dt_Mo_markRead 18 (30, .invokevirtual 210, 3) rfl) ml_X12_210 ok_Mo_passes (jfit rfl rfl ⟨rfl, rfl⟩ (nle rfl) (nlt rfl)) rfl rfl (nle rfl) ⟨rfl, rfl⟩ hb12 ((c_Mo_passes hw11)) ?_
    refine jite hf (fun hc hf => ?_) (fun hc hf => ?_)
    · refine j_if_ne (dt_Mo_markRead 19 (33, .ifCond .ne 5, 3) rfl) rfl (fun q => absurd hc q) (fun _ => ?_)
      refine j_iconst (dt_Mo_markRead 20 (36, .iconst 0, 1) rfl) ic_0 ?_
      cases hf
      exact j_zret (x := 0) (dt_Mo_markRead 21 (37, .ireturn, 1) rfl) rfl rfl
    · refine j_if_ne (dt_Mo_markRead 19 (33, .ifCond .ne 5, 3) rfl) rfl (fun _ => ?_) (fun q => absurd q hc)
      refine j_aload_n (dt_Mo_markRead 22 (38, .aload_n 0, 1) rfl) rfl ?_
      obtain ⟨x13, hx13, hf⟩ := jbind hf
      refine j_getR (dt_Mo_markRead 23 (39, .getfield 18, 3) rfl) fl_X12_18 hx13 (fun _ _ => rfl) ?_
      refine j_iconst (dt_Mo_markRead 24 (42, .iconst 1, 1) rfl) ic_1 ?_
      obtain ⟨x14, hx14, hf⟩ := jbind hf
      refine j_aldR 108 (dt_Mo_markRead 25 (43, .aaload, 1) rfl) (by decide) hx14 ?_
      refine j_iload_n (dt_Mo_markRead 26 (44, .iload_n 3, 1) rfl) rfl ?_
      refine j_lload_n (dt_Mo_markRead 27 (45, .lload_n 1, 1) rfl) rfl ?_
      obtain ⟨V15, hV15, hf⟩ := jbind hf
      refine j_astL (dt_Mo_markRead 28 (46, .lastore, 1) rfl) hV15 ?_
      refine j_aload_n (dt_Mo_markRead 29 (47, .aload_n 0, 1) rfl) rfl ?_
      obtain ⟨x16, hx16, hf⟩ := jbind hf
      refine j_getR (dt_Mo_markRead 30 (48, .getfield 23, 3) rfl) fl_X12_23 hx16 (fun _ _ => rfl) ?_
      refine j_iconst (dt_Mo_markRead 31 (51, .iconst 1, 1) rfl) ic_1 ?_
      obtain ⟨x17, hx17, hf⟩ := jbind hf
      refine j_aldR 107 (dt_Mo_markRead 32 (52, .aaload, 1) rfl) (by decide) hx17 ?_
      refine j_iload_n (dt_Mo_markRead 33 (53, .iload_n 3, 1) rfl) rfl ?_
      refine j_iconst (dt_Mo_markRead 34 (54, .iconst 0, 1) rfl) ic_0 ?_
      obtain ⟨V18, hV18, hf⟩ := jbind hf
      refine j_astI (dt_Mo_markRead 35 (55, .iastore, 1) rfl) hV18 ?_
      refine j_iconst (dt_Mo_markRead 36 (56, .iconst 1, 1) rfl) ic_1 ?_
      refine j_istore (dt_Mo_markRead 37 (57, .istore 4, 2) rfl) (nlt rfl) ?_
      obtain ⟨t59, ht59, hf⟩ := jbind hf
      have hX59 : ∀ q59 : hV, t59 = .inl q59 → jJ G M_Mo_markRead (jEnd G M_Mo_markRead (some (ai res.1)) (S, res.2)) 0 0 163 [(0, ar v0)] [] (S, q59) := by
        intro q59 hq59
        subst hq59
        refine j_aload_n (dt_Mo_markRead 97 (163, .aload_n 0, 1) rfl) rfl ?_
        obtain ⟨x34, hx34, hf⟩ := jbind hf
        refine j_getR (dt_Mo_markRead 98 (164, .getfield 48, 3) rfl) fl_X12_48 hx34 (fun _ _ => rfl) ?_
        refine j_iconst (dt_Mo_markRead 99 (167, .iconst 1, 1) rfl) ic_1 ?_
        refine j_dup2 (dt_Mo_markRead 100 (168, .dup2, 1) rfl) rfl rfl ?_
        obtain ⟨x35, hx35, hf⟩ := jbind hf
        refine j_aldI (dt_Mo_markRead 101 (169, .iaload, 1) rfl) hx35 ?_
        refine j_iconst (dt_Mo_markRead 102 (170, .iconst 1, 1) rfl) ic_1 ?_
        refine j_iadd (dt_Mo_markRead 103 (171, .iadd, 1) rfl) ?_
        obtain ⟨V36, hV36, hf⟩ := jbind hf
        refine j_astI (dt_Mo_markRead 104 (172, .iastore, 1) rfl) hV36 ?_
        refine j_aload_n (dt_Mo_markRead 105 (173, .aload_n 0, 1) rfl) rfl ?_
        obtain ⟨w37, hw37, hf⟩ := jbind hf
        obtain ⟨b38, hb38⟩ := r_Mo_closes hw37
        refine j_callV M_Mo_closes 0 [] (rest := []) (dt_Mo_markRead 106 (174, .invokevirtual 242, 3) rfl) ml_X12_242 ok_Mo_closes (jfit rfl rfl ⟨rfl, rfl⟩ (nle rfl) (nlt rfl)) rfl rfl (nle rfl) ⟨rfl, rfl⟩ hb38 ((c_Mo_closes hw37)) ?_
        cases hf
        exact j_zretN (dt_Mo_markRead 107 (177, .ireturn, 1) rfl) rfl
      have hR59 : ∀ v : Int32 × hV, t59 = .inr v → v = res := by
        intro v hv
        subst hv
        cases hf
        rfl
      refine j_sub (ls' := [(0, ar v0), (3, ai x4), (4, ai 1)]) rfl ?_
      refine jloop_J (C := fun s59 => jJ G M_Mo_markRead (jEnd G M_Mo_markRead (some (ai res.1)) (S, res.2)) 0 0 59 [(0, ar v0), (3, ai x4), (4, ai s59.1)] [] (S, s59.2)) (fun s59 z59_ hy59 hin59 hout59 => ?_) _ _ ht59
      unfold Mo_markRead_L59 at hy59
      refine j_iload (dt_Mo_markRead 38 (59, .iload 4, 2) rfl) rfl ?_
      refine jite hy59 (fun hc hy59 => ?_) (fun hc hy59 => ?_)
      · refine j_if_eq (dt_Mo_markRead 39 (61, .ifCond .eq 102, 3) rfl) rfl (fun _ => ?_) (fun q => absurd hc q)
        cases hy59
        have hz := hX59 _ (hout59 _ rfl).symm
        exact j_sub rfl hz
      · refine j_if_eq (dt_Mo_markRead 39 (61, .ifCond .eq 102, 3) rfl) rfl (fun q => absurd q hc) (fun _ => ?_)
        refine j_aload_n (dt_Mo_markRead 40 (64, .aload_n 0, 1) rfl) rfl ?_
        obtain ⟨x19, hx19, hy59⟩ := jbind hy59
        obtain ⟨b20, hb20⟩ := r_Mo_named hx19
        refine j_callV M_Mo_named 0 [] (rest := []) (dt_Mo_markRead 41 (65, .invokevirtual 234, 3) rfl) ml_X12_234 ok_Mo_named (jfit rfl rfl ⟨rfl, rfl⟩ (nle rfl) (nlt rfl)) rfl rfl (nle rfl) ⟨rfl, rfl⟩ hb20 ((c_Mo_named hx19)) ?_
        refine j_lstore (dt_Mo_markRead 42 (68, .lstore 5, 2) rfl) (nlt rfl) ?_
        refine j_lload (dt_Mo_markRead 43 (70, .lload 5, 2) rfl) rfl ?_
        refine j_ldc2 (-1) (dt_Mo_markRead 44 (72, .ldc2_w 217, 3) rfl) (gt7 27 rfl rfl) ?_
        refine j_lcmp (dt_Mo_markRead 45 (75, .lcmp, 1) rfl) ?_
        obtain ⟨j76, hj76, hy59⟩ := jbind hy59
        have hP76 : jJ G M_Mo_markRead (jEnd G M_Mo_markRead (some (ai res.1)) (S, res.2)) 0 0 89 [(0, ar v0), (3, ai x4)] [ai j76] (S, s59.2) := by
          refine j_istore (dt_Mo_markRead 52 (89, .istore 7, 2) rfl) (nlt rfl) ?_
          refine j_aload_n (dt_Mo_markRead 53 (91, .aload_n 0, 1) rfl) rfl ?_
          refine j_iload (dt_Mo_markRead 54 (92, .iload 7, 2) rfl) rfl ?_
          refine j_iconst (dt_Mo_markRead 55 (94, .iconst (-1), 1) rfl) ic_m1 ?_
          obtain ⟨j95, hj95, hy59⟩ := jbind hy59
          have hP95 : jJ G M_Mo_markRead (jEnd G M_Mo_markRead (some (ai res.1)) (S, res.2)) 0 0 119 [(0, ar v0), (3, ai x4), (7, ai j76)] [ai j95, ar v0] (S, s59.2) := by
            obtain ⟨w21, hw21, hy59⟩ := jbind hy59
            obtain ⟨b22, hb22⟩ := r_Mo_passes hw21
            refine j_callV M_Mo_passes 1 [ai j95] (rest := []) (dt_Mo_markRead 71 (119, .invokevirtual 210, 3) rfl) ml_X12_210 ok_Mo_passes (jfit rfl rfl ⟨rfl, rfl⟩ (nle rfl) (nlt rfl)) rfl rfl (nle rfl) ⟨rfl, rfl⟩ hb22 ((c_Mo_passes hw21)) ?_
            refine jite hy59 (fun hc hy59 => ?_) (fun hc hy59 => ?_)
            · refine j_if_ne (dt_Mo_markRead 72 (122, .ifCond .ne 5, 3) rfl) rfl (fun q => absurd hc q) (fun _ => ?_)
              refine j_iconst (dt_Mo_markRead 73 (125, .iconst 0, 1) rfl) ic_0 ?_
              cases hy59
              obtain rfl := hR59 _ (hout59 _ rfl).symm
              exact j_zret (x := 0) (dt_Mo_markRead 74 (126, .ireturn, 1) rfl) rfl rfl
            · refine j_if_ne (dt_Mo_markRead 72 (122, .ifCond .ne 5, 3) rfl) rfl (fun _ => ?_) (fun q => absurd q hc)
              refine j_aload_n (dt_Mo_markRead 75 (127, .aload_n 0, 1) rfl) rfl ?_
              obtain ⟨x23, hx23, hy59⟩ := jbind hy59
              refine j_getR (dt_Mo_markRead 76 (128, .getfield 23, 3) rfl) fl_X12_23 hx23 (fun _ _ => rfl) ?_
              refine j_iconst (dt_Mo_markRead 77 (131, .iconst 1, 1) rfl) ic_1 ?_
              obtain ⟨x24, hx24, hy59⟩ := jbind hy59
              refine j_aldR 107 (dt_Mo_markRead 78 (132, .aaload, 1) rfl) (by decide) hx24 ?_
              refine j_iload_n (dt_Mo_markRead 79 (133, .iload_n 3, 1) rfl) rfl ?_
              refine j_dup2 (dt_Mo_markRead 80 (134, .dup2, 1) rfl) rfl rfl ?_
              obtain ⟨x25, hx25, hy59⟩ := jbind hy59
              refine j_aldI (dt_Mo_markRead 81 (135, .iaload, 1) rfl) hx25 ?_
              refine j_iconst (dt_Mo_markRead 82 (136, .iconst 1, 1) rfl) ic_1 ?_
              refine j_iload (dt_Mo_markRead 83 (137, .iload 7, 2) rfl) rfl ?_
              refine j_ishl (dt_Mo_markRead 84 (139, .ishl, 1) rfl) ?_
              refine j_ior (dt_Mo_markRead 85 (140, .ior, 1) rfl) ?_
              obtain ⟨V26, hV26, hy59⟩ := jbind hy59
              refine j_astI (dt_Mo_markRead 86 (141, .iastore, 1) rfl) hV26 ?_
              refine j_aload_n (dt_Mo_markRead 87 (142, .aload_n 0, 1) rfl) rfl ?_
              obtain ⟨x27, hx27, hy59⟩ := jbind hy59
              obtain ⟨b28, hb28⟩ := r_Mo_named hx27
              refine j_callV M_Mo_named 0 [] (rest := []) (dt_Mo_markRead 88 (143, .invokevirtual 234, 3) rfl) ml_X12_234 ok_Mo_named (jfit rfl rfl ⟨rfl, rfl⟩ (nle rfl) (nlt rfl)) rfl rfl (nle rfl) ⟨rfl, rfl⟩ hb28 ((c_Mo_named hx27)) ?_
              refine j_ldc2 (-1) (dt_Mo_markRead 89 (146, .ldc2_w 217, 3) rfl) (gt7 27 rfl rfl) ?_
              refine j_lcmp (dt_Mo_markRead 90 (149, .lcmp, 1) rfl) ?_
              refine jite hy59 (fun hc hy59 => ?_) (fun hc hy59 => ?_)
              · refine j_if_eq (dt_Mo_markRead 91 (150, .ifCond .eq 7, 3) rfl) rfl (fun _ => ?_) (fun q => absurd hc q)
                refine j_iconst (dt_Mo_markRead 94 (157, .iconst 0, 1) rfl) ic_0 ?_
                refine j_istore (dt_Mo_markRead 95 (158, .istore 4, 2) rfl) (nlt rfl) ?_
                refine j_goto (dt_Mo_markRead 96 (160, .goto (-101), 3) rfl) rfl ?_
                cases hy59
                have hz := hin59 _ rfl
                exact j_sub rfl hz
              · refine j_if_eq (dt_Mo_markRead 91 (150, .ifCond .eq 7, 3) rfl) rfl (fun q => absurd q hc) (fun _ => ?_)
                refine j_iconst (dt_Mo_markRead 92 (153, .iconst 1, 1) rfl) ic_1 ?_
                refine j_goto (dt_Mo_markRead 93 (154, .goto 4, 3) rfl) rfl ?_
                refine j_istore (dt_Mo_markRead 95 (158, .istore 4, 2) rfl) (nlt rfl) ?_
                refine j_goto (dt_Mo_markRead 96 (160, .goto (-101), 3) rfl) rfl ?_
                cases hy59
                have hz := hin59 _ rfl
                exact j_sub rfl hz
          refine jite hj95 (fun hc hj95 => ?_) (fun hc hj95 => ?_)
          · refine j_icmp_eq (dt_Mo_markRead 56 (95, .if_icmp .eq 23, 3) rfl) rfl (fun _ => ?_) (fun q => absurd hc q)
            refine j_iconst (dt_Mo_markRead 70 (118, .iconst 0, 1) rfl) ic_0 ?_
            cases hj95
            exact j_sub rfl hP95
          · refine j_icmp_eq (dt_Mo_markRead 56 (95, .if_icmp .eq 23, 3) rfl) rfl (fun q => absurd q hc) (fun _ => ?_)
            refine j_aload_n (dt_Mo_markRead 57 (98, .aload_n 0, 1) rfl) rfl ?_
            obtain ⟨x29, hx29, hj95⟩ := jbind hj95
            refine j_getR (dt_Mo_markRead 58 (99, .getfield 23, 3) rfl) fl_X12_23 hx29 (fun _ _ => rfl) ?_
            refine j_iconst (dt_Mo_markRead 59 (102, .iconst 1, 1) rfl) ic_1 ?_
            obtain ⟨x30, hx30, hj95⟩ := jbind hj95
            refine j_aldR 107 (dt_Mo_markRead 60 (103, .aaload, 1) rfl) (by decide) hx30 ?_
            refine j_iload_n (dt_Mo_markRead 61 (104, .iload_n 3, 1) rfl) rfl ?_
            obtain ⟨x31, hx31, hj95⟩ := jbind hj95
            refine j_aldI (dt_Mo_markRead 62 (105, .iaload, 1) rfl) hx31 ?_
            refine j_iload (dt_Mo_markRead 63 (106, .iload 7, 2) rfl) rfl ?_
            refine j_ishr (dt_Mo_markRead 64 (108, .ishr, 1) rfl) ?_
            refine j_iconst (dt_Mo_markRead 65 (109, .iconst 1, 1) rfl) ic_1 ?_
            refine j_iand (dt_Mo_markRead 66 (110, .iand, 1) rfl) ?_
            refine jite hj95 (fun hc hj95 => ?_) (fun hc hj95 => ?_)
            · refine j_if_ne (dt_Mo_markRead 67 (111, .ifCond .ne 7, 3) rfl) rfl (fun q => absurd hc q) (fun _ => ?_)
              refine j_iconst (dt_Mo_markRead 68 (114, .iconst 1, 1) rfl) ic_1 ?_
              refine j_goto (dt_Mo_markRead 69 (115, .goto 4, 3) rfl) rfl ?_
              cases hj95
              exact j_sub rfl hP95
            · refine j_if_ne (dt_Mo_markRead 67 (111, .ifCond .ne 7, 3) rfl) rfl (fun _ => ?_) (fun q => absurd q hc)
              refine j_iconst (dt_Mo_markRead 70 (118, .iconst 0, 1) rfl) ic_0 ?_
              cases hj95
              exact j_sub rfl hP95
        refine jite hj76 (fun hc hj76 => ?_) (fun hc hj76 => ?_)
        · refine j_if_ne (dt_Mo_markRead 46 (76, .ifCond .ne 7, 3) rfl) rfl (fun q => absurd hc q) (fun _ => ?_)
          refine j_iconst (dt_Mo_markRead 47 (79, .iconst (-1), 1) rfl) ic_m1 ?_
          refine j_goto (dt_Mo_markRead 48 (80, .goto 9, 3) rfl) rfl ?_
          cases hj76
          exact j_sub rfl hP76
        · refine j_if_ne (dt_Mo_markRead 46 (76, .ifCond .ne 7, 3) rfl) rfl (fun _ => ?_) (fun q => absurd q hc)
          refine j_aload_n (dt_Mo_markRead 49 (83, .aload_n 0, 1) rfl) rfl ?_
          refine j_lload (dt_Mo_markRead 50 (84, .lload 5, 2) rfl) rfl ?_
          obtain ⟨x32, hx32, hj76⟩ := jbind hj76
          obtain ⟨b33, hb33⟩ := r_Mo_guestOf hx32
          refine j_callV M_Mo_guestOf 1 [al x19] (rest := []) (dt_Mo_markRead 51 (86, .invokevirtual 227, 3) rfl) ml_X12_227 ok_Mo_guestOf (jfit rfl rfl ⟨rfl, rfl⟩ (nle rfl) (nlt rfl)) rfl rfl (nle rfl) ⟨rfl, rfl⟩ hb33 ((c_Mo_guestOf hx32)) ?_
          cases hj76
          exact j_sub rfl hP76
theorem r_Mo_markRead {S : hS} {V : hV} {v0 : Option Nat} {res : Int32 × hV} (hf : Mo_markRead S v0 V = some res) : ∃ b, rc S 12 v0 = some b := by
  unfold Mo_markRead at hf
  obtain ⟨b, hb, _⟩ := jbind hf
  exact ⟨b, hb⟩
def tb_Mo_someone : List (Nat × Instr × Nat) := [(0, .aload_n 0, 1), (1, .invokevirtual 234, 3), (4, .lstore_n 1, 1), (5, .lload_n 1, 1), (6, .ldc2_w 217, 3), (9, .lcmp, 1), (10, .ifCond .ne 7, 3), (13, .iconst (-1), 1), (14, .goto 8, 3), (17, .aload_n 0, 1), (18, .lload_n 1, 1), (19, .invokevirtual 227, 3), (22, .istore_n 3, 1), (23, .lload_n 1, 1), (24, .ldc2_w 217, 3), (27, .lcmp, 1), (28, .ifCond .ne 7, 3), (31, .iconst (-1), 1), (32, .goto 8, 3), (35, .aload_n 0, 1), (36, .lload_n 1, 1), (37, .invokevirtual 231, 3), (40, .istore 4, 2), (42, .aload_n 0, 1), (43, .iload_n 3, 1), (44, .iconst (-1), 1), (45, .if_icmp .eq 7, 3), (48, .iload_n 3, 1), (49, .goto 8, 3), (52, .bipush 100, 2), (54, .iload 4, 2), (56, .iadd, 1), (57, .putfield 214, 3), (60, .aload_n 0, 1), (61, .iload_n 3, 1), (62, .iconst (-1), 1), (63, .if_icmp .ne 9, 3), (66, .iload 4, 2), (68, .iconst (-1), 1), (69, .if_icmp .eq 7, 3), (72, .iconst 1, 1), (73, .goto 4, 3), (76, .iconst 0, 1), (77, .invokevirtual 210, 3), (80, .ireturn, 1)]
theorem dt_Mo_someone (i : Nat) (q : Nat × Instr × Nat) (h : tb_Mo_someone[i]? = some q) : decode prog_14_method_18_code q.1 = .ok q.2 := jdt (by decide +kernel : tb_Mo_someone.all (fun q => decide (decode prog_14_method_18_code q.1 = .ok q.2)) = true) h
theorem ok_Mo_someone : jOKV M_Mo_someone 0 := ⟨⟨gt7 57 rfl rfl, gt1 17 rfl rfl, (by decide : "FirstInModel" ≠ "java/lang/invoke/MethodHandle"), (by decide : "FirstInModel" ≠ "java/lang/invoke/VarHandle"), (by decide +kernel : (parseMethodDescriptor "()Z").map (fun d => d.parameters.length) = some 0)⟩, gt7 56 rfl rfl, gs_in 19 rfl, rfl, nlt rfl⟩
set_option maxRecDepth 100000 in
set_option maxHeartbeats 4000000 in
theorem c_Mo_someone {G : jG} {S : hS} {V : hV} {v0 : Option Nat} {res : Int32 × hV} (hf : Mo_someone S v0 V = some res) : jC G M_Mo_someone [ar v0] (S, V) (some (ai res.1)) (S, res.2) := by
  unfold Mo_someone at hf
  obtain ⟨_, _, hf⟩ := jbind hf
  refine jC_of (pf_X12 _ _) rfl (nle rfl) ?_
  show jJ G M_Mo_someone (jEnd G M_Mo_someone (some (ai res.1)) (S, res.2)) 0 0 0 [(0, ar v0)] [] (S, V)
  refine j_aload_n (dt_Mo_someone 0 (0, .aload_n 0, 1) rfl) rfl ?_
  obtain ⟨x1, hx1, hf⟩ := jbind hf
  obtain ⟨b2, hb2⟩ := r_Mo_named hx1
  refine j_callV M_Mo_named 0 [] (rest := []) (dt_Mo_someone 1 (1, .invokevirtual 234, 3) rfl) ml_X12_234 ok_Mo_named (jfit rfl rfl ⟨rfl, rfl⟩ (nle rfl) (nlt rfl)) rfl rfl (nle rfl) ⟨rfl, rfl⟩ hb2 ((c_Mo_named hx1)) ?_
  refine j_lstore_n (dt_Mo_someone 2 (4, .lstore_n 1, 1) rfl) (nlt rfl) ?_
  refine j_lload_n (dt_Mo_someone 3 (5, .lload_n 1, 1) rfl) rfl ?_
  refine j_ldc2 (-1) (dt_Mo_someone 4 (6, .ldc2_w 217, 3) rfl) (gt7 27 rfl rfl) ?_
  refine j_lcmp (dt_Mo_someone 5 (9, .lcmp, 1) rfl) ?_
  obtain ⟨j10, hj10, hf⟩ := jbind hf
  have hP10 : jJ G M_Mo_someone (jEnd G M_Mo_someone (some (ai res.1)) (S, res.2)) 0 0 22 [(0, ar v0), (1, al x1)] [ai j10] (S, V) := by
    refine j_istore_n (dt_Mo_someone 12 (22, .istore_n 3, 1) rfl) (nlt rfl) ?_
    refine j_lload_n (dt_Mo_someone 13 (23, .lload_n 1, 1) rfl) rfl ?_
    refine j_ldc2 (-1) (dt_Mo_someone 14 (24, .ldc2_w 217, 3) rfl) (gt7 27 rfl rfl) ?_
    refine j_lcmp (dt_Mo_someone 15 (27, .lcmp, 1) rfl) ?_
    obtain ⟨j28, hj28, hf⟩ := jbind hf
    have hP28 : jJ G M_Mo_someone (jEnd G M_Mo_someone (some (ai res.1)) (S, res.2)) 0 0 40 [(0, ar v0), (3, ai j10)] [ai j28] (S, V) := by
      refine j_istore (dt_Mo_someone 22 (40, .istore 4, 2) rfl) (nlt rfl) ?_
      refine j_aload_n (dt_Mo_someone 23 (42, .aload_n 0, 1) rfl) rfl ?_
      refine j_iload_n (dt_Mo_someone 24 (43, .iload_n 3, 1) rfl) rfl ?_
      refine j_iconst (dt_Mo_someone 25 (44, .iconst (-1), 1) rfl) ic_m1 ?_
      obtain ⟨j45, hj45, hf⟩ := jbind hf
      have hP45 : jJ G M_Mo_someone (jEnd G M_Mo_someone (some (ai res.1)) (S, res.2)) 0 0 57 [(0, ar v0), (3, ai j10), (4, ai j28)] [ai j45, ar v0] (S, V) := by
        obtain ⟨V3, hV3, hf⟩ := jbind hf
        refine j_putI (dt_Mo_someone 32 (57, .putfield 214, 3) rfl) fl_X12_214 hV3 rfl (Or.inl rfl) ?_
        refine j_aload_n (dt_Mo_someone 33 (60, .aload_n 0, 1) rfl) rfl ?_
        refine j_iload_n (dt_Mo_someone 34 (61, .iload_n 3, 1) rfl) rfl ?_
        refine j_iconst (dt_Mo_someone 35 (62, .iconst (-1), 1) rfl) ic_m1 ?_
        obtain ⟨j63, hj63, hf⟩ := jbind hf
        have hP63 : jJ G M_Mo_someone (jEnd G M_Mo_someone (some (ai res.1)) (S, res.2)) 0 0 77 [] [ai j63, ar v0] (S, V3) := by
          obtain ⟨w4, hw4, hf⟩ := jbind hf
          obtain ⟨b5, hb5⟩ := r_Mo_passes hw4
          refine j_callV M_Mo_passes 1 [ai j63] (rest := []) (dt_Mo_someone 43 (77, .invokevirtual 210, 3) rfl) ml_X12_210 ok_Mo_passes (jfit rfl rfl ⟨rfl, rfl⟩ (nle rfl) (nlt rfl)) rfl rfl (nle rfl) ⟨rfl, rfl⟩ hb5 ((c_Mo_passes hw4)) ?_
          cases hf
          exact j_zretN (dt_Mo_someone 44 (80, .ireturn, 1) rfl) rfl
        refine jite hj63 (fun hc hj63 => ?_) (fun hc hj63 => ?_)
        · refine j_icmp_ne (dt_Mo_someone 36 (63, .if_icmp .ne 9, 3) rfl) rfl (fun q => absurd hc q) (fun _ => ?_)
          refine j_iload (dt_Mo_someone 37 (66, .iload 4, 2) rfl) rfl ?_
          refine j_iconst (dt_Mo_someone 38 (68, .iconst (-1), 1) rfl) ic_m1 ?_
          refine jite hj63 (fun hc hj63 => ?_) (fun hc hj63 => ?_)
          · refine j_icmp_eq (dt_Mo_someone 39 (69, .if_icmp .eq 7, 3) rfl) rfl (fun _ => ?_) (fun q => absurd hc q)
            refine j_iconst (dt_Mo_someone 42 (76, .iconst 0, 1) rfl) ic_0 ?_
            cases hj63
            exact j_sub rfl hP63
          · refine j_icmp_eq (dt_Mo_someone 39 (69, .if_icmp .eq 7, 3) rfl) rfl (fun q => absurd q hc) (fun _ => ?_)
            refine j_iconst (dt_Mo_someone 40 (72, .iconst 1, 1) rfl) ic_1 ?_
            refine j_goto (dt_Mo_someone 41 (73, .goto 4, 3) rfl) rfl ?_
            cases hj63
            exact j_sub rfl hP63
        · refine j_icmp_ne (dt_Mo_someone 36 (63, .if_icmp .ne 9, 3) rfl) rfl (fun _ => ?_) (fun q => absurd q hc)
          refine j_iconst (dt_Mo_someone 40 (72, .iconst 1, 1) rfl) ic_1 ?_
          refine j_goto (dt_Mo_someone 41 (73, .goto 4, 3) rfl) rfl ?_
          cases hj63
          exact j_sub rfl hP63
      refine jite hj45 (fun hc hj45 => ?_) (fun hc hj45 => ?_)
      · refine j_icmp_eq (dt_Mo_someone 26 (45, .if_icmp .eq 7, 3) rfl) rfl (fun _ => ?_) (fun q => absurd hc q)
        refine j_bipush (dt_Mo_someone 29 (52, .bipush 100, 2) rfl) bp_100 ?_
        refine j_iload (dt_Mo_someone 30 (54, .iload 4, 2) rfl) rfl ?_
        refine j_iadd (dt_Mo_someone 31 (56, .iadd, 1) rfl) ?_
        cases hj45
        exact j_sub rfl hP45
      · refine j_icmp_eq (dt_Mo_someone 26 (45, .if_icmp .eq 7, 3) rfl) rfl (fun q => absurd q hc) (fun _ => ?_)
        refine j_iload_n (dt_Mo_someone 27 (48, .iload_n 3, 1) rfl) rfl ?_
        refine j_goto (dt_Mo_someone 28 (49, .goto 8, 3) rfl) rfl ?_
        cases hj45
        exact j_sub rfl hP45
    refine jite hj28 (fun hc hj28 => ?_) (fun hc hj28 => ?_)
    · refine j_if_ne (dt_Mo_someone 16 (28, .ifCond .ne 7, 3) rfl) rfl (fun q => absurd hc q) (fun _ => ?_)
      refine j_iconst (dt_Mo_someone 17 (31, .iconst (-1), 1) rfl) ic_m1 ?_
      refine j_goto (dt_Mo_someone 18 (32, .goto 8, 3) rfl) rfl ?_
      cases hj28
      exact j_sub rfl hP28
    · refine j_if_ne (dt_Mo_someone 16 (28, .ifCond .ne 7, 3) rfl) rfl (fun _ => ?_) (fun q => absurd q hc)
      refine j_aload_n (dt_Mo_someone 19 (35, .aload_n 0, 1) rfl) rfl ?_
      refine j_lload_n (dt_Mo_someone 20 (36, .lload_n 1, 1) rfl) rfl ?_
      obtain ⟨x6, hx6, hj28⟩ := jbind hj28
      obtain ⟨b7, hb7⟩ := r_Mo_markOf hx6
      refine j_callV M_Mo_markOf 1 [al x1] (rest := []) (dt_Mo_someone 21 (37, .invokevirtual 231, 3) rfl) ml_X12_231 ok_Mo_markOf (jfit rfl rfl ⟨rfl, rfl⟩ (nle rfl) (nlt rfl)) rfl rfl (nle rfl) ⟨rfl, rfl⟩ hb7 ((c_Mo_markOf hx6)) ?_
      cases hj28
      exact j_sub rfl hP28
  refine jite hj10 (fun hc hj10 => ?_) (fun hc hj10 => ?_)
  · refine j_if_ne (dt_Mo_someone 6 (10, .ifCond .ne 7, 3) rfl) rfl (fun q => absurd hc q) (fun _ => ?_)
    refine j_iconst (dt_Mo_someone 7 (13, .iconst (-1), 1) rfl) ic_m1 ?_
    refine j_goto (dt_Mo_someone 8 (14, .goto 8, 3) rfl) rfl ?_
    cases hj10
    exact j_sub rfl hP10
  · refine j_if_ne (dt_Mo_someone 6 (10, .ifCond .ne 7, 3) rfl) rfl (fun _ => ?_) (fun q => absurd q hc)
    refine j_aload_n (dt_Mo_someone 9 (17, .aload_n 0, 1) rfl) rfl ?_
    refine j_lload_n (dt_Mo_someone 10 (18, .lload_n 1, 1) rfl) rfl ?_
    obtain ⟨x8, hx8, hj10⟩ := jbind hj10
    obtain ⟨b9, hb9⟩ := r_Mo_guestOf hx8
    refine j_callV M_Mo_guestOf 1 [al x1] (rest := []) (dt_Mo_someone 11 (19, .invokevirtual 227, 3) rfl) ml_X12_227 ok_Mo_guestOf (jfit rfl rfl ⟨rfl, rfl⟩ (nle rfl) (nlt rfl)) rfl rfl (nle rfl) ⟨rfl, rfl⟩ hb9 ((c_Mo_guestOf hx8)) ?_
    cases hj10
    exact j_sub rfl hP10
theorem r_Mo_someone {S : hS} {V : hV} {v0 : Option Nat} {res : Int32 × hV} (hf : Mo_someone S v0 V = some res) : ∃ b, rc S 12 v0 = some b := by
  unfold Mo_someone at hf
  obtain ⟨b, hb, _⟩ := jbind hf
  exact ⟨b, hb⟩
def tb_Mo_ruleRead : List (Nat × Instr × Nat) := [(0, .aload_n 0, 1), (1, .getfield 51, 3), (4, .iconst 1, 1), (5, .iaload, 1), (6, .istore_n 2, 1), (7, .aload_n 0, 1), (8, .getfield 26, 3), (11, .iconst 1, 1), (12, .aaload, 1), (13, .iload_n 2, 1), (14, .iload_n 1, 1), (15, .iastore, 1), (16, .aload_n 0, 1), (17, .invokevirtual 246, 3), (20, .ifCond .ne 5, 3), (23, .iconst 0, 1), (24, .ireturn, 1), (25, .aload_n 0, 1), (26, .getfield 29, 3), (29, .iconst 1, 1), (30, .aaload, 1), (31, .iload_n 2, 1), (32, .aload_n 0, 1), (33, .getfield 214, 3), (36, .iastore, 1), (37, .aload_n 0, 1), (38, .invokevirtual 246, 3), (41, .ifCond .ne 5, 3), (44, .iconst 0, 1), (45, .ireturn, 1), (46, .aload_n 0, 1), (47, .getfield 32, 3), (50, .iconst 1, 1), (51, .aaload, 1), (52, .iload_n 2, 1), (53, .aload_n 0, 1), (54, .getfield 214, 3), (57, .iastore, 1), (58, .aload_n 0, 1), (59, .aload_n 0, 1), (60, .bipush 6, 2), (62, .invokevirtual 219, 3), (65, .invokevirtual 210, 3), (68, .ifCond .eq 13, 3), (71, .aload_n 0, 1), (72, .iconst 1, 1), (73, .bipush 9, 2), (75, .invokevirtual 249, 3), (78, .ifCond .ne 5, 3), (81, .iconst 0, 1), (82, .ireturn, 1), (83, .aload_n 0, 1), (84, .getfield 35, 3), (87, .iconst 1, 1), (88, .aaload, 1), (89, .iload_n 2, 1), (90, .aload_n 0, 1), (91, .getfield 214, 3), (94, .iastore, 1), (95, .aload_n 0, 1), (96, .getfield 38, 3), (99, .iconst 1, 1), (100, .aaload, 1), (101, .iload_n 2, 1), (102, .iconst (-1), 1), (103, .iastore, 1), (104, .aload_n 0, 1), (105, .getfield 41, 3), (108, .iconst 1, 1), (109, .aaload, 1), (110, .iload_n 2, 1), (111, .iconst (-1), 1), (112, .iastore, 1), (113, .aload_n 0, 1), (114, .bipush 7, 2), (116, .invokevirtual 219, 3), (119, .ifCond .eq 30, 3), (122, .aload_n 0, 1), (123, .invokevirtual 199, 3), (126, .aload_n 0, 1), (127, .iconst 0, 1), (128, .iconst 3, 1), (129, .invokevirtual 249, 3), (132, .ifCond .ne 5, 3), (135, .iconst 0, 1), (136, .ireturn, 1), (137, .aload_n 0, 1), (138, .getfield 38, 3), (141, .iconst 1, 1), (142, .aaload, 1), (143, .iload_n 2, 1), (144, .aload_n 0, 1), (145, .getfield 214, 3), (148, .iastore, 1), (149, .aload_n 0, 1), (150, .bipush 8, 2), (152, .invokevirtual 219, 3), (155, .ifCond .eq 61, 3), (158, .aload_n 0, 1), (159, .invokevirtual 199, 3), (162, .aload_n 0, 1), (163, .invokevirtual 234, 3), (166, .lstore_n 3, 1), (167, .lload_n 3, 1), (168, .ldc2_w 217, 3), (171, .lcmp, 1), (172, .ifCond .ne 7, 3), (175, .iconst (-1), 1), (176, .goto 8, 3), (179, .aload_n 0, 1), (180, .lload_n 3, 1), (181, .invokevirtual 231, 3), (184, .istore 5, 2), (186, .aload_n 0, 1), (187, .iload 5, 2), (189, .iconst (-1), 1), (190, .if_icmp .eq 7, 3), (193, .iconst 1, 1), (194, .goto 4, 3), (197, .iconst 0, 1), (198, .invokevirtual 210, 3), (201, .ifCond .ne 5, 3), (204, .iconst 0, 1), (205, .ireturn, 1), (206, .aload_n 0, 1), (207, .getfield 41, 3), (210, .iconst 1, 1), (211, .aaload, 1), (212, .iload_n 2, 1), (213, .iload 5, 2), (215, .iastore, 1), (216, .aload_n 0, 1), (217, .getfield 51, 3), (220, .iconst 1, 1), (221, .dup2, 1), (222, .iaload, 1), (223, .iconst 1, 1), (224, .iadd, 1), (225, .iastore, 1), (226, .aload_n 0, 1), (227, .invokevirtual 242, 3), (230, .ireturn, 1)]
theorem dt_Mo_ruleRead (i : Nat) (q : Nat × Instr × Nat) (h : tb_Mo_ruleRead[i]? = some q) : decode prog_14_method_19_code q.1 = .ok q.2 := jdt (by decide +kernel : tb_Mo_ruleRead.all (fun q => decide (decode prog_14_method_19_code q.1 = .ok q.2)) = true) h
theorem ok_Mo_ruleRead : jOKV M_Mo_ruleRead 1 := ⟨⟨gt7 53 rfl rfl, gt1 17 rfl rfl, (by decide : "FirstInModel" ≠ "java/lang/invoke/MethodHandle"), (by decide : "FirstInModel" ≠ "java/lang/invoke/VarHandle"), (by decide +kernel : (parseMethodDescriptor "(I)Z").map (fun d => d.parameters.length) = some 1)⟩, gt7 52 rfl rfl, gs_in 18 rfl, rfl, nlt rfl⟩
set_option maxRecDepth 100000 in
set_option maxHeartbeats 4000000 in
theorem c_Mo_ruleRead {G : jG} {S : hS} {V : hV} {v0 : Option Nat} {v1 : Int32} {res : Int32 × hV} (hf : Mo_ruleRead S v0 v1 V = some res) : jC G M_Mo_ruleRead [ar v0, ai v1] (S, V) (some (ai res.1)) (S, res.2) := by
  unfold Mo_ruleRead at hf
  obtain ⟨_, _, hf⟩ := jbind hf
  refine jC_of (pf_X12 _ _) rfl (nle rfl) ?_
  show jJ G M_Mo_ruleRead (jEnd G M_Mo_ruleRead (some (ai res.1)) (S, res.2)) 0 0 0 [(0, ar v0), (1, ai v1)] [] (S, V)
  refine j_aload_n (dt_Mo_ruleRead 0 (0, .aload_n 0, 1) rfl) rfl ?_
  obtain ⟨x1, hx1, hf⟩ := jbind hf
  refine j_getR (dt_Mo_ruleRead 1 (1, .getfield 51, 3) rfl) fl_X12_51 hx1 (fun _ _ => rfl) ?_
  refine j_iconst (dt_Mo_ruleRead 2 (4, .iconst 1, 1) rfl) ic_1 ?_
  obtain ⟨x2, hx2, hf⟩ := jbind hf
  refine j_aldI (dt_Mo_ruleRead 3 (5, .iaload, 1) rfl) hx2 ?_
  refine j_istore_n (dt_Mo_ruleRead 4 (6, .istore_n 2, 1) rfl) (nlt rfl) ?_
  refine j_aload_n (dt_Mo_ruleRead 5 (7, .aload_n 0, 1) rfl) rfl ?_
  obtain ⟨x3, hx3, hf⟩ := jbind hf
  refine j_getR (dt_Mo_ruleRead 6 (8, .getfield 26, 3) rfl) fl_X12_26 hx3 (fun _ _ => rfl) ?_
  refine j_iconst (dt_Mo_ruleRead 7 (11, .iconst 1, 1) rfl) ic_1 ?_
  obtain ⟨x4, hx4, hf⟩ := jbind hf
  refine j_aldR 107 (dt_Mo_ruleRead 8 (12, .aaload, 1) rfl) (by decide) hx4 ?_
  refine j_iload_n (dt_Mo_ruleRead 9 (13, .iload_n 2, 1) rfl) rfl ?_
  refine j_iload_n (dt_Mo_ruleRead 10 (14, .iload_n 1, 1) rfl) rfl ?_
  obtain ⟨V5, hV5, hf⟩ := jbind hf
  refine j_astI (dt_Mo_ruleRead 11 (15, .iastore, 1) rfl) hV5 ?_
  refine j_aload_n (dt_Mo_ruleRead 12 (16, .aload_n 0, 1) rfl) rfl ?_
  obtain ⟨w6, hw6, hf⟩ := jbind hf
  obtain ⟨b7, hb7⟩ := r_Mo_someone hw6
  refine j_callV M_Mo_someone 0 [] (rest := []) (dt_Mo_ruleRead 13 (17, .invokevirtual 246, 3) rfl) ml_X12_246 ok_Mo_someone (jfit rfl rfl ⟨rfl, rfl⟩ (nle rfl) (nlt rfl)) rfl rfl (nle rfl) ⟨rfl, rfl⟩ hb7 ((c_Mo_someone hw6)) ?_
  refine jite hf (fun hc hf => ?_) (fun hc hf => ?_)
  · refine j_if_ne (dt_Mo_ruleRead 14 (20, .ifCond .ne 5, 3) rfl) rfl (fun q => absurd hc q) (fun _ => ?_)
    refine j_iconst (dt_Mo_ruleRead 15 (23, .iconst 0, 1) rfl) ic_0 ?_
    cases hf
    exact j_zret (x := 0) (dt_Mo_ruleRead 16 (24, .ireturn, 1) rfl) rfl rfl
  · refine j_if_ne (dt_Mo_ruleRead 14 (20, .ifCond .ne 5, 3) rfl) rfl (fun _ => ?_) (fun q => absurd q hc)
    refine j_aload_n (dt_Mo_ruleRead 17 (25, .aload_n 0, 1) rfl) rfl ?_
    obtain ⟨x8, hx8, hf⟩ := jbind hf
    refine j_getR (dt_Mo_ruleRead 18 (26, .getfield 29, 3) rfl) fl_X12_29 hx8 (fun _ _ => rfl) ?_
    refine j_iconst (dt_Mo_ruleRead 19 (29, .iconst 1, 1) rfl) ic_1 ?_
    obtain ⟨x9, hx9, hf⟩ := jbind hf
    refine j_aldR 107 (dt_Mo_ruleRead 20 (30, .aaload, 1) rfl) (by decide) hx9 ?_
    refine j_iload_n (dt_Mo_ruleRead 21 (31, .iload_n 2, 1) rfl) rfl ?_
    refine j_aload_n (dt_Mo_ruleRead 22 (32, .aload_n 0, 1) rfl) rfl ?_
    obtain ⟨x10, hx10, hf⟩ := jbind hf
    refine j_getI (dt_Mo_ruleRead 23 (33, .getfield 214, 3) rfl) fl_X12_214 hx10 (fun _ _ => rfl) ?_
    obtain ⟨V11, hV11, hf⟩ := jbind hf
    refine j_astI (dt_Mo_ruleRead 24 (36, .iastore, 1) rfl) hV11 ?_
    refine j_aload_n (dt_Mo_ruleRead 25 (37, .aload_n 0, 1) rfl) rfl ?_
    obtain ⟨w12, hw12, hf⟩ := jbind hf
    obtain ⟨b13, hb13⟩ := r_Mo_someone hw12
    refine j_callV M_Mo_someone 0 [] (rest := []) (dt_Mo_ruleRead 26 (38, .invokevirtual 246, 3) rfl) ml_X12_246 ok_Mo_someone (jfit rfl rfl ⟨rfl, rfl⟩ (nle rfl) (nlt rfl)) rfl rfl (nle rfl) ⟨rfl, rfl⟩ hb13 ((c_Mo_someone hw12)) ?_
    refine jite hf (fun hc hf => ?_) (fun hc hf => ?_)
    · refine j_if_ne (dt_Mo_ruleRead 27 (41, .ifCond .ne 5, 3) rfl) rfl (fun q => absurd hc q) (fun _ => ?_)
      refine j_iconst (dt_Mo_ruleRead 28 (44, .iconst 0, 1) rfl) ic_0 ?_
      cases hf
      exact j_zret (x := 0) (dt_Mo_ruleRead 29 (45, .ireturn, 1) rfl) rfl rfl
    · refine j_if_ne (dt_Mo_ruleRead 27 (41, .ifCond .ne 5, 3) rfl) rfl (fun _ => ?_) (fun q => absurd q hc)
      refine j_aload_n (dt_Mo_ruleRead 30 (46, .aload_n 0, 1) rfl) rfl ?_
      obtain ⟨x14, hx14, hf⟩ := jbind hf
      refine j_getR (dt_Mo_ruleRead 31 (47, .getfield 32, 3) rfl) fl_X12_32 hx14 (fun _ _ => rfl) ?_
      refine j_iconst (dt_Mo_ruleRead 32 (50, .iconst 1, 1) rfl) ic_1 ?_
      obtain ⟨x15, hx15, hf⟩ := jbind hf
      refine j_aldR 107 (dt_Mo_ruleRead 33 (51, .aaload, 1) rfl) (by decide) hx15 ?_
      refine j_iload_n (dt_Mo_ruleRead 34 (52, .iload_n 2, 1) rfl) rfl ?_
      refine j_aload_n (dt_Mo_ruleRead 35 (53, .aload_n 0, 1) rfl) rfl ?_
      obtain ⟨x16, hx16, hf⟩ := jbind hf
      refine j_getI (dt_Mo_ruleRead 36 (54, .getfield 214, 3) rfl) fl_X12_214 hx16 (fun _ _ => rfl) ?_
      obtain ⟨V17, hV17, hf⟩ := jbind hf
      refine j_astI (dt_Mo_ruleRead 37 (57, .iastore, 1) rfl) hV17 ?_
      refine j_aload_n (dt_Mo_ruleRead 38 (58, .aload_n 0, 1) rfl) rfl ?_
      refine j_aload_n (dt_Mo_ruleRead 39 (59, .aload_n 0, 1) rfl) rfl ?_
      refine j_bipush (dt_Mo_ruleRead 40 (60, .bipush 6, 2) rfl) bp_6 ?_
      obtain ⟨x18, hx18, hf⟩ := jbind hf
      obtain ⟨b19, hb19⟩ := r_Mo_isWord hx18
      refine j_callV M_Mo_isWord 1 [ai 6] (rest := [ar v0]) (dt_Mo_ruleRead 41 (62, .invokevirtual 219, 3) rfl) ml_X12_219 ok_Mo_isWord (jfit rfl rfl ⟨rfl, rfl⟩ (nle rfl) (nlt rfl)) rfl rfl (nle rfl) ⟨rfl, rfl⟩ hb19 ((c_Mo_isWord hx18)) ?_
      obtain ⟨w20, hw20, hf⟩ := jbind hf
      obtain ⟨b21, hb21⟩ := r_Mo_passes hw20
      refine j_callV M_Mo_passes 1 [ai x18] (rest := []) (dt_Mo_ruleRead 42 (65, .invokevirtual 210, 3) rfl) ml_X12_210 ok_Mo_passes (jfit rfl rfl ⟨rfl, rfl⟩ (nle rfl) (nlt rfl)) rfl rfl (nle rfl) ⟨rfl, rfl⟩ hb21 ((c_Mo_passes hw20)) ?_
      refine jite hf (fun hc hf => ?_) (fun hc hf => ?_)
      · refine j_if_eq (dt_Mo_ruleRead 43 (68, .ifCond .eq 13, 3) rfl) rfl (fun _ => ?_) (fun q => absurd hc q)
        refine j_iconst (dt_Mo_ruleRead 49 (81, .iconst 0, 1) rfl) ic_0 ?_
        cases hf
        exact j_zret (x := 0) (dt_Mo_ruleRead 50 (82, .ireturn, 1) rfl) rfl rfl
      · refine j_if_eq (dt_Mo_ruleRead 43 (68, .ifCond .eq 13, 3) rfl) rfl (fun q => absurd q hc) (fun _ => ?_)
        refine j_aload_n (dt_Mo_ruleRead 44 (71, .aload_n 0, 1) rfl) rfl ?_
        refine j_iconst (dt_Mo_ruleRead 45 (72, .iconst 1, 1) rfl) ic_1 ?_
        refine j_bipush (dt_Mo_ruleRead 46 (73, .bipush 9, 2) rfl) bp_9 ?_
        obtain ⟨w22, hw22, hf⟩ := jbind hf
        obtain ⟨b23, hb23⟩ := r_Mo_number hw22
        refine j_callV M_Mo_number 2 [ai 1, ai 9] (rest := []) (dt_Mo_ruleRead 47 (75, .invokevirtual 249, 3) rfl) ml_X12_249 ok_Mo_number (jfit rfl rfl ⟨rfl, rfl⟩ (nle rfl) (nlt rfl)) rfl rfl (nle rfl) ⟨rfl, rfl⟩ hb23 ((c_Mo_number hw22)) ?_
        refine jite hf (fun hc hf => ?_) (fun hc hf => ?_)
        · refine j_if_ne (dt_Mo_ruleRead 48 (78, .ifCond .ne 5, 3) rfl) rfl (fun q => absurd hc q) (fun _ => ?_)
          refine j_iconst (dt_Mo_ruleRead 49 (81, .iconst 0, 1) rfl) ic_0 ?_
          cases hf
          exact j_zret (x := 0) (dt_Mo_ruleRead 50 (82, .ireturn, 1) rfl) rfl rfl
        · refine j_if_ne (dt_Mo_ruleRead 48 (78, .ifCond .ne 5, 3) rfl) rfl (fun _ => ?_) (fun q => absurd q hc)
          refine j_aload_n (dt_Mo_ruleRead 51 (83, .aload_n 0, 1) rfl) rfl ?_
          obtain ⟨x24, hx24, hf⟩ := jbind hf
          refine j_getR (dt_Mo_ruleRead 52 (84, .getfield 35, 3) rfl) fl_X12_35 hx24 (fun _ _ => rfl) ?_
          refine j_iconst (dt_Mo_ruleRead 53 (87, .iconst 1, 1) rfl) ic_1 ?_
          obtain ⟨x25, hx25, hf⟩ := jbind hf
          refine j_aldR 107 (dt_Mo_ruleRead 54 (88, .aaload, 1) rfl) (by decide) hx25 ?_
          refine j_iload_n (dt_Mo_ruleRead 55 (89, .iload_n 2, 1) rfl) rfl ?_
          refine j_aload_n (dt_Mo_ruleRead 56 (90, .aload_n 0, 1) rfl) rfl ?_
          obtain ⟨x26, hx26, hf⟩ := jbind hf
          refine j_getI (dt_Mo_ruleRead 57 (91, .getfield 214, 3) rfl) fl_X12_214 hx26 (fun _ _ => rfl) ?_
          obtain ⟨V27, hV27, hf⟩ := jbind hf
          refine j_astI (dt_Mo_ruleRead 58 (94, .iastore, 1) rfl) hV27 ?_
          refine j_aload_n (dt_Mo_ruleRead 59 (95, .aload_n 0, 1) rfl) rfl ?_
          obtain ⟨x28, hx28, hf⟩ := jbind hf
          refine j_getR (dt_Mo_ruleRead 60 (96, .getfield 38, 3) rfl) fl_X12_38 hx28 (fun _ _ => rfl) ?_
          refine j_iconst (dt_Mo_ruleRead 61 (99, .iconst 1, 1) rfl) ic_1 ?_
          obtain ⟨x29, hx29, hf⟩ := jbind hf
          refine j_aldR 107 (dt_Mo_ruleRead 62 (100, .aaload, 1) rfl) (by decide) hx29 ?_
          refine j_iload_n (dt_Mo_ruleRead 63 (101, .iload_n 2, 1) rfl) rfl ?_
          refine j_iconst (dt_Mo_ruleRead 64 (102, .iconst (-1), 1) rfl) ic_m1 ?_
          obtain ⟨V30, hV30, hf⟩ := jbind hf
          refine j_astI (dt_Mo_ruleRead 65 (103, .iastore, 1) rfl) hV30 ?_
          refine j_aload_n (dt_Mo_ruleRead 66 (104, .aload_n 0, 1) rfl) rfl ?_
          obtain ⟨x31, hx31, hf⟩ := jbind hf
          refine j_getR (dt_Mo_ruleRead 67 (105, .getfield 41, 3) rfl) fl_X12_41 hx31 (fun _ _ => rfl) ?_
          refine j_iconst (dt_Mo_ruleRead 68 (108, .iconst 1, 1) rfl) ic_1 ?_
          obtain ⟨x32, hx32, hf⟩ := jbind hf
          refine j_aldR 107 (dt_Mo_ruleRead 69 (109, .aaload, 1) rfl) (by decide) hx32 ?_
          refine j_iload_n (dt_Mo_ruleRead 70 (110, .iload_n 2, 1) rfl) rfl ?_
          refine j_iconst (dt_Mo_ruleRead 71 (111, .iconst (-1), 1) rfl) ic_m1 ?_
          obtain ⟨V33, hV33, hf⟩ := jbind hf
          refine j_astI (dt_Mo_ruleRead 72 (112, .iastore, 1) rfl) hV33 ?_
          refine j_aload_n (dt_Mo_ruleRead 73 (113, .aload_n 0, 1) rfl) rfl ?_
          refine j_bipush (dt_Mo_ruleRead 74 (114, .bipush 7, 2) rfl) bp_7 ?_
          obtain ⟨x34, hx34, hf⟩ := jbind hf
          obtain ⟨b35, hb35⟩ := r_Mo_isWord hx34
          refine j_callV M_Mo_isWord 1 [ai 7] (rest := []) (dt_Mo_ruleRead 75 (116, .invokevirtual 219, 3) rfl) ml_X12_219 ok_Mo_isWord (jfit rfl rfl ⟨rfl, rfl⟩ (nle rfl) (nlt rfl)) rfl rfl (nle rfl) ⟨rfl, rfl⟩ hb35 ((c_Mo_isWord hx34)) ?_
          obtain ⟨k119, hk119, hf⟩ := jbind hf
          have hE119 : ∀ e119 : hV, k119 = .inl e119 → jJ G M_Mo_ruleRead (jEnd G M_Mo_ruleRead (some (ai res.1)) (S, res.2)) 0 0 149 [(0, ar v0), (2, ai x2)] [] (S, e119) := by
            intro e119 he119
            subst he119
            refine j_aload_n (dt_Mo_ruleRead 94 (149, .aload_n 0, 1) rfl) rfl ?_
            refine j_bipush (dt_Mo_ruleRead 95 (150, .bipush 8, 2) rfl) bp_8 ?_
            obtain ⟨x36, hx36, hf⟩ := jbind hf
            obtain ⟨b37, hb37⟩ := r_Mo_isWord hx36
            refine j_callV M_Mo_isWord 1 [ai 8] (rest := []) (dt_Mo_ruleRead 96 (152, .invokevirtual 219, 3) rfl) ml_X12_219 ok_Mo_isWord (jfit rfl rfl ⟨rfl, rfl⟩ (nle rfl) (nlt rfl)) rfl rfl (nle rfl) ⟨rfl, rfl⟩ hb37 ((c_Mo_isWord hx36)) ?_
            obtain ⟨k155, hk155, hf⟩ := jbind hf
            have hE155 : ∀ e155 : hV, k155 = .inl e155 → jJ G M_Mo_ruleRead (jEnd G M_Mo_ruleRead (some (ai res.1)) (S, res.2)) 0 0 216 [(0, ar v0)] [] (S, e155) := by
              intro e155 he155
              subst he155
              refine j_aload_n (dt_Mo_ruleRead 131 (216, .aload_n 0, 1) rfl) rfl ?_
              obtain ⟨x38, hx38, hf⟩ := jbind hf
              refine j_getR (dt_Mo_ruleRead 132 (217, .getfield 51, 3) rfl) fl_X12_51 hx38 (fun _ _ => rfl) ?_
              refine j_iconst (dt_Mo_ruleRead 133 (220, .iconst 1, 1) rfl) ic_1 ?_
              refine j_dup2 (dt_Mo_ruleRead 134 (221, .dup2, 1) rfl) rfl rfl ?_
              obtain ⟨x39, hx39, hf⟩ := jbind hf
              refine j_aldI (dt_Mo_ruleRead 135 (222, .iaload, 1) rfl) hx39 ?_
              refine j_iconst (dt_Mo_ruleRead 136 (223, .iconst 1, 1) rfl) ic_1 ?_
              refine j_iadd (dt_Mo_ruleRead 137 (224, .iadd, 1) rfl) ?_
              obtain ⟨V40, hV40, hf⟩ := jbind hf
              refine j_astI (dt_Mo_ruleRead 138 (225, .iastore, 1) rfl) hV40 ?_
              refine j_aload_n (dt_Mo_ruleRead 139 (226, .aload_n 0, 1) rfl) rfl ?_
              obtain ⟨w41, hw41, hf⟩ := jbind hf
              obtain ⟨b42, hb42⟩ := r_Mo_closes hw41
              refine j_callV M_Mo_closes 0 [] (rest := []) (dt_Mo_ruleRead 140 (227, .invokevirtual 242, 3) rfl) ml_X12_242 ok_Mo_closes (jfit rfl rfl ⟨rfl, rfl⟩ (nle rfl) (nlt rfl)) rfl rfl (nle rfl) ⟨rfl, rfl⟩ hb42 ((c_Mo_closes hw41)) ?_
              cases hf
              exact j_zretN (dt_Mo_ruleRead 141 (230, .ireturn, 1) rfl) rfl
            refine jite hk155 (fun hc hk155 => ?_) (fun hc hk155 => ?_)
            · refine j_if_eq (dt_Mo_ruleRead 97 (155, .ifCond .eq 61, 3) rfl) rfl (fun _ => ?_) (fun q => absurd hc q)
              cases hk155
              have hz := hE155 _ rfl
              exact j_sub rfl hz
            · refine j_if_eq (dt_Mo_ruleRead 97 (155, .ifCond .eq 61, 3) rfl) rfl (fun q => absurd q hc) (fun _ => ?_)
              refine j_aload_n (dt_Mo_ruleRead 98 (158, .aload_n 0, 1) rfl) rfl ?_
              obtain ⟨V43, hV43, hk155⟩ := jbind hk155
              obtain ⟨b44, hb44⟩ := r_Mo_next hV43
              refine j_callV M_Mo_next 0 [] (rest := []) (dt_Mo_ruleRead 99 (159, .invokevirtual 199, 3) rfl) ml_X12_199 ok_Mo_next (jfit rfl rfl ⟨rfl, rfl⟩ (nle rfl) (nlt rfl)) rfl rfl (nle rfl) ⟨rfl, rfl⟩ hb44 ((c_Mo_next hV43)) ?_
              refine j_aload_n (dt_Mo_ruleRead 100 (162, .aload_n 0, 1) rfl) rfl ?_
              obtain ⟨x45, hx45, hk155⟩ := jbind hk155
              obtain ⟨b46, hb46⟩ := r_Mo_named hx45
              refine j_callV M_Mo_named 0 [] (rest := []) (dt_Mo_ruleRead 101 (163, .invokevirtual 234, 3) rfl) ml_X12_234 ok_Mo_named (jfit rfl rfl ⟨rfl, rfl⟩ (nle rfl) (nlt rfl)) rfl rfl (nle rfl) ⟨rfl, rfl⟩ hb46 ((c_Mo_named hx45)) ?_
              refine j_lstore_n (dt_Mo_ruleRead 102 (166, .lstore_n 3, 1) rfl) (nlt rfl) ?_
              refine j_lload_n (dt_Mo_ruleRead 103 (167, .lload_n 3, 1) rfl) rfl ?_
              refine j_ldc2 (-1) (dt_Mo_ruleRead 104 (168, .ldc2_w 217, 3) rfl) (gt7 27 rfl rfl) ?_
              refine j_lcmp (dt_Mo_ruleRead 105 (171, .lcmp, 1) rfl) ?_
              obtain ⟨j172, hj172, hk155⟩ := jbind hk155
              have hP172 : jJ G M_Mo_ruleRead (jEnd G M_Mo_ruleRead (some (ai res.1)) (S, res.2)) 0 0 184 [(0, ar v0), (2, ai x2)] [ai j172] (S, V43) := by
                refine j_istore (dt_Mo_ruleRead 112 (184, .istore 5, 2) rfl) (nlt rfl) ?_
                refine j_aload_n (dt_Mo_ruleRead 113 (186, .aload_n 0, 1) rfl) rfl ?_
                refine j_iload (dt_Mo_ruleRead 114 (187, .iload 5, 2) rfl) rfl ?_
                refine j_iconst (dt_Mo_ruleRead 115 (189, .iconst (-1), 1) rfl) ic_m1 ?_
                obtain ⟨j190, hj190, hk155⟩ := jbind hk155
                have hP190 : jJ G M_Mo_ruleRead (jEnd G M_Mo_ruleRead (some (ai res.1)) (S, res.2)) 0 0 198 [(0, ar v0), (2, ai x2), (5, ai j172)] [ai j190, ar v0] (S, V43) := by
                  obtain ⟨w47, hw47, hk155⟩ := jbind hk155
                  obtain ⟨b48, hb48⟩ := r_Mo_passes hw47
                  refine j_callV M_Mo_passes 1 [ai j190] (rest := []) (dt_Mo_ruleRead 120 (198, .invokevirtual 210, 3) rfl) ml_X12_210 ok_Mo_passes (jfit rfl rfl ⟨rfl, rfl⟩ (nle rfl) (nlt rfl)) rfl rfl (nle rfl) ⟨rfl, rfl⟩ hb48 ((c_Mo_passes hw47)) ?_
                  refine jite hk155 (fun hc hk155 => ?_) (fun hc hk155 => ?_)
                  · refine j_if_ne (dt_Mo_ruleRead 121 (201, .ifCond .ne 5, 3) rfl) rfl (fun q => absurd hc q) (fun _ => ?_)
                    refine j_iconst (dt_Mo_ruleRead 122 (204, .iconst 0, 1) rfl) ic_0 ?_
                    cases hk155
                    cases hf
                    exact j_zret (x := 0) (dt_Mo_ruleRead 123 (205, .ireturn, 1) rfl) rfl rfl
                  · refine j_if_ne (dt_Mo_ruleRead 121 (201, .ifCond .ne 5, 3) rfl) rfl (fun _ => ?_) (fun q => absurd q hc)
                    refine j_aload_n (dt_Mo_ruleRead 124 (206, .aload_n 0, 1) rfl) rfl ?_
                    obtain ⟨x49, hx49, hk155⟩ := jbind hk155
                    refine j_getR (dt_Mo_ruleRead 125 (207, .getfield 41, 3) rfl) fl_X12_41 hx49 (fun _ _ => rfl) ?_
                    refine j_iconst (dt_Mo_ruleRead 126 (210, .iconst 1, 1) rfl) ic_1 ?_
                    obtain ⟨x50, hx50, hk155⟩ := jbind hk155
                    refine j_aldR 107 (dt_Mo_ruleRead 127 (211, .aaload, 1) rfl) (by decide) hx50 ?_
                    refine j_iload_n (dt_Mo_ruleRead 128 (212, .iload_n 2, 1) rfl) rfl ?_
                    refine j_iload (dt_Mo_ruleRead 129 (213, .iload 5, 2) rfl) rfl ?_
                    obtain ⟨V51, hV51, hk155⟩ := jbind hk155
                    refine j_astI (dt_Mo_ruleRead 130 (215, .iastore, 1) rfl) hV51 ?_
                    cases hk155
                    have hz := hE155 _ rfl
                    exact j_sub rfl hz
                refine jite hj190 (fun hc hj190 => ?_) (fun hc hj190 => ?_)
                · refine j_icmp_eq (dt_Mo_ruleRead 116 (190, .if_icmp .eq 7, 3) rfl) rfl (fun _ => ?_) (fun q => absurd hc q)
                  refine j_iconst (dt_Mo_ruleRead 119 (197, .iconst 0, 1) rfl) ic_0 ?_
                  cases hj190
                  exact j_sub rfl hP190
                · refine j_icmp_eq (dt_Mo_ruleRead 116 (190, .if_icmp .eq 7, 3) rfl) rfl (fun q => absurd q hc) (fun _ => ?_)
                  refine j_iconst (dt_Mo_ruleRead 117 (193, .iconst 1, 1) rfl) ic_1 ?_
                  refine j_goto (dt_Mo_ruleRead 118 (194, .goto 4, 3) rfl) rfl ?_
                  cases hj190
                  exact j_sub rfl hP190
              refine jite hj172 (fun hc hj172 => ?_) (fun hc hj172 => ?_)
              · refine j_if_ne (dt_Mo_ruleRead 106 (172, .ifCond .ne 7, 3) rfl) rfl (fun q => absurd hc q) (fun _ => ?_)
                refine j_iconst (dt_Mo_ruleRead 107 (175, .iconst (-1), 1) rfl) ic_m1 ?_
                refine j_goto (dt_Mo_ruleRead 108 (176, .goto 8, 3) rfl) rfl ?_
                cases hj172
                exact j_sub rfl hP172
              · refine j_if_ne (dt_Mo_ruleRead 106 (172, .ifCond .ne 7, 3) rfl) rfl (fun _ => ?_) (fun q => absurd q hc)
                refine j_aload_n (dt_Mo_ruleRead 109 (179, .aload_n 0, 1) rfl) rfl ?_
                refine j_lload_n (dt_Mo_ruleRead 110 (180, .lload_n 3, 1) rfl) rfl ?_
                obtain ⟨x52, hx52, hj172⟩ := jbind hj172
                obtain ⟨b53, hb53⟩ := r_Mo_markOf hx52
                refine j_callV M_Mo_markOf 1 [al x45] (rest := []) (dt_Mo_ruleRead 111 (181, .invokevirtual 231, 3) rfl) ml_X12_231 ok_Mo_markOf (jfit rfl rfl ⟨rfl, rfl⟩ (nle rfl) (nlt rfl)) rfl rfl (nle rfl) ⟨rfl, rfl⟩ hb53 ((c_Mo_markOf hx52)) ?_
                cases hj172
                exact j_sub rfl hP172
          refine jite hk119 (fun hc hk119 => ?_) (fun hc hk119 => ?_)
          · refine j_if_eq (dt_Mo_ruleRead 76 (119, .ifCond .eq 30, 3) rfl) rfl (fun _ => ?_) (fun q => absurd hc q)
            cases hk119
            have hz := hE119 _ rfl
            exact j_sub rfl hz
          · refine j_if_eq (dt_Mo_ruleRead 76 (119, .ifCond .eq 30, 3) rfl) rfl (fun q => absurd q hc) (fun _ => ?_)
            refine j_aload_n (dt_Mo_ruleRead 77 (122, .aload_n 0, 1) rfl) rfl ?_
            obtain ⟨V54, hV54, hk119⟩ := jbind hk119
            obtain ⟨b55, hb55⟩ := r_Mo_next hV54
            refine j_callV M_Mo_next 0 [] (rest := []) (dt_Mo_ruleRead 78 (123, .invokevirtual 199, 3) rfl) ml_X12_199 ok_Mo_next (jfit rfl rfl ⟨rfl, rfl⟩ (nle rfl) (nlt rfl)) rfl rfl (nle rfl) ⟨rfl, rfl⟩ hb55 ((c_Mo_next hV54)) ?_
            refine j_aload_n (dt_Mo_ruleRead 79 (126, .aload_n 0, 1) rfl) rfl ?_
            refine j_iconst (dt_Mo_ruleRead 80 (127, .iconst 0, 1) rfl) ic_0 ?_
            refine j_iconst (dt_Mo_ruleRead 81 (128, .iconst 3, 1) rfl) ic_3 ?_
            obtain ⟨w56, hw56, hk119⟩ := jbind hk119
            obtain ⟨b57, hb57⟩ := r_Mo_number hw56
            refine j_callV M_Mo_number 2 [ai 0, ai 3] (rest := []) (dt_Mo_ruleRead 82 (129, .invokevirtual 249, 3) rfl) ml_X12_249 ok_Mo_number (jfit rfl rfl ⟨rfl, rfl⟩ (nle rfl) (nlt rfl)) rfl rfl (nle rfl) ⟨rfl, rfl⟩ hb57 ((c_Mo_number hw56)) ?_
            refine jite hk119 (fun hc hk119 => ?_) (fun hc hk119 => ?_)
            · refine j_if_ne (dt_Mo_ruleRead 83 (132, .ifCond .ne 5, 3) rfl) rfl (fun q => absurd hc q) (fun _ => ?_)
              refine j_iconst (dt_Mo_ruleRead 84 (135, .iconst 0, 1) rfl) ic_0 ?_
              cases hk119
              cases hf
              exact j_zret (x := 0) (dt_Mo_ruleRead 85 (136, .ireturn, 1) rfl) rfl rfl
            · refine j_if_ne (dt_Mo_ruleRead 83 (132, .ifCond .ne 5, 3) rfl) rfl (fun _ => ?_) (fun q => absurd q hc)
              refine j_aload_n (dt_Mo_ruleRead 86 (137, .aload_n 0, 1) rfl) rfl ?_
              obtain ⟨x58, hx58, hk119⟩ := jbind hk119
              refine j_getR (dt_Mo_ruleRead 87 (138, .getfield 38, 3) rfl) fl_X12_38 hx58 (fun _ _ => rfl) ?_
              refine j_iconst (dt_Mo_ruleRead 88 (141, .iconst 1, 1) rfl) ic_1 ?_
              obtain ⟨x59, hx59, hk119⟩ := jbind hk119
              refine j_aldR 107 (dt_Mo_ruleRead 89 (142, .aaload, 1) rfl) (by decide) hx59 ?_
              refine j_iload_n (dt_Mo_ruleRead 90 (143, .iload_n 2, 1) rfl) rfl ?_
              refine j_aload_n (dt_Mo_ruleRead 91 (144, .aload_n 0, 1) rfl) rfl ?_
              obtain ⟨x60, hx60, hk119⟩ := jbind hk119
              refine j_getI (dt_Mo_ruleRead 92 (145, .getfield 214, 3) rfl) fl_X12_214 hx60 (fun _ _ => rfl) ?_
              obtain ⟨V61, hV61, hk119⟩ := jbind hk119
              refine j_astI (dt_Mo_ruleRead 93 (148, .iastore, 1) rfl) hV61 ?_
              cases hk119
              have hz := hE119 _ rfl
              exact j_sub rfl hz
theorem r_Mo_ruleRead {S : hS} {V : hV} {v0 : Option Nat} {v1 : Int32} {res : Int32 × hV} (hf : Mo_ruleRead S v0 v1 V = some res) : ∃ b, rc S 12 v0 = some b := by
  unfold Mo_ruleRead at hf
  obtain ⟨b, hb, _⟩ := jbind hf
  exact ⟨b, hb⟩
def tb_Mo_line : List (Nat × Instr × Nat) := [(0, .aload_n 0, 1), (1, .iconst 0, 1), (2, .invokevirtual 219, 3), (5, .ifCond .eq 39, 3), (8, .aload_n 0, 1), (9, .aload_n 0, 1), (10, .getfield 44, 3), (13, .iconst 1, 1), (14, .iaload, 1), (15, .bipush 10, 2), (17, .if_icmp .ge 7, 3), (20, .iconst 1, 1), (21, .goto 4, 3), (24, .iconst 0, 1), (25, .invokevirtual 210, 3), (28, .ifCond .eq 14, 3), (31, .aload_n 0, 1), (32, .invokevirtual 253, 3), (35, .ifCond .eq 7, 3), (38, .iconst 1, 1), (39, .goto 4, 3), (42, .iconst 0, 1), (43, .ireturn, 1), (44, .aload_n 0, 1), (45, .iconst 1, 1), (46, .invokevirtual 219, 3), (49, .ifCond .eq 38, 3), (52, .aload_n 0, 1), (53, .aload_n 0, 1), (54, .getfield 48, 3), (57, .iconst 1, 1), (58, .iaload, 1), (59, .iconst 5, 1), (60, .if_icmp .ge 7, 3), (63, .iconst 1, 1), (64, .goto 4, 3), (67, .iconst 0, 1), (68, .invokevirtual 210, 3), (71, .ifCond .eq 14, 3), (74, .aload_n 0, 1), (75, .invokevirtual 256, 3), (78, .ifCond .eq 7, 3), (81, .iconst 1, 1), (82, .goto 4, 3), (85, .iconst 0, 1), (86, .ireturn, 1), (87, .aload_n 0, 1), (88, .iconst 3, 1), (89, .invokevirtual 219, 3), (92, .ifCond .eq 7, 3), (95, .iconst 0, 1), (96, .goto 28, 3), (99, .aload_n 0, 1), (100, .iconst 4, 1), (101, .invokevirtual 219, 3), (104, .ifCond .eq 7, 3), (107, .iconst 1, 1), (108, .goto 16, 3), (111, .aload_n 0, 1), (112, .iconst 5, 1), (113, .invokevirtual 219, 3), (116, .ifCond .eq 7, 3), (119, .iconst 2, 1), (120, .goto 4, 3), (123, .iconst (-1), 1), (124, .istore_n 1, 1), (125, .aload_n 0, 1), (126, .iload_n 1, 1), (127, .iconst (-1), 1), (128, .if_icmp .eq 18, 3), (131, .aload_n 0, 1), (132, .getfield 51, 3), (135, .iconst 1, 1), (136, .iaload, 1), (137, .bipush 12, 2), (139, .if_icmp .ge 7, 3), (142, .iconst 1, 1), (143, .goto 4, 3), (146, .iconst 0, 1), (147, .invokevirtual 210, 3), (150, .ifCond .eq 15, 3), (153, .aload_n 0, 1), (154, .iload_n 1, 1), (155, .invokevirtual 259, 3), (158, .ifCond .eq 7, 3), (161, .iconst 1, 1), (162, .goto 4, 3), (165, .iconst 0, 1), (166, .ireturn, 1)]
theorem dt_Mo_line (i : Nat) (q : Nat × Instr × Nat) (h : tb_Mo_line[i]? = some q) : decode prog_14_method_20_code q.1 = .ok q.2 := jdt (by decide +kernel : tb_Mo_line.all (fun q => decide (decode prog_14_method_20_code q.1 = .ok q.2)) = true) h
theorem ok_Mo_line : jOKV M_Mo_line 0 := ⟨⟨gt7 8 rfl rfl, gt1 17 rfl rfl, (by decide : "FirstInModel" ≠ "java/lang/invoke/MethodHandle"), (by decide : "FirstInModel" ≠ "java/lang/invoke/VarHandle"), (by decide +kernel : (parseMethodDescriptor "()Z").map (fun d => d.parameters.length) = some 0)⟩, gt7 7 rfl rfl, gs_in 8 rfl, rfl, nlt rfl⟩
set_option maxRecDepth 100000 in
set_option maxHeartbeats 4000000 in
theorem c_Mo_line {G : jG} {S : hS} {V : hV} {v0 : Option Nat} {res : Int32 × hV} (hf : Mo_line S v0 V = some res) : jC G M_Mo_line [ar v0] (S, V) (some (ai res.1)) (S, res.2) := by
  unfold Mo_line at hf
  obtain ⟨_, _, hf⟩ := jbind hf
  refine jC_of (pf_X12 _ _) rfl (nle rfl) ?_
  show jJ G M_Mo_line (jEnd G M_Mo_line (some (ai res.1)) (S, res.2)) 0 0 0 [(0, ar v0)] [] (S, V)
  refine j_aload_n (dt_Mo_line 0 (0, .aload_n 0, 1) rfl) rfl ?_
  refine j_iconst (dt_Mo_line 1 (1, .iconst 0, 1) rfl) ic_0 ?_
  obtain ⟨x1, hx1, hf⟩ := jbind hf
  obtain ⟨b2, hb2⟩ := r_Mo_isWord hx1
  refine j_callV M_Mo_isWord 1 [ai 0] (rest := []) (dt_Mo_line 2 (2, .invokevirtual 219, 3) rfl) ml_X12_219 ok_Mo_isWord (jfit rfl rfl ⟨rfl, rfl⟩ (nle rfl) (nlt rfl)) rfl rfl (nle rfl) ⟨rfl, rfl⟩ hb2 ((c_Mo_isWord hx1)) ?_
  refine jite hf (fun hc hf => ?_) (fun hc hf => ?_)
  · refine j_if_eq (dt_Mo_line 3 (5, .ifCond .eq 39, 3) rfl) rfl (fun _ => ?_) (fun q => absurd hc q)
    refine j_aload_n (dt_Mo_line 23 (44, .aload_n 0, 1) rfl) rfl ?_
    refine j_iconst (dt_Mo_line 24 (45, .iconst 1, 1) rfl) ic_1 ?_
    obtain ⟨x3, hx3, hf⟩ := jbind hf
    obtain ⟨b4, hb4⟩ := r_Mo_isWord hx3
    refine j_callV M_Mo_isWord 1 [ai 1] (rest := []) (dt_Mo_line 25 (46, .invokevirtual 219, 3) rfl) ml_X12_219 ok_Mo_isWord (jfit rfl rfl ⟨rfl, rfl⟩ (nle rfl) (nlt rfl)) rfl rfl (nle rfl) ⟨rfl, rfl⟩ hb4 ((c_Mo_isWord hx3)) ?_
    refine jite hf (fun hc hf => ?_) (fun hc hf => ?_)
    · refine j_if_eq (dt_Mo_line 26 (49, .ifCond .eq 38, 3) rfl) rfl (fun _ => ?_) (fun q => absurd hc q)
      refine j_aload_n (dt_Mo_line 46 (87, .aload_n 0, 1) rfl) rfl ?_
      refine j_iconst (dt_Mo_line 47 (88, .iconst 3, 1) rfl) ic_3 ?_
      obtain ⟨x5, hx5, hf⟩ := jbind hf
      obtain ⟨b6, hb6⟩ := r_Mo_isWord hx5
      refine j_callV M_Mo_isWord 1 [ai 3] (rest := []) (dt_Mo_line 48 (89, .invokevirtual 219, 3) rfl) ml_X12_219 ok_Mo_isWord (jfit rfl rfl ⟨rfl, rfl⟩ (nle rfl) (nlt rfl)) rfl rfl (nle rfl) ⟨rfl, rfl⟩ hb6 ((c_Mo_isWord hx5)) ?_
      obtain ⟨j92, hj92, hf⟩ := jbind hf
      have hP92 : jJ G M_Mo_line (jEnd G M_Mo_line (some (ai res.1)) (S, res.2)) 0 0 124 [(0, ar v0)] [ai j92] (S, V) := by
        refine j_istore_n (dt_Mo_line 65 (124, .istore_n 1, 1) rfl) (nlt rfl) ?_
        refine j_aload_n (dt_Mo_line 66 (125, .aload_n 0, 1) rfl) rfl ?_
        refine j_iload_n (dt_Mo_line 67 (126, .iload_n 1, 1) rfl) rfl ?_
        refine j_iconst (dt_Mo_line 68 (127, .iconst (-1), 1) rfl) ic_m1 ?_
        obtain ⟨j128, hj128, hf⟩ := jbind hf
        have hP128 : jJ G M_Mo_line (jEnd G M_Mo_line (some (ai res.1)) (S, res.2)) 0 0 147 [(0, ar v0), (1, ai j92)] [ai j128, ar v0] (S, V) := by
          obtain ⟨w7, hw7, hf⟩ := jbind hf
          obtain ⟨b8, hb8⟩ := r_Mo_passes hw7
          refine j_callV M_Mo_passes 1 [ai j128] (rest := []) (dt_Mo_line 79 (147, .invokevirtual 210, 3) rfl) ml_X12_210 ok_Mo_passes (jfit rfl rfl ⟨rfl, rfl⟩ (nle rfl) (nlt rfl)) rfl rfl (nle rfl) ⟨rfl, rfl⟩ hb8 ((c_Mo_passes hw7)) ?_
          refine jite hf (fun hc hf => ?_) (fun hc hf => ?_)
          · refine j_if_eq (dt_Mo_line 80 (150, .ifCond .eq 15, 3) rfl) rfl (fun _ => ?_) (fun q => absurd hc q)
            refine j_iconst (dt_Mo_line 87 (165, .iconst 0, 1) rfl) ic_0 ?_
            cases hf
            exact j_zret (x := 0) (dt_Mo_line 88 (166, .ireturn, 1) rfl) rfl rfl
          · refine j_if_eq (dt_Mo_line 80 (150, .ifCond .eq 15, 3) rfl) rfl (fun q => absurd q hc) (fun _ => ?_)
            refine j_aload_n (dt_Mo_line 81 (153, .aload_n 0, 1) rfl) rfl ?_
            refine j_iload_n (dt_Mo_line 82 (154, .iload_n 1, 1) rfl) rfl ?_
            obtain ⟨w9, hw9, hf⟩ := jbind hf
            obtain ⟨b10, hb10⟩ := r_Mo_ruleRead hw9
            refine j_callV M_Mo_ruleRead 1 [ai j92] (rest := []) (dt_Mo_line 83 (155, .invokevirtual 259, 3) rfl) ml_X12_259 ok_Mo_ruleRead (jfit rfl rfl ⟨rfl, rfl⟩ (nle rfl) (nlt rfl)) rfl rfl (nle rfl) ⟨rfl, rfl⟩ hb10 ((c_Mo_ruleRead hw9)) ?_
            refine jite hf (fun hc hf => ?_) (fun hc hf => ?_)
            · refine j_if_eq (dt_Mo_line 84 (158, .ifCond .eq 7, 3) rfl) rfl (fun _ => ?_) (fun q => absurd hc q)
              refine j_iconst (dt_Mo_line 87 (165, .iconst 0, 1) rfl) ic_0 ?_
              cases hf
              exact j_zret (x := 0) (dt_Mo_line 88 (166, .ireturn, 1) rfl) rfl rfl
            · refine j_if_eq (dt_Mo_line 84 (158, .ifCond .eq 7, 3) rfl) rfl (fun q => absurd q hc) (fun _ => ?_)
              refine j_iconst (dt_Mo_line 85 (161, .iconst 1, 1) rfl) ic_1 ?_
              refine j_goto (dt_Mo_line 86 (162, .goto 4, 3) rfl) rfl ?_
              cases hf
              exact j_zret (x := 1) (dt_Mo_line 88 (166, .ireturn, 1) rfl) rfl rfl
        refine jite hj128 (fun hc hj128 => ?_) (fun hc hj128 => ?_)
        · refine j_icmp_eq (dt_Mo_line 69 (128, .if_icmp .eq 18, 3) rfl) rfl (fun _ => ?_) (fun q => absurd hc q)
          refine j_iconst (dt_Mo_line 78 (146, .iconst 0, 1) rfl) ic_0 ?_
          cases hj128
          exact j_sub rfl hP128
        · refine j_icmp_eq (dt_Mo_line 69 (128, .if_icmp .eq 18, 3) rfl) rfl (fun q => absurd q hc) (fun _ => ?_)
          refine j_aload_n (dt_Mo_line 70 (131, .aload_n 0, 1) rfl) rfl ?_
          obtain ⟨x11, hx11, hj128⟩ := jbind hj128
          refine j_getR (dt_Mo_line 71 (132, .getfield 51, 3) rfl) fl_X12_51 hx11 (fun _ _ => rfl) ?_
          refine j_iconst (dt_Mo_line 72 (135, .iconst 1, 1) rfl) ic_1 ?_
          obtain ⟨x12, hx12, hj128⟩ := jbind hj128
          refine j_aldI (dt_Mo_line 73 (136, .iaload, 1) rfl) hx12 ?_
          refine j_bipush (dt_Mo_line 74 (137, .bipush 12, 2) rfl) bp_12 ?_
          refine jite hj128 (fun hc hj128 => ?_) (fun hc hj128 => ?_)
          · refine j_icmp_ge (dt_Mo_line 75 (139, .if_icmp .ge 7, 3) rfl) rfl (fun _ => ?_) (fun q => absurd hc q)
            refine j_iconst (dt_Mo_line 78 (146, .iconst 0, 1) rfl) ic_0 ?_
            cases hj128
            exact j_sub rfl hP128
          · refine j_icmp_ge (dt_Mo_line 75 (139, .if_icmp .ge 7, 3) rfl) rfl (fun q => absurd q hc) (fun _ => ?_)
            refine j_iconst (dt_Mo_line 76 (142, .iconst 1, 1) rfl) ic_1 ?_
            refine j_goto (dt_Mo_line 77 (143, .goto 4, 3) rfl) rfl ?_
            cases hj128
            exact j_sub rfl hP128
      refine jite hj92 (fun hc hj92 => ?_) (fun hc hj92 => ?_)
      · refine j_if_eq (dt_Mo_line 49 (92, .ifCond .eq 7, 3) rfl) rfl (fun _ => ?_) (fun q => absurd hc q)
        refine j_aload_n (dt_Mo_line 52 (99, .aload_n 0, 1) rfl) rfl ?_
        refine j_iconst (dt_Mo_line 53 (100, .iconst 4, 1) rfl) ic_4 ?_
        obtain ⟨x13, hx13, hj92⟩ := jbind hj92
        obtain ⟨b14, hb14⟩ := r_Mo_isWord hx13
        refine j_callV M_Mo_isWord 1 [ai 4] (rest := []) (dt_Mo_line 54 (101, .invokevirtual 219, 3) rfl) ml_X12_219 ok_Mo_isWord (jfit rfl rfl ⟨rfl, rfl⟩ (nle rfl) (nlt rfl)) rfl rfl (nle rfl) ⟨rfl, rfl⟩ hb14 ((c_Mo_isWord hx13)) ?_
        refine jite hj92 (fun hc hj92 => ?_) (fun hc hj92 => ?_)
        · refine j_if_eq (dt_Mo_line 55 (104, .ifCond .eq 7, 3) rfl) rfl (fun _ => ?_) (fun q => absurd hc q)
          refine j_aload_n (dt_Mo_line 58 (111, .aload_n 0, 1) rfl) rfl ?_
          refine j_iconst (dt_Mo_line 59 (112, .iconst 5, 1) rfl) ic_5 ?_
          obtain ⟨x15, hx15, hj92⟩ := jbind hj92
          obtain ⟨b16, hb16⟩ := r_Mo_isWord hx15
          refine j_callV M_Mo_isWord 1 [ai 5] (rest := []) (dt_Mo_line 60 (113, .invokevirtual 219, 3) rfl) ml_X12_219 ok_Mo_isWord (jfit rfl rfl ⟨rfl, rfl⟩ (nle rfl) (nlt rfl)) rfl rfl (nle rfl) ⟨rfl, rfl⟩ hb16 ((c_Mo_isWord hx15)) ?_
          refine jite hj92 (fun hc hj92 => ?_) (fun hc hj92 => ?_)
          · refine j_if_eq (dt_Mo_line 61 (116, .ifCond .eq 7, 3) rfl) rfl (fun _ => ?_) (fun q => absurd hc q)
            refine j_iconst (dt_Mo_line 64 (123, .iconst (-1), 1) rfl) ic_m1 ?_
            cases hj92
            exact j_sub rfl hP92
          · refine j_if_eq (dt_Mo_line 61 (116, .ifCond .eq 7, 3) rfl) rfl (fun q => absurd q hc) (fun _ => ?_)
            refine j_iconst (dt_Mo_line 62 (119, .iconst 2, 1) rfl) ic_2 ?_
            refine j_goto (dt_Mo_line 63 (120, .goto 4, 3) rfl) rfl ?_
            cases hj92
            exact j_sub rfl hP92
        · refine j_if_eq (dt_Mo_line 55 (104, .ifCond .eq 7, 3) rfl) rfl (fun q => absurd q hc) (fun _ => ?_)
          refine j_iconst (dt_Mo_line 56 (107, .iconst 1, 1) rfl) ic_1 ?_
          refine j_goto (dt_Mo_line 57 (108, .goto 16, 3) rfl) rfl ?_
          cases hj92
          exact j_sub rfl hP92
      · refine j_if_eq (dt_Mo_line 49 (92, .ifCond .eq 7, 3) rfl) rfl (fun q => absurd q hc) (fun _ => ?_)
        refine j_iconst (dt_Mo_line 50 (95, .iconst 0, 1) rfl) ic_0 ?_
        refine j_goto (dt_Mo_line 51 (96, .goto 28, 3) rfl) rfl ?_
        cases hj92
        exact j_sub rfl hP92
    · refine j_if_eq (dt_Mo_line 26 (49, .ifCond .eq 38, 3) rfl) rfl (fun q => absurd q hc) (fun _ => ?_)
      refine j_aload_n (dt_Mo_line 27 (52, .aload_n 0, 1) rfl) rfl ?_
      refine j_aload_n (dt_Mo_line 28 (53, .aload_n 0, 1) rfl) rfl ?_
      obtain ⟨x17, hx17, hf⟩ := jbind hf
      refine j_getR (dt_Mo_line 29 (54, .getfield 48, 3) rfl) fl_X12_48 hx17 (fun _ _ => rfl) ?_
      refine j_iconst (dt_Mo_line 30 (57, .iconst 1, 1) rfl) ic_1 ?_
      obtain ⟨x18, hx18, hf⟩ := jbind hf
      refine j_aldI (dt_Mo_line 31 (58, .iaload, 1) rfl) hx18 ?_
      refine j_iconst (dt_Mo_line 32 (59, .iconst 5, 1) rfl) ic_5 ?_
      obtain ⟨j60, hj60, hf⟩ := jbind hf
      have hP60 : jJ G M_Mo_line (jEnd G M_Mo_line (some (ai res.1)) (S, res.2)) 0 0 68 [(0, ar v0)] [ai j60, ar v0] (S, V) := by
        obtain ⟨w19, hw19, hf⟩ := jbind hf
        obtain ⟨b20, hb20⟩ := r_Mo_passes hw19
        refine j_callV M_Mo_passes 1 [ai j60] (rest := []) (dt_Mo_line 37 (68, .invokevirtual 210, 3) rfl) ml_X12_210 ok_Mo_passes (jfit rfl rfl ⟨rfl, rfl⟩ (nle rfl) (nlt rfl)) rfl rfl (nle rfl) ⟨rfl, rfl⟩ hb20 ((c_Mo_passes hw19)) ?_
        refine jite hf (fun hc hf => ?_) (fun hc hf => ?_)
        · refine j_if_eq (dt_Mo_line 38 (71, .ifCond .eq 14, 3) rfl) rfl (fun _ => ?_) (fun q => absurd hc q)
          refine j_iconst (dt_Mo_line 44 (85, .iconst 0, 1) rfl) ic_0 ?_
          cases hf
          exact j_zret (x := 0) (dt_Mo_line 45 (86, .ireturn, 1) rfl) rfl rfl
        · refine j_if_eq (dt_Mo_line 38 (71, .ifCond .eq 14, 3) rfl) rfl (fun q => absurd q hc) (fun _ => ?_)
          refine j_aload_n (dt_Mo_line 39 (74, .aload_n 0, 1) rfl) rfl ?_
          obtain ⟨w21, hw21, hf⟩ := jbind hf
          obtain ⟨b22, hb22⟩ := r_Mo_markRead hw21
          refine j_callV M_Mo_markRead 0 [] (rest := []) (dt_Mo_line 40 (75, .invokevirtual 256, 3) rfl) ml_X12_256 ok_Mo_markRead (jfit rfl rfl ⟨rfl, rfl⟩ (nle rfl) (nlt rfl)) rfl rfl (nle rfl) ⟨rfl, rfl⟩ hb22 ((c_Mo_markRead hw21)) ?_
          refine jite hf (fun hc hf => ?_) (fun hc hf => ?_)
          · refine j_if_eq (dt_Mo_line 41 (78, .ifCond .eq 7, 3) rfl) rfl (fun _ => ?_) (fun q => absurd hc q)
            refine j_iconst (dt_Mo_line 44 (85, .iconst 0, 1) rfl) ic_0 ?_
            cases hf
            exact j_zret (x := 0) (dt_Mo_line 45 (86, .ireturn, 1) rfl) rfl rfl
          · refine j_if_eq (dt_Mo_line 41 (78, .ifCond .eq 7, 3) rfl) rfl (fun q => absurd q hc) (fun _ => ?_)
            refine j_iconst (dt_Mo_line 42 (81, .iconst 1, 1) rfl) ic_1 ?_
            refine j_goto (dt_Mo_line 43 (82, .goto 4, 3) rfl) rfl ?_
            cases hf
            exact j_zret (x := 1) (dt_Mo_line 45 (86, .ireturn, 1) rfl) rfl rfl
      refine jite hj60 (fun hc hj60 => ?_) (fun hc hj60 => ?_)
      · refine j_icmp_ge (dt_Mo_line 33 (60, .if_icmp .ge 7, 3) rfl) rfl (fun _ => ?_) (fun q => absurd hc q)
        refine j_iconst (dt_Mo_line 36 (67, .iconst 0, 1) rfl) ic_0 ?_
        cases hj60
        exact j_sub rfl hP60
      · refine j_icmp_ge (dt_Mo_line 33 (60, .if_icmp .ge 7, 3) rfl) rfl (fun q => absurd q hc) (fun _ => ?_)
        refine j_iconst (dt_Mo_line 34 (63, .iconst 1, 1) rfl) ic_1 ?_
        refine j_goto (dt_Mo_line 35 (64, .goto 4, 3) rfl) rfl ?_
        cases hj60
        exact j_sub rfl hP60
  · refine j_if_eq (dt_Mo_line 3 (5, .ifCond .eq 39, 3) rfl) rfl (fun q => absurd q hc) (fun _ => ?_)
    refine j_aload_n (dt_Mo_line 4 (8, .aload_n 0, 1) rfl) rfl ?_
    refine j_aload_n (dt_Mo_line 5 (9, .aload_n 0, 1) rfl) rfl ?_
    obtain ⟨x23, hx23, hf⟩ := jbind hf
    refine j_getR (dt_Mo_line 6 (10, .getfield 44, 3) rfl) fl_X12_44 hx23 (fun _ _ => rfl) ?_
    refine j_iconst (dt_Mo_line 7 (13, .iconst 1, 1) rfl) ic_1 ?_
    obtain ⟨x24, hx24, hf⟩ := jbind hf
    refine j_aldI (dt_Mo_line 8 (14, .iaload, 1) rfl) hx24 ?_
    refine j_bipush (dt_Mo_line 9 (15, .bipush 10, 2) rfl) bp_10 ?_
    obtain ⟨j17, hj17, hf⟩ := jbind hf
    have hP17 : jJ G M_Mo_line (jEnd G M_Mo_line (some (ai res.1)) (S, res.2)) 0 0 25 [(0, ar v0)] [ai j17, ar v0] (S, V) := by
      obtain ⟨w25, hw25, hf⟩ := jbind hf
      obtain ⟨b26, hb26⟩ := r_Mo_passes hw25
      refine j_callV M_Mo_passes 1 [ai j17] (rest := []) (dt_Mo_line 14 (25, .invokevirtual 210, 3) rfl) ml_X12_210 ok_Mo_passes (jfit rfl rfl ⟨rfl, rfl⟩ (nle rfl) (nlt rfl)) rfl rfl (nle rfl) ⟨rfl, rfl⟩ hb26 ((c_Mo_passes hw25)) ?_
      refine jite hf (fun hc hf => ?_) (fun hc hf => ?_)
      · refine j_if_eq (dt_Mo_line 15 (28, .ifCond .eq 14, 3) rfl) rfl (fun _ => ?_) (fun q => absurd hc q)
        refine j_iconst (dt_Mo_line 21 (42, .iconst 0, 1) rfl) ic_0 ?_
        cases hf
        exact j_zret (x := 0) (dt_Mo_line 22 (43, .ireturn, 1) rfl) rfl rfl
      · refine j_if_eq (dt_Mo_line 15 (28, .ifCond .eq 14, 3) rfl) rfl (fun q => absurd q hc) (fun _ => ?_)
        refine j_aload_n (dt_Mo_line 16 (31, .aload_n 0, 1) rfl) rfl ?_
        obtain ⟨w27, hw27, hf⟩ := jbind hf
        obtain ⟨b28, hb28⟩ := r_Mo_guestRead hw27
        refine j_callV M_Mo_guestRead 0 [] (rest := []) (dt_Mo_line 17 (32, .invokevirtual 253, 3) rfl) ml_X12_253 ok_Mo_guestRead (jfit rfl rfl ⟨rfl, rfl⟩ (nle rfl) (nlt rfl)) rfl rfl (nle rfl) ⟨rfl, rfl⟩ hb28 ((c_Mo_guestRead hw27)) ?_
        refine jite hf (fun hc hf => ?_) (fun hc hf => ?_)
        · refine j_if_eq (dt_Mo_line 18 (35, .ifCond .eq 7, 3) rfl) rfl (fun _ => ?_) (fun q => absurd hc q)
          refine j_iconst (dt_Mo_line 21 (42, .iconst 0, 1) rfl) ic_0 ?_
          cases hf
          exact j_zret (x := 0) (dt_Mo_line 22 (43, .ireturn, 1) rfl) rfl rfl
        · refine j_if_eq (dt_Mo_line 18 (35, .ifCond .eq 7, 3) rfl) rfl (fun q => absurd q hc) (fun _ => ?_)
          refine j_iconst (dt_Mo_line 19 (38, .iconst 1, 1) rfl) ic_1 ?_
          refine j_goto (dt_Mo_line 20 (39, .goto 4, 3) rfl) rfl ?_
          cases hf
          exact j_zret (x := 1) (dt_Mo_line 22 (43, .ireturn, 1) rfl) rfl rfl
    refine jite hj17 (fun hc hj17 => ?_) (fun hc hj17 => ?_)
    · refine j_icmp_ge (dt_Mo_line 10 (17, .if_icmp .ge 7, 3) rfl) rfl (fun _ => ?_) (fun q => absurd hc q)
      refine j_iconst (dt_Mo_line 13 (24, .iconst 0, 1) rfl) ic_0 ?_
      cases hj17
      exact j_sub rfl hP17
    · refine j_icmp_ge (dt_Mo_line 10 (17, .if_icmp .ge 7, 3) rfl) rfl (fun q => absurd q hc) (fun _ => ?_)
      refine j_iconst (dt_Mo_line 11 (20, .iconst 1, 1) rfl) ic_1 ?_
      refine j_goto (dt_Mo_line 12 (21, .goto 4, 3) rfl) rfl ?_
      cases hj17
      exact j_sub rfl hP17
theorem r_Mo_line {S : hS} {V : hV} {v0 : Option Nat} {res : Int32 × hV} (hf : Mo_line S v0 V = some res) : ∃ b, rc S 12 v0 = some b := by
  unfold Mo_line at hf
  obtain ⟨b, hb, _⟩ := jbind hf
  exact ⟨b, hb⟩
def tb_Mo_reads : List (Nat × Instr × Nat) := [(0, .aload_n 0, 1), (1, .iconst (-1), 1), (2, .putfield 196, 3), (5, .aload_n 0, 1), (6, .getfield 44, 3), (9, .iconst 1, 1), (10, .iconst 0, 1), (11, .iastore, 1), (12, .aload_n 0, 1), (13, .getfield 48, 3), (16, .iconst 1, 1), (17, .iconst 0, 1), (18, .iastore, 1), (19, .aload_n 0, 1), (20, .getfield 51, 3), (23, .iconst 1, 1), (24, .iconst 0, 1), (25, .iastore, 1), (26, .aload_n 0, 1), (27, .iconst 0, 1), (28, .putfield 186, 3), (31, .aload_n 0, 1), (32, .invokevirtual 199, 3), (35, .iconst 1, 1), (36, .istore_n 1, 1), (37, .iload_n 1, 1), (38, .ifCond .eq 22, 3), (41, .aload_n 0, 1), (42, .getfield 189, 3), (45, .aload_n 0, 1), (46, .getfield 175, 3), (49, .if_icmp .ge 11, 3), (52, .aload_n 0, 1), (53, .invokevirtual 262, 3), (56, .istore_n 1, 1), (57, .goto (-20), 3), (60, .iload_n 1, 1), (61, .ifCond .eq 20, 3), (64, .aload_n 0, 1), (65, .getfield 44, 3), (68, .iconst 1, 1), (69, .iaload, 1), (70, .ifCond .ne 11, 3), (73, .aload_n 0, 1), (74, .aload_n 0, 1), (75, .getfield 175, 3), (78, .putfield 196, 3), (81, .return_, 1)]
theorem dt_Mo_reads (i : Nat) (q : Nat × Instr × Nat) (h : tb_Mo_reads[i]? = some q) : decode prog_14_method_21_code q.1 = .ok q.2 := jdt (by decide +kernel : tb_Mo_reads.all (fun q => decide (decode prog_14_method_21_code q.1 = .ok q.2)) = true) h
theorem ok_Mo_reads : jOKV M_Mo_reads 0 := ⟨⟨gt6 236 rfl rfl, gt1 17 rfl rfl, (by decide : "FirstInModel" ≠ "java/lang/invoke/MethodHandle"), (by decide : "FirstInModel" ≠ "java/lang/invoke/VarHandle"), (by decide +kernel : (parseMethodDescriptor "()V").map (fun d => d.parameters.length) = some 0)⟩, gt6 235 rfl rfl, gs_in 5 rfl, rfl, nlt rfl⟩
set_option maxRecDepth 100000 in
set_option maxHeartbeats 4000000 in
theorem c_Mo_reads {G : jG} {S : hS} {V : hV} {v0 : Option Nat} {res : hV} (hf : Mo_reads S v0 V = some res) : jC G M_Mo_reads [ar v0] (S, V) none (S, res) := by
  unfold Mo_reads at hf
  obtain ⟨_, _, hf⟩ := jbind hf
  refine jC_of (pf_X12 _ _) rfl (nle rfl) ?_
  show jJ G M_Mo_reads (jEnd G M_Mo_reads none (S, res)) 0 0 0 [(0, ar v0)] [] (S, V)
  refine j_aload_n (dt_Mo_reads 0 (0, .aload_n 0, 1) rfl) rfl ?_
  refine j_iconst (dt_Mo_reads 1 (1, .iconst (-1), 1) rfl) ic_m1 ?_
  obtain ⟨V1, hV1, hf⟩ := jbind hf
  refine j_putI (dt_Mo_reads 2 (2, .putfield 196, 3) rfl) fl_X12_196 hV1 rfl (Or.inl rfl) ?_
  refine j_aload_n (dt_Mo_reads 3 (5, .aload_n 0, 1) rfl) rfl ?_
  obtain ⟨x2, hx2, hf⟩ := jbind hf
  refine j_getR (dt_Mo_reads 4 (6, .getfield 44, 3) rfl) fl_X12_44 hx2 (fun _ _ => rfl) ?_
  refine j_iconst (dt_Mo_reads 5 (9, .iconst 1, 1) rfl) ic_1 ?_
  refine j_iconst (dt_Mo_reads 6 (10, .iconst 0, 1) rfl) ic_0 ?_
  obtain ⟨V3, hV3, hf⟩ := jbind hf
  refine j_astI (dt_Mo_reads 7 (11, .iastore, 1) rfl) hV3 ?_
  refine j_aload_n (dt_Mo_reads 8 (12, .aload_n 0, 1) rfl) rfl ?_
  obtain ⟨x4, hx4, hf⟩ := jbind hf
  refine j_getR (dt_Mo_reads 9 (13, .getfield 48, 3) rfl) fl_X12_48 hx4 (fun _ _ => rfl) ?_
  refine j_iconst (dt_Mo_reads 10 (16, .iconst 1, 1) rfl) ic_1 ?_
  refine j_iconst (dt_Mo_reads 11 (17, .iconst 0, 1) rfl) ic_0 ?_
  obtain ⟨V5, hV5, hf⟩ := jbind hf
  refine j_astI (dt_Mo_reads 12 (18, .iastore, 1) rfl) hV5 ?_
  refine j_aload_n (dt_Mo_reads 13 (19, .aload_n 0, 1) rfl) rfl ?_
  obtain ⟨x6, hx6, hf⟩ := jbind hf
  refine j_getR (dt_Mo_reads 14 (20, .getfield 51, 3) rfl) fl_X12_51 hx6 (fun _ _ => rfl) ?_
  refine j_iconst (dt_Mo_reads 15 (23, .iconst 1, 1) rfl) ic_1 ?_
  refine j_iconst (dt_Mo_reads 16 (24, .iconst 0, 1) rfl) ic_0 ?_
  obtain ⟨V7, hV7, hf⟩ := jbind hf
  refine j_astI (dt_Mo_reads 17 (25, .iastore, 1) rfl) hV7 ?_
  refine j_aload_n (dt_Mo_reads 18 (26, .aload_n 0, 1) rfl) rfl ?_
  refine j_iconst (dt_Mo_reads 19 (27, .iconst 0, 1) rfl) ic_0 ?_
  obtain ⟨V8, hV8, hf⟩ := jbind hf
  refine j_putI (dt_Mo_reads 20 (28, .putfield 186, 3) rfl) fl_X12_186 hV8 rfl (Or.inl rfl) ?_
  refine j_aload_n (dt_Mo_reads 21 (31, .aload_n 0, 1) rfl) rfl ?_
  obtain ⟨V9, hV9, hf⟩ := jbind hf
  obtain ⟨b10, hb10⟩ := r_Mo_next hV9
  refine j_callV M_Mo_next 0 [] (rest := []) (dt_Mo_reads 22 (32, .invokevirtual 199, 3) rfl) ml_X12_199 ok_Mo_next (jfit rfl rfl ⟨rfl, rfl⟩ (nle rfl) (nlt rfl)) rfl rfl (nle rfl) ⟨rfl, rfl⟩ hb10 ((c_Mo_next hV9)) ?_
  refine j_iconst (dt_Mo_reads 23 (35, .iconst 1, 1) rfl) ic_1 ?_
  refine j_istore_n (dt_Mo_reads 24 (36, .istore_n 1, 1) rfl) (nlt rfl) ?_
  obtain ⟨t37, ht37, hf⟩ := jbind hf
  have hX37 : ∀ q37 : Int32 × hV, q37 = t37 → jJ G M_Mo_reads (jEnd G M_Mo_reads none (S, res)) 0 0 60 [(0, ar v0), (1, ai q37.1)] [] (S, q37.2) := by
    intro q37 hq37
    subst hq37
    refine j_iload_n (dt_Mo_reads 36 (60, .iload_n 1, 1) rfl) rfl ?_
    refine jite hf (fun hc hf => ?_) (fun hc hf => ?_)
    · refine j_if_eq (dt_Mo_reads 37 (61, .ifCond .eq 20, 3) rfl) rfl (fun _ => ?_) (fun q => absurd hc q)
      cases hf
      exact j_vret (dt_Mo_reads 47 (81, .return_, 1) rfl) rfl
    · refine j_if_eq (dt_Mo_reads 37 (61, .ifCond .eq 20, 3) rfl) rfl (fun q => absurd q hc) (fun _ => ?_)
      refine j_aload_n (dt_Mo_reads 38 (64, .aload_n 0, 1) rfl) rfl ?_
      obtain ⟨x15, hx15, hf⟩ := jbind hf
      refine j_getR (dt_Mo_reads 39 (65, .getfield 44, 3) rfl) fl_X12_44 hx15 (fun _ _ => rfl) ?_
      refine j_iconst (dt_Mo_reads 40 (68, .iconst 1, 1) rfl) ic_1 ?_
      obtain ⟨x16, hx16, hf⟩ := jbind hf
      refine j_aldI (dt_Mo_reads 41 (69, .iaload, 1) rfl) hx16 ?_
      refine jite hf (fun hc hf => ?_) (fun hc hf => ?_)
      · refine j_if_ne (dt_Mo_reads 42 (70, .ifCond .ne 11, 3) rfl) rfl (fun q => absurd hc q) (fun _ => ?_)
        refine j_aload_n (dt_Mo_reads 43 (73, .aload_n 0, 1) rfl) rfl ?_
        refine j_aload_n (dt_Mo_reads 44 (74, .aload_n 0, 1) rfl) rfl ?_
        obtain ⟨x17, hx17, hf⟩ := jbind hf
        refine j_getI (dt_Mo_reads 45 (75, .getfield 175, 3) rfl) fl_X12_175 hx17 (fun _ _ => rfl) ?_
        obtain ⟨V18, hV18, hf⟩ := jbind hf
        refine j_putI (dt_Mo_reads 46 (78, .putfield 196, 3) rfl) fl_X12_196 hV18 rfl (Or.inl rfl) ?_
        cases hf
        exact j_vret (dt_Mo_reads 47 (81, .return_, 1) rfl) rfl
      · refine j_if_ne (dt_Mo_reads 42 (70, .ifCond .ne 11, 3) rfl) rfl (fun _ => ?_) (fun q => absurd q hc)
        cases hf
        exact j_vret (dt_Mo_reads 47 (81, .return_, 1) rfl) rfl
  refine j_sub (ls' := [(0, ar v0), (1, ai 1)]) rfl ?_
  refine jloop_J (C := fun s37 => jJ G M_Mo_reads (jEnd G M_Mo_reads none (S, res)) 0 0 37 [(0, ar v0), (1, ai s37.1)] [] (S, s37.2)) (fun s37 z37_ hy37 hin37 hout37 => ?_) _ _ ht37
  unfold Mo_reads_L37 at hy37
  refine j_iload_n (dt_Mo_reads 25 (37, .iload_n 1, 1) rfl) rfl ?_
  refine jite hy37 (fun hc hy37 => ?_) (fun hc hy37 => ?_)
  · refine j_if_eq (dt_Mo_reads 26 (38, .ifCond .eq 22, 3) rfl) rfl (fun _ => ?_) (fun q => absurd hc q)
    cases hy37
    have hz := hX37 _ (hout37 _ rfl)
    exact j_sub rfl hz
  · refine j_if_eq (dt_Mo_reads 26 (38, .ifCond .eq 22, 3) rfl) rfl (fun q => absurd q hc) (fun _ => ?_)
    refine j_aload_n (dt_Mo_reads 27 (41, .aload_n 0, 1) rfl) rfl ?_
    obtain ⟨x11, hx11, hy37⟩ := jbind hy37
    refine j_getI (dt_Mo_reads 28 (42, .getfield 189, 3) rfl) fl_X12_189 hx11 (fun _ _ => rfl) ?_
    refine j_aload_n (dt_Mo_reads 29 (45, .aload_n 0, 1) rfl) rfl ?_
    obtain ⟨x12, hx12, hy37⟩ := jbind hy37
    refine j_getI (dt_Mo_reads 30 (46, .getfield 175, 3) rfl) fl_X12_175 hx12 (fun _ _ => rfl) ?_
    refine jite hy37 (fun hc hy37 => ?_) (fun hc hy37 => ?_)
    · refine j_icmp_ge (dt_Mo_reads 31 (49, .if_icmp .ge 11, 3) rfl) rfl (fun _ => ?_) (fun q => absurd hc q)
      cases hy37
      have hz := hX37 _ (hout37 _ rfl)
      exact j_sub rfl hz
    · refine j_icmp_ge (dt_Mo_reads 31 (49, .if_icmp .ge 11, 3) rfl) rfl (fun q => absurd q hc) (fun _ => ?_)
      refine j_aload_n (dt_Mo_reads 32 (52, .aload_n 0, 1) rfl) rfl ?_
      obtain ⟨w13, hw13, hy37⟩ := jbind hy37
      obtain ⟨b14, hb14⟩ := r_Mo_line hw13
      refine j_callV M_Mo_line 0 [] (rest := []) (dt_Mo_reads 33 (53, .invokevirtual 262, 3) rfl) ml_X12_262 ok_Mo_line (jfit rfl rfl ⟨rfl, rfl⟩ (nle rfl) (nlt rfl)) rfl rfl (nle rfl) ⟨rfl, rfl⟩ hb14 ((c_Mo_line hw13)) ?_
      refine j_istore_n (dt_Mo_reads 34 (56, .istore_n 1, 1) rfl) (nlt rfl) ?_
      refine j_goto (dt_Mo_reads 35 (57, .goto (-20), 3) rfl) rfl ?_
      cases hy37
      have hz := hin37 _ rfl
      exact j_sub rfl hz
theorem r_Mo_reads {S : hS} {V : hV} {v0 : Option Nat} {res : hV} (hf : Mo_reads S v0 V = some res) : ∃ b, rc S 12 v0 = some b := by
  unfold Mo_reads at hf
  obtain ⟨b, hb, _⟩ := jbind hf
  exact ⟨b, hb⟩
def tb_Mo_fault : List (Nat × Instr × Nat) := [(0, .aload_n 0, 1), (1, .invokevirtual 265, 3), (4, .aload_n 0, 1), (5, .getfield 196, 3), (8, .ireturn, 1)]
theorem dt_Mo_fault (i : Nat) (q : Nat × Instr × Nat) (h : tb_Mo_fault[i]? = some q) : decode prog_14_method_22_code q.1 = .ok q.2 := jdt (by decide +kernel : tb_Mo_fault.all (fun q => decide (decode prog_14_method_22_code q.1 = .ok q.2)) = true) h
theorem ok_Mo_fault : jOKV M_Mo_fault 0 := ⟨⟨gt6 232 rfl rfl, gt1 17 rfl rfl, (by decide : "FirstInModel" ≠ "java/lang/invoke/MethodHandle"), (by decide : "FirstInModel" ≠ "java/lang/invoke/VarHandle"), (by decide +kernel : (parseMethodDescriptor "()I").map (fun d => d.parameters.length) = some 0)⟩, gt6 230 rfl rfl, gt6 231 rfl rfl, rfl, nlt rfl⟩
set_option maxRecDepth 100000 in
set_option maxHeartbeats 4000000 in
theorem c_Mo_fault {G : jG} {S : hS} {V : hV} {v0 : Option Nat} {res : Int32 × hV} (hf : Mo_fault S v0 V = some res) : jC G M_Mo_fault [ar v0] (S, V) (some (ai res.1)) (S, res.2) := by
  unfold Mo_fault at hf
  obtain ⟨_, _, hf⟩ := jbind hf
  refine jC_of (pf_X12 _ _) rfl (nle rfl) ?_
  show jJ G M_Mo_fault (jEnd G M_Mo_fault (some (ai res.1)) (S, res.2)) 0 0 0 [(0, ar v0)] [] (S, V)
  refine j_aload_n (dt_Mo_fault 0 (0, .aload_n 0, 1) rfl) rfl ?_
  obtain ⟨V1, hV1, hf⟩ := jbind hf
  obtain ⟨b2, hb2⟩ := r_Mo_reads hV1
  refine j_callV M_Mo_reads 0 [] (rest := []) (dt_Mo_fault 1 (1, .invokevirtual 265, 3) rfl) ml_X12_265 ok_Mo_reads (jfit rfl rfl ⟨rfl, rfl⟩ (nle rfl) (nlt rfl)) rfl rfl (nle rfl) ⟨rfl, rfl⟩ hb2 ((c_Mo_reads hV1)) ?_
  refine j_aload_n (dt_Mo_fault 2 (4, .aload_n 0, 1) rfl) rfl ?_
  obtain ⟨x3, hx3, hf⟩ := jbind hf
  refine j_getI (dt_Mo_fault 3 (5, .getfield 196, 3) rfl) fl_X12_196 hx3 (fun _ _ => rfl) ?_
  cases hf
  exact j_iret (dt_Mo_fault 4 (8, .ireturn, 1) rfl) rfl
theorem r_Mo_fault {S : hS} {V : hV} {v0 : Option Nat} {res : Int32 × hV} (hf : Mo_fault S v0 V = some res) : ∃ b, rc S 12 v0 = some b := by
  unfold Mo_fault at hf
  obtain ⟨b, hb, _⟩ := jbind hf
  exact ⟨b, hb⟩
def tb_Mo_court : List (Nat × Instr × Nat) := [(0, .aload_n 0, 1), (1, .invokevirtual 265, 3), (4, .aload_n 0, 1), (5, .getfield 196, 3), (8, .iconst (-1), 1), (9, .if_icmp .eq 5, 3), (12, .iconst (-1), 1), (13, .ireturn, 1), (14, .aload_n 0, 1), (15, .getfield 44, 3), (18, .iconst 0, 1), (19, .aload_n 0, 1), (20, .getfield 44, 3), (23, .iconst 1, 1), (24, .iaload, 1), (25, .iastore, 1), (26, .aload_n 0, 1), (27, .getfield 48, 3), (30, .iconst 0, 1), (31, .aload_n 0, 1), (32, .getfield 48, 3), (35, .iconst 1, 1), (36, .iaload, 1), (37, .iastore, 1), (38, .aload_n 0, 1), (39, .getfield 51, 3), (42, .iconst 0, 1), (43, .aload_n 0, 1), (44, .getfield 51, 3), (47, .iconst 1, 1), (48, .iaload, 1), (49, .iastore, 1), (50, .iconst 0, 1), (51, .istore_n 1, 1), (52, .iload_n 1, 1), (53, .iconst 5, 1), (54, .if_icmp .ge 25, 3), (57, .aload_n 0, 1), (58, .getfield 23, 3), (61, .iconst 0, 1), (62, .aaload, 1), (63, .iload_n 1, 1), (64, .aload_n 0, 1), (65, .getfield 23, 3), (68, .iconst 1, 1), (69, .aaload, 1), (70, .iload_n 1, 1), (71, .iaload, 1), (72, .iastore, 1), (73, .iinc 1 1, 3), (76, .goto (-24), 3), (79, .iconst 0, 1), (80, .istore_n 1, 1), (81, .iload_n 1, 1), (82, .bipush 12, 2), (84, .if_icmp .ge 112, 3), (87, .aload_n 0, 1), (88, .getfield 26, 3), (91, .iconst 0, 1), (92, .aaload, 1), (93, .iload_n 1, 1), (94, .aload_n 0, 1), (95, .getfield 26, 3), (98, .iconst 1, 1), (99, .aaload, 1), (100, .iload_n 1, 1), (101, .iaload, 1), (102, .iastore, 1), (103, .aload_n 0, 1), (104, .getfield 29, 3), (107, .iconst 0, 1), (108, .aaload, 1), (109, .iload_n 1, 1), (110, .aload_n 0, 1), (111, .getfield 29, 3), (114, .iconst 1, 1), (115, .aaload, 1), (116, .iload_n 1, 1), (117, .iaload, 1), (118, .iastore, 1), (119, .aload_n 0, 1), (120, .getfield 32, 3), (123, .iconst 0, 1), (124, .aaload, 1), (125, .iload_n 1, 1), (126, .aload_n 0, 1), (127, .getfield 32, 3), (130, .iconst 1, 1), (131, .aaload, 1), (132, .iload_n 1, 1), (133, .iaload, 1), (134, .iastore, 1), (135, .aload_n 0, 1), (136, .getfield 35, 3), (139, .iconst 0, 1), (140, .aaload, 1), (141, .iload_n 1, 1), (142, .aload_n 0, 1), (143, .getfield 35, 3), (146, .iconst 1, 1), (147, .aaload, 1), (148, .iload_n 1, 1), (149, .iaload, 1), (150, .iastore, 1), (151, .aload_n 0, 1), (152, .getfield 38, 3), (155, .iconst 0, 1), (156, .aaload, 1), (157, .iload_n 1, 1), (158, .aload_n 0, 1), (159, .getfield 38, 3), (162, .iconst 1, 1), (163, .aaload, 1), (164, .iload_n 1, 1), (165, .iaload, 1), (166, .iastore, 1), (167, .aload_n 0, 1), (168, .getfield 41, 3), (171, .iconst 0, 1), (172, .aaload, 1), (173, .iload_n 1, 1), (174, .aload_n 0, 1), (175, .getfield 41, 3), (178, .iconst 1, 1), (179, .aaload, 1), (180, .iload_n 1, 1), (181, .iaload, 1), (182, .iastore, 1), (183, .aload_n 0, 1), (184, .getfield 77, 3), (187, .iload_n 1, 1), (188, .iconst 0, 1), (189, .bastore, 1), (190, .iinc 1 1, 3), (193, .goto (-112), 3), (196, .iconst 0, 1), (197, .istore_n 1, 1), (198, .iload_n 1, 1), (199, .bipush 10, 2), (201, .if_icmp .ge 37, 3), (204, .aload_n 0, 1), (205, .getfield 81, 3), (208, .iload_n 1, 1), (209, .iconst 1, 1), (210, .bastore, 1), (211, .aload_n 0, 1), (212, .getfield 84, 3), (215, .iload_n 1, 1), (216, .iconst 0, 1), (217, .bastore, 1), (218, .aload_n 0, 1), (219, .getfield 87, 3), (222, .iload_n 1, 1), (223, .iconst (-1), 1), (224, .iastore, 1), (225, .aload_n 0, 1), (226, .getfield 90, 3), (229, .iload_n 1, 1), (230, .iconst (-1), 1), (231, .iastore, 1), (232, .iinc 1 1, 3), (235, .goto (-37), 3), (238, .aload_n 0, 1), (239, .iconst 0, 1), (240, .putfield 175, 3), (243, .aload_n 0, 1), (244, .getfield 44, 3), (247, .iconst 0, 1), (248, .iaload, 1), (249, .ireturn, 1)]
theorem dt_Mo_court (i : Nat) (q : Nat × Instr × Nat) (h : tb_Mo_court[i]? = some q) : decode prog_14_method_23_code q.1 = .ok q.2 := jdt (by decide +kernel : tb_Mo_court.all (fun q => decide (decode prog_14_method_23_code q.1 = .ok q.2)) = true) h
theorem ok_Mo_court : jOKV M_Mo_court 0 := ⟨⟨gt7 65 rfl rfl, gt1 17 rfl rfl, (by decide : "FirstInModel" ≠ "java/lang/invoke/MethodHandle"), (by decide : "FirstInModel" ≠ "java/lang/invoke/VarHandle"), (by decide +kernel : (parseMethodDescriptor "()I").map (fun d => d.parameters.length) = some 0)⟩, gt7 63 rfl rfl, gt7 64 rfl rfl, rfl, nlt rfl⟩
set_option maxRecDepth 100000 in
set_option maxHeartbeats 4000000 in
theorem c_Mo_court {G : jG} {S : hS} {V : hV} {v0 : Option Nat} {res : Int32 × hV} (hf : Mo_court S v0 V = some res) : jC G M_Mo_court [ar v0] (S, V) (some (ai res.1)) (S, res.2) := by
  unfold Mo_court at hf
  obtain ⟨_, _, hf⟩ := jbind hf
  refine jC_of (pf_X12 _ _) rfl (nle rfl) ?_
  show jJ G M_Mo_court (jEnd G M_Mo_court (some (ai res.1)) (S, res.2)) 0 0 0 [(0, ar v0)] [] (S, V)
  refine j_aload_n (dt_Mo_court 0 (0, .aload_n 0, 1) rfl) rfl ?_
  obtain ⟨V1, hV1, hf⟩ := jbind hf
  obtain ⟨b2, hb2⟩ := r_Mo_reads hV1
  refine j_callV M_Mo_reads 0 [] (rest := []) (dt_Mo_court 1 (1, .invokevirtual 265, 3) rfl) ml_X12_265 ok_Mo_reads (jfit rfl rfl ⟨rfl, rfl⟩ (nle rfl) (nlt rfl)) rfl rfl (nle rfl) ⟨rfl, rfl⟩ hb2 ((c_Mo_reads hV1)) ?_
  refine j_aload_n (dt_Mo_court 2 (4, .aload_n 0, 1) rfl) rfl ?_
  obtain ⟨x3, hx3, hf⟩ := jbind hf
  refine j_getI (dt_Mo_court 3 (5, .getfield 196, 3) rfl) fl_X12_196 hx3 (fun _ _ => rfl) ?_
  refine j_iconst (dt_Mo_court 4 (8, .iconst (-1), 1) rfl) ic_m1 ?_
  refine jite hf (fun hc hf => ?_) (fun hc hf => ?_)
  · refine j_icmp_eq (dt_Mo_court 5 (9, .if_icmp .eq 5, 3) rfl) rfl (fun _ => ?_) (fun q => absurd hc q)
    refine j_aload_n (dt_Mo_court 8 (14, .aload_n 0, 1) rfl) rfl ?_
    obtain ⟨x4, hx4, hf⟩ := jbind hf
    refine j_getR (dt_Mo_court 9 (15, .getfield 44, 3) rfl) fl_X12_44 hx4 (fun _ _ => rfl) ?_
    refine j_iconst (dt_Mo_court 10 (18, .iconst 0, 1) rfl) ic_0 ?_
    refine j_aload_n (dt_Mo_court 11 (19, .aload_n 0, 1) rfl) rfl ?_
    obtain ⟨x5, hx5, hf⟩ := jbind hf
    refine j_getR (dt_Mo_court 12 (20, .getfield 44, 3) rfl) fl_X12_44 hx5 (fun _ _ => rfl) ?_
    refine j_iconst (dt_Mo_court 13 (23, .iconst 1, 1) rfl) ic_1 ?_
    obtain ⟨x6, hx6, hf⟩ := jbind hf
    refine j_aldI (dt_Mo_court 14 (24, .iaload, 1) rfl) hx6 ?_
    obtain ⟨V7, hV7, hf⟩ := jbind hf
    refine j_astI (dt_Mo_court 15 (25, .iastore, 1) rfl) hV7 ?_
    refine j_aload_n (dt_Mo_court 16 (26, .aload_n 0, 1) rfl) rfl ?_
    obtain ⟨x8, hx8, hf⟩ := jbind hf
    refine j_getR (dt_Mo_court 17 (27, .getfield 48, 3) rfl) fl_X12_48 hx8 (fun _ _ => rfl) ?_
    refine j_iconst (dt_Mo_court 18 (30, .iconst 0, 1) rfl) ic_0 ?_
    refine j_aload_n (dt_Mo_court 19 (31, .aload_n 0, 1) rfl) rfl ?_
    obtain ⟨x9, hx9, hf⟩ := jbind hf
    refine j_getR (dt_Mo_court 20 (32, .getfield 48, 3) rfl) fl_X12_48 hx9 (fun _ _ => rfl) ?_
    refine j_iconst (dt_Mo_court 21 (35, .iconst 1, 1) rfl) ic_1 ?_
    obtain ⟨x10, hx10, hf⟩ := jbind hf
    refine j_aldI (dt_Mo_court 22 (36, .iaload, 1) rfl) hx10 ?_
    obtain ⟨V11, hV11, hf⟩ := jbind hf
    refine j_astI (dt_Mo_court 23 (37, .iastore, 1) rfl) hV11 ?_
    refine j_aload_n (dt_Mo_court 24 (38, .aload_n 0, 1) rfl) rfl ?_
    obtain ⟨x12, hx12, hf⟩ := jbind hf
    refine j_getR (dt_Mo_court 25 (39, .getfield 51, 3) rfl) fl_X12_51 hx12 (fun _ _ => rfl) ?_
    refine j_iconst (dt_Mo_court 26 (42, .iconst 0, 1) rfl) ic_0 ?_
    refine j_aload_n (dt_Mo_court 27 (43, .aload_n 0, 1) rfl) rfl ?_
    obtain ⟨x13, hx13, hf⟩ := jbind hf
    refine j_getR (dt_Mo_court 28 (44, .getfield 51, 3) rfl) fl_X12_51 hx13 (fun _ _ => rfl) ?_
    refine j_iconst (dt_Mo_court 29 (47, .iconst 1, 1) rfl) ic_1 ?_
    obtain ⟨x14, hx14, hf⟩ := jbind hf
    refine j_aldI (dt_Mo_court 30 (48, .iaload, 1) rfl) hx14 ?_
    obtain ⟨V15, hV15, hf⟩ := jbind hf
    refine j_astI (dt_Mo_court 31 (49, .iastore, 1) rfl) hV15 ?_
    refine j_iconst (dt_Mo_court 32 (50, .iconst 0, 1) rfl) ic_0 ?_
    refine j_istore_n (dt_Mo_court 33 (51, .istore_n 1, 1) rfl) (nlt rfl) ?_
    obtain ⟨t52, ht52, hf⟩ := jbind hf
    have hX52 : ∀ q52 : hV, q52 = t52 → jJ G M_Mo_court (jEnd G M_Mo_court (some (ai res.1)) (S, res.2)) 0 0 79 [(0, ar v0)] [] (S, q52) := by
      intro q52 hq52
      subst hq52
      refine j_iconst (dt_Mo_court 51 (79, .iconst 0, 1) rfl) ic_0 ?_
      refine j_istore_n (dt_Mo_court 52 (80, .istore_n 1, 1) rfl) (nlt rfl) ?_
      obtain ⟨t81, ht81, hf⟩ := jbind hf
      have hX81 : ∀ q81 : hV, q81 = t81 → jJ G M_Mo_court (jEnd G M_Mo_court (some (ai res.1)) (S, res.2)) 0 0 196 [(0, ar v0)] [] (S, q81) := by
        intro q81 hq81
        subst hq81
        refine j_iconst (dt_Mo_court 135 (196, .iconst 0, 1) rfl) ic_0 ?_
        refine j_istore_n (dt_Mo_court 136 (197, .istore_n 1, 1) rfl) (nlt rfl) ?_
        obtain ⟨t198, ht198, hf⟩ := jbind hf
        have hX198 : ∀ q198 : hV, q198 = t198 → jJ G M_Mo_court (jEnd G M_Mo_court (some (ai res.1)) (S, res.2)) 0 0 238 [(0, ar v0)] [] (S, q198) := by
          intro q198 hq198
          subst hq198
          refine j_aload_n (dt_Mo_court 162 (238, .aload_n 0, 1) rfl) rfl ?_
          refine j_iconst (dt_Mo_court 163 (239, .iconst 0, 1) rfl) ic_0 ?_
          obtain ⟨V68, hV68, hf⟩ := jbind hf
          refine j_putI (dt_Mo_court 164 (240, .putfield 175, 3) rfl) fl_X12_175 hV68 rfl (Or.inl rfl) ?_
          refine j_aload_n (dt_Mo_court 165 (243, .aload_n 0, 1) rfl) rfl ?_
          obtain ⟨x69, hx69, hf⟩ := jbind hf
          refine j_getR (dt_Mo_court 166 (244, .getfield 44, 3) rfl) fl_X12_44 hx69 (fun _ _ => rfl) ?_
          refine j_iconst (dt_Mo_court 167 (247, .iconst 0, 1) rfl) ic_0 ?_
          obtain ⟨x70, hx70, hf⟩ := jbind hf
          refine j_aldI (dt_Mo_court 168 (248, .iaload, 1) rfl) hx70 ?_
          cases hf
          exact j_iret (dt_Mo_court 169 (249, .ireturn, 1) rfl) rfl
        refine j_sub (ls' := [(0, ar v0), (1, ai 0)]) rfl ?_
        refine jloop_J (C := fun s198 => jJ G M_Mo_court (jEnd G M_Mo_court (some (ai res.1)) (S, res.2)) 0 0 198 [(0, ar v0), (1, ai s198.1)] [] (S, s198.2)) (fun s198 z198_ hy198 hin198 hout198 => ?_) _ _ ht198
        unfold Mo_court_L198 at hy198
        refine j_iload_n (dt_Mo_court 137 (198, .iload_n 1, 1) rfl) rfl ?_
        refine j_bipush (dt_Mo_court 138 (199, .bipush 10, 2) rfl) bp_10 ?_
        refine jite hy198 (fun hc hy198 => ?_) (fun hc hy198 => ?_)
        · refine j_icmp_ge (dt_Mo_court 139 (201, .if_icmp .ge 37, 3) rfl) rfl (fun _ => ?_) (fun q => absurd hc q)
          cases hy198
          have hz := hX198 _ (hout198 _ rfl)
          exact j_sub rfl hz
        · refine j_icmp_ge (dt_Mo_court 139 (201, .if_icmp .ge 37, 3) rfl) rfl (fun q => absurd q hc) (fun _ => ?_)
          refine j_aload_n (dt_Mo_court 140 (204, .aload_n 0, 1) rfl) rfl ?_
          obtain ⟨x60, hx60, hy198⟩ := jbind hy198
          refine j_getR (dt_Mo_court 141 (205, .getfield 81, 3) rfl) fl_X12_81 hx60 (fun _ _ => rfl) ?_
          refine j_iload_n (dt_Mo_court 142 (208, .iload_n 1, 1) rfl) rfl ?_
          refine j_iconst (dt_Mo_court 143 (209, .iconst 1, 1) rfl) ic_1 ?_
          obtain ⟨V61, hV61, hy198⟩ := jbind hy198
          refine j_astZ (dt_Mo_court 144 (210, .bastore, 1) rfl) hV61 ?_
          refine j_aload_n (dt_Mo_court 145 (211, .aload_n 0, 1) rfl) rfl ?_
          obtain ⟨x62, hx62, hy198⟩ := jbind hy198
          refine j_getR (dt_Mo_court 146 (212, .getfield 84, 3) rfl) fl_X12_84 hx62 (fun _ _ => rfl) ?_
          refine j_iload_n (dt_Mo_court 147 (215, .iload_n 1, 1) rfl) rfl ?_
          refine j_iconst (dt_Mo_court 148 (216, .iconst 0, 1) rfl) ic_0 ?_
          obtain ⟨V63, hV63, hy198⟩ := jbind hy198
          refine j_astZ (dt_Mo_court 149 (217, .bastore, 1) rfl) hV63 ?_
          refine j_aload_n (dt_Mo_court 150 (218, .aload_n 0, 1) rfl) rfl ?_
          obtain ⟨x64, hx64, hy198⟩ := jbind hy198
          refine j_getR (dt_Mo_court 151 (219, .getfield 87, 3) rfl) fl_X12_87 hx64 (fun _ _ => rfl) ?_
          refine j_iload_n (dt_Mo_court 152 (222, .iload_n 1, 1) rfl) rfl ?_
          refine j_iconst (dt_Mo_court 153 (223, .iconst (-1), 1) rfl) ic_m1 ?_
          obtain ⟨V65, hV65, hy198⟩ := jbind hy198
          refine j_astI (dt_Mo_court 154 (224, .iastore, 1) rfl) hV65 ?_
          refine j_aload_n (dt_Mo_court 155 (225, .aload_n 0, 1) rfl) rfl ?_
          obtain ⟨x66, hx66, hy198⟩ := jbind hy198
          refine j_getR (dt_Mo_court 156 (226, .getfield 90, 3) rfl) fl_X12_90 hx66 (fun _ _ => rfl) ?_
          refine j_iload_n (dt_Mo_court 157 (229, .iload_n 1, 1) rfl) rfl ?_
          refine j_iconst (dt_Mo_court 158 (230, .iconst (-1), 1) rfl) ic_m1 ?_
          obtain ⟨V67, hV67, hy198⟩ := jbind hy198
          refine j_astI (dt_Mo_court 159 (231, .iastore, 1) rfl) hV67 ?_
          refine j_iinc (dt_Mo_court 160 (232, .iinc 1 1, 3) rfl) rfl (nlt rfl) (ii_1 _) ?_
          refine j_goto (dt_Mo_court 161 (235, .goto (-37), 3) rfl) rfl ?_
          cases hy198
          have hz := hin198 _ rfl
          exact j_sub rfl hz
      refine j_sub (ls' := [(0, ar v0), (1, ai 0)]) rfl ?_
      refine jloop_J (C := fun s81 => jJ G M_Mo_court (jEnd G M_Mo_court (some (ai res.1)) (S, res.2)) 0 0 81 [(0, ar v0), (1, ai s81.1)] [] (S, s81.2)) (fun s81 z81_ hy81 hin81 hout81 => ?_) _ _ ht81
      unfold Mo_court_L81 at hy81
      refine j_iload_n (dt_Mo_court 53 (81, .iload_n 1, 1) rfl) rfl ?_
      refine j_bipush (dt_Mo_court 54 (82, .bipush 12, 2) rfl) bp_12 ?_
      refine jite hy81 (fun hc hy81 => ?_) (fun hc hy81 => ?_)
      · refine j_icmp_ge (dt_Mo_court 55 (84, .if_icmp .ge 112, 3) rfl) rfl (fun _ => ?_) (fun q => absurd hc q)
        cases hy81
        have hz := hX81 _ (hout81 _ rfl)
        exact j_sub rfl hz
      · refine j_icmp_ge (dt_Mo_court 55 (84, .if_icmp .ge 112, 3) rfl) rfl (fun q => absurd q hc) (fun _ => ?_)
        refine j_aload_n (dt_Mo_court 56 (87, .aload_n 0, 1) rfl) rfl ?_
        obtain ⟨x22, hx22, hy81⟩ := jbind hy81
        refine j_getR (dt_Mo_court 57 (88, .getfield 26, 3) rfl) fl_X12_26 hx22 (fun _ _ => rfl) ?_
        refine j_iconst (dt_Mo_court 58 (91, .iconst 0, 1) rfl) ic_0 ?_
        obtain ⟨x23, hx23, hy81⟩ := jbind hy81
        refine j_aldR 107 (dt_Mo_court 59 (92, .aaload, 1) rfl) (by decide) hx23 ?_
        refine j_iload_n (dt_Mo_court 60 (93, .iload_n 1, 1) rfl) rfl ?_
        refine j_aload_n (dt_Mo_court 61 (94, .aload_n 0, 1) rfl) rfl ?_
        obtain ⟨x24, hx24, hy81⟩ := jbind hy81
        refine j_getR (dt_Mo_court 62 (95, .getfield 26, 3) rfl) fl_X12_26 hx24 (fun _ _ => rfl) ?_
        refine j_iconst (dt_Mo_court 63 (98, .iconst 1, 1) rfl) ic_1 ?_
        obtain ⟨x25, hx25, hy81⟩ := jbind hy81
        refine j_aldR 107 (dt_Mo_court 64 (99, .aaload, 1) rfl) (by decide) hx25 ?_
        refine j_iload_n (dt_Mo_court 65 (100, .iload_n 1, 1) rfl) rfl ?_
        obtain ⟨x26, hx26, hy81⟩ := jbind hy81
        refine j_aldI (dt_Mo_court 66 (101, .iaload, 1) rfl) hx26 ?_
        obtain ⟨V27, hV27, hy81⟩ := jbind hy81
        refine j_astI (dt_Mo_court 67 (102, .iastore, 1) rfl) hV27 ?_
        refine j_aload_n (dt_Mo_court 68 (103, .aload_n 0, 1) rfl) rfl ?_
        obtain ⟨x28, hx28, hy81⟩ := jbind hy81
        refine j_getR (dt_Mo_court 69 (104, .getfield 29, 3) rfl) fl_X12_29 hx28 (fun _ _ => rfl) ?_
        refine j_iconst (dt_Mo_court 70 (107, .iconst 0, 1) rfl) ic_0 ?_
        obtain ⟨x29, hx29, hy81⟩ := jbind hy81
        refine j_aldR 107 (dt_Mo_court 71 (108, .aaload, 1) rfl) (by decide) hx29 ?_
        refine j_iload_n (dt_Mo_court 72 (109, .iload_n 1, 1) rfl) rfl ?_
        refine j_aload_n (dt_Mo_court 73 (110, .aload_n 0, 1) rfl) rfl ?_
        obtain ⟨x30, hx30, hy81⟩ := jbind hy81
        refine j_getR (dt_Mo_court 74 (111, .getfield 29, 3) rfl) fl_X12_29 hx30 (fun _ _ => rfl) ?_
        refine j_iconst (dt_Mo_court 75 (114, .iconst 1, 1) rfl) ic_1 ?_
        obtain ⟨x31, hx31, hy81⟩ := jbind hy81
        refine j_aldR 107 (dt_Mo_court 76 (115, .aaload, 1) rfl) (by decide) hx31 ?_
        refine j_iload_n (dt_Mo_court 77 (116, .iload_n 1, 1) rfl) rfl ?_
        obtain ⟨x32, hx32, hy81⟩ := jbind hy81
        refine j_aldI (dt_Mo_court 78 (117, .iaload, 1) rfl) hx32 ?_
        obtain ⟨V33, hV33, hy81⟩ := jbind hy81
        refine j_astI (dt_Mo_court 79 (118, .iastore, 1) rfl) hV33 ?_
        refine j_aload_n (dt_Mo_court 80 (119, .aload_n 0, 1) rfl) rfl ?_
        obtain ⟨x34, hx34, hy81⟩ := jbind hy81
        refine j_getR (dt_Mo_court 81 (120, .getfield 32, 3) rfl) fl_X12_32 hx34 (fun _ _ => rfl) ?_
        refine j_iconst (dt_Mo_court 82 (123, .iconst 0, 1) rfl) ic_0 ?_
        obtain ⟨x35, hx35, hy81⟩ := jbind hy81
        refine j_aldR 107 (dt_Mo_court 83 (124, .aaload, 1) rfl) (by decide) hx35 ?_
        refine j_iload_n (dt_Mo_court 84 (125, .iload_n 1, 1) rfl) rfl ?_
        refine j_aload_n (dt_Mo_court 85 (126, .aload_n 0, 1) rfl) rfl ?_
        obtain ⟨x36, hx36, hy81⟩ := jbind hy81
        refine j_getR (dt_Mo_court 86 (127, .getfield 32, 3) rfl) fl_X12_32 hx36 (fun _ _ => rfl) ?_
        refine j_iconst (dt_Mo_court 87 (130, .iconst 1, 1) rfl) ic_1 ?_
        obtain ⟨x37, hx37, hy81⟩ := jbind hy81
        refine j_aldR 107 (dt_Mo_court 88 (131, .aaload, 1) rfl) (by decide) hx37 ?_
        refine j_iload_n (dt_Mo_court 89 (132, .iload_n 1, 1) rfl) rfl ?_
        obtain ⟨x38, hx38, hy81⟩ := jbind hy81
        refine j_aldI (dt_Mo_court 90 (133, .iaload, 1) rfl) hx38 ?_
        obtain ⟨V39, hV39, hy81⟩ := jbind hy81
        refine j_astI (dt_Mo_court 91 (134, .iastore, 1) rfl) hV39 ?_
        refine j_aload_n (dt_Mo_court 92 (135, .aload_n 0, 1) rfl) rfl ?_
        obtain ⟨x40, hx40, hy81⟩ := jbind hy81
        refine j_getR (dt_Mo_court 93 (136, .getfield 35, 3) rfl) fl_X12_35 hx40 (fun _ _ => rfl) ?_
        refine j_iconst (dt_Mo_court 94 (139, .iconst 0, 1) rfl) ic_0 ?_
        obtain ⟨x41, hx41, hy81⟩ := jbind hy81
        refine j_aldR 107 (dt_Mo_court 95 (140, .aaload, 1) rfl) (by decide) hx41 ?_
        refine j_iload_n (dt_Mo_court 96 (141, .iload_n 1, 1) rfl) rfl ?_
        refine j_aload_n (dt_Mo_court 97 (142, .aload_n 0, 1) rfl) rfl ?_
        obtain ⟨x42, hx42, hy81⟩ := jbind hy81
        refine j_getR (dt_Mo_court 98 (143, .getfield 35, 3) rfl) fl_X12_35 hx42 (fun _ _ => rfl) ?_
        refine j_iconst (dt_Mo_court 99 (146, .iconst 1, 1) rfl) ic_1 ?_
        obtain ⟨x43, hx43, hy81⟩ := jbind hy81
        refine j_aldR 107 (dt_Mo_court 100 (147, .aaload, 1) rfl) (by decide) hx43 ?_
        refine j_iload_n (dt_Mo_court 101 (148, .iload_n 1, 1) rfl) rfl ?_
        obtain ⟨x44, hx44, hy81⟩ := jbind hy81
        refine j_aldI (dt_Mo_court 102 (149, .iaload, 1) rfl) hx44 ?_
        obtain ⟨V45, hV45, hy81⟩ := jbind hy81
        refine j_astI (dt_Mo_court 103 (150, .iastore, 1) rfl) hV45 ?_
        refine j_aload_n (dt_Mo_court 104 (151, .aload_n 0, 1) rfl) rfl ?_
        obtain ⟨x46, hx46, hy81⟩ := jbind hy81
        refine j_getR (dt_Mo_court 105 (152, .getfield 38, 3) rfl) fl_X12_38 hx46 (fun _ _ => rfl) ?_
        refine j_iconst (dt_Mo_court 106 (155, .iconst 0, 1) rfl) ic_0 ?_
        obtain ⟨x47, hx47, hy81⟩ := jbind hy81
        refine j_aldR 107 (dt_Mo_court 107 (156, .aaload, 1) rfl) (by decide) hx47 ?_
        refine j_iload_n (dt_Mo_court 108 (157, .iload_n 1, 1) rfl) rfl ?_
        refine j_aload_n (dt_Mo_court 109 (158, .aload_n 0, 1) rfl) rfl ?_
        obtain ⟨x48, hx48, hy81⟩ := jbind hy81
        refine j_getR (dt_Mo_court 110 (159, .getfield 38, 3) rfl) fl_X12_38 hx48 (fun _ _ => rfl) ?_
        refine j_iconst (dt_Mo_court 111 (162, .iconst 1, 1) rfl) ic_1 ?_
        obtain ⟨x49, hx49, hy81⟩ := jbind hy81
        refine j_aldR 107 (dt_Mo_court 112 (163, .aaload, 1) rfl) (by decide) hx49 ?_
        refine j_iload_n (dt_Mo_court 113 (164, .iload_n 1, 1) rfl) rfl ?_
        obtain ⟨x50, hx50, hy81⟩ := jbind hy81
        refine j_aldI (dt_Mo_court 114 (165, .iaload, 1) rfl) hx50 ?_
        obtain ⟨V51, hV51, hy81⟩ := jbind hy81
        refine j_astI (dt_Mo_court 115 (166, .iastore, 1) rfl) hV51 ?_
        refine j_aload_n (dt_Mo_court 116 (167, .aload_n 0, 1) rfl) rfl ?_
        obtain ⟨x52, hx52, hy81⟩ := jbind hy81
        refine j_getR (dt_Mo_court 117 (168, .getfield 41, 3) rfl) fl_X12_41 hx52 (fun _ _ => rfl) ?_
        refine j_iconst (dt_Mo_court 118 (171, .iconst 0, 1) rfl) ic_0 ?_
        obtain ⟨x53, hx53, hy81⟩ := jbind hy81
        refine j_aldR 107 (dt_Mo_court 119 (172, .aaload, 1) rfl) (by decide) hx53 ?_
        refine j_iload_n (dt_Mo_court 120 (173, .iload_n 1, 1) rfl) rfl ?_
        refine j_aload_n (dt_Mo_court 121 (174, .aload_n 0, 1) rfl) rfl ?_
        obtain ⟨x54, hx54, hy81⟩ := jbind hy81
        refine j_getR (dt_Mo_court 122 (175, .getfield 41, 3) rfl) fl_X12_41 hx54 (fun _ _ => rfl) ?_
        refine j_iconst (dt_Mo_court 123 (178, .iconst 1, 1) rfl) ic_1 ?_
        obtain ⟨x55, hx55, hy81⟩ := jbind hy81
        refine j_aldR 107 (dt_Mo_court 124 (179, .aaload, 1) rfl) (by decide) hx55 ?_
        refine j_iload_n (dt_Mo_court 125 (180, .iload_n 1, 1) rfl) rfl ?_
        obtain ⟨x56, hx56, hy81⟩ := jbind hy81
        refine j_aldI (dt_Mo_court 126 (181, .iaload, 1) rfl) hx56 ?_
        obtain ⟨V57, hV57, hy81⟩ := jbind hy81
        refine j_astI (dt_Mo_court 127 (182, .iastore, 1) rfl) hV57 ?_
        refine j_aload_n (dt_Mo_court 128 (183, .aload_n 0, 1) rfl) rfl ?_
        obtain ⟨x58, hx58, hy81⟩ := jbind hy81
        refine j_getR (dt_Mo_court 129 (184, .getfield 77, 3) rfl) fl_X12_77 hx58 (fun _ _ => rfl) ?_
        refine j_iload_n (dt_Mo_court 130 (187, .iload_n 1, 1) rfl) rfl ?_
        refine j_iconst (dt_Mo_court 131 (188, .iconst 0, 1) rfl) ic_0 ?_
        obtain ⟨V59, hV59, hy81⟩ := jbind hy81
        refine j_astZ (dt_Mo_court 132 (189, .bastore, 1) rfl) hV59 ?_
        refine j_iinc (dt_Mo_court 133 (190, .iinc 1 1, 3) rfl) rfl (nlt rfl) (ii_1 _) ?_
        refine j_goto (dt_Mo_court 134 (193, .goto (-112), 3) rfl) rfl ?_
        cases hy81
        have hz := hin81 _ rfl
        exact j_sub rfl hz
    refine j_sub (ls' := [(0, ar v0), (1, ai 0)]) rfl ?_
    refine jloop_J (C := fun s52 => jJ G M_Mo_court (jEnd G M_Mo_court (some (ai res.1)) (S, res.2)) 0 0 52 [(0, ar v0), (1, ai s52.1)] [] (S, s52.2)) (fun s52 z52_ hy52 hin52 hout52 => ?_) _ _ ht52
    unfold Mo_court_L52 at hy52
    refine j_iload_n (dt_Mo_court 34 (52, .iload_n 1, 1) rfl) rfl ?_
    refine j_iconst (dt_Mo_court 35 (53, .iconst 5, 1) rfl) ic_5 ?_
    refine jite hy52 (fun hc hy52 => ?_) (fun hc hy52 => ?_)
    · refine j_icmp_ge (dt_Mo_court 36 (54, .if_icmp .ge 25, 3) rfl) rfl (fun _ => ?_) (fun q => absurd hc q)
      cases hy52
      have hz := hX52 _ (hout52 _ rfl)
      exact j_sub rfl hz
    · refine j_icmp_ge (dt_Mo_court 36 (54, .if_icmp .ge 25, 3) rfl) rfl (fun q => absurd q hc) (fun _ => ?_)
      refine j_aload_n (dt_Mo_court 37 (57, .aload_n 0, 1) rfl) rfl ?_
      obtain ⟨x16, hx16, hy52⟩ := jbind hy52
      refine j_getR (dt_Mo_court 38 (58, .getfield 23, 3) rfl) fl_X12_23 hx16 (fun _ _ => rfl) ?_
      refine j_iconst (dt_Mo_court 39 (61, .iconst 0, 1) rfl) ic_0 ?_
      obtain ⟨x17, hx17, hy52⟩ := jbind hy52
      refine j_aldR 107 (dt_Mo_court 40 (62, .aaload, 1) rfl) (by decide) hx17 ?_
      refine j_iload_n (dt_Mo_court 41 (63, .iload_n 1, 1) rfl) rfl ?_
      refine j_aload_n (dt_Mo_court 42 (64, .aload_n 0, 1) rfl) rfl ?_
      obtain ⟨x18, hx18, hy52⟩ := jbind hy52
      refine j_getR (dt_Mo_court 43 (65, .getfield 23, 3) rfl) fl_X12_23 hx18 (fun _ _ => rfl) ?_
      refine j_iconst (dt_Mo_court 44 (68, .iconst 1, 1) rfl) ic_1 ?_
      obtain ⟨x19, hx19, hy52⟩ := jbind hy52
      refine j_aldR 107 (dt_Mo_court 45 (69, .aaload, 1) rfl) (by decide) hx19 ?_
      refine j_iload_n (dt_Mo_court 46 (70, .iload_n 1, 1) rfl) rfl ?_
      obtain ⟨x20, hx20, hy52⟩ := jbind hy52
      refine j_aldI (dt_Mo_court 47 (71, .iaload, 1) rfl) hx20 ?_
      obtain ⟨V21, hV21, hy52⟩ := jbind hy52
      refine j_astI (dt_Mo_court 48 (72, .iastore, 1) rfl) hV21 ?_
      refine j_iinc (dt_Mo_court 49 (73, .iinc 1 1, 3) rfl) rfl (nlt rfl) (ii_1 _) ?_
      refine j_goto (dt_Mo_court 50 (76, .goto (-24), 3) rfl) rfl ?_
      cases hy52
      have hz := hin52 _ rfl
      exact j_sub rfl hz
  · refine j_icmp_eq (dt_Mo_court 5 (9, .if_icmp .eq 5, 3) rfl) rfl (fun q => absurd q hc) (fun _ => ?_)
    refine j_iconst (dt_Mo_court 6 (12, .iconst (-1), 1) rfl) ic_m1 ?_
    cases hf
    exact j_iret (dt_Mo_court 7 (13, .ireturn, 1) rfl) rfl
theorem r_Mo_court {S : hS} {V : hV} {v0 : Option Nat} {res : Int32 × hV} (hf : Mo_court S v0 V = some res) : ∃ b, rc S 12 v0 = some b := by
  unfold Mo_court at hf
  obtain ⟨b, hb, _⟩ := jbind hf
  exact ⟨b, hb⟩
