/-! ===== walks ===== -/
def tb_Pairs_layRule : List (Nat × Instr × Nat) := [(0, .iconst 0, 1), (1, .istore_n 2, 1), (2, .iload_n 2, 1), (3, .aload_n 0, 1), (4, .getfield 30, 3), (7, .if_icmp .ge 55, 3), (10, .iconst 0, 1), (11, .istore_n 3, 1), (12, .iload_n 3, 1), (13, .aload_n 0, 1), (14, .getfield 30, 3), (17, .if_icmp .ge 39, 3), (20, .aload_n 1, 1), (21, .getfield 93, 3), (24, .aload_n 0, 1), (25, .getfield 9, 3), (28, .iload_n 2, 1), (29, .iaload, 1), (30, .iaload, 1), (31, .aload_n 0, 1), (32, .getfield 9, 3), (35, .iload_n 3, 1), (36, .iaload, 1), (37, .invokestatic 96, 3), (40, .ifCond .eq 10, 3), (43, .aload_n 0, 1), (44, .aload_n 1, 1), (45, .iload_n 2, 1), (46, .iload_n 3, 1), (47, .invokevirtual 99, 3), (50, .iinc 3 1, 3), (53, .goto (-41), 3), (56, .iinc 2 1, 3), (59, .goto (-57), 3), (62, .return_, 1)]
theorem dt_Pairs_layRule (i : Nat) (q : Nat × Instr × Nat) (h : tb_Pairs_layRule[i]? = some q) : decode prog_5_method_4_code q.1 = .ok q.2 := jdt (by decide +kernel : tb_Pairs_layRule.all (fun q => decide (decode prog_5_method_4_code q.1 = .ok q.2)) = true) h
theorem ok_Pairs_layRule : jOKV M_Pairs_layRule 1 := ⟨⟨gt5 129 rfl rfl, gt1 14 rfl rfl, (by decide : "FirstIn$Pairs" ≠ "java/lang/invoke/MethodHandle"), (by decide : "FirstIn$Pairs" ≠ "java/lang/invoke/VarHandle"), (by decide +kernel : (parseMethodDescriptor "(LFirstIn$Rule;)V").map (fun d => d.parameters.length) = some 1)⟩, gt5 127 rfl rfl, gt5 128 rfl rfl, rfl, nlt rfl⟩
set_option maxRecDepth 100000 in
set_option maxHeartbeats 4000000 in
theorem c_Pairs_layRule {G : jG} {S : hS} {V : hV} {v0 : Option Nat} {v1 : Option Nat} {res : hV} (hf : Pairs_layRule S v0 v1 V = some res) : jC G M_Pairs_layRule [ar v0, ar v1] (S, V) none (S, res) := by
  unfold Pairs_layRule at hf
  obtain ⟨_, _, hf⟩ := jbind hf
  refine jC_of (pf_X3 _ _) rfl (nle rfl) ?_
  show jJ G M_Pairs_layRule (jEnd G M_Pairs_layRule none (S, res)) 0 0 0 [(0, ar v0), (1, ar v1)] [] (S, V)
  refine j_iconst (dt_Pairs_layRule 0 (0, .iconst 0, 1) rfl) ic_0 ?_
  refine j_istore_n (dt_Pairs_layRule 1 (1, .istore_n 2, 1) rfl) (nlt rfl) ?_
  obtain ⟨t2, ht2, hf⟩ := jbind hf
  have hX2 : ∀ q2 : hV, q2 = t2 → jJ G M_Pairs_layRule (jEnd G M_Pairs_layRule none (S, res)) 0 0 62 [] [] (S, q2) := by
    intro q2 hq2
    subst hq2
    cases hf
    exact j_vret (dt_Pairs_layRule 34 (62, .return_, 1) rfl) rfl
  refine j_sub (ls' := [(0, ar v0), (1, ar v1), (2, ai 0)]) rfl ?_
  refine jloop_J (C := fun s2 => jJ G M_Pairs_layRule (jEnd G M_Pairs_layRule none (S, res)) 0 0 2 [(0, ar v0), (1, ar v1), (2, ai s2.1)] [] (S, s2.2)) (fun s2 z2_ hy2 hin2 hout2 => ?_) _ _ ht2
  unfold Pairs_layRule_L2 at hy2
  refine j_iload_n (dt_Pairs_layRule 2 (2, .iload_n 2, 1) rfl) rfl ?_
  refine j_aload_n (dt_Pairs_layRule 3 (3, .aload_n 0, 1) rfl) rfl ?_
  obtain ⟨x1, hx1, hy2⟩ := jbind hy2
  refine j_getI (dt_Pairs_layRule 4 (4, .getfield 30, 3) rfl) fl_X3_30 hx1 (fun _ _ => rfl) ?_
  refine jite hy2 (fun hc hy2 => ?_) (fun hc hy2 => ?_)
  · refine j_icmp_ge (dt_Pairs_layRule 5 (7, .if_icmp .ge 55, 3) rfl) rfl (fun _ => ?_) (fun q => absurd hc q)
    cases hy2
    have hz := hX2 _ (hout2 _ rfl)
    exact j_sub rfl hz
  · refine j_icmp_ge (dt_Pairs_layRule 5 (7, .if_icmp .ge 55, 3) rfl) rfl (fun q => absurd q hc) (fun _ => ?_)
    refine j_iconst (dt_Pairs_layRule 6 (10, .iconst 0, 1) rfl) ic_0 ?_
    refine j_istore_n (dt_Pairs_layRule 7 (11, .istore_n 3, 1) rfl) (nlt rfl) ?_
    obtain ⟨t12, ht12, hy2⟩ := jbind hy2
    have hX12 : ∀ q12 : hV, q12 = t12 → jJ G M_Pairs_layRule (jEnd G M_Pairs_layRule none (S, res)) 0 0 56 [(0, ar v0), (1, ar v1), (2, ai s2.1)] [] (S, q12) := by
      intro q12 hq12
      subst hq12
      refine j_iinc (dt_Pairs_layRule 32 (56, .iinc 2 1, 3) rfl) rfl (nlt rfl) (ii_1 _) ?_
      refine j_goto (dt_Pairs_layRule 33 (59, .goto (-57), 3) rfl) rfl ?_
      cases hy2
      have hz := hin2 _ rfl
      exact j_sub rfl hz
    refine j_sub (ls' := [(0, ar v0), (1, ar v1), (2, ai s2.1), (3, ai 0)]) rfl ?_
    refine jloop_J (C := fun s12 => jJ G M_Pairs_layRule (jEnd G M_Pairs_layRule none (S, res)) 0 0 12 [(0, ar v0), (1, ar v1), (2, ai s2.1), (3, ai s12.1)] [] (S, s12.2)) (fun s12 z12_ hy12 hin12 hout12 => ?_) _ _ ht12
    unfold Pairs_layRule_L12 at hy12
    refine j_iload_n (dt_Pairs_layRule 8 (12, .iload_n 3, 1) rfl) rfl ?_
    refine j_aload_n (dt_Pairs_layRule 9 (13, .aload_n 0, 1) rfl) rfl ?_
    obtain ⟨x2, hx2, hy12⟩ := jbind hy12
    refine j_getI (dt_Pairs_layRule 10 (14, .getfield 30, 3) rfl) fl_X3_30 hx2 (fun _ _ => rfl) ?_
    refine jite hy12 (fun hc hy12 => ?_) (fun hc hy12 => ?_)
    · refine j_icmp_ge (dt_Pairs_layRule 11 (17, .if_icmp .ge 39, 3) rfl) rfl (fun _ => ?_) (fun q => absurd hc q)
      cases hy12
      have hz := hX12 _ (hout12 _ rfl)
      exact j_sub rfl hz
    · refine j_icmp_ge (dt_Pairs_layRule 11 (17, .if_icmp .ge 39, 3) rfl) rfl (fun q => absurd q hc) (fun _ => ?_)
      refine j_aload_n (dt_Pairs_layRule 12 (20, .aload_n 1, 1) rfl) rfl ?_
      obtain ⟨x3, hx3, hy12⟩ := jbind hy12
      refine j_getR (dt_Pairs_layRule 13 (21, .getfield 93, 3) rfl) fl_X3_93 hx3 (fun _ _ => rfl) ?_
      refine j_aload_n (dt_Pairs_layRule 14 (24, .aload_n 0, 1) rfl) rfl ?_
      obtain ⟨x4, hx4, hy12⟩ := jbind hy12
      refine j_getR (dt_Pairs_layRule 15 (25, .getfield 9, 3) rfl) fl_X3_9 hx4 (fun _ _ => rfl) ?_
      refine j_iload_n (dt_Pairs_layRule 16 (28, .iload_n 2, 1) rfl) rfl ?_
      obtain ⟨x5, hx5, hy12⟩ := jbind hy12
      refine j_aldI (dt_Pairs_layRule 17 (29, .iaload, 1) rfl) hx5 ?_
      obtain ⟨x6, hx6, hy12⟩ := jbind hy12
      refine j_aldI (dt_Pairs_layRule 18 (30, .iaload, 1) rfl) hx6 ?_
      refine j_aload_n (dt_Pairs_layRule 19 (31, .aload_n 0, 1) rfl) rfl ?_
      obtain ⟨x7, hx7, hy12⟩ := jbind hy12
      refine j_getR (dt_Pairs_layRule 20 (32, .getfield 9, 3) rfl) fl_X3_9 hx7 (fun _ _ => rfl) ?_
      refine j_iload_n (dt_Pairs_layRule 21 (35, .iload_n 3, 1) rfl) rfl ?_
      obtain ⟨x8, hx8, hy12⟩ := jbind hy12
      refine j_aldI (dt_Pairs_layRule 22 (36, .iaload, 1) rfl) hx8 ?_
      refine j_callSN M_Fi_has 2 [ai x6, ai x8] (rest := []) (dt_Pairs_layRule 23 (37, .invokestatic 96, 3) rfl) ml_X3_96 ok_Fi_has (jfit rfl rfl ⟨rfl, rfl⟩ (nle rfl) (nlt rfl)) rfl rfl (nle rfl) ⟨rfl, rfl⟩ (c_Fi_has rfl) ?_
      refine jite hy12 (fun hc hy12 => ?_) (fun hc hy12 => ?_)
      · refine j_if_eq (dt_Pairs_layRule 24 (40, .ifCond .eq 10, 3) rfl) rfl (fun _ => ?_) (fun q => absurd hc q)
        refine j_iinc (dt_Pairs_layRule 30 (50, .iinc 3 1, 3) rfl) rfl (nlt rfl) (ii_1 _) ?_
        refine j_goto (dt_Pairs_layRule 31 (53, .goto (-41), 3) rfl) rfl ?_
        cases hy12
        have hz := hin12 _ rfl
        exact j_sub rfl hz
      · refine j_if_eq (dt_Pairs_layRule 24 (40, .ifCond .eq 10, 3) rfl) rfl (fun q => absurd q hc) (fun _ => ?_)
        refine j_aload_n (dt_Pairs_layRule 25 (43, .aload_n 0, 1) rfl) rfl ?_
        refine j_aload_n (dt_Pairs_layRule 26 (44, .aload_n 1, 1) rfl) rfl ?_
        refine j_iload_n (dt_Pairs_layRule 27 (45, .iload_n 2, 1) rfl) rfl ?_
        refine j_iload_n (dt_Pairs_layRule 28 (46, .iload_n 3, 1) rfl) rfl ?_
        obtain ⟨V9, hV9, hy12⟩ := jbind hy12
        obtain ⟨b10, hb10⟩ := r_Pairs_layCouple hV9
        refine j_callV M_Pairs_layCouple 3 [ar v1, ai s2.1, ai s12.1] (rest := []) (dt_Pairs_layRule 29 (47, .invokevirtual 99, 3) rfl) ml_X3_99 ok_Pairs_layCouple (jfit rfl rfl ⟨rfl, rfl⟩ (nle rfl) (nlt rfl)) rfl rfl (nle rfl) ⟨rfl, rfl⟩ hb10 ((c_Pairs_layCouple hV9)) ?_
        refine j_iinc (dt_Pairs_layRule 30 (50, .iinc 3 1, 3) rfl) rfl (nlt rfl) (ii_1 _) ?_
        refine j_goto (dt_Pairs_layRule 31 (53, .goto (-41), 3) rfl) rfl ?_
        cases hy12
        have hz := hin12 _ rfl
        exact j_sub rfl hz
theorem r_Pairs_layRule {S : hS} {V : hV} {v0 : Option Nat} {v1 : Option Nat} {res : hV} (hf : Pairs_layRule S v0 v1 V = some res) : ∃ b, rc S 3 v0 = some b := by
  unfold Pairs_layRule at hf
  obtain ⟨b, hb, _⟩ := jbind hf
  exact ⟨b, hb⟩
def tb_Pairs_leastOf : List (Nat × Instr × Nat) := [(0, .iconst (-1), 1), (1, .istore_n 3, 1), (2, .iconst 0, 1), (3, .istore 4, 2), (5, .iload 4, 2), (7, .bipush 8, 2), (9, .if_icmp .ge 43, 3), (12, .aload_n 0, 1), (13, .getfield 37, 3), (16, .iload 4, 2), (18, .invokestatic 96, 3), (21, .ifCond .eq 25, 3), (24, .iload_n 3, 1), (25, .iconst (-1), 1), (26, .if_icmp .eq 13, 3), (29, .aload_n 1, 1), (30, .iload_n 2, 1), (31, .iload 4, 2), (33, .iadd, 1), (34, .iaload, 1), (35, .iload_n 3, 1), (36, .if_icmp .ge 10, 3), (39, .aload_n 1, 1), (40, .iload_n 2, 1), (41, .iload 4, 2), (43, .iadd, 1), (44, .iaload, 1), (45, .istore_n 3, 1), (46, .iinc 4 1, 3), (49, .goto (-44), 3), (52, .iconst 0, 1), (53, .iload_n 3, 1), (54, .invokestatic 103, 3), (57, .ireturn, 1)]
theorem dt_Pairs_leastOf (i : Nat) (q : Nat × Instr × Nat) (h : tb_Pairs_leastOf[i]? = some q) : decode prog_5_method_7_code q.1 = .ok q.2 := jdt (by decide +kernel : tb_Pairs_leastOf.all (fun q => decide (decode prog_5_method_7_code q.1 = .ok q.2)) = true) h
theorem ok_Pairs_leastOf : jOKV M_Pairs_leastOf 2 := ⟨⟨gt5 147 rfl rfl, gt1 14 rfl rfl, (by decide : "FirstIn$Pairs" ≠ "java/lang/invoke/MethodHandle"), (by decide : "FirstIn$Pairs" ≠ "java/lang/invoke/VarHandle"), (by decide +kernel : (parseMethodDescriptor "([II)I").map (fun d => d.parameters.length) = some 2)⟩, gt5 145 rfl rfl, gt5 146 rfl rfl, rfl, nlt rfl⟩
set_option maxRecDepth 100000 in
set_option maxHeartbeats 4000000 in
theorem c_Pairs_leastOf {G : jG} {S : hS} {V : hV} {v0 : Option Nat} {v1 : Option Nat} {v2 : Int32} {res : Int32} (hf : Pairs_leastOf S v0 v1 v2 V = some res) : jC G M_Pairs_leastOf [ar v0, ar v1, ai v2] (S, V) (some (ai res)) (S, V) := by
  unfold Pairs_leastOf at hf
  obtain ⟨_, _, hf⟩ := jbind hf
  refine jC_of (pf_X3 _ _) rfl (nle rfl) ?_
  show jJ G M_Pairs_leastOf (jEnd G M_Pairs_leastOf (some (ai res)) (S, V)) 0 0 0 [(0, ar v0), (1, ar v1), (2, ai v2)] [] (S, V)
  refine j_iconst (dt_Pairs_leastOf 0 (0, .iconst (-1), 1) rfl) ic_m1 ?_
  refine j_istore_n (dt_Pairs_leastOf 1 (1, .istore_n 3, 1) rfl) (nlt rfl) ?_
  refine j_iconst (dt_Pairs_leastOf 2 (2, .iconst 0, 1) rfl) ic_0 ?_
  refine j_istore (dt_Pairs_leastOf 3 (3, .istore 4, 2) rfl) (nlt rfl) ?_
  obtain ⟨t5, ht5, hf⟩ := jbind hf
  have hX5 : ∀ q5 : Int32, q5 = t5 → jJ G M_Pairs_leastOf (jEnd G M_Pairs_leastOf (some (ai res)) (S, V)) 0 0 52 [(3, ai q5)] [] (S, V) := by
    intro q5 hq5
    subst hq5
    refine j_iconst (dt_Pairs_leastOf 30 (52, .iconst 0, 1) rfl) ic_0 ?_
    refine j_iload_n (dt_Pairs_leastOf 31 (53, .iload_n 3, 1) rfl) rfl ?_
    refine j_callS M_Jd_max 2 [ai 0, ai q5] (rest := []) (dt_Pairs_leastOf 32 (54, .invokestatic 103, 3) rfl) ml_X3_103 ok_Jd_max (jfit rfl rfl ⟨rfl, rfl⟩ (nle rfl) (nlt rfl)) rfl rfl (nle rfl) ⟨rfl, rfl⟩ (c_Jd_max rfl) ?_
    cases hf
    exact j_iret (dt_Pairs_leastOf 33 (57, .ireturn, 1) rfl) rfl
  refine j_sub (ls' := [(0, ar v0), (1, ar v1), (2, ai v2), (3, ai (-1)), (4, ai 0)]) rfl ?_
  refine jloop_J (C := fun s5 => jJ G M_Pairs_leastOf (jEnd G M_Pairs_leastOf (some (ai res)) (S, V)) 0 0 5 [(0, ar v0), (1, ar v1), (2, ai v2), (3, ai s5.1), (4, ai s5.2)] [] (S, V)) (fun s5 z5_ hy5 hin5 hout5 => ?_) _ _ ht5
  unfold Pairs_leastOf_L5 at hy5
  refine j_iload (dt_Pairs_leastOf 4 (5, .iload 4, 2) rfl) rfl ?_
  refine j_bipush (dt_Pairs_leastOf 5 (7, .bipush 8, 2) rfl) bp_8 ?_
  refine jite hy5 (fun hc hy5 => ?_) (fun hc hy5 => ?_)
  · refine j_icmp_ge (dt_Pairs_leastOf 6 (9, .if_icmp .ge 43, 3) rfl) rfl (fun _ => ?_) (fun q => absurd hc q)
    cases hy5
    have hz := hX5 _ (hout5 _ rfl)
    exact j_sub rfl hz
  · refine j_icmp_ge (dt_Pairs_leastOf 6 (9, .if_icmp .ge 43, 3) rfl) rfl (fun q => absurd q hc) (fun _ => ?_)
    refine j_aload_n (dt_Pairs_leastOf 7 (12, .aload_n 0, 1) rfl) rfl ?_
    obtain ⟨x1, hx1, hy5⟩ := jbind hy5
    refine j_getI (dt_Pairs_leastOf 8 (13, .getfield 37, 3) rfl) fl_X3_37 hx1 (fun _ _ => rfl) ?_
    refine j_iload (dt_Pairs_leastOf 9 (16, .iload 4, 2) rfl) rfl ?_
    refine j_callSN M_Fi_has 2 [ai x1, ai s5.2] (rest := []) (dt_Pairs_leastOf 10 (18, .invokestatic 96, 3) rfl) ml_X3_96 ok_Fi_has (jfit rfl rfl ⟨rfl, rfl⟩ (nle rfl) (nlt rfl)) rfl rfl (nle rfl) ⟨rfl, rfl⟩ (c_Fi_has rfl) ?_
    refine jite hy5 (fun hc hy5 => ?_) (fun hc hy5 => ?_)
    · refine j_if_eq (dt_Pairs_leastOf 11 (21, .ifCond .eq 25, 3) rfl) rfl (fun _ => ?_) (fun q => absurd hc q)
      refine j_iinc (dt_Pairs_leastOf 28 (46, .iinc 4 1, 3) rfl) rfl (nlt rfl) (ii_1 _) ?_
      refine j_goto (dt_Pairs_leastOf 29 (49, .goto (-44), 3) rfl) rfl ?_
      cases hy5
      have hz := hin5 _ rfl
      exact j_sub rfl hz
    · refine j_if_eq (dt_Pairs_leastOf 11 (21, .ifCond .eq 25, 3) rfl) rfl (fun q => absurd q hc) (fun _ => ?_)
      refine j_iload_n (dt_Pairs_leastOf 12 (24, .iload_n 3, 1) rfl) rfl ?_
      refine j_iconst (dt_Pairs_leastOf 13 (25, .iconst (-1), 1) rfl) ic_m1 ?_
      obtain ⟨k26, hk26, hy5⟩ := jbind hy5
      have hE26 : ∀ e26 : Unit, k26 = .inl e26 → jJ G M_Pairs_leastOf (jEnd G M_Pairs_leastOf (some (ai res)) (S, V)) 0 0 39 [(0, ar v0), (1, ar v1), (2, ai v2), (4, ai s5.2)] [] (S, V) := by
        intro e26 he26
        subst he26
        refine j_aload_n (dt_Pairs_leastOf 22 (39, .aload_n 1, 1) rfl) rfl ?_
        refine j_iload_n (dt_Pairs_leastOf 23 (40, .iload_n 2, 1) rfl) rfl ?_
        refine j_iload (dt_Pairs_leastOf 24 (41, .iload 4, 2) rfl) rfl ?_
        refine j_iadd (dt_Pairs_leastOf 25 (43, .iadd, 1) rfl) ?_
        obtain ⟨x2, hx2, hy5⟩ := jbind hy5
        refine j_aldI (dt_Pairs_leastOf 26 (44, .iaload, 1) rfl) hx2 ?_
        refine j_istore_n (dt_Pairs_leastOf 27 (45, .istore_n 3, 1) rfl) (nlt rfl) ?_
        refine j_iinc (dt_Pairs_leastOf 28 (46, .iinc 4 1, 3) rfl) rfl (nlt rfl) (ii_1 _) ?_
        refine j_goto (dt_Pairs_leastOf 29 (49, .goto (-44), 3) rfl) rfl ?_
        cases hy5
        have hz := hin5 _ rfl
        exact j_sub rfl hz
      refine jite hk26 (fun hc hk26 => ?_) (fun hc hk26 => ?_)
      · refine j_icmp_eq (dt_Pairs_leastOf 14 (26, .if_icmp .eq 13, 3) rfl) rfl (fun _ => ?_) (fun q => absurd hc q)
        cases hk26
        have hz := hE26 _ rfl
        exact j_sub rfl hz
      · refine j_icmp_eq (dt_Pairs_leastOf 14 (26, .if_icmp .eq 13, 3) rfl) rfl (fun q => absurd q hc) (fun _ => ?_)
        refine j_aload_n (dt_Pairs_leastOf 15 (29, .aload_n 1, 1) rfl) rfl ?_
        refine j_iload_n (dt_Pairs_leastOf 16 (30, .iload_n 2, 1) rfl) rfl ?_
        refine j_iload (dt_Pairs_leastOf 17 (31, .iload 4, 2) rfl) rfl ?_
        refine j_iadd (dt_Pairs_leastOf 18 (33, .iadd, 1) rfl) ?_
        obtain ⟨x3, hx3, hk26⟩ := jbind hk26
        refine j_aldI (dt_Pairs_leastOf 19 (34, .iaload, 1) rfl) hx3 ?_
        refine j_iload_n (dt_Pairs_leastOf 20 (35, .iload_n 3, 1) rfl) rfl ?_
        refine jite hk26 (fun hc hk26 => ?_) (fun hc hk26 => ?_)
        · refine j_icmp_ge (dt_Pairs_leastOf 21 (36, .if_icmp .ge 10, 3) rfl) rfl (fun _ => ?_) (fun q => absurd hc q)
          refine j_iinc (dt_Pairs_leastOf 28 (46, .iinc 4 1, 3) rfl) rfl (nlt rfl) (ii_1 _) ?_
          refine j_goto (dt_Pairs_leastOf 29 (49, .goto (-44), 3) rfl) rfl ?_
          cases hk26
          cases hy5
          have hz := hin5 _ rfl
          exact j_sub rfl hz
        · refine j_icmp_ge (dt_Pairs_leastOf 21 (36, .if_icmp .ge 10, 3) rfl) rfl (fun q => absurd q hc) (fun _ => ?_)
          cases hk26
          have hz := hE26 _ rfl
          exact j_sub rfl hz
theorem r_Pairs_leastOf {S : hS} {V : hV} {v0 : Option Nat} {v1 : Option Nat} {v2 : Int32} {res : Int32} (hf : Pairs_leastOf S v0 v1 v2 V = some res) : ∃ b, rc S 3 v0 = some b := by
  unfold Pairs_leastOf at hf
  obtain ⟨b, hb, _⟩ := jbind hf
  exact ⟨b, hb⟩
def tb_Pairs_layToCome : List (Nat × Instr × Nat) := [(0, .aload_n 0, 1), (1, .getfield 24, 3), (4, .iconst 0, 1), (5, .invokestatic 50, 3), (8, .aload_n 0, 1), (9, .getfield 27, 3), (12, .iconst 0, 1), (13, .invokestatic 50, 3), (16, .aload_n 0, 1), (17, .getfield 30, 3), (20, .iconst 1, 1), (21, .isub, 1), (22, .istore_n 1, 1), (23, .iload_n 1, 1), (24, .ifCond .lt 92, 3), (27, .aload_n 0, 1), (28, .getfield 24, 3), (31, .iload_n 1, 1), (32, .iconst 1, 1), (33, .iadd, 1), (34, .iaload, 1), (35, .istore_n 2, 1), (36, .aload_n 0, 1), (37, .getfield 27, 3), (40, .iload_n 1, 1), (41, .iconst 1, 1), (42, .iadd, 1), (43, .iaload, 1), (44, .istore_n 3, 1), (45, .iconst 0, 1), (46, .istore 4, 2), (48, .iload 4, 2), (50, .iload_n 1, 1), (51, .if_icmp .ge 45, 3), (54, .iload_n 2, 1), (55, .aload_n 0, 1), (56, .aload_n 0, 1), (57, .getfield 18, 3), (60, .iload 4, 2), (62, .iload_n 1, 1), (63, .invokestatic 106, 3), (66, .invokevirtual 119, 3), (69, .iadd, 1), (70, .istore_n 2, 1), (71, .iload_n 3, 1), (72, .aload_n 0, 1), (73, .aload_n 0, 1), (74, .getfield 21, 3), (77, .iload 4, 2), (79, .iload_n 1, 1), (80, .invokestatic 106, 3), (83, .invokevirtual 119, 3), (86, .invokestatic 103, 3), (89, .istore_n 3, 1), (90, .iinc 4 1, 3), (93, .goto (-45), 3), (96, .aload_n 0, 1), (97, .getfield 24, 3), (100, .iload_n 1, 1), (101, .iload_n 2, 1), (102, .iastore, 1), (103, .aload_n 0, 1), (104, .getfield 27, 3), (107, .iload_n 1, 1), (108, .iload_n 3, 1), (109, .iastore, 1), (110, .iinc 1 (-1), 3), (113, .goto (-90), 3), (116, .return_, 1)]
theorem dt_Pairs_layToCome (i : Nat) (q : Nat × Instr × Nat) (h : tb_Pairs_layToCome[i]? = some q) : decode prog_5_method_6_code q.1 = .ok q.2 := jdt (by decide +kernel : tb_Pairs_layToCome.all (fun q => decide (decode prog_5_method_6_code q.1 = .ok q.2)) = true) h
theorem ok_Pairs_layToCome : jOKV M_Pairs_layToCome 0 := ⟨⟨gt5 143 rfl rfl, gt1 14 rfl rfl, (by decide : "FirstIn$Pairs" ≠ "java/lang/invoke/MethodHandle"), (by decide : "FirstIn$Pairs" ≠ "java/lang/invoke/VarHandle"), (by decide +kernel : (parseMethodDescriptor "()V").map (fun d => d.parameters.length) = some 0)⟩, gt5 141 rfl rfl, gt5 142 rfl rfl, rfl, nlt rfl⟩
set_option maxRecDepth 100000 in
set_option maxHeartbeats 4000000 in
theorem c_Pairs_layToCome {G : jG} {S : hS} {V : hV} {v0 : Option Nat} {res : hV} (hf : Pairs_layToCome S v0 V = some res) : jC G M_Pairs_layToCome [ar v0] (S, V) none (S, res) := by
  unfold Pairs_layToCome at hf
  obtain ⟨_, _, hf⟩ := jbind hf
  refine jC_of (pf_X3 _ _) rfl (nle rfl) ?_
  show jJ G M_Pairs_layToCome (jEnd G M_Pairs_layToCome none (S, res)) 0 0 0 [(0, ar v0)] [] (S, V)
  refine j_aload_n (dt_Pairs_layToCome 0 (0, .aload_n 0, 1) rfl) rfl ?_
  obtain ⟨x1, hx1, hf⟩ := jbind hf
  refine j_getR (dt_Pairs_layToCome 1 (1, .getfield 24, 3) rfl) fl_X3_24 hx1 (fun _ _ => rfl) ?_
  refine j_iconst (dt_Pairs_layToCome 2 (4, .iconst 0, 1) rfl) ic_0 ?_
  obtain ⟨V2, hV2, hf⟩ := jbind hf
  refine j_callS M_Jd_fill 2 [ar x1, ai 0] (rest := []) (dt_Pairs_layToCome 3 (5, .invokestatic 50, 3) rfl) ml_X3_50 ok_Jd_fill (jfit rfl rfl ⟨rfl, rfl⟩ (nle rfl) (nlt rfl)) rfl rfl (nle rfl) ⟨rfl, rfl⟩ ((c_Jd_fill hV2)) ?_
  refine j_aload_n (dt_Pairs_layToCome 4 (8, .aload_n 0, 1) rfl) rfl ?_
  obtain ⟨x3, hx3, hf⟩ := jbind hf
  refine j_getR (dt_Pairs_layToCome 5 (9, .getfield 27, 3) rfl) fl_X3_27 hx3 (fun _ _ => rfl) ?_
  refine j_iconst (dt_Pairs_layToCome 6 (12, .iconst 0, 1) rfl) ic_0 ?_
  obtain ⟨V4, hV4, hf⟩ := jbind hf
  refine j_callS M_Jd_fill 2 [ar x3, ai 0] (rest := []) (dt_Pairs_layToCome 7 (13, .invokestatic 50, 3) rfl) ml_X3_50 ok_Jd_fill (jfit rfl rfl ⟨rfl, rfl⟩ (nle rfl) (nlt rfl)) rfl rfl (nle rfl) ⟨rfl, rfl⟩ ((c_Jd_fill hV4)) ?_
  refine j_aload_n (dt_Pairs_layToCome 8 (16, .aload_n 0, 1) rfl) rfl ?_
  obtain ⟨x5, hx5, hf⟩ := jbind hf
  refine j_getI (dt_Pairs_layToCome 9 (17, .getfield 30, 3) rfl) fl_X3_30 hx5 (fun _ _ => rfl) ?_
  refine j_iconst (dt_Pairs_layToCome 10 (20, .iconst 1, 1) rfl) ic_1 ?_
  refine j_isub (dt_Pairs_layToCome 11 (21, .isub, 1) rfl) ?_
  refine j_istore_n (dt_Pairs_layToCome 12 (22, .istore_n 1, 1) rfl) (nlt rfl) ?_
  obtain ⟨t23, ht23, hf⟩ := jbind hf
  have hX23 : ∀ q23 : hV, q23 = t23 → jJ G M_Pairs_layToCome (jEnd G M_Pairs_layToCome none (S, res)) 0 0 116 [] [] (S, q23) := by
    intro q23 hq23
    subst hq23
    cases hf
    exact j_vret (dt_Pairs_layToCome 68 (116, .return_, 1) rfl) rfl
  refine j_sub (ls' := [(0, ar v0), (1, ai (x5 - 1))]) rfl ?_
  refine jloop_J (C := fun s23 => jJ G M_Pairs_layToCome (jEnd G M_Pairs_layToCome none (S, res)) 0 0 23 [(0, ar v0), (1, ai s23.1)] [] (S, s23.2)) (fun s23 z23_ hy23 hin23 hout23 => ?_) _ _ ht23
  unfold Pairs_layToCome_L23 at hy23
  refine j_iload_n (dt_Pairs_layToCome 13 (23, .iload_n 1, 1) rfl) rfl ?_
  refine jite hy23 (fun hc hy23 => ?_) (fun hc hy23 => ?_)
  · refine j_if_lt (dt_Pairs_layToCome 14 (24, .ifCond .lt 92, 3) rfl) rfl (fun _ => ?_) (fun q => absurd hc q)
    cases hy23
    have hz := hX23 _ (hout23 _ rfl)
    exact j_sub rfl hz
  · refine j_if_lt (dt_Pairs_layToCome 14 (24, .ifCond .lt 92, 3) rfl) rfl (fun q => absurd q hc) (fun _ => ?_)
    refine j_aload_n (dt_Pairs_layToCome 15 (27, .aload_n 0, 1) rfl) rfl ?_
    obtain ⟨x6, hx6, hy23⟩ := jbind hy23
    refine j_getR (dt_Pairs_layToCome 16 (28, .getfield 24, 3) rfl) fl_X3_24 hx6 (fun _ _ => rfl) ?_
    refine j_iload_n (dt_Pairs_layToCome 17 (31, .iload_n 1, 1) rfl) rfl ?_
    refine j_iconst (dt_Pairs_layToCome 18 (32, .iconst 1, 1) rfl) ic_1 ?_
    refine j_iadd (dt_Pairs_layToCome 19 (33, .iadd, 1) rfl) ?_
    obtain ⟨x7, hx7, hy23⟩ := jbind hy23
    refine j_aldI (dt_Pairs_layToCome 20 (34, .iaload, 1) rfl) hx7 ?_
    refine j_istore_n (dt_Pairs_layToCome 21 (35, .istore_n 2, 1) rfl) (nlt rfl) ?_
    refine j_aload_n (dt_Pairs_layToCome 22 (36, .aload_n 0, 1) rfl) rfl ?_
    obtain ⟨x8, hx8, hy23⟩ := jbind hy23
    refine j_getR (dt_Pairs_layToCome 23 (37, .getfield 27, 3) rfl) fl_X3_27 hx8 (fun _ _ => rfl) ?_
    refine j_iload_n (dt_Pairs_layToCome 24 (40, .iload_n 1, 1) rfl) rfl ?_
    refine j_iconst (dt_Pairs_layToCome 25 (41, .iconst 1, 1) rfl) ic_1 ?_
    refine j_iadd (dt_Pairs_layToCome 26 (42, .iadd, 1) rfl) ?_
    obtain ⟨x9, hx9, hy23⟩ := jbind hy23
    refine j_aldI (dt_Pairs_layToCome 27 (43, .iaload, 1) rfl) hx9 ?_
    refine j_istore_n (dt_Pairs_layToCome 28 (44, .istore_n 3, 1) rfl) (nlt rfl) ?_
    refine j_iconst (dt_Pairs_layToCome 29 (45, .iconst 0, 1) rfl) ic_0 ?_
    refine j_istore (dt_Pairs_layToCome 30 (46, .istore 4, 2) rfl) (nlt rfl) ?_
    obtain ⟨t48, ht48, hy23⟩ := jbind hy23
    have hX48 : ∀ q48 : Int32 × Int32, q48 = t48 → jJ G M_Pairs_layToCome (jEnd G M_Pairs_layToCome none (S, res)) 0 0 96 [(0, ar v0), (1, ai s23.1), (2, ai q48.1), (3, ai q48.2)] [] (S, s23.2) := by
      intro q48 hq48
      subst hq48
      refine j_aload_n (dt_Pairs_layToCome 56 (96, .aload_n 0, 1) rfl) rfl ?_
      obtain ⟨x16, hx16, hy23⟩ := jbind hy23
      refine j_getR (dt_Pairs_layToCome 57 (97, .getfield 24, 3) rfl) fl_X3_24 hx16 (fun _ _ => rfl) ?_
      refine j_iload_n (dt_Pairs_layToCome 58 (100, .iload_n 1, 1) rfl) rfl ?_
      refine j_iload_n (dt_Pairs_layToCome 59 (101, .iload_n 2, 1) rfl) rfl ?_
      obtain ⟨V17, hV17, hy23⟩ := jbind hy23
      refine j_astI (dt_Pairs_layToCome 60 (102, .iastore, 1) rfl) hV17 ?_
      refine j_aload_n (dt_Pairs_layToCome 61 (103, .aload_n 0, 1) rfl) rfl ?_
      obtain ⟨x18, hx18, hy23⟩ := jbind hy23
      refine j_getR (dt_Pairs_layToCome 62 (104, .getfield 27, 3) rfl) fl_X3_27 hx18 (fun _ _ => rfl) ?_
      refine j_iload_n (dt_Pairs_layToCome 63 (107, .iload_n 1, 1) rfl) rfl ?_
      refine j_iload_n (dt_Pairs_layToCome 64 (108, .iload_n 3, 1) rfl) rfl ?_
      obtain ⟨V19, hV19, hy23⟩ := jbind hy23
      refine j_astI (dt_Pairs_layToCome 65 (109, .iastore, 1) rfl) hV19 ?_
      refine j_iinc (dt_Pairs_layToCome 66 (110, .iinc 1 (-1), 3) rfl) rfl (nlt rfl) (ii_m1 _) ?_
      refine j_goto (dt_Pairs_layToCome 67 (113, .goto (-90), 3) rfl) rfl ?_
      cases hy23
      have hz := hin23 _ rfl
      exact j_sub rfl hz
    refine j_sub (ls' := [(0, ar v0), (1, ai s23.1), (2, ai x7), (3, ai x9), (4, ai 0)]) rfl ?_
    refine jloop_J (C := fun s48 => jJ G M_Pairs_layToCome (jEnd G M_Pairs_layToCome none (S, res)) 0 0 48 [(0, ar v0), (1, ai s23.1), (2, ai s48.1), (3, ai s48.2.1), (4, ai s48.2.2)] [] (S, s23.2)) (fun s48 z48_ hy48 hin48 hout48 => ?_) _ _ ht48
    unfold Pairs_layToCome_L48 at hy48
    refine j_iload (dt_Pairs_layToCome 31 (48, .iload 4, 2) rfl) rfl ?_
    refine j_iload_n (dt_Pairs_layToCome 32 (50, .iload_n 1, 1) rfl) rfl ?_
    refine jite hy48 (fun hc hy48 => ?_) (fun hc hy48 => ?_)
    · refine j_icmp_ge (dt_Pairs_layToCome 33 (51, .if_icmp .ge 45, 3) rfl) rfl (fun _ => ?_) (fun q => absurd hc q)
      cases hy48
      have hz := hX48 _ (hout48 _ rfl)
      exact j_sub rfl hz
    · refine j_icmp_ge (dt_Pairs_layToCome 33 (51, .if_icmp .ge 45, 3) rfl) rfl (fun q => absurd q hc) (fun _ => ?_)
      refine j_iload_n (dt_Pairs_layToCome 34 (54, .iload_n 2, 1) rfl) rfl ?_
      refine j_aload_n (dt_Pairs_layToCome 35 (55, .aload_n 0, 1) rfl) rfl ?_
      refine j_aload_n (dt_Pairs_layToCome 36 (56, .aload_n 0, 1) rfl) rfl ?_
      obtain ⟨x10, hx10, hy48⟩ := jbind hy48
      refine j_getR (dt_Pairs_layToCome 37 (57, .getfield 18, 3) rfl) fl_X3_18 hx10 (fun _ _ => rfl) ?_
      refine j_iload (dt_Pairs_layToCome 38 (60, .iload 4, 2) rfl) rfl ?_
      refine j_iload_n (dt_Pairs_layToCome 39 (62, .iload_n 1, 1) rfl) rfl ?_
      refine j_callS M_Pairs_pairOf 2 [ai s48.2.2, ai s23.1] (rest := [ar x10, ar v0, ai s48.1]) (dt_Pairs_layToCome 40 (63, .invokestatic 106, 3) rfl) ml_X3_106 ok_Pairs_pairOf (jfit rfl rfl ⟨rfl, rfl⟩ (nle rfl) (nlt rfl)) rfl rfl (nle rfl) ⟨rfl, rfl⟩ (c_Pairs_pairOf rfl) ?_
      obtain ⟨x11, hx11, hy48⟩ := jbind hy48
      obtain ⟨b12, hb12⟩ := r_Pairs_leastOf hx11
      refine j_callV M_Pairs_leastOf 2 [ar x10, ai (Pairs_pairOf s48.2.2 s23.1)] (rest := [ai s48.1]) (dt_Pairs_layToCome 41 (66, .invokevirtual 119, 3) rfl) ml_X3_119 ok_Pairs_leastOf (jfit rfl rfl ⟨rfl, rfl⟩ (nle rfl) (nlt rfl)) rfl rfl (nle rfl) ⟨rfl, rfl⟩ hb12 ((c_Pairs_leastOf hx11)) ?_
      refine j_iadd (dt_Pairs_layToCome 42 (69, .iadd, 1) rfl) ?_
      refine j_istore_n (dt_Pairs_layToCome 43 (70, .istore_n 2, 1) rfl) (nlt rfl) ?_
      refine j_iload_n (dt_Pairs_layToCome 44 (71, .iload_n 3, 1) rfl) rfl ?_
      refine j_aload_n (dt_Pairs_layToCome 45 (72, .aload_n 0, 1) rfl) rfl ?_
      refine j_aload_n (dt_Pairs_layToCome 46 (73, .aload_n 0, 1) rfl) rfl ?_
      obtain ⟨x13, hx13, hy48⟩ := jbind hy48
      refine j_getR (dt_Pairs_layToCome 47 (74, .getfield 21, 3) rfl) fl_X3_21 hx13 (fun _ _ => rfl) ?_
      refine j_iload (dt_Pairs_layToCome 48 (77, .iload 4, 2) rfl) rfl ?_
      refine j_iload_n (dt_Pairs_layToCome 49 (79, .iload_n 1, 1) rfl) rfl ?_
      refine j_callS M_Pairs_pairOf 2 [ai s48.2.2, ai s23.1] (rest := [ar x13, ar v0, ai s48.2.1]) (dt_Pairs_layToCome 50 (80, .invokestatic 106, 3) rfl) ml_X3_106 ok_Pairs_pairOf (jfit rfl rfl ⟨rfl, rfl⟩ (nle rfl) (nlt rfl)) rfl rfl (nle rfl) ⟨rfl, rfl⟩ (c_Pairs_pairOf rfl) ?_
      obtain ⟨x14, hx14, hy48⟩ := jbind hy48
      obtain ⟨b15, hb15⟩ := r_Pairs_leastOf hx14
      refine j_callV M_Pairs_leastOf 2 [ar x13, ai (Pairs_pairOf s48.2.2 s23.1)] (rest := [ai s48.2.1]) (dt_Pairs_layToCome 51 (83, .invokevirtual 119, 3) rfl) ml_X3_119 ok_Pairs_leastOf (jfit rfl rfl ⟨rfl, rfl⟩ (nle rfl) (nlt rfl)) rfl rfl (nle rfl) ⟨rfl, rfl⟩ hb15 ((c_Pairs_leastOf hx14)) ?_
      refine j_callS M_Jd_max 2 [ai s48.2.1, ai x14] (rest := []) (dt_Pairs_layToCome 52 (86, .invokestatic 103, 3) rfl) ml_X3_103 ok_Jd_max (jfit rfl rfl ⟨rfl, rfl⟩ (nle rfl) (nlt rfl)) rfl rfl (nle rfl) ⟨rfl, rfl⟩ (c_Jd_max rfl) ?_
      refine j_istore_n (dt_Pairs_layToCome 53 (89, .istore_n 3, 1) rfl) (nlt rfl) ?_
      refine j_iinc (dt_Pairs_layToCome 54 (90, .iinc 4 1, 3) rfl) rfl (nlt rfl) (ii_1 _) ?_
      refine j_goto (dt_Pairs_layToCome 55 (93, .goto (-45), 3) rfl) rfl ?_
      cases hy48
      have hz := hin48 _ rfl
      exact j_sub rfl hz
theorem r_Pairs_layToCome {S : hS} {V : hV} {v0 : Option Nat} {res : hV} (hf : Pairs_layToCome S v0 V = some res) : ∃ b, rc S 3 v0 = some b := by
  unfold Pairs_layToCome at hf
  obtain ⟨b, hb, _⟩ := jbind hf
  exact ⟨b, hb⟩
def tb_Pairs_lay : List (Nat × Instr × Nat) := [(0, .aload_n 0, 1), (1, .iconst 0, 1), (2, .putfield 30, 3), (5, .iconst 0, 1), (6, .istore_n 3, 1), (7, .iload_n 3, 1), (8, .bipush 10, 2), (10, .if_icmp .ge 46, 3), (13, .aload_n 1, 1), (14, .iload_n 3, 1), (15, .invokevirtual 40, 3), (18, .ifCond .eq 32, 3), (21, .aload_n 0, 1), (22, .getfield 30, 3), (25, .bipush 7, 2), (27, .if_icmp .ge 23, 3), (30, .aload_n 0, 1), (31, .getfield 9, 3), (34, .aload_n 0, 1), (35, .getfield 30, 3), (38, .iload_n 3, 1), (39, .iastore, 1), (40, .aload_n 0, 1), (41, .dup, 1), (42, .getfield 30, 3), (45, .iconst 1, 1), (46, .iadd, 1), (47, .putfield 30, 3), (50, .iinc 3 1, 3), (53, .goto (-46), 3), (56, .aload_n 0, 1), (57, .aload_n 2, 1), (58, .invokevirtual 46, 3), (61, .aload_n 0, 1), (62, .getfield 18, 3), (65, .iconst 0, 1), (66, .invokestatic 50, 3), (69, .aload_n 0, 1), (70, .getfield 21, 3), (73, .iconst 0, 1), (74, .invokestatic 50, 3), (77, .iconst 0, 1), (78, .istore_n 3, 1), (79, .iload_n 3, 1), (80, .aload_n 1, 1), (81, .getfield 56, 3), (84, .if_icmp .ge 41, 3), (87, .iload_n 3, 1), (88, .bipush 12, 2), (90, .if_icmp .ge 35, 3), (93, .aload_n 1, 1), (94, .getfield 59, 3), (97, .iload_n 3, 1), (98, .aaload, 1), (99, .aload_n 2, 1), (100, .getfield 63, 3), (103, .invokevirtual 66, 3), (106, .ifCond .eq 13, 3), (109, .aload_n 0, 1), (110, .aload_n 1, 1), (111, .getfield 59, 3), (114, .iload_n 3, 1), (115, .aaload, 1), (116, .invokevirtual 71, 3), (119, .iinc 3 1, 3), (122, .goto (-43), 3), (125, .aload_n 0, 1), (126, .invokevirtual 75, 3), (129, .return_, 1)]
theorem dt_Pairs_lay (i : Nat) (q : Nat × Instr × Nat) (h : tb_Pairs_lay[i]? = some q) : decode prog_5_method_2_code q.1 = .ok q.2 := jdt (by decide +kernel : tb_Pairs_lay.all (fun q => decide (decode prog_5_method_2_code q.1 = .ok q.2)) = true) h
theorem ok_Pairs_lay : jOKV M_Pairs_lay 2 := ⟨⟨gt5 113 rfl rfl, gt1 14 rfl rfl, (by decide : "FirstIn$Pairs" ≠ "java/lang/invoke/MethodHandle"), (by decide : "FirstIn$Pairs" ≠ "java/lang/invoke/VarHandle"), (by decide +kernel : (parseMethodDescriptor "(LFirstIn$Court;LFirstIn$Room;)V").map (fun d => d.parameters.length) = some 2)⟩, gt5 111 rfl rfl, gt5 112 rfl rfl, rfl, nlt rfl⟩
set_option maxRecDepth 100000 in
set_option maxHeartbeats 4000000 in
theorem c_Pairs_lay {G : jG} {S : hS} {V : hV} {v0 : Option Nat} {v1 : Option Nat} {v2 : Option Nat} {res : hV} (hf : Pairs_lay S v0 v1 v2 V = some res) : jC G M_Pairs_lay [ar v0, ar v1, ar v2] (S, V) none (S, res) := by
  unfold Pairs_lay at hf
  obtain ⟨_, _, hf⟩ := jbind hf
  refine jC_of (pf_X3 _ _) rfl (nle rfl) ?_
  show jJ G M_Pairs_lay (jEnd G M_Pairs_lay none (S, res)) 0 0 0 [(0, ar v0), (1, ar v1), (2, ar v2)] [] (S, V)
  refine j_aload_n (dt_Pairs_lay 0 (0, .aload_n 0, 1) rfl) rfl ?_
  refine j_iconst (dt_Pairs_lay 1 (1, .iconst 0, 1) rfl) ic_0 ?_
  obtain ⟨V1, hV1, hf⟩ := jbind hf
  refine j_putI (dt_Pairs_lay 2 (2, .putfield 30, 3) rfl) fl_X3_30 hV1 rfl (Or.inl rfl) ?_
  refine j_iconst (dt_Pairs_lay 3 (5, .iconst 0, 1) rfl) ic_0 ?_
  refine j_istore_n (dt_Pairs_lay 4 (6, .istore_n 3, 1) rfl) (nlt rfl) ?_
  obtain ⟨t7, ht7, hf⟩ := jbind hf
  have hX7 : ∀ q7 : hV, q7 = t7 → jJ G M_Pairs_lay (jEnd G M_Pairs_lay none (S, res)) 0 0 56 [(0, ar v0), (1, ar v1), (2, ar v2)] [] (S, q7) := by
    intro q7 hq7
    subst hq7
    refine j_aload_n (dt_Pairs_lay 30 (56, .aload_n 0, 1) rfl) rfl ?_
    refine j_aload_n (dt_Pairs_lay 31 (57, .aload_n 2, 1) rfl) rfl ?_
    obtain ⟨V10, hV10, hf⟩ := jbind hf
    obtain ⟨b11, hb11⟩ := r_Pairs_layPlaces hV10
    refine j_callV M_Pairs_layPlaces 1 [ar v2] (rest := []) (dt_Pairs_lay 32 (58, .invokevirtual 46, 3) rfl) ml_X3_46 ok_Pairs_layPlaces (jfit rfl rfl ⟨rfl, rfl⟩ (nle rfl) (nlt rfl)) rfl rfl (nle rfl) ⟨rfl, rfl⟩ hb11 ((c_Pairs_layPlaces hV10)) ?_
    refine j_aload_n (dt_Pairs_lay 33 (61, .aload_n 0, 1) rfl) rfl ?_
    obtain ⟨x12, hx12, hf⟩ := jbind hf
    refine j_getR (dt_Pairs_lay 34 (62, .getfield 18, 3) rfl) fl_X3_18 hx12 (fun _ _ => rfl) ?_
    refine j_iconst (dt_Pairs_lay 35 (65, .iconst 0, 1) rfl) ic_0 ?_
    obtain ⟨V13, hV13, hf⟩ := jbind hf
    refine j_callS M_Jd_fill 2 [ar x12, ai 0] (rest := []) (dt_Pairs_lay 36 (66, .invokestatic 50, 3) rfl) ml_X3_50 ok_Jd_fill (jfit rfl rfl ⟨rfl, rfl⟩ (nle rfl) (nlt rfl)) rfl rfl (nle rfl) ⟨rfl, rfl⟩ ((c_Jd_fill hV13)) ?_
    refine j_aload_n (dt_Pairs_lay 37 (69, .aload_n 0, 1) rfl) rfl ?_
    obtain ⟨x14, hx14, hf⟩ := jbind hf
    refine j_getR (dt_Pairs_lay 38 (70, .getfield 21, 3) rfl) fl_X3_21 hx14 (fun _ _ => rfl) ?_
    refine j_iconst (dt_Pairs_lay 39 (73, .iconst 0, 1) rfl) ic_0 ?_
    obtain ⟨V15, hV15, hf⟩ := jbind hf
    refine j_callS M_Jd_fill 2 [ar x14, ai 0] (rest := []) (dt_Pairs_lay 40 (74, .invokestatic 50, 3) rfl) ml_X3_50 ok_Jd_fill (jfit rfl rfl ⟨rfl, rfl⟩ (nle rfl) (nlt rfl)) rfl rfl (nle rfl) ⟨rfl, rfl⟩ ((c_Jd_fill hV15)) ?_
    refine j_iconst (dt_Pairs_lay 41 (77, .iconst 0, 1) rfl) ic_0 ?_
    refine j_istore_n (dt_Pairs_lay 42 (78, .istore_n 3, 1) rfl) (nlt rfl) ?_
    obtain ⟨t79, ht79, hf⟩ := jbind hf
    have hX79 : ∀ q79 : hV, q79 = t79 → jJ G M_Pairs_lay (jEnd G M_Pairs_lay none (S, res)) 0 0 125 [(0, ar v0)] [] (S, q79) := by
      intro q79 hq79
      subst hq79
      refine j_aload_n (dt_Pairs_lay 66 (125, .aload_n 0, 1) rfl) rfl ?_
      obtain ⟨V26, hV26, hf⟩ := jbind hf
      obtain ⟨b27, hb27⟩ := r_Pairs_layToCome hV26
      refine j_callV M_Pairs_layToCome 0 [] (rest := []) (dt_Pairs_lay 67 (126, .invokevirtual 75, 3) rfl) ml_X3_75 ok_Pairs_layToCome (jfit rfl rfl ⟨rfl, rfl⟩ (nle rfl) (nlt rfl)) rfl rfl (nle rfl) ⟨rfl, rfl⟩ hb27 ((c_Pairs_layToCome hV26)) ?_
      cases hf
      exact j_vret (dt_Pairs_lay 68 (129, .return_, 1) rfl) rfl
    refine j_sub (ls' := [(0, ar v0), (1, ar v1), (2, ar v2), (3, ai 0)]) rfl ?_
    refine jloop_J (C := fun s79 => jJ G M_Pairs_lay (jEnd G M_Pairs_lay none (S, res)) 0 0 79 [(0, ar v0), (1, ar v1), (2, ar v2), (3, ai s79.1)] [] (S, s79.2)) (fun s79 z79_ hy79 hin79 hout79 => ?_) _ _ ht79
    unfold Pairs_lay_L79 at hy79
    refine j_iload_n (dt_Pairs_lay 43 (79, .iload_n 3, 1) rfl) rfl ?_
    refine j_aload_n (dt_Pairs_lay 44 (80, .aload_n 1, 1) rfl) rfl ?_
    obtain ⟨x16, hx16, hy79⟩ := jbind hy79
    refine j_getI (dt_Pairs_lay 45 (81, .getfield 56, 3) rfl) fl_X3_56 hx16 (fun _ _ => rfl) ?_
    refine jite hy79 (fun hc hy79 => ?_) (fun hc hy79 => ?_)
    · refine j_icmp_ge (dt_Pairs_lay 46 (84, .if_icmp .ge 41, 3) rfl) rfl (fun _ => ?_) (fun q => absurd hc q)
      cases hy79
      have hz := hX79 _ (hout79 _ rfl)
      exact j_sub rfl hz
    · refine j_icmp_ge (dt_Pairs_lay 46 (84, .if_icmp .ge 41, 3) rfl) rfl (fun q => absurd q hc) (fun _ => ?_)
      refine j_iload_n (dt_Pairs_lay 47 (87, .iload_n 3, 1) rfl) rfl ?_
      refine j_bipush (dt_Pairs_lay 48 (88, .bipush 12, 2) rfl) bp_12 ?_
      refine jite hy79 (fun hc hy79 => ?_) (fun hc hy79 => ?_)
      · refine j_icmp_ge (dt_Pairs_lay 49 (90, .if_icmp .ge 35, 3) rfl) rfl (fun _ => ?_) (fun q => absurd hc q)
        cases hy79
        have hz := hX79 _ (hout79 _ rfl)
        exact j_sub rfl hz
      · refine j_icmp_ge (dt_Pairs_lay 49 (90, .if_icmp .ge 35, 3) rfl) rfl (fun q => absurd q hc) (fun _ => ?_)
        refine j_aload_n (dt_Pairs_lay 50 (93, .aload_n 1, 1) rfl) rfl ?_
        obtain ⟨x17, hx17, hy79⟩ := jbind hy79
        refine j_getR (dt_Pairs_lay 51 (94, .getfield 59, 3) rfl) fl_X3_59 hx17 (fun _ _ => rfl) ?_
        refine j_iload_n (dt_Pairs_lay 52 (97, .iload_n 3, 1) rfl) rfl ?_
        obtain ⟨x18, hx18, hy79⟩ := jbind hy79
        refine j_aldR 105 (dt_Pairs_lay 53 (98, .aaload, 1) rfl) (by decide) hx18 ?_
        refine j_aload_n (dt_Pairs_lay 54 (99, .aload_n 2, 1) rfl) rfl ?_
        obtain ⟨x19, hx19, hy79⟩ := jbind hy79
        refine j_getI (dt_Pairs_lay 55 (100, .getfield 63, 3) rfl) fl_X3_63 hx19 (fun _ _ => rfl) ?_
        obtain ⟨x20, hx20, hy79⟩ := jbind hy79
        obtain ⟨b21, hb21⟩ := r_Rule_countsIn hx20
        refine j_callV M_Rule_countsIn 1 [ai x19] (rest := []) (dt_Pairs_lay 56 (103, .invokevirtual 66, 3) rfl) ml_X3_66 ok_Rule_countsIn (jfit rfl rfl ⟨rfl, rfl⟩ (nle rfl) (nlt rfl)) rfl rfl (nle rfl) ⟨rfl, rfl⟩ hb21 ((c_Rule_countsIn hx20)) ?_
        refine jite hy79 (fun hc hy79 => ?_) (fun hc hy79 => ?_)
        · refine j_if_eq (dt_Pairs_lay 57 (106, .ifCond .eq 13, 3) rfl) rfl (fun _ => ?_) (fun q => absurd hc q)
          refine j_iinc (dt_Pairs_lay 64 (119, .iinc 3 1, 3) rfl) rfl (nlt rfl) (ii_1 _) ?_
          refine j_goto (dt_Pairs_lay 65 (122, .goto (-43), 3) rfl) rfl ?_
          cases hy79
          have hz := hin79 _ rfl
          exact j_sub rfl hz
        · refine j_if_eq (dt_Pairs_lay 57 (106, .ifCond .eq 13, 3) rfl) rfl (fun q => absurd q hc) (fun _ => ?_)
          refine j_aload_n (dt_Pairs_lay 58 (109, .aload_n 0, 1) rfl) rfl ?_
          refine j_aload_n (dt_Pairs_lay 59 (110, .aload_n 1, 1) rfl) rfl ?_
          obtain ⟨x22, hx22, hy79⟩ := jbind hy79
          refine j_getR (dt_Pairs_lay 60 (111, .getfield 59, 3) rfl) fl_X3_59 hx22 (fun _ _ => rfl) ?_
          refine j_iload_n (dt_Pairs_lay 61 (114, .iload_n 3, 1) rfl) rfl ?_
          obtain ⟨x23, hx23, hy79⟩ := jbind hy79
          refine j_aldR 105 (dt_Pairs_lay 62 (115, .aaload, 1) rfl) (by decide) hx23 ?_
          obtain ⟨V24, hV24, hy79⟩ := jbind hy79
          obtain ⟨b25, hb25⟩ := r_Pairs_layRule hV24
          refine j_callV M_Pairs_layRule 1 [ar x23] (rest := []) (dt_Pairs_lay 63 (116, .invokevirtual 71, 3) rfl) ml_X3_71 ok_Pairs_layRule (jfit rfl rfl ⟨rfl, rfl⟩ (nle rfl) (nlt rfl)) rfl rfl (nle rfl) ⟨rfl, rfl⟩ hb25 ((c_Pairs_layRule hV24)) ?_
          refine j_iinc (dt_Pairs_lay 64 (119, .iinc 3 1, 3) rfl) rfl (nlt rfl) (ii_1 _) ?_
          refine j_goto (dt_Pairs_lay 65 (122, .goto (-43), 3) rfl) rfl ?_
          cases hy79
          have hz := hin79 _ rfl
          exact j_sub rfl hz
  refine j_sub (ls' := [(0, ar v0), (1, ar v1), (2, ar v2), (3, ai 0)]) rfl ?_
  refine jloop_J (C := fun s7 => jJ G M_Pairs_lay (jEnd G M_Pairs_lay none (S, res)) 0 0 7 [(0, ar v0), (1, ar v1), (2, ar v2), (3, ai s7.1)] [] (S, s7.2)) (fun s7 z7_ hy7 hin7 hout7 => ?_) _ _ ht7
  unfold Pairs_lay_L7 at hy7
  refine j_iload_n (dt_Pairs_lay 5 (7, .iload_n 3, 1) rfl) rfl ?_
  refine j_bipush (dt_Pairs_lay 6 (8, .bipush 10, 2) rfl) bp_10 ?_
  refine jite hy7 (fun hc hy7 => ?_) (fun hc hy7 => ?_)
  · refine j_icmp_ge (dt_Pairs_lay 7 (10, .if_icmp .ge 46, 3) rfl) rfl (fun _ => ?_) (fun q => absurd hc q)
    cases hy7
    have hz := hX7 _ (hout7 _ rfl)
    exact j_sub rfl hz
  · refine j_icmp_ge (dt_Pairs_lay 7 (10, .if_icmp .ge 46, 3) rfl) rfl (fun q => absurd q hc) (fun _ => ?_)
    refine j_aload_n (dt_Pairs_lay 8 (13, .aload_n 1, 1) rfl) rfl ?_
    refine j_iload_n (dt_Pairs_lay 9 (14, .iload_n 3, 1) rfl) rfl ?_
    obtain ⟨x2, hx2, hy7⟩ := jbind hy7
    obtain ⟨b3, hb3⟩ := r_Court_isComing hx2
    refine j_callV M_Court_isComing 1 [ai s7.1] (rest := []) (dt_Pairs_lay 10 (15, .invokevirtual 40, 3) rfl) ml_X3_40 ok_Court_isComing (jfit rfl rfl ⟨rfl, rfl⟩ (nle rfl) (nlt rfl)) rfl rfl (nle rfl) ⟨rfl, rfl⟩ hb3 ((c_Court_isComing hx2)) ?_
    refine jite hy7 (fun hc hy7 => ?_) (fun hc hy7 => ?_)
    · refine j_if_eq (dt_Pairs_lay 11 (18, .ifCond .eq 32, 3) rfl) rfl (fun _ => ?_) (fun q => absurd hc q)
      refine j_iinc (dt_Pairs_lay 28 (50, .iinc 3 1, 3) rfl) rfl (nlt rfl) (ii_1 _) ?_
      refine j_goto (dt_Pairs_lay 29 (53, .goto (-46), 3) rfl) rfl ?_
      cases hy7
      have hz := hin7 _ rfl
      exact j_sub rfl hz
    · refine j_if_eq (dt_Pairs_lay 11 (18, .ifCond .eq 32, 3) rfl) rfl (fun q => absurd q hc) (fun _ => ?_)
      refine j_aload_n (dt_Pairs_lay 12 (21, .aload_n 0, 1) rfl) rfl ?_
      obtain ⟨x4, hx4, hy7⟩ := jbind hy7
      refine j_getI (dt_Pairs_lay 13 (22, .getfield 30, 3) rfl) fl_X3_30 hx4 (fun _ _ => rfl) ?_
      refine j_bipush (dt_Pairs_lay 14 (25, .bipush 7, 2) rfl) bp_7 ?_
      refine jite hy7 (fun hc hy7 => ?_) (fun hc hy7 => ?_)
      · refine j_icmp_ge (dt_Pairs_lay 15 (27, .if_icmp .ge 23, 3) rfl) rfl (fun _ => ?_) (fun q => absurd hc q)
        refine j_iinc (dt_Pairs_lay 28 (50, .iinc 3 1, 3) rfl) rfl (nlt rfl) (ii_1 _) ?_
        refine j_goto (dt_Pairs_lay 29 (53, .goto (-46), 3) rfl) rfl ?_
        cases hy7
        have hz := hin7 _ rfl
        exact j_sub rfl hz
      · refine j_icmp_ge (dt_Pairs_lay 15 (27, .if_icmp .ge 23, 3) rfl) rfl (fun q => absurd q hc) (fun _ => ?_)
        refine j_aload_n (dt_Pairs_lay 16 (30, .aload_n 0, 1) rfl) rfl ?_
        obtain ⟨x5, hx5, hy7⟩ := jbind hy7
        refine j_getR (dt_Pairs_lay 17 (31, .getfield 9, 3) rfl) fl_X3_9 hx5 (fun _ _ => rfl) ?_
        refine j_aload_n (dt_Pairs_lay 18 (34, .aload_n 0, 1) rfl) rfl ?_
        obtain ⟨x6, hx6, hy7⟩ := jbind hy7
        refine j_getI (dt_Pairs_lay 19 (35, .getfield 30, 3) rfl) fl_X3_30 hx6 (fun _ _ => rfl) ?_
        refine j_iload_n (dt_Pairs_lay 20 (38, .iload_n 3, 1) rfl) rfl ?_
        obtain ⟨V7, hV7, hy7⟩ := jbind hy7
        refine j_astI (dt_Pairs_lay 21 (39, .iastore, 1) rfl) hV7 ?_
        refine j_aload_n (dt_Pairs_lay 22 (40, .aload_n 0, 1) rfl) rfl ?_
        refine j_dup (dt_Pairs_lay 23 (41, .dup, 1) rfl) rfl ?_
        obtain ⟨x8, hx8, hy7⟩ := jbind hy7
        refine j_getI (dt_Pairs_lay 24 (42, .getfield 30, 3) rfl) fl_X3_30 hx8 (fun _ _ => rfl) ?_
        refine j_iconst (dt_Pairs_lay 25 (45, .iconst 1, 1) rfl) ic_1 ?_
        refine j_iadd (dt_Pairs_lay 26 (46, .iadd, 1) rfl) ?_
        obtain ⟨V9, hV9, hy7⟩ := jbind hy7
        refine j_putI (dt_Pairs_lay 27 (47, .putfield 30, 3) rfl) fl_X3_30 hV9 rfl (Or.inl rfl) ?_
        refine j_iinc (dt_Pairs_lay 28 (50, .iinc 3 1, 3) rfl) rfl (nlt rfl) (ii_1 _) ?_
        refine j_goto (dt_Pairs_lay 29 (53, .goto (-46), 3) rfl) rfl ?_
        cases hy7
        have hz := hin7 _ rfl
        exact j_sub rfl hz
theorem r_Pairs_lay {S : hS} {V : hV} {v0 : Option Nat} {v1 : Option Nat} {v2 : Option Nat} {res : hV} (hf : Pairs_lay S v0 v1 v2 V = some res) : ∃ b, rc S 3 v0 = some b := by
  unfold Pairs_lay at hf
  obtain ⟨b, hb, _⟩ := jbind hf
  exact ⟨b, hb⟩
def tb_Search_lookAtHomes : List (Nat × Instr × Nat) := [(0, .aload_n 0, 1), (1, .iconst 0, 1), (2, .putfield 25, 3), (5, .aload_n 0, 1), (6, .iconst 0, 1), (7, .putfield 29, 3), (10, .iconst 0, 1), (11, .istore_n 3, 1), (12, .iload_n 3, 1), (13, .aload_n 0, 1), (14, .getfield 12, 3), (17, .getfield 56, 3), (20, .if_icmp .ge 132, 3), (23, .iload_n 3, 1), (24, .bipush 7, 2), (26, .if_icmp .ge 126, 3), (29, .aload_n 0, 1), (30, .getfield 12, 3), (33, .getfield 59, 3), (36, .iload_n 3, 1), (37, .iaload, 1), (38, .istore 4, 2), (40, .aload_n 0, 1), (41, .getfield 35, 3), (44, .iconst 2, 1), (45, .if_icmp .ne 30, 3), (48, .aload_n 1, 1), (49, .iload 4, 2), (51, .invokevirtual 62, 3), (54, .ifCond .eq 21, 3), (57, .aload_n 1, 1), (58, .getfield 68, 3), (61, .iload 4, 2), (63, .iaload, 1), (64, .aload_n 2, 1), (65, .getfield 71, 3), (68, .if_icmp .ne 7, 3), (71, .iconst 1, 1), (72, .goto 4, 3), (75, .iconst 0, 1), (76, .istore 5, 2), (78, .aload_n 0, 1), (79, .getfield 22, 3), (82, .iload_n 3, 1), (83, .iload 5, 2), (85, .ifCond .eq 13, 3), (88, .aload_n 1, 1), (89, .getfield 74, 3), (92, .iload 4, 2), (94, .iaload, 1), (95, .goto 4, 3), (98, .iconst (-1), 1), (99, .iastore, 1), (100, .iload 5, 2), (102, .ifCond .eq 44, 3), (105, .aload_n 1, 1), (106, .getfield 77, 3), (109, .iload 4, 2), (111, .invokestatic 80, 3), (114, .ifCond .eq 32, 3), (117, .aload_n 0, 1), (118, .dup, 1), (119, .getfield 25, 3), (122, .iconst 1, 1), (123, .iload_n 3, 1), (124, .ishl, 1), (125, .ior, 1), (126, .putfield 25, 3), (129, .aload_n 0, 1), (130, .dup, 1), (131, .getfield 29, 3), (134, .iconst 1, 1), (135, .aload_n 0, 1), (136, .getfield 22, 3), (139, .iload_n 3, 1), (140, .iaload, 1), (141, .ishl, 1), (142, .ior, 1), (143, .putfield 29, 3), (146, .iinc 3 1, 3), (149, .goto (-137), 3), (152, .return_, 1)]
theorem dt_Search_lookAtHomes (i : Nat) (q : Nat × Instr × Nat) (h : tb_Search_lookAtHomes[i]? = some q) : decode prog_10_method_3_code q.1 = .ok q.2 := jdt (by decide +kernel : tb_Search_lookAtHomes.all (fun q => decide (decode prog_10_method_3_code q.1 = .ok q.2)) = true) h
theorem ok_Search_lookAtHomes : jOKV M_Search_lookAtHomes 2 := ⟨⟨gt5 151 rfl rfl, gt1 13 rfl rfl, (by decide : "FirstIn$Search" ≠ "java/lang/invoke/MethodHandle"), (by decide : "FirstIn$Search" ≠ "java/lang/invoke/VarHandle"), (by decide +kernel : (parseMethodDescriptor "(LFirstIn$Court;LFirstIn$Room;)V").map (fun d => d.parameters.length) = some 2)⟩, gt5 149 rfl rfl, gt5 150 rfl rfl, rfl, nlt rfl⟩
set_option maxRecDepth 100000 in
set_option maxHeartbeats 4000000 in
theorem c_Search_lookAtHomes {G : jG} {S : hS} {V : hV} {v0 : Option Nat} {v1 : Option Nat} {v2 : Option Nat} {res : hV} (hf : Search_lookAtHomes S v0 v1 v2 V = some res) : jC G M_Search_lookAtHomes [ar v0, ar v1, ar v2] (S, V) none (S, res) := by
  unfold Search_lookAtHomes at hf
  obtain ⟨_, _, hf⟩ := jbind hf
  refine jC_of (pf_X8 _ _) rfl (nle rfl) ?_
  show jJ G M_Search_lookAtHomes (jEnd G M_Search_lookAtHomes none (S, res)) 0 0 0 [(0, ar v0), (1, ar v1), (2, ar v2)] [] (S, V)
  refine j_aload_n (dt_Search_lookAtHomes 0 (0, .aload_n 0, 1) rfl) rfl ?_
  refine j_iconst (dt_Search_lookAtHomes 1 (1, .iconst 0, 1) rfl) ic_0 ?_
  obtain ⟨V1, hV1, hf⟩ := jbind hf
  refine j_putI (dt_Search_lookAtHomes 2 (2, .putfield 25, 3) rfl) fl_X8_25 hV1 rfl (Or.inl rfl) ?_
  refine j_aload_n (dt_Search_lookAtHomes 3 (5, .aload_n 0, 1) rfl) rfl ?_
  refine j_iconst (dt_Search_lookAtHomes 4 (6, .iconst 0, 1) rfl) ic_0 ?_
  obtain ⟨V2, hV2, hf⟩ := jbind hf
  refine j_putI (dt_Search_lookAtHomes 5 (7, .putfield 29, 3) rfl) fl_X8_29 hV2 rfl (Or.inl rfl) ?_
  refine j_iconst (dt_Search_lookAtHomes 6 (10, .iconst 0, 1) rfl) ic_0 ?_
  refine j_istore_n (dt_Search_lookAtHomes 7 (11, .istore_n 3, 1) rfl) (nlt rfl) ?_
  obtain ⟨t12, ht12, hf⟩ := jbind hf
  have hX12 : ∀ q12 : hV, q12 = t12 → jJ G M_Search_lookAtHomes (jEnd G M_Search_lookAtHomes none (S, res)) 0 0 152 [] [] (S, q12) := by
    intro q12 hq12
    subst hq12
    cases hf
    exact j_vret (dt_Search_lookAtHomes 81 (152, .return_, 1) rfl) rfl
  refine j_sub (ls' := [(0, ar v0), (1, ar v1), (2, ar v2), (3, ai 0)]) rfl ?_
  refine jloop_J (C := fun s12 => jJ G M_Search_lookAtHomes (jEnd G M_Search_lookAtHomes none (S, res)) 0 0 12 [(0, ar v0), (1, ar v1), (2, ar v2), (3, ai s12.1)] [] (S, s12.2)) (fun s12 z12_ hy12 hin12 hout12 => ?_) _ _ ht12
  unfold Search_lookAtHomes_L12 at hy12
  refine j_iload_n (dt_Search_lookAtHomes 8 (12, .iload_n 3, 1) rfl) rfl ?_
  refine j_aload_n (dt_Search_lookAtHomes 9 (13, .aload_n 0, 1) rfl) rfl ?_
  obtain ⟨x3, hx3, hy12⟩ := jbind hy12
  refine j_getR (dt_Search_lookAtHomes 10 (14, .getfield 12, 3) rfl) fl_X8_12 hx3 (fun _ _ => rfl) ?_
  obtain ⟨x4, hx4, hy12⟩ := jbind hy12
  refine j_getI (dt_Search_lookAtHomes 11 (17, .getfield 56, 3) rfl) fl_X8_56 hx4 (fun _ _ => rfl) ?_
  refine jite hy12 (fun hc hy12 => ?_) (fun hc hy12 => ?_)
  · refine j_icmp_ge (dt_Search_lookAtHomes 12 (20, .if_icmp .ge 132, 3) rfl) rfl (fun _ => ?_) (fun q => absurd hc q)
    cases hy12
    have hz := hX12 _ (hout12 _ rfl)
    exact j_sub rfl hz
  · refine j_icmp_ge (dt_Search_lookAtHomes 12 (20, .if_icmp .ge 132, 3) rfl) rfl (fun q => absurd q hc) (fun _ => ?_)
    refine j_iload_n (dt_Search_lookAtHomes 13 (23, .iload_n 3, 1) rfl) rfl ?_
    refine j_bipush (dt_Search_lookAtHomes 14 (24, .bipush 7, 2) rfl) bp_7 ?_
    refine jite hy12 (fun hc hy12 => ?_) (fun hc hy12 => ?_)
    · refine j_icmp_ge (dt_Search_lookAtHomes 15 (26, .if_icmp .ge 126, 3) rfl) rfl (fun _ => ?_) (fun q => absurd hc q)
      cases hy12
      have hz := hX12 _ (hout12 _ rfl)
      exact j_sub rfl hz
    · refine j_icmp_ge (dt_Search_lookAtHomes 15 (26, .if_icmp .ge 126, 3) rfl) rfl (fun q => absurd q hc) (fun _ => ?_)
      refine j_aload_n (dt_Search_lookAtHomes 16 (29, .aload_n 0, 1) rfl) rfl ?_
      obtain ⟨x5, hx5, hy12⟩ := jbind hy12
      refine j_getR (dt_Search_lookAtHomes 17 (30, .getfield 12, 3) rfl) fl_X8_12 hx5 (fun _ _ => rfl) ?_
      obtain ⟨x6, hx6, hy12⟩ := jbind hy12
      refine j_getR (dt_Search_lookAtHomes 18 (33, .getfield 59, 3) rfl) fl_X8_59 hx6 (fun _ _ => rfl) ?_
      refine j_iload_n (dt_Search_lookAtHomes 19 (36, .iload_n 3, 1) rfl) rfl ?_
      obtain ⟨x7, hx7, hy12⟩ := jbind hy12
      refine j_aldI (dt_Search_lookAtHomes 20 (37, .iaload, 1) rfl) hx7 ?_
      refine j_istore (dt_Search_lookAtHomes 21 (38, .istore 4, 2) rfl) (nlt rfl) ?_
      refine j_aload_n (dt_Search_lookAtHomes 22 (40, .aload_n 0, 1) rfl) rfl ?_
      obtain ⟨x8, hx8, hy12⟩ := jbind hy12
      refine j_getI (dt_Search_lookAtHomes 23 (41, .getfield 35, 3) rfl) fl_X8_35 hx8 (fun _ _ => rfl) ?_
      refine j_iconst (dt_Search_lookAtHomes 24 (44, .iconst 2, 1) rfl) ic_2 ?_
      obtain ⟨j45, hj45, hy12⟩ := jbind hy12
      have hP45 : jJ G M_Search_lookAtHomes (jEnd G M_Search_lookAtHomes none (S, res)) 0 0 76 [(0, ar v0), (1, ar v1), (2, ar v2), (3, ai s12.1), (4, ai x7)] [ai j45] (S, s12.2) := by
        refine j_istore (dt_Search_lookAtHomes 40 (76, .istore 5, 2) rfl) (nlt rfl) ?_
        refine j_aload_n (dt_Search_lookAtHomes 41 (78, .aload_n 0, 1) rfl) rfl ?_
        obtain ⟨x9, hx9, hy12⟩ := jbind hy12
        refine j_getR (dt_Search_lookAtHomes 42 (79, .getfield 22, 3) rfl) fl_X8_22 hx9 (fun _ _ => rfl) ?_
        refine j_iload_n (dt_Search_lookAtHomes 43 (82, .iload_n 3, 1) rfl) rfl ?_
        refine j_iload (dt_Search_lookAtHomes 44 (83, .iload 5, 2) rfl) rfl ?_
        obtain ⟨j85, hj85, hy12⟩ := jbind hy12
        have hP85 : jJ G M_Search_lookAtHomes (jEnd G M_Search_lookAtHomes none (S, res)) 0 0 99 [(0, ar v0), (1, ar v1), (2, ar v2), (3, ai s12.1), (4, ai x7), (5, ai j45)] [ai j85, ai s12.1, ar x9] (S, s12.2) := by
          obtain ⟨V10, hV10, hy12⟩ := jbind hy12
          refine j_astI (dt_Search_lookAtHomes 52 (99, .iastore, 1) rfl) hV10 ?_
          refine j_iload (dt_Search_lookAtHomes 53 (100, .iload 5, 2) rfl) rfl ?_
          refine jite hy12 (fun hc hy12 => ?_) (fun hc hy12 => ?_)
          · refine j_if_eq (dt_Search_lookAtHomes 54 (102, .ifCond .eq 44, 3) rfl) rfl (fun _ => ?_) (fun q => absurd hc q)
            refine j_iinc (dt_Search_lookAtHomes 79 (146, .iinc 3 1, 3) rfl) rfl (nlt rfl) (ii_1 _) ?_
            refine j_goto (dt_Search_lookAtHomes 80 (149, .goto (-137), 3) rfl) rfl ?_
            cases hy12
            have hz := hin12 _ rfl
            exact j_sub rfl hz
          · refine j_if_eq (dt_Search_lookAtHomes 54 (102, .ifCond .eq 44, 3) rfl) rfl (fun q => absurd q hc) (fun _ => ?_)
            refine j_aload_n (dt_Search_lookAtHomes 55 (105, .aload_n 1, 1) rfl) rfl ?_
            obtain ⟨x11, hx11, hy12⟩ := jbind hy12
            refine j_getI (dt_Search_lookAtHomes 56 (106, .getfield 77, 3) rfl) fl_X8_77 hx11 (fun _ _ => rfl) ?_
            refine j_iload (dt_Search_lookAtHomes 57 (109, .iload 4, 2) rfl) rfl ?_
            refine j_callSN M_Fi_has 2 [ai x11, ai x7] (rest := []) (dt_Search_lookAtHomes 58 (111, .invokestatic 80, 3) rfl) ml_X8_80 ok_Fi_has (jfit rfl rfl ⟨rfl, rfl⟩ (nle rfl) (nlt rfl)) rfl rfl (nle rfl) ⟨rfl, rfl⟩ (c_Fi_has rfl) ?_
            refine jite hy12 (fun hc hy12 => ?_) (fun hc hy12 => ?_)
            · refine j_if_eq (dt_Search_lookAtHomes 59 (114, .ifCond .eq 32, 3) rfl) rfl (fun _ => ?_) (fun q => absurd hc q)
              refine j_iinc (dt_Search_lookAtHomes 79 (146, .iinc 3 1, 3) rfl) rfl (nlt rfl) (ii_1 _) ?_
              refine j_goto (dt_Search_lookAtHomes 80 (149, .goto (-137), 3) rfl) rfl ?_
              cases hy12
              have hz := hin12 _ rfl
              exact j_sub rfl hz
            · refine j_if_eq (dt_Search_lookAtHomes 59 (114, .ifCond .eq 32, 3) rfl) rfl (fun q => absurd q hc) (fun _ => ?_)
              refine j_aload_n (dt_Search_lookAtHomes 60 (117, .aload_n 0, 1) rfl) rfl ?_
              refine j_dup (dt_Search_lookAtHomes 61 (118, .dup, 1) rfl) rfl ?_
              obtain ⟨x12, hx12, hy12⟩ := jbind hy12
              refine j_getI (dt_Search_lookAtHomes 62 (119, .getfield 25, 3) rfl) fl_X8_25 hx12 (fun _ _ => rfl) ?_
              refine j_iconst (dt_Search_lookAtHomes 63 (122, .iconst 1, 1) rfl) ic_1 ?_
              refine j_iload_n (dt_Search_lookAtHomes 64 (123, .iload_n 3, 1) rfl) rfl ?_
              refine j_ishl (dt_Search_lookAtHomes 65 (124, .ishl, 1) rfl) ?_
              refine j_ior (dt_Search_lookAtHomes 66 (125, .ior, 1) rfl) ?_
              obtain ⟨V13, hV13, hy12⟩ := jbind hy12
              refine j_putI (dt_Search_lookAtHomes 67 (126, .putfield 25, 3) rfl) fl_X8_25 hV13 rfl (Or.inl rfl) ?_
              refine j_aload_n (dt_Search_lookAtHomes 68 (129, .aload_n 0, 1) rfl) rfl ?_
              refine j_dup (dt_Search_lookAtHomes 69 (130, .dup, 1) rfl) rfl ?_
              obtain ⟨x14, hx14, hy12⟩ := jbind hy12
              refine j_getI (dt_Search_lookAtHomes 70 (131, .getfield 29, 3) rfl) fl_X8_29 hx14 (fun _ _ => rfl) ?_
              refine j_iconst (dt_Search_lookAtHomes 71 (134, .iconst 1, 1) rfl) ic_1 ?_
              refine j_aload_n (dt_Search_lookAtHomes 72 (135, .aload_n 0, 1) rfl) rfl ?_
              obtain ⟨x15, hx15, hy12⟩ := jbind hy12
              refine j_getR (dt_Search_lookAtHomes 73 (136, .getfield 22, 3) rfl) fl_X8_22 hx15 (fun _ _ => rfl) ?_
              refine j_iload_n (dt_Search_lookAtHomes 74 (139, .iload_n 3, 1) rfl) rfl ?_
              obtain ⟨x16, hx16, hy12⟩ := jbind hy12
              refine j_aldI (dt_Search_lookAtHomes 75 (140, .iaload, 1) rfl) hx16 ?_
              refine j_ishl (dt_Search_lookAtHomes 76 (141, .ishl, 1) rfl) ?_
              refine j_ior (dt_Search_lookAtHomes 77 (142, .ior, 1) rfl) ?_
              obtain ⟨V17, hV17, hy12⟩ := jbind hy12
              refine j_putI (dt_Search_lookAtHomes 78 (143, .putfield 29, 3) rfl) fl_X8_29 hV17 rfl (Or.inl rfl) ?_
              refine j_iinc (dt_Search_lookAtHomes 79 (146, .iinc 3 1, 3) rfl) rfl (nlt rfl) (ii_1 _) ?_
              refine j_goto (dt_Search_lookAtHomes 80 (149, .goto (-137), 3) rfl) rfl ?_
              cases hy12
              have hz := hin12 _ rfl
              exact j_sub rfl hz
        refine jite hj85 (fun hc hj85 => ?_) (fun hc hj85 => ?_)
        · refine j_if_eq (dt_Search_lookAtHomes 45 (85, .ifCond .eq 13, 3) rfl) rfl (fun _ => ?_) (fun q => absurd hc q)
          refine j_iconst (dt_Search_lookAtHomes 51 (98, .iconst (-1), 1) rfl) ic_m1 ?_
          cases hj85
          exact j_sub rfl hP85
        · refine j_if_eq (dt_Search_lookAtHomes 45 (85, .ifCond .eq 13, 3) rfl) rfl (fun q => absurd q hc) (fun _ => ?_)
          refine j_aload_n (dt_Search_lookAtHomes 46 (88, .aload_n 1, 1) rfl) rfl ?_
          obtain ⟨x18, hx18, hj85⟩ := jbind hj85
          refine j_getR (dt_Search_lookAtHomes 47 (89, .getfield 74, 3) rfl) fl_X8_74 hx18 (fun _ _ => rfl) ?_
          refine j_iload (dt_Search_lookAtHomes 48 (92, .iload 4, 2) rfl) rfl ?_
          obtain ⟨x19, hx19, hj85⟩ := jbind hj85
          refine j_aldI (dt_Search_lookAtHomes 49 (94, .iaload, 1) rfl) hx19 ?_
          refine j_goto (dt_Search_lookAtHomes 50 (95, .goto 4, 3) rfl) rfl ?_
          cases hj85
          exact j_sub rfl hP85
      refine jite hj45 (fun hc hj45 => ?_) (fun hc hj45 => ?_)
      · refine j_icmp_ne (dt_Search_lookAtHomes 25 (45, .if_icmp .ne 30, 3) rfl) rfl (fun q => absurd hc q) (fun _ => ?_)
        refine j_aload_n (dt_Search_lookAtHomes 26 (48, .aload_n 1, 1) rfl) rfl ?_
        refine j_iload (dt_Search_lookAtHomes 27 (49, .iload 4, 2) rfl) rfl ?_
        obtain ⟨x20, hx20, hj45⟩ := jbind hj45
        obtain ⟨b21, hb21⟩ := r_Court_isSeated hx20
        refine j_callV M_Court_isSeated 1 [ai x7] (rest := []) (dt_Search_lookAtHomes 28 (51, .invokevirtual 62, 3) rfl) ml_X8_62 ok_Court_isSeated (jfit rfl rfl ⟨rfl, rfl⟩ (nle rfl) (nlt rfl)) rfl rfl (nle rfl) ⟨rfl, rfl⟩ hb21 ((c_Court_isSeated hx20)) ?_
        refine jite hj45 (fun hc hj45 => ?_) (fun hc hj45 => ?_)
        · refine j_if_eq (dt_Search_lookAtHomes 29 (54, .ifCond .eq 21, 3) rfl) rfl (fun _ => ?_) (fun q => absurd hc q)
          refine j_iconst (dt_Search_lookAtHomes 39 (75, .iconst 0, 1) rfl) ic_0 ?_
          cases hj45
          exact j_sub rfl hP45
        · refine j_if_eq (dt_Search_lookAtHomes 29 (54, .ifCond .eq 21, 3) rfl) rfl (fun q => absurd q hc) (fun _ => ?_)
          refine j_aload_n (dt_Search_lookAtHomes 30 (57, .aload_n 1, 1) rfl) rfl ?_
          obtain ⟨x22, hx22, hj45⟩ := jbind hj45
          refine j_getR (dt_Search_lookAtHomes 31 (58, .getfield 68, 3) rfl) fl_X8_68 hx22 (fun _ _ => rfl) ?_
          refine j_iload (dt_Search_lookAtHomes 32 (61, .iload 4, 2) rfl) rfl ?_
          obtain ⟨x23, hx23, hj45⟩ := jbind hj45
          refine j_aldI (dt_Search_lookAtHomes 33 (63, .iaload, 1) rfl) hx23 ?_
          refine j_aload_n (dt_Search_lookAtHomes 34 (64, .aload_n 2, 1) rfl) rfl ?_
          obtain ⟨x24, hx24, hj45⟩ := jbind hj45
          refine j_getI (dt_Search_lookAtHomes 35 (65, .getfield 71, 3) rfl) fl_X8_71 hx24 (fun _ _ => rfl) ?_
          refine jite hj45 (fun hc hj45 => ?_) (fun hc hj45 => ?_)
          · refine j_icmp_ne (dt_Search_lookAtHomes 36 (68, .if_icmp .ne 7, 3) rfl) rfl (fun q => absurd hc q) (fun _ => ?_)
            refine j_iconst (dt_Search_lookAtHomes 37 (71, .iconst 1, 1) rfl) ic_1 ?_
            refine j_goto (dt_Search_lookAtHomes 38 (72, .goto 4, 3) rfl) rfl ?_
            cases hj45
            exact j_sub rfl hP45
          · refine j_icmp_ne (dt_Search_lookAtHomes 36 (68, .if_icmp .ne 7, 3) rfl) rfl (fun _ => ?_) (fun q => absurd q hc)
            refine j_iconst (dt_Search_lookAtHomes 39 (75, .iconst 0, 1) rfl) ic_0 ?_
            cases hj45
            exact j_sub rfl hP45
      · refine j_icmp_ne (dt_Search_lookAtHomes 25 (45, .if_icmp .ne 30, 3) rfl) rfl (fun _ => ?_) (fun q => absurd q hc)
        refine j_iconst (dt_Search_lookAtHomes 39 (75, .iconst 0, 1) rfl) ic_0 ?_
        cases hj45
        exact j_sub rfl hP45
theorem r_Search_lookAtHomes {S : hS} {V : hV} {v0 : Option Nat} {v1 : Option Nat} {v2 : Option Nat} {res : hV} (hf : Search_lookAtHomes S v0 v1 v2 V = some res) : ∃ b, rc S 8 v0 = some b := by
  unfold Search_lookAtHomes at hf
  obtain ⟨b, hb, _⟩ := jbind hf
  exact ⟨b, hb⟩
def tb_Search_heaviestAt : List (Nat × Instr × Nat) := [(0, .iconst 0, 1), (1, .istore_n 3, 1), (2, .iconst 0, 1), (3, .istore 4, 2), (5, .iload 4, 2), (7, .iload_n 1, 1), (8, .if_icmp .ge 53, 3), (11, .aload_n 0, 1), (12, .getfield 12, 3), (15, .getfield 110, 3), (18, .aload_n 0, 1), (19, .getfield 18, 3), (22, .iload 4, 2), (24, .iaload, 1), (25, .bipush 8, 2), (27, .imul, 1), (28, .iload_n 2, 1), (29, .iadd, 1), (30, .iaload, 1), (31, .istore 5, 2), (33, .iload_n 3, 1), (34, .aload_n 0, 1), (35, .getfield 12, 3), (38, .getfield 119, 3), (41, .iload 4, 2), (43, .iload_n 1, 1), (44, .invokestatic 116, 3), (47, .iload 5, 2), (49, .iadd, 1), (50, .iaload, 1), (51, .invokestatic 101, 3), (54, .istore_n 3, 1), (55, .iinc 4 1, 3), (58, .goto (-53), 3), (61, .iload_n 3, 1), (62, .ireturn, 1)]
theorem dt_Search_heaviestAt (i : Nat) (q : Nat × Instr × Nat) (h : tb_Search_heaviestAt[i]? = some q) : decode prog_10_method_7_code q.1 = .ok q.2 := jdt (by decide +kernel : tb_Search_heaviestAt.all (fun q => decide (decode prog_10_method_7_code q.1 = .ok q.2)) = true) h
theorem ok_Search_heaviestAt : jOKV M_Search_heaviestAt 2 := ⟨⟨gt5 182 rfl rfl, gt1 13 rfl rfl, (by decide : "FirstIn$Search" ≠ "java/lang/invoke/MethodHandle"), (by decide : "FirstIn$Search" ≠ "java/lang/invoke/VarHandle"), (by decide +kernel : (parseMethodDescriptor "(II)I").map (fun d => d.parameters.length) = some 2)⟩, gt5 180 rfl rfl, gt5 181 rfl rfl, rfl, nlt rfl⟩
set_option maxRecDepth 100000 in
set_option maxHeartbeats 4000000 in
theorem c_Search_heaviestAt {G : jG} {S : hS} {V : hV} {v0 : Option Nat} {v1 : Int32} {v2 : Int32} {res : Int32} (hf : Search_heaviestAt S v0 v1 v2 V = some res) : jC G M_Search_heaviestAt [ar v0, ai v1, ai v2] (S, V) (some (ai res)) (S, V) := by
  unfold Search_heaviestAt at hf
  obtain ⟨_, _, hf⟩ := jbind hf
  refine jC_of (pf_X8 _ _) rfl (nle rfl) ?_
  show jJ G M_Search_heaviestAt (jEnd G M_Search_heaviestAt (some (ai res)) (S, V)) 0 0 0 [(0, ar v0), (1, ai v1), (2, ai v2)] [] (S, V)
  refine j_iconst (dt_Search_heaviestAt 0 (0, .iconst 0, 1) rfl) ic_0 ?_
  refine j_istore_n (dt_Search_heaviestAt 1 (1, .istore_n 3, 1) rfl) (nlt rfl) ?_
  refine j_iconst (dt_Search_heaviestAt 2 (2, .iconst 0, 1) rfl) ic_0 ?_
  refine j_istore (dt_Search_heaviestAt 3 (3, .istore 4, 2) rfl) (nlt rfl) ?_
  obtain ⟨t5, ht5, hf⟩ := jbind hf
  have hX5 : ∀ q5 : Int32, q5 = t5 → jJ G M_Search_heaviestAt (jEnd G M_Search_heaviestAt (some (ai res)) (S, V)) 0 0 61 [(3, ai q5)] [] (S, V) := by
    intro q5 hq5
    subst hq5
    refine j_iload_n (dt_Search_heaviestAt 34 (61, .iload_n 3, 1) rfl) rfl ?_
    cases hf
    exact j_iret (dt_Search_heaviestAt 35 (62, .ireturn, 1) rfl) rfl
  refine j_sub (ls' := [(0, ar v0), (1, ai v1), (2, ai v2), (3, ai 0), (4, ai 0)]) rfl ?_
  refine jloop_J (C := fun s5 => jJ G M_Search_heaviestAt (jEnd G M_Search_heaviestAt (some (ai res)) (S, V)) 0 0 5 [(0, ar v0), (1, ai v1), (2, ai v2), (3, ai s5.1), (4, ai s5.2)] [] (S, V)) (fun s5 z5_ hy5 hin5 hout5 => ?_) _ _ ht5
  unfold Search_heaviestAt_L5 at hy5
  refine j_iload (dt_Search_heaviestAt 4 (5, .iload 4, 2) rfl) rfl ?_
  refine j_iload_n (dt_Search_heaviestAt 5 (7, .iload_n 1, 1) rfl) rfl ?_
  refine jite hy5 (fun hc hy5 => ?_) (fun hc hy5 => ?_)
  · refine j_icmp_ge (dt_Search_heaviestAt 6 (8, .if_icmp .ge 53, 3) rfl) rfl (fun _ => ?_) (fun q => absurd hc q)
    cases hy5
    have hz := hX5 _ (hout5 _ rfl)
    exact j_sub rfl hz
  · refine j_icmp_ge (dt_Search_heaviestAt 6 (8, .if_icmp .ge 53, 3) rfl) rfl (fun q => absurd q hc) (fun _ => ?_)
    refine j_aload_n (dt_Search_heaviestAt 7 (11, .aload_n 0, 1) rfl) rfl ?_
    obtain ⟨x1, hx1, hy5⟩ := jbind hy5
    refine j_getR (dt_Search_heaviestAt 8 (12, .getfield 12, 3) rfl) fl_X8_12 hx1 (fun _ _ => rfl) ?_
    obtain ⟨x2, hx2, hy5⟩ := jbind hy5
    refine j_getR (dt_Search_heaviestAt 9 (15, .getfield 110, 3) rfl) fl_X8_110 hx2 (fun _ _ => rfl) ?_
    refine j_aload_n (dt_Search_heaviestAt 10 (18, .aload_n 0, 1) rfl) rfl ?_
    obtain ⟨x3, hx3, hy5⟩ := jbind hy5
    refine j_getR (dt_Search_heaviestAt 11 (19, .getfield 18, 3) rfl) fl_X8_18 hx3 (fun _ _ => rfl) ?_
    refine j_iload (dt_Search_heaviestAt 12 (22, .iload 4, 2) rfl) rfl ?_
    obtain ⟨x4, hx4, hy5⟩ := jbind hy5
    refine j_aldI (dt_Search_heaviestAt 13 (24, .iaload, 1) rfl) hx4 ?_
    refine j_bipush (dt_Search_heaviestAt 14 (25, .bipush 8, 2) rfl) bp_8 ?_
    refine j_imul (dt_Search_heaviestAt 15 (27, .imul, 1) rfl) ?_
    refine j_iload_n (dt_Search_heaviestAt 16 (28, .iload_n 2, 1) rfl) rfl ?_
    refine j_iadd (dt_Search_heaviestAt 17 (29, .iadd, 1) rfl) ?_
    obtain ⟨x5, hx5, hy5⟩ := jbind hy5
    refine j_aldI (dt_Search_heaviestAt 18 (30, .iaload, 1) rfl) hx5 ?_
    refine j_istore (dt_Search_heaviestAt 19 (31, .istore 5, 2) rfl) (nlt rfl) ?_
    refine j_iload_n (dt_Search_heaviestAt 20 (33, .iload_n 3, 1) rfl) rfl ?_
    refine j_aload_n (dt_Search_heaviestAt 21 (34, .aload_n 0, 1) rfl) rfl ?_
    obtain ⟨x6, hx6, hy5⟩ := jbind hy5
    refine j_getR (dt_Search_heaviestAt 22 (35, .getfield 12, 3) rfl) fl_X8_12 hx6 (fun _ _ => rfl) ?_
    obtain ⟨x7, hx7, hy5⟩ := jbind hy5
    refine j_getR (dt_Search_heaviestAt 23 (38, .getfield 119, 3) rfl) fl_X8_119 hx7 (fun _ _ => rfl) ?_
    refine j_iload (dt_Search_heaviestAt 24 (41, .iload 4, 2) rfl) rfl ?_
    refine j_iload_n (dt_Search_heaviestAt 25 (43, .iload_n 1, 1) rfl) rfl ?_
    refine j_callS M_Pairs_pairOf 2 [ai s5.2, ai v1] (rest := [ar x7, ai s5.1]) (dt_Search_heaviestAt 26 (44, .invokestatic 116, 3) rfl) ml_X8_116 ok_Pairs_pairOf (jfit rfl rfl ⟨rfl, rfl⟩ (nle rfl) (nlt rfl)) rfl rfl (nle rfl) ⟨rfl, rfl⟩ (c_Pairs_pairOf rfl) ?_
    refine j_iload (dt_Search_heaviestAt 27 (47, .iload 5, 2) rfl) rfl ?_
    refine j_iadd (dt_Search_heaviestAt 28 (49, .iadd, 1) rfl) ?_
    obtain ⟨x8, hx8, hy5⟩ := jbind hy5
    refine j_aldI (dt_Search_heaviestAt 29 (50, .iaload, 1) rfl) hx8 ?_
    refine j_callS M_Jd_max 2 [ai s5.1, ai x8] (rest := []) (dt_Search_heaviestAt 30 (51, .invokestatic 101, 3) rfl) ml_X8_101 ok_Jd_max (jfit rfl rfl ⟨rfl, rfl⟩ (nle rfl) (nlt rfl)) rfl rfl (nle rfl) ⟨rfl, rfl⟩ (c_Jd_max rfl) ?_
    refine j_istore_n (dt_Search_heaviestAt 31 (54, .istore_n 3, 1) rfl) (nlt rfl) ?_
    refine j_iinc (dt_Search_heaviestAt 32 (55, .iinc 4 1, 3) rfl) rfl (nlt rfl) (ii_1 _) ?_
    refine j_goto (dt_Search_heaviestAt 33 (58, .goto (-53), 3) rfl) rfl ?_
    cases hy5
    have hz := hin5 _ rfl
    exact j_sub rfl hz
theorem r_Search_heaviestAt {S : hS} {V : hV} {v0 : Option Nat} {v1 : Int32} {v2 : Int32} {res : Int32} (hf : Search_heaviestAt S v0 v1 v2 V = some res) : ∃ b, rc S 8 v0 = some b := by
  unfold Search_heaviestAt at hf
  obtain ⟨b, hb, _⟩ := jbind hf
  exact ⟨b, hb⟩
def tb_Search_isWorth : List (Nat × Instr × Nat) := [(0, .iload_n 2, 1), (1, .aload_n 0, 1), (2, .getfield 12, 3), (5, .getfield 122, 3), (8, .iload_n 1, 1), (9, .iaload, 1), (10, .iadd, 1), (11, .istore 5, 2), (13, .aload_n 0, 1), (14, .getfield 35, 3), (17, .iconst 2, 1), (18, .if_icmp .ne 43, 3), (21, .iload 5, 2), (23, .aload_n 0, 1), (24, .getfield 41, 3), (27, .getfield 125, 3), (30, .if_icmp .gt 29, 3), (33, .aload_n 0, 1), (34, .getfield 41, 3), (37, .getfield 128, 3), (40, .ifCond .eq 15, 3), (43, .iload 4, 2), (45, .aload_n 0, 1), (46, .getfield 41, 3), (49, .getfield 132, 3), (52, .if_icmp .ge 7, 3), (55, .iconst 1, 1), (56, .goto 4, 3), (59, .iconst 0, 1), (60, .ireturn, 1), (61, .aload_n 0, 1), (62, .getfield 41, 3), (65, .getfield 128, 3), (68, .ifCond .ne 5, 3), (71, .iconst 1, 1), (72, .ireturn, 1), (73, .aload_n 0, 1), (74, .getfield 35, 3), (77, .ifCond .ne 21, 3), (80, .iload 5, 2), (82, .aload_n 0, 1), (83, .getfield 41, 3), (86, .getfield 135, 3), (89, .if_icmp .gt 7, 3), (92, .iconst 1, 1), (93, .goto 4, 3), (96, .iconst 0, 1), (97, .ireturn, 1), (98, .iload_n 3, 1), (99, .aload_n 0, 1), (100, .getfield 12, 3), (103, .getfield 138, 3), (106, .iload_n 1, 1), (107, .iaload, 1), (108, .invokestatic 101, 3), (111, .istore 6, 2), (113, .iload 6, 2), (115, .aload_n 0, 1), (116, .getfield 41, 3), (119, .getfield 141, 3), (122, .if_icmp .lt 27, 3), (125, .iload 6, 2), (127, .aload_n 0, 1), (128, .getfield 41, 3), (131, .getfield 141, 3), (134, .if_icmp .ne 19, 3), (137, .iload 5, 2), (139, .aload_n 0, 1), (140, .getfield 41, 3), (143, .getfield 135, 3), (146, .if_icmp .ge 7, 3), (149, .iconst 1, 1), (150, .goto 4, 3), (153, .iconst 0, 1), (154, .ireturn, 1)]
theorem dt_Search_isWorth (i : Nat) (q : Nat × Instr × Nat) (h : tb_Search_isWorth[i]? = some q) : decode prog_10_method_8_code q.1 = .ok q.2 := jdt (by decide +kernel : tb_Search_isWorth.all (fun q => decide (decode prog_10_method_8_code q.1 = .ok q.2)) = true) h
theorem ok_Search_isWorth : jOKV M_Search_isWorth 4 := ⟨⟨gt5 164 rfl rfl, gt1 13 rfl rfl, (by decide : "FirstIn$Search" ≠ "java/lang/invoke/MethodHandle"), (by decide : "FirstIn$Search" ≠ "java/lang/invoke/VarHandle"), (by decide +kernel : (parseMethodDescriptor "(IIII)Z").map (fun d => d.parameters.length) = some 4)⟩, gt5 162 rfl rfl, gt5 163 rfl rfl, rfl, nlt rfl⟩
set_option maxRecDepth 100000 in
set_option maxHeartbeats 4000000 in
theorem c_Search_isWorth {G : jG} {S : hS} {V : hV} {v0 : Option Nat} {v1 : Int32} {v2 : Int32} {v3 : Int32} {v4 : Int32} {res : Int32} (hf : Search_isWorth S v0 v1 v2 v3 v4 V = some res) : jC G M_Search_isWorth [ar v0, ai v1, ai v2, ai v3, ai v4] (S, V) (some (ai res)) (S, V) := by
  unfold Search_isWorth at hf
  obtain ⟨_, _, hf⟩ := jbind hf
  refine jC_of (pf_X8 _ _) rfl (nle rfl) ?_
  show jJ G M_Search_isWorth (jEnd G M_Search_isWorth (some (ai res)) (S, V)) 0 0 0 [(0, ar v0), (1, ai v1), (2, ai v2), (3, ai v3), (4, ai v4)] [] (S, V)
  refine j_iload_n (dt_Search_isWorth 0 (0, .iload_n 2, 1) rfl) rfl ?_
  refine j_aload_n (dt_Search_isWorth 1 (1, .aload_n 0, 1) rfl) rfl ?_
  obtain ⟨x1, hx1, hf⟩ := jbind hf
  refine j_getR (dt_Search_isWorth 2 (2, .getfield 12, 3) rfl) fl_X8_12 hx1 (fun _ _ => rfl) ?_
  obtain ⟨x2, hx2, hf⟩ := jbind hf
  refine j_getR (dt_Search_isWorth 3 (5, .getfield 122, 3) rfl) fl_X8_122 hx2 (fun _ _ => rfl) ?_
  refine j_iload_n (dt_Search_isWorth 4 (8, .iload_n 1, 1) rfl) rfl ?_
  obtain ⟨x3, hx3, hf⟩ := jbind hf
  refine j_aldI (dt_Search_isWorth 5 (9, .iaload, 1) rfl) hx3 ?_
  refine j_iadd (dt_Search_isWorth 6 (10, .iadd, 1) rfl) ?_
  refine j_istore (dt_Search_isWorth 7 (11, .istore 5, 2) rfl) (nlt rfl) ?_
  refine j_aload_n (dt_Search_isWorth 8 (13, .aload_n 0, 1) rfl) rfl ?_
  obtain ⟨x4, hx4, hf⟩ := jbind hf
  refine j_getI (dt_Search_isWorth 9 (14, .getfield 35, 3) rfl) fl_X8_35 hx4 (fun _ _ => rfl) ?_
  refine j_iconst (dt_Search_isWorth 10 (17, .iconst 2, 1) rfl) ic_2 ?_
  refine jite hf (fun hc hf => ?_) (fun hc hf => ?_)
  · refine j_icmp_ne (dt_Search_isWorth 11 (18, .if_icmp .ne 43, 3) rfl) rfl (fun q => absurd hc q) (fun _ => ?_)
    refine j_iload (dt_Search_isWorth 12 (21, .iload 5, 2) rfl) rfl ?_
    refine j_aload_n (dt_Search_isWorth 13 (23, .aload_n 0, 1) rfl) rfl ?_
    obtain ⟨x19, hx19, hf⟩ := jbind hf
    refine j_getR (dt_Search_isWorth 14 (24, .getfield 41, 3) rfl) fl_X8_41 hx19 (fun _ _ => rfl) ?_
    obtain ⟨x20, hx20, hf⟩ := jbind hf
    refine j_getI (dt_Search_isWorth 15 (27, .getfield 125, 3) rfl) fl_X8_125 hx20 (fun _ _ => rfl) ?_
    refine jite hf (fun hc hf => ?_) (fun hc hf => ?_)
    · refine j_icmp_gt (dt_Search_isWorth 16 (30, .if_icmp .gt 29, 3) rfl) rfl (fun _ => ?_) (fun q => absurd hc q)
      refine j_iconst (dt_Search_isWorth 28 (59, .iconst 0, 1) rfl) ic_0 ?_
      cases hf
      exact j_zret (x := 0) (dt_Search_isWorth 29 (60, .ireturn, 1) rfl) rfl rfl
    · refine j_icmp_gt (dt_Search_isWorth 16 (30, .if_icmp .gt 29, 3) rfl) rfl (fun q => absurd q hc) (fun _ => ?_)
      refine j_aload_n (dt_Search_isWorth 17 (33, .aload_n 0, 1) rfl) rfl ?_
      obtain ⟨x21, hx21, hf⟩ := jbind hf
      refine j_getR (dt_Search_isWorth 18 (34, .getfield 41, 3) rfl) fl_X8_41 hx21 (fun _ _ => rfl) ?_
      obtain ⟨x22, hx22, hf⟩ := jbind hf
      refine j_getI (dt_Search_isWorth 19 (37, .getfield 128, 3) rfl) fl_X8_128 hx22 (fun _ _ => rfl) ?_
      refine jite hf (fun hc hf => ?_) (fun hc hf => ?_)
      · refine j_if_eq (dt_Search_isWorth 20 (40, .ifCond .eq 15, 3) rfl) rfl (fun _ => ?_) (fun q => absurd hc q)
        refine j_iconst (dt_Search_isWorth 26 (55, .iconst 1, 1) rfl) ic_1 ?_
        refine j_goto (dt_Search_isWorth 27 (56, .goto 4, 3) rfl) rfl ?_
        cases hf
        exact j_zret (x := 1) (dt_Search_isWorth 29 (60, .ireturn, 1) rfl) rfl rfl
      · refine j_if_eq (dt_Search_isWorth 20 (40, .ifCond .eq 15, 3) rfl) rfl (fun q => absurd q hc) (fun _ => ?_)
        refine j_iload (dt_Search_isWorth 21 (43, .iload 4, 2) rfl) rfl ?_
        refine j_aload_n (dt_Search_isWorth 22 (45, .aload_n 0, 1) rfl) rfl ?_
        obtain ⟨x23, hx23, hf⟩ := jbind hf
        refine j_getR (dt_Search_isWorth 23 (46, .getfield 41, 3) rfl) fl_X8_41 hx23 (fun _ _ => rfl) ?_
        obtain ⟨x24, hx24, hf⟩ := jbind hf
        refine j_getI (dt_Search_isWorth 24 (49, .getfield 132, 3) rfl) fl_X8_132 hx24 (fun _ _ => rfl) ?_
        refine jite hf (fun hc hf => ?_) (fun hc hf => ?_)
        · refine j_icmp_ge (dt_Search_isWorth 25 (52, .if_icmp .ge 7, 3) rfl) rfl (fun _ => ?_) (fun q => absurd hc q)
          refine j_iconst (dt_Search_isWorth 28 (59, .iconst 0, 1) rfl) ic_0 ?_
          cases hf
          exact j_zret (x := 0) (dt_Search_isWorth 29 (60, .ireturn, 1) rfl) rfl rfl
        · refine j_icmp_ge (dt_Search_isWorth 25 (52, .if_icmp .ge 7, 3) rfl) rfl (fun q => absurd q hc) (fun _ => ?_)
          refine j_iconst (dt_Search_isWorth 26 (55, .iconst 1, 1) rfl) ic_1 ?_
          refine j_goto (dt_Search_isWorth 27 (56, .goto 4, 3) rfl) rfl ?_
          cases hf
          exact j_zret (x := 1) (dt_Search_isWorth 29 (60, .ireturn, 1) rfl) rfl rfl
  · refine j_icmp_ne (dt_Search_isWorth 11 (18, .if_icmp .ne 43, 3) rfl) rfl (fun _ => ?_) (fun q => absurd q hc)
    refine j_aload_n (dt_Search_isWorth 30 (61, .aload_n 0, 1) rfl) rfl ?_
    obtain ⟨x5, hx5, hf⟩ := jbind hf
    refine j_getR (dt_Search_isWorth 31 (62, .getfield 41, 3) rfl) fl_X8_41 hx5 (fun _ _ => rfl) ?_
    obtain ⟨x6, hx6, hf⟩ := jbind hf
    refine j_getI (dt_Search_isWorth 32 (65, .getfield 128, 3) rfl) fl_X8_128 hx6 (fun _ _ => rfl) ?_
    refine jite hf (fun hc hf => ?_) (fun hc hf => ?_)
    · refine j_if_ne (dt_Search_isWorth 33 (68, .ifCond .ne 5, 3) rfl) rfl (fun q => absurd hc q) (fun _ => ?_)
      refine j_iconst (dt_Search_isWorth 34 (71, .iconst 1, 1) rfl) ic_1 ?_
      cases hf
      exact j_zret (x := 1) (dt_Search_isWorth 35 (72, .ireturn, 1) rfl) rfl rfl
    · refine j_if_ne (dt_Search_isWorth 33 (68, .ifCond .ne 5, 3) rfl) rfl (fun _ => ?_) (fun q => absurd q hc)
      refine j_aload_n (dt_Search_isWorth 36 (73, .aload_n 0, 1) rfl) rfl ?_
      obtain ⟨x7, hx7, hf⟩ := jbind hf
      refine j_getI (dt_Search_isWorth 37 (74, .getfield 35, 3) rfl) fl_X8_35 hx7 (fun _ _ => rfl) ?_
      refine jite hf (fun hc hf => ?_) (fun hc hf => ?_)
      · refine j_if_ne (dt_Search_isWorth 38 (77, .ifCond .ne 21, 3) rfl) rfl (fun q => absurd hc q) (fun _ => ?_)
        refine j_iload (dt_Search_isWorth 39 (80, .iload 5, 2) rfl) rfl ?_
        refine j_aload_n (dt_Search_isWorth 40 (82, .aload_n 0, 1) rfl) rfl ?_
        obtain ⟨x17, hx17, hf⟩ := jbind hf
        refine j_getR (dt_Search_isWorth 41 (83, .getfield 41, 3) rfl) fl_X8_41 hx17 (fun _ _ => rfl) ?_
        obtain ⟨x18, hx18, hf⟩ := jbind hf
        refine j_getI (dt_Search_isWorth 42 (86, .getfield 135, 3) rfl) fl_X8_135 hx18 (fun _ _ => rfl) ?_
        refine jite hf (fun hc hf => ?_) (fun hc hf => ?_)
        · refine j_icmp_gt (dt_Search_isWorth 43 (89, .if_icmp .gt 7, 3) rfl) rfl (fun _ => ?_) (fun q => absurd hc q)
          refine j_iconst (dt_Search_isWorth 46 (96, .iconst 0, 1) rfl) ic_0 ?_
          cases hf
          exact j_zret (x := 0) (dt_Search_isWorth 47 (97, .ireturn, 1) rfl) rfl rfl
        · refine j_icmp_gt (dt_Search_isWorth 43 (89, .if_icmp .gt 7, 3) rfl) rfl (fun q => absurd q hc) (fun _ => ?_)
          refine j_iconst (dt_Search_isWorth 44 (92, .iconst 1, 1) rfl) ic_1 ?_
          refine j_goto (dt_Search_isWorth 45 (93, .goto 4, 3) rfl) rfl ?_
          cases hf
          exact j_zret (x := 1) (dt_Search_isWorth 47 (97, .ireturn, 1) rfl) rfl rfl
      · refine j_if_ne (dt_Search_isWorth 38 (77, .ifCond .ne 21, 3) rfl) rfl (fun _ => ?_) (fun q => absurd q hc)
        refine j_iload_n (dt_Search_isWorth 48 (98, .iload_n 3, 1) rfl) rfl ?_
        refine j_aload_n (dt_Search_isWorth 49 (99, .aload_n 0, 1) rfl) rfl ?_
        obtain ⟨x8, hx8, hf⟩ := jbind hf
        refine j_getR (dt_Search_isWorth 50 (100, .getfield 12, 3) rfl) fl_X8_12 hx8 (fun _ _ => rfl) ?_
        obtain ⟨x9, hx9, hf⟩ := jbind hf
        refine j_getR (dt_Search_isWorth 51 (103, .getfield 138, 3) rfl) fl_X8_138 hx9 (fun _ _ => rfl) ?_
        refine j_iload_n (dt_Search_isWorth 52 (106, .iload_n 1, 1) rfl) rfl ?_
        obtain ⟨x10, hx10, hf⟩ := jbind hf
        refine j_aldI (dt_Search_isWorth 53 (107, .iaload, 1) rfl) hx10 ?_
        refine j_callS M_Jd_max 2 [ai v3, ai x10] (rest := []) (dt_Search_isWorth 54 (108, .invokestatic 101, 3) rfl) ml_X8_101 ok_Jd_max (jfit rfl rfl ⟨rfl, rfl⟩ (nle rfl) (nlt rfl)) rfl rfl (nle rfl) ⟨rfl, rfl⟩ (c_Jd_max rfl) ?_
        refine j_istore (dt_Search_isWorth 55 (111, .istore 6, 2) rfl) (nlt rfl) ?_
        refine j_iload (dt_Search_isWorth 56 (113, .iload 6, 2) rfl) rfl ?_
        refine j_aload_n (dt_Search_isWorth 57 (115, .aload_n 0, 1) rfl) rfl ?_
        obtain ⟨x11, hx11, hf⟩ := jbind hf
        refine j_getR (dt_Search_isWorth 58 (116, .getfield 41, 3) rfl) fl_X8_41 hx11 (fun _ _ => rfl) ?_
        obtain ⟨x12, hx12, hf⟩ := jbind hf
        refine j_getI (dt_Search_isWorth 59 (119, .getfield 141, 3) rfl) fl_X8_141 hx12 (fun _ _ => rfl) ?_
        refine jite hf (fun hc hf => ?_) (fun hc hf => ?_)
        · refine j_icmp_lt (dt_Search_isWorth 60 (122, .if_icmp .lt 27, 3) rfl) rfl (fun _ => ?_) (fun q => absurd hc q)
          refine j_iconst (dt_Search_isWorth 71 (149, .iconst 1, 1) rfl) ic_1 ?_
          refine j_goto (dt_Search_isWorth 72 (150, .goto 4, 3) rfl) rfl ?_
          cases hf
          exact j_zret (x := 1) (dt_Search_isWorth 74 (154, .ireturn, 1) rfl) rfl rfl
        · refine j_icmp_lt (dt_Search_isWorth 60 (122, .if_icmp .lt 27, 3) rfl) rfl (fun q => absurd q hc) (fun _ => ?_)
          refine j_iload (dt_Search_isWorth 61 (125, .iload 6, 2) rfl) rfl ?_
          refine j_aload_n (dt_Search_isWorth 62 (127, .aload_n 0, 1) rfl) rfl ?_
          obtain ⟨x13, hx13, hf⟩ := jbind hf
          refine j_getR (dt_Search_isWorth 63 (128, .getfield 41, 3) rfl) fl_X8_41 hx13 (fun _ _ => rfl) ?_
          obtain ⟨x14, hx14, hf⟩ := jbind hf
          refine j_getI (dt_Search_isWorth 64 (131, .getfield 141, 3) rfl) fl_X8_141 hx14 (fun _ _ => rfl) ?_
          refine jite hf (fun hc hf => ?_) (fun hc hf => ?_)
          · refine j_icmp_ne (dt_Search_isWorth 65 (134, .if_icmp .ne 19, 3) rfl) rfl (fun q => absurd hc q) (fun _ => ?_)
            refine j_iload (dt_Search_isWorth 66 (137, .iload 5, 2) rfl) rfl ?_
            refine j_aload_n (dt_Search_isWorth 67 (139, .aload_n 0, 1) rfl) rfl ?_
            obtain ⟨x15, hx15, hf⟩ := jbind hf
            refine j_getR (dt_Search_isWorth 68 (140, .getfield 41, 3) rfl) fl_X8_41 hx15 (fun _ _ => rfl) ?_
            obtain ⟨x16, hx16, hf⟩ := jbind hf
            refine j_getI (dt_Search_isWorth 69 (143, .getfield 135, 3) rfl) fl_X8_135 hx16 (fun _ _ => rfl) ?_
            refine jite hf (fun hc hf => ?_) (fun hc hf => ?_)
            · refine j_icmp_ge (dt_Search_isWorth 70 (146, .if_icmp .ge 7, 3) rfl) rfl (fun _ => ?_) (fun q => absurd hc q)
              refine j_iconst (dt_Search_isWorth 73 (153, .iconst 0, 1) rfl) ic_0 ?_
              cases hf
              exact j_zret (x := 0) (dt_Search_isWorth 74 (154, .ireturn, 1) rfl) rfl rfl
            · refine j_icmp_ge (dt_Search_isWorth 70 (146, .if_icmp .ge 7, 3) rfl) rfl (fun q => absurd q hc) (fun _ => ?_)
              refine j_iconst (dt_Search_isWorth 71 (149, .iconst 1, 1) rfl) ic_1 ?_
              refine j_goto (dt_Search_isWorth 72 (150, .goto 4, 3) rfl) rfl ?_
              cases hf
              exact j_zret (x := 1) (dt_Search_isWorth 74 (154, .ireturn, 1) rfl) rfl rfl
          · refine j_icmp_ne (dt_Search_isWorth 65 (134, .if_icmp .ne 19, 3) rfl) rfl (fun _ => ?_) (fun q => absurd q hc)
            refine j_iconst (dt_Search_isWorth 73 (153, .iconst 0, 1) rfl) ic_0 ?_
            cases hf
            exact j_zret (x := 0) (dt_Search_isWorth 74 (154, .ireturn, 1) rfl) rfl rfl
theorem r_Search_isWorth {S : hS} {V : hV} {v0 : Option Nat} {v1 : Int32} {v2 : Int32} {v3 : Int32} {v4 : Int32} {res : Int32} (hf : Search_isWorth S v0 v1 v2 v3 v4 V = some res) : ∃ b, rc S 8 v0 = some b := by
  unfold Search_isWorth at hf
  obtain ⟨b, hb, _⟩ := jbind hf
  exact ⟨b, hb⟩
def tb_Search_mayTake : List (Nat × Instr × Nat) := [(0, .aload_n 0, 1), (1, .getfield 32, 3), (4, .iload_n 2, 1), (5, .invokestatic 80, 3), (8, .ifCond .eq 5, 3), (11, .iconst 0, 1), (12, .ireturn, 1), (13, .aload_n 0, 1), (14, .getfield 25, 3), (17, .iload_n 1, 1), (18, .invokestatic 80, 3), (21, .ifCond .eq 21, 3), (24, .aload_n 0, 1), (25, .getfield 22, 3), (28, .iload_n 1, 1), (29, .iaload, 1), (30, .iload_n 2, 1), (31, .if_icmp .ne 7, 3), (34, .iconst 1, 1), (35, .goto 23, 3), (38, .iconst 0, 1), (39, .goto 19, 3), (42, .aload_n 0, 1), (43, .getfield 29, 3), (46, .iload_n 2, 1), (47, .invokestatic 80, 3), (50, .ifCond .ne 7, 3), (53, .iconst 1, 1), (54, .goto 4, 3), (57, .iconst 0, 1), (58, .ireturn, 1)]
theorem dt_Search_mayTake (i : Nat) (q : Nat × Instr × Nat) (h : tb_Search_mayTake[i]? = some q) : decode prog_10_method_5_code q.1 = .ok q.2 := jdt (by decide +kernel : tb_Search_mayTake.all (fun q => decide (decode prog_10_method_5_code q.1 = .ok q.2)) = true) h
theorem ok_Search_mayTake : jOKV M_Search_mayTake 2 := ⟨⟨gt5 173 rfl rfl, gt1 13 rfl rfl, (by decide : "FirstIn$Search" ≠ "java/lang/invoke/MethodHandle"), (by decide : "FirstIn$Search" ≠ "java/lang/invoke/VarHandle"), (by decide +kernel : (parseMethodDescriptor "(II)Z").map (fun d => d.parameters.length) = some 2)⟩, gt5 171 rfl rfl, gt5 172 rfl rfl, rfl, nlt rfl⟩
set_option maxRecDepth 100000 in
set_option maxHeartbeats 4000000 in
theorem c_Search_mayTake {G : jG} {S : hS} {V : hV} {v0 : Option Nat} {v1 : Int32} {v2 : Int32} {res : Int32} (hf : Search_mayTake S v0 v1 v2 V = some res) : jC G M_Search_mayTake [ar v0, ai v1, ai v2] (S, V) (some (ai res)) (S, V) := by
  unfold Search_mayTake at hf
  obtain ⟨_, _, hf⟩ := jbind hf
  refine jC_of (pf_X8 _ _) rfl (nle rfl) ?_
  show jJ G M_Search_mayTake (jEnd G M_Search_mayTake (some (ai res)) (S, V)) 0 0 0 [(0, ar v0), (1, ai v1), (2, ai v2)] [] (S, V)
  refine j_aload_n (dt_Search_mayTake 0 (0, .aload_n 0, 1) rfl) rfl ?_
  obtain ⟨x1, hx1, hf⟩ := jbind hf
  refine j_getI (dt_Search_mayTake 1 (1, .getfield 32, 3) rfl) fl_X8_32 hx1 (fun _ _ => rfl) ?_
  refine j_iload_n (dt_Search_mayTake 2 (4, .iload_n 2, 1) rfl) rfl ?_
  refine j_callSN M_Fi_has 2 [ai x1, ai v2] (rest := []) (dt_Search_mayTake 3 (5, .invokestatic 80, 3) rfl) ml_X8_80 ok_Fi_has (jfit rfl rfl ⟨rfl, rfl⟩ (nle rfl) (nlt rfl)) rfl rfl (nle rfl) ⟨rfl, rfl⟩ (c_Fi_has rfl) ?_
  refine jite hf (fun hc hf => ?_) (fun hc hf => ?_)
  · refine j_if_eq (dt_Search_mayTake 4 (8, .ifCond .eq 5, 3) rfl) rfl (fun _ => ?_) (fun q => absurd hc q)
    refine j_aload_n (dt_Search_mayTake 7 (13, .aload_n 0, 1) rfl) rfl ?_
    obtain ⟨x2, hx2, hf⟩ := jbind hf
    refine j_getI (dt_Search_mayTake 8 (14, .getfield 25, 3) rfl) fl_X8_25 hx2 (fun _ _ => rfl) ?_
    refine j_iload_n (dt_Search_mayTake 9 (17, .iload_n 1, 1) rfl) rfl ?_
    refine j_callSN M_Fi_has 2 [ai x2, ai v1] (rest := []) (dt_Search_mayTake 10 (18, .invokestatic 80, 3) rfl) ml_X8_80 ok_Fi_has (jfit rfl rfl ⟨rfl, rfl⟩ (nle rfl) (nlt rfl)) rfl rfl (nle rfl) ⟨rfl, rfl⟩ (c_Fi_has rfl) ?_
    refine jite hf (fun hc hf => ?_) (fun hc hf => ?_)
    · refine j_if_eq (dt_Search_mayTake 11 (21, .ifCond .eq 21, 3) rfl) rfl (fun _ => ?_) (fun q => absurd hc q)
      refine j_aload_n (dt_Search_mayTake 22 (42, .aload_n 0, 1) rfl) rfl ?_
      obtain ⟨x3, hx3, hf⟩ := jbind hf
      refine j_getI (dt_Search_mayTake 23 (43, .getfield 29, 3) rfl) fl_X8_29 hx3 (fun _ _ => rfl) ?_
      refine j_iload_n (dt_Search_mayTake 24 (46, .iload_n 2, 1) rfl) rfl ?_
      refine j_callSN M_Fi_has 2 [ai x3, ai v2] (rest := []) (dt_Search_mayTake 25 (47, .invokestatic 80, 3) rfl) ml_X8_80 ok_Fi_has (jfit rfl rfl ⟨rfl, rfl⟩ (nle rfl) (nlt rfl)) rfl rfl (nle rfl) ⟨rfl, rfl⟩ (c_Fi_has rfl) ?_
      refine jite hf (fun hc hf => ?_) (fun hc hf => ?_)
      · refine j_if_ne (dt_Search_mayTake 26 (50, .ifCond .ne 7, 3) rfl) rfl (fun q => absurd hc q) (fun _ => ?_)
        refine j_iconst (dt_Search_mayTake 27 (53, .iconst 1, 1) rfl) ic_1 ?_
        refine j_goto (dt_Search_mayTake 28 (54, .goto 4, 3) rfl) rfl ?_
        cases hf
        exact j_zret (x := 1) (dt_Search_mayTake 30 (58, .ireturn, 1) rfl) rfl rfl
      · refine j_if_ne (dt_Search_mayTake 26 (50, .ifCond .ne 7, 3) rfl) rfl (fun _ => ?_) (fun q => absurd q hc)
        refine j_iconst (dt_Search_mayTake 29 (57, .iconst 0, 1) rfl) ic_0 ?_
        cases hf
        exact j_zret (x := 0) (dt_Search_mayTake 30 (58, .ireturn, 1) rfl) rfl rfl
    · refine j_if_eq (dt_Search_mayTake 11 (21, .ifCond .eq 21, 3) rfl) rfl (fun q => absurd q hc) (fun _ => ?_)
      refine j_aload_n (dt_Search_mayTake 12 (24, .aload_n 0, 1) rfl) rfl ?_
      obtain ⟨x4, hx4, hf⟩ := jbind hf
      refine j_getR (dt_Search_mayTake 13 (25, .getfield 22, 3) rfl) fl_X8_22 hx4 (fun _ _ => rfl) ?_
      refine j_iload_n (dt_Search_mayTake 14 (28, .iload_n 1, 1) rfl) rfl ?_
      obtain ⟨x5, hx5, hf⟩ := jbind hf
      refine j_aldI (dt_Search_mayTake 15 (29, .iaload, 1) rfl) hx5 ?_
      refine j_iload_n (dt_Search_mayTake 16 (30, .iload_n 2, 1) rfl) rfl ?_
      refine jite hf (fun hc hf => ?_) (fun hc hf => ?_)
      · refine j_icmp_ne (dt_Search_mayTake 17 (31, .if_icmp .ne 7, 3) rfl) rfl (fun q => absurd hc q) (fun _ => ?_)
        refine j_iconst (dt_Search_mayTake 18 (34, .iconst 1, 1) rfl) ic_1 ?_
        refine j_goto (dt_Search_mayTake 19 (35, .goto 23, 3) rfl) rfl ?_
        cases hf
        exact j_zret (x := 1) (dt_Search_mayTake 30 (58, .ireturn, 1) rfl) rfl rfl
      · refine j_icmp_ne (dt_Search_mayTake 17 (31, .if_icmp .ne 7, 3) rfl) rfl (fun _ => ?_) (fun q => absurd q hc)
        refine j_iconst (dt_Search_mayTake 20 (38, .iconst 0, 1) rfl) ic_0 ?_
        refine j_goto (dt_Search_mayTake 21 (39, .goto 19, 3) rfl) rfl ?_
        cases hf
        exact j_zret (x := 0) (dt_Search_mayTake 30 (58, .ireturn, 1) rfl) rfl rfl
  · refine j_if_eq (dt_Search_mayTake 4 (8, .ifCond .eq 5, 3) rfl) rfl (fun q => absurd q hc) (fun _ => ?_)
    refine j_iconst (dt_Search_mayTake 5 (11, .iconst 0, 1) rfl) ic_0 ?_
    cases hf
    exact j_zret (x := 0) (dt_Search_mayTake 6 (12, .ireturn, 1) rfl) rfl rfl
theorem r_Search_mayTake {S : hS} {V : hV} {v0 : Option Nat} {v1 : Int32} {v2 : Int32} {res : Int32} (hf : Search_mayTake S v0 v1 v2 V = some res) : ∃ b, rc S 8 v0 = some b := by
  unfold Search_mayTake at hf
  obtain ⟨b, hb, _⟩ := jbind hf
  exact ⟨b, hb⟩
def tb_Found_begin : List (Nat × Instr × Nat) := [(0, .aload_n 0, 1), (1, .iconst 1, 1), (2, .putfield 25, 3), (5, .aload_n 0, 1), (6, .iload_n 1, 1), (7, .putfield 29, 3), (10, .aload_n 0, 1), (11, .iload_n 2, 1), (12, .putfield 32, 3), (15, .aload_n 0, 1), (16, .iload_n 3, 1), (17, .putfield 35, 3), (20, .aload_n 0, 1), (21, .iconst 0, 1), (22, .putfield 38, 3), (25, .aload_n 0, 1), (26, .getfield 15, 3), (29, .iconst 0, 1), (30, .invokestatic 41, 3), (33, .return_, 1)]
theorem dt_Found_begin (i : Nat) (q : Nat × Instr × Nat) (h : tb_Found_begin[i]? = some q) : decode prog_4_method_3_code q.1 = .ok q.2 := jdt (by decide +kernel : tb_Found_begin.all (fun q => decide (decode prog_4_method_3_code q.1 = .ok q.2)) = true) h
theorem ok_Found_begin : jOKV M_Found_begin 3 := ⟨⟨gt5 169 rfl rfl, gt1 9 rfl rfl, (by decide : "FirstIn$Found" ≠ "java/lang/invoke/MethodHandle"), (by decide : "FirstIn$Found" ≠ "java/lang/invoke/VarHandle"), (by decide +kernel : (parseMethodDescriptor "(III)V").map (fun d => d.parameters.length) = some 3)⟩, gt5 167 rfl rfl, gt5 168 rfl rfl, rfl, nlt rfl⟩
set_option maxRecDepth 100000 in
set_option maxHeartbeats 4000000 in
theorem c_Found_begin {G : jG} {S : hS} {V : hV} {v0 : Option Nat} {v1 : Int32} {v2 : Int32} {v3 : Int32} {res : hV} (hf : Found_begin S v0 v1 v2 v3 V = some res) : jC G M_Found_begin [ar v0, ai v1, ai v2, ai v3] (S, V) none (S, res) := by
  unfold Found_begin at hf
  obtain ⟨_, _, hf⟩ := jbind hf
  refine jC_of (pf_X2 _ _) rfl (nle rfl) ?_
  show jJ G M_Found_begin (jEnd G M_Found_begin none (S, res)) 0 0 0 [(0, ar v0), (1, ai v1), (2, ai v2), (3, ai v3)] [] (S, V)
  refine j_aload_n (dt_Found_begin 0 (0, .aload_n 0, 1) rfl) rfl ?_
  refine j_iconst (dt_Found_begin 1 (1, .iconst 1, 1) rfl) ic_1 ?_
  obtain ⟨V1, hV1, hf⟩ := jbind hf
  refine j_putZ (dt_Found_begin 2 (2, .putfield 25, 3) rfl) fl_X2_25 hV1 rfl (Or.inl rfl) ?_
  refine j_aload_n (dt_Found_begin 3 (5, .aload_n 0, 1) rfl) rfl ?_
  refine j_iload_n (dt_Found_begin 4 (6, .iload_n 1, 1) rfl) rfl ?_
  obtain ⟨V2, hV2, hf⟩ := jbind hf
  refine j_putI (dt_Found_begin 5 (7, .putfield 29, 3) rfl) fl_X2_29 hV2 rfl (Or.inl rfl) ?_
  refine j_aload_n (dt_Found_begin 6 (10, .aload_n 0, 1) rfl) rfl ?_
  refine j_iload_n (dt_Found_begin 7 (11, .iload_n 2, 1) rfl) rfl ?_
  obtain ⟨V3, hV3, hf⟩ := jbind hf
  refine j_putI (dt_Found_begin 8 (12, .putfield 32, 3) rfl) fl_X2_32 hV3 rfl (Or.inl rfl) ?_
  refine j_aload_n (dt_Found_begin 9 (15, .aload_n 0, 1) rfl) rfl ?_
  refine j_iload_n (dt_Found_begin 10 (16, .iload_n 3, 1) rfl) rfl ?_
  obtain ⟨V4, hV4, hf⟩ := jbind hf
  refine j_putI (dt_Found_begin 11 (17, .putfield 35, 3) rfl) fl_X2_35 hV4 rfl (Or.inl rfl) ?_
  refine j_aload_n (dt_Found_begin 12 (20, .aload_n 0, 1) rfl) rfl ?_
  refine j_iconst (dt_Found_begin 13 (21, .iconst 0, 1) rfl) ic_0 ?_
  obtain ⟨V5, hV5, hf⟩ := jbind hf
  refine j_putI (dt_Found_begin 14 (22, .putfield 38, 3) rfl) fl_X2_38 hV5 rfl (Or.inl rfl) ?_
  refine j_aload_n (dt_Found_begin 15 (25, .aload_n 0, 1) rfl) rfl ?_
  obtain ⟨x6, hx6, hf⟩ := jbind hf
  refine j_getR (dt_Found_begin 16 (26, .getfield 15, 3) rfl) fl_X2_15 hx6 (fun _ _ => rfl) ?_
  refine j_iconst (dt_Found_begin 17 (29, .iconst 0, 1) rfl) ic_0 ?_
  obtain ⟨V7, hV7, hf⟩ := jbind hf
  refine j_callS M_Jd_fill 2 [ar x6, ai 0] (rest := []) (dt_Found_begin 18 (30, .invokestatic 41, 3) rfl) ml_X2_41 ok_Jd_fill (jfit rfl rfl ⟨rfl, rfl⟩ (nle rfl) (nlt rfl)) rfl rfl (nle rfl) ⟨rfl, rfl⟩ ((c_Jd_fill hV7)) ?_
  cases hf
  exact j_vret (dt_Found_begin 19 (33, .return_, 1) rfl) rfl
theorem r_Found_begin {S : hS} {V : hV} {v0 : Option Nat} {v1 : Int32} {v2 : Int32} {v3 : Int32} {res : hV} (hf : Found_begin S v0 v1 v2 v3 V = some res) : ∃ b, rc S 2 v0 = some b := by
  unfold Found_begin at hf
  obtain ⟨b, hb, _⟩ := jbind hf
  exact ⟨b, hb⟩
def tb_Search_take : List (Nat × Instr × Nat) := [(0, .aload_n 0, 1), (1, .aload_n 0, 1), (2, .getfield 12, 3), (5, .getfield 56, 3), (8, .iload_n 1, 1), (9, .iload_n 2, 1), (10, .iload_n 3, 1), (11, .invokevirtual 106, 3), (14, .ifCond .ne 4, 3), (17, .return_, 1), (18, .aload_n 0, 1), (19, .getfield 41, 3), (22, .getfield 128, 3), (25, .ifCond .eq 21, 3), (28, .aload_n 0, 1), (29, .getfield 35, 3), (32, .ifCond .ne 14, 3), (35, .iload_n 1, 1), (36, .aload_n 0, 1), (37, .getfield 41, 3), (40, .getfield 135, 3), (43, .if_icmp .ge 7, 3), (46, .iconst 1, 1), (47, .goto 4, 3), (50, .iconst 0, 1), (51, .istore 4, 2), (53, .iload 4, 2), (55, .ifCond .eq 13, 3), (58, .aload_n 0, 1), (59, .getfield 41, 3), (62, .iload_n 1, 1), (63, .iload_n 2, 1), (64, .iload_n 3, 1), (65, .invokevirtual 143, 3), (68, .aload_n 0, 1), (69, .getfield 41, 3), (72, .dup, 1), (73, .getfield 146, 3), (76, .iconst 1, 1), (77, .iadd, 1), (78, .putfield 146, 3), (81, .iconst 0, 1), (82, .istore 5, 2), (84, .iload 5, 2), (86, .aload_n 0, 1), (87, .getfield 12, 3), (90, .getfield 56, 3), (93, .if_icmp .ge 72, 3), (96, .iload 5, 2), (98, .bipush 7, 2), (100, .if_icmp .ge 65, 3), (103, .aload_n 0, 1), (104, .getfield 12, 3), (107, .getfield 59, 3), (110, .iload 5, 2), (112, .iaload, 1), (113, .istore 6, 2), (115, .aload_n 0, 1), (116, .getfield 41, 3), (119, .getfield 147, 3), (122, .iload 6, 2), (124, .dup2, 1), (125, .iaload, 1), (126, .iconst 1, 1), (127, .aload_n 0, 1), (128, .getfield 18, 3), (131, .iload 5, 2), (133, .iaload, 1), (134, .ishl, 1), (135, .ior, 1), (136, .iastore, 1), (137, .iload 4, 2), (139, .ifCond .eq 20, 3), (142, .aload_n 0, 1), (143, .getfield 41, 3), (146, .getfield 150, 3), (149, .iload 6, 2), (151, .aload_n 0, 1), (152, .getfield 18, 3), (155, .iload 5, 2), (157, .iaload, 1), (158, .iastore, 1), (159, .iinc 5 1, 3), (162, .goto (-78), 3), (165, .return_, 1)]
theorem dt_Search_take (i : Nat) (q : Nat × Instr × Nat) (h : tb_Search_take[i]? = some q) : decode prog_10_method_9_code q.1 = .ok q.2 := jdt (by decide +kernel : tb_Search_take.all (fun q => decide (decode prog_10_method_9_code q.1 = .ok q.2)) = true) h
theorem ok_Search_take : jOKV M_Search_take 3 := ⟨⟨gt5 160 rfl rfl, gt1 13 rfl rfl, (by decide : "FirstIn$Search" ≠ "java/lang/invoke/MethodHandle"), (by decide : "FirstIn$Search" ≠ "java/lang/invoke/VarHandle"), (by decide +kernel : (parseMethodDescriptor "(III)V").map (fun d => d.parameters.length) = some 3)⟩, gt5 158 rfl rfl, gt5 159 rfl rfl, rfl, nlt rfl⟩
set_option maxRecDepth 100000 in
set_option maxHeartbeats 4000000 in
theorem c_Search_take {G : jG} {S : hS} {V : hV} {v0 : Option Nat} {v1 : Int32} {v2 : Int32} {v3 : Int32} {res : hV} (hf : Search_take S v0 v1 v2 v3 V = some res) : jC G M_Search_take [ar v0, ai v1, ai v2, ai v3] (S, V) none (S, res) := by
  unfold Search_take at hf
  obtain ⟨_, _, hf⟩ := jbind hf
  refine jC_of (pf_X8 _ _) rfl (nle rfl) ?_
  show jJ G M_Search_take (jEnd G M_Search_take none (S, res)) 0 0 0 [(0, ar v0), (1, ai v1), (2, ai v2), (3, ai v3)] [] (S, V)
  refine j_aload_n (dt_Search_take 0 (0, .aload_n 0, 1) rfl) rfl ?_
  refine j_aload_n (dt_Search_take 1 (1, .aload_n 0, 1) rfl) rfl ?_
  obtain ⟨x1, hx1, hf⟩ := jbind hf
  refine j_getR (dt_Search_take 2 (2, .getfield 12, 3) rfl) fl_X8_12 hx1 (fun _ _ => rfl) ?_
  obtain ⟨x2, hx2, hf⟩ := jbind hf
  refine j_getI (dt_Search_take 3 (5, .getfield 56, 3) rfl) fl_X8_56 hx2 (fun _ _ => rfl) ?_
  refine j_iload_n (dt_Search_take 4 (8, .iload_n 1, 1) rfl) rfl ?_
  refine j_iload_n (dt_Search_take 5 (9, .iload_n 2, 1) rfl) rfl ?_
  refine j_iload_n (dt_Search_take 6 (10, .iload_n 3, 1) rfl) rfl ?_
  obtain ⟨x3, hx3, hf⟩ := jbind hf
  obtain ⟨b4, hb4⟩ := r_Search_isWorth hx3
  refine j_callV M_Search_isWorth 4 [ai x2, ai v1, ai v2, ai v3] (rest := []) (dt_Search_take 7 (11, .invokevirtual 106, 3) rfl) ml_X8_106 ok_Search_isWorth (jfit rfl rfl ⟨rfl, rfl⟩ (nle rfl) (nlt rfl)) rfl rfl (nle rfl) ⟨rfl, rfl⟩ hb4 ((c_Search_isWorth hx3)) ?_
  refine jite hf (fun hc hf => ?_) (fun hc hf => ?_)
  · refine j_if_ne (dt_Search_take 8 (14, .ifCond .ne 4, 3) rfl) rfl (fun q => absurd hc q) (fun _ => ?_)
    cases hf
    exact j_vret (dt_Search_take 9 (17, .return_, 1) rfl) rfl
  · refine j_if_ne (dt_Search_take 8 (14, .ifCond .ne 4, 3) rfl) rfl (fun _ => ?_) (fun q => absurd q hc)
    refine j_aload_n (dt_Search_take 10 (18, .aload_n 0, 1) rfl) rfl ?_
    obtain ⟨x5, hx5, hf⟩ := jbind hf
    refine j_getR (dt_Search_take 11 (19, .getfield 41, 3) rfl) fl_X8_41 hx5 (fun _ _ => rfl) ?_
    obtain ⟨x6, hx6, hf⟩ := jbind hf
    refine j_getI (dt_Search_take 12 (22, .getfield 128, 3) rfl) fl_X8_128 hx6 (fun _ _ => rfl) ?_
    obtain ⟨j25, hj25, hf⟩ := jbind hf
    have hP25 : jJ G M_Search_take (jEnd G M_Search_take none (S, res)) 0 0 51 [(0, ar v0), (1, ai v1), (2, ai v2), (3, ai v3)] [ai j25] (S, V) := by
      refine j_istore (dt_Search_take 25 (51, .istore 4, 2) rfl) (nlt rfl) ?_
      refine j_iload (dt_Search_take 26 (53, .iload 4, 2) rfl) rfl ?_
      obtain ⟨j55, hj55, hf⟩ := jbind hf
      have hP55 : jJ G M_Search_take (jEnd G M_Search_take none (S, res)) 0 0 68 [(0, ar v0), (4, ai j25)] [] (S, j55) := by
        refine j_aload_n (dt_Search_take 34 (68, .aload_n 0, 1) rfl) rfl ?_
        obtain ⟨x7, hx7, hf⟩ := jbind hf
        refine j_getR (dt_Search_take 35 (69, .getfield 41, 3) rfl) fl_X8_41 hx7 (fun _ _ => rfl) ?_
        refine j_dup (dt_Search_take 36 (72, .dup, 1) rfl) rfl ?_
        obtain ⟨x8, hx8, hf⟩ := jbind hf
        refine j_getI (dt_Search_take 37 (73, .getfield 146, 3) rfl) fl_X8_146 hx8 (fun _ _ => rfl) ?_
        refine j_iconst (dt_Search_take 38 (76, .iconst 1, 1) rfl) ic_1 ?_
        refine j_iadd (dt_Search_take 39 (77, .iadd, 1) rfl) ?_
        obtain ⟨V9, hV9, hf⟩ := jbind hf
        refine j_putI (dt_Search_take 40 (78, .putfield 146, 3) rfl) fl_X8_146 hV9 rfl (Or.inl rfl) ?_
        refine j_iconst (dt_Search_take 41 (81, .iconst 0, 1) rfl) ic_0 ?_
        refine j_istore (dt_Search_take 42 (82, .istore 5, 2) rfl) (nlt rfl) ?_
        obtain ⟨t84, ht84, hf⟩ := jbind hf
        have hX84 : ∀ q84 : hV, q84 = t84 → jJ G M_Search_take (jEnd G M_Search_take none (S, res)) 0 0 165 [] [] (S, q84) := by
          intro q84 hq84
          subst hq84
          cases hf
          exact j_vret (dt_Search_take 84 (165, .return_, 1) rfl) rfl
        refine j_sub (ls' := [(0, ar v0), (4, ai j25), (5, ai 0)]) rfl ?_
        refine jloop_J (C := fun s84 => jJ G M_Search_take (jEnd G M_Search_take none (S, res)) 0 0 84 [(0, ar v0), (4, ai j25), (5, ai s84.1)] [] (S, s84.2)) (fun s84 z84_ hy84 hin84 hout84 => ?_) _ _ ht84
        unfold Search_take_L84 at hy84
        refine j_iload (dt_Search_take 43 (84, .iload 5, 2) rfl) rfl ?_
        refine j_aload_n (dt_Search_take 44 (86, .aload_n 0, 1) rfl) rfl ?_
        obtain ⟨x10, hx10, hy84⟩ := jbind hy84
        refine j_getR (dt_Search_take 45 (87, .getfield 12, 3) rfl) fl_X8_12 hx10 (fun _ _ => rfl) ?_
        obtain ⟨x11, hx11, hy84⟩ := jbind hy84
        refine j_getI (dt_Search_take 46 (90, .getfield 56, 3) rfl) fl_X8_56 hx11 (fun _ _ => rfl) ?_
        refine jite hy84 (fun hc hy84 => ?_) (fun hc hy84 => ?_)
        · refine j_icmp_ge (dt_Search_take 47 (93, .if_icmp .ge 72, 3) rfl) rfl (fun _ => ?_) (fun q => absurd hc q)
          cases hy84
          have hz := hX84 _ (hout84 _ rfl)
          exact j_sub rfl hz
        · refine j_icmp_ge (dt_Search_take 47 (93, .if_icmp .ge 72, 3) rfl) rfl (fun q => absurd q hc) (fun _ => ?_)
          refine j_iload (dt_Search_take 48 (96, .iload 5, 2) rfl) rfl ?_
          refine j_bipush (dt_Search_take 49 (98, .bipush 7, 2) rfl) bp_7 ?_
          refine jite hy84 (fun hc hy84 => ?_) (fun hc hy84 => ?_)
          · refine j_icmp_ge (dt_Search_take 50 (100, .if_icmp .ge 65, 3) rfl) rfl (fun _ => ?_) (fun q => absurd hc q)
            cases hy84
            have hz := hX84 _ (hout84 _ rfl)
            exact j_sub rfl hz
          · refine j_icmp_ge (dt_Search_take 50 (100, .if_icmp .ge 65, 3) rfl) rfl (fun q => absurd q hc) (fun _ => ?_)
            refine j_aload_n (dt_Search_take 51 (103, .aload_n 0, 1) rfl) rfl ?_
            obtain ⟨x12, hx12, hy84⟩ := jbind hy84
            refine j_getR (dt_Search_take 52 (104, .getfield 12, 3) rfl) fl_X8_12 hx12 (fun _ _ => rfl) ?_
            obtain ⟨x13, hx13, hy84⟩ := jbind hy84
            refine j_getR (dt_Search_take 53 (107, .getfield 59, 3) rfl) fl_X8_59 hx13 (fun _ _ => rfl) ?_
            refine j_iload (dt_Search_take 54 (110, .iload 5, 2) rfl) rfl ?_
            obtain ⟨x14, hx14, hy84⟩ := jbind hy84
            refine j_aldI (dt_Search_take 55 (112, .iaload, 1) rfl) hx14 ?_
            refine j_istore (dt_Search_take 56 (113, .istore 6, 2) rfl) (nlt rfl) ?_
            refine j_aload_n (dt_Search_take 57 (115, .aload_n 0, 1) rfl) rfl ?_
            obtain ⟨x15, hx15, hy84⟩ := jbind hy84
            refine j_getR (dt_Search_take 58 (116, .getfield 41, 3) rfl) fl_X8_41 hx15 (fun _ _ => rfl) ?_
            obtain ⟨x16, hx16, hy84⟩ := jbind hy84
            refine j_getR (dt_Search_take 59 (119, .getfield 147, 3) rfl) fl_X8_147 hx16 (fun _ _ => rfl) ?_
            refine j_iload (dt_Search_take 60 (122, .iload 6, 2) rfl) rfl ?_
            refine j_dup2 (dt_Search_take 61 (124, .dup2, 1) rfl) rfl rfl ?_
            obtain ⟨x17, hx17, hy84⟩ := jbind hy84
            refine j_aldI (dt_Search_take 62 (125, .iaload, 1) rfl) hx17 ?_
            refine j_iconst (dt_Search_take 63 (126, .iconst 1, 1) rfl) ic_1 ?_
            refine j_aload_n (dt_Search_take 64 (127, .aload_n 0, 1) rfl) rfl ?_
            obtain ⟨x18, hx18, hy84⟩ := jbind hy84
            refine j_getR (dt_Search_take 65 (128, .getfield 18, 3) rfl) fl_X8_18 hx18 (fun _ _ => rfl) ?_
            refine j_iload (dt_Search_take 66 (131, .iload 5, 2) rfl) rfl ?_
            obtain ⟨x19, hx19, hy84⟩ := jbind hy84
            refine j_aldI (dt_Search_take 67 (133, .iaload, 1) rfl) hx19 ?_
            refine j_ishl (dt_Search_take 68 (134, .ishl, 1) rfl) ?_
            refine j_ior (dt_Search_take 69 (135, .ior, 1) rfl) ?_
            obtain ⟨V20, hV20, hy84⟩ := jbind hy84
            refine j_astI (dt_Search_take 70 (136, .iastore, 1) rfl) hV20 ?_
            refine j_iload (dt_Search_take 71 (137, .iload 4, 2) rfl) rfl ?_
            refine jite hy84 (fun hc hy84 => ?_) (fun hc hy84 => ?_)
            · refine j_if_eq (dt_Search_take 72 (139, .ifCond .eq 20, 3) rfl) rfl (fun _ => ?_) (fun q => absurd hc q)
              refine j_iinc (dt_Search_take 82 (159, .iinc 5 1, 3) rfl) rfl (nlt rfl) (ii_1 _) ?_
              refine j_goto (dt_Search_take 83 (162, .goto (-78), 3) rfl) rfl ?_
              cases hy84
              have hz := hin84 _ rfl
              exact j_sub rfl hz
            · refine j_if_eq (dt_Search_take 72 (139, .ifCond .eq 20, 3) rfl) rfl (fun q => absurd q hc) (fun _ => ?_)
              refine j_aload_n (dt_Search_take 73 (142, .aload_n 0, 1) rfl) rfl ?_
              obtain ⟨x21, hx21, hy84⟩ := jbind hy84
              refine j_getR (dt_Search_take 74 (143, .getfield 41, 3) rfl) fl_X8_41 hx21 (fun _ _ => rfl) ?_
              obtain ⟨x22, hx22, hy84⟩ := jbind hy84
              refine j_getR (dt_Search_take 75 (146, .getfield 150, 3) rfl) fl_X8_150 hx22 (fun _ _ => rfl) ?_
              refine j_iload (dt_Search_take 76 (149, .iload 6, 2) rfl) rfl ?_
              refine j_aload_n (dt_Search_take 77 (151, .aload_n 0, 1) rfl) rfl ?_
              obtain ⟨x23, hx23, hy84⟩ := jbind hy84
              refine j_getR (dt_Search_take 78 (152, .getfield 18, 3) rfl) fl_X8_18 hx23 (fun _ _ => rfl) ?_
              refine j_iload (dt_Search_take 79 (155, .iload 5, 2) rfl) rfl ?_
              obtain ⟨x24, hx24, hy84⟩ := jbind hy84
              refine j_aldI (dt_Search_take 80 (157, .iaload, 1) rfl) hx24 ?_
              obtain ⟨V25, hV25, hy84⟩ := jbind hy84
              refine j_astI (dt_Search_take 81 (158, .iastore, 1) rfl) hV25 ?_
              refine j_iinc (dt_Search_take 82 (159, .iinc 5 1, 3) rfl) rfl (nlt rfl) (ii_1 _) ?_
              refine j_goto (dt_Search_take 83 (162, .goto (-78), 3) rfl) rfl ?_
              cases hy84
              have hz := hin84 _ rfl
              exact j_sub rfl hz
      refine jite hj55 (fun hc hj55 => ?_) (fun hc hj55 => ?_)
      · refine j_if_eq (dt_Search_take 27 (55, .ifCond .eq 13, 3) rfl) rfl (fun _ => ?_) (fun q => absurd hc q)
        cases hj55
        exact j_sub rfl hP55
      · refine j_if_eq (dt_Search_take 27 (55, .ifCond .eq 13, 3) rfl) rfl (fun q => absurd q hc) (fun _ => ?_)
        refine j_aload_n (dt_Search_take 28 (58, .aload_n 0, 1) rfl) rfl ?_
        obtain ⟨x26, hx26, hj55⟩ := jbind hj55
        refine j_getR (dt_Search_take 29 (59, .getfield 41, 3) rfl) fl_X8_41 hx26 (fun _ _ => rfl) ?_
        refine j_iload_n (dt_Search_take 30 (62, .iload_n 1, 1) rfl) rfl ?_
        refine j_iload_n (dt_Search_take 31 (63, .iload_n 2, 1) rfl) rfl ?_
        refine j_iload_n (dt_Search_take 32 (64, .iload_n 3, 1) rfl) rfl ?_
        obtain ⟨V27, hV27, hj55⟩ := jbind hj55
        obtain ⟨b28, hb28⟩ := r_Found_begin hV27
        refine j_callV M_Found_begin 3 [ai v1, ai v2, ai v3] (rest := []) (dt_Search_take 33 (65, .invokevirtual 143, 3) rfl) ml_X8_143 ok_Found_begin (jfit rfl rfl ⟨rfl, rfl⟩ (nle rfl) (nlt rfl)) rfl rfl (nle rfl) ⟨rfl, rfl⟩ hb28 ((c_Found_begin hV27)) ?_
        cases hj55
        exact j_sub rfl hP55
    refine jite hj25 (fun hc hj25 => ?_) (fun hc hj25 => ?_)
    · refine j_if_eq (dt_Search_take 13 (25, .ifCond .eq 21, 3) rfl) rfl (fun _ => ?_) (fun q => absurd hc q)
      refine j_iconst (dt_Search_take 22 (46, .iconst 1, 1) rfl) ic_1 ?_
      refine j_goto (dt_Search_take 23 (47, .goto 4, 3) rfl) rfl ?_
      cases hj25
      exact j_sub rfl hP25
    · refine j_if_eq (dt_Search_take 13 (25, .ifCond .eq 21, 3) rfl) rfl (fun q => absurd q hc) (fun _ => ?_)
      refine j_aload_n (dt_Search_take 14 (28, .aload_n 0, 1) rfl) rfl ?_
      obtain ⟨x29, hx29, hj25⟩ := jbind hj25
      refine j_getI (dt_Search_take 15 (29, .getfield 35, 3) rfl) fl_X8_35 hx29 (fun _ _ => rfl) ?_
      refine jite hj25 (fun hc hj25 => ?_) (fun hc hj25 => ?_)
      · refine j_if_ne (dt_Search_take 16 (32, .ifCond .ne 14, 3) rfl) rfl (fun q => absurd hc q) (fun _ => ?_)
        refine j_iload_n (dt_Search_take 17 (35, .iload_n 1, 1) rfl) rfl ?_
        refine j_aload_n (dt_Search_take 18 (36, .aload_n 0, 1) rfl) rfl ?_
        obtain ⟨x30, hx30, hj25⟩ := jbind hj25
        refine j_getR (dt_Search_take 19 (37, .getfield 41, 3) rfl) fl_X8_41 hx30 (fun _ _ => rfl) ?_
        obtain ⟨x31, hx31, hj25⟩ := jbind hj25
        refine j_getI (dt_Search_take 20 (40, .getfield 135, 3) rfl) fl_X8_135 hx31 (fun _ _ => rfl) ?_
        refine jite hj25 (fun hc hj25 => ?_) (fun hc hj25 => ?_)
        · refine j_icmp_ge (dt_Search_take 21 (43, .if_icmp .ge 7, 3) rfl) rfl (fun _ => ?_) (fun q => absurd hc q)
          refine j_iconst (dt_Search_take 24 (50, .iconst 0, 1) rfl) ic_0 ?_
          cases hj25
          exact j_sub rfl hP25
        · refine j_icmp_ge (dt_Search_take 21 (43, .if_icmp .ge 7, 3) rfl) rfl (fun q => absurd q hc) (fun _ => ?_)
          refine j_iconst (dt_Search_take 22 (46, .iconst 1, 1) rfl) ic_1 ?_
          refine j_goto (dt_Search_take 23 (47, .goto 4, 3) rfl) rfl ?_
          cases hj25
          exact j_sub rfl hP25
      · refine j_if_ne (dt_Search_take 16 (32, .ifCond .ne 14, 3) rfl) rfl (fun _ => ?_) (fun q => absurd q hc)
        refine j_iconst (dt_Search_take 22 (46, .iconst 1, 1) rfl) ic_1 ?_
        refine j_goto (dt_Search_take 23 (47, .goto 4, 3) rfl) rfl ?_
        cases hj25
        exact j_sub rfl hP25
theorem r_Search_take {S : hS} {V : hV} {v0 : Option Nat} {v1 : Int32} {v2 : Int32} {v3 : Int32} {res : hV} (hf : Search_take S v0 v1 v2 v3 V = some res) : ∃ b, rc S 8 v0 = some b := by
  unfold Search_take at hf
  obtain ⟨b, hb, _⟩ := jbind hf
  exact ⟨b, hb⟩
def tb_Search_weightAt : List (Nat × Instr × Nat) := [(0, .iconst 0, 1), (1, .istore_n 3, 1), (2, .iconst 0, 1), (3, .istore 4, 2), (5, .iload 4, 2), (7, .iload_n 1, 1), (8, .if_icmp .ge 51, 3), (11, .aload_n 0, 1), (12, .getfield 12, 3), (15, .getfield 110, 3), (18, .aload_n 0, 1), (19, .getfield 18, 3), (22, .iload 4, 2), (24, .iaload, 1), (25, .bipush 8, 2), (27, .imul, 1), (28, .iload_n 2, 1), (29, .iadd, 1), (30, .iaload, 1), (31, .istore 5, 2), (33, .iload_n 3, 1), (34, .aload_n 0, 1), (35, .getfield 12, 3), (38, .getfield 113, 3), (41, .iload 4, 2), (43, .iload_n 1, 1), (44, .invokestatic 116, 3), (47, .iload 5, 2), (49, .iadd, 1), (50, .iaload, 1), (51, .iadd, 1), (52, .istore_n 3, 1), (53, .iinc 4 1, 3), (56, .goto (-51), 3), (59, .iload_n 3, 1), (60, .ireturn, 1)]
theorem dt_Search_weightAt (i : Nat) (q : Nat × Instr × Nat) (h : tb_Search_weightAt[i]? = some q) : decode prog_10_method_6_code q.1 = .ok q.2 := jdt (by decide +kernel : tb_Search_weightAt.all (fun q => decide (decode prog_10_method_6_code q.1 = .ok q.2)) = true) h
theorem ok_Search_weightAt : jOKV M_Search_weightAt 2 := ⟨⟨gt5 177 rfl rfl, gt1 13 rfl rfl, (by decide : "FirstIn$Search" ≠ "java/lang/invoke/MethodHandle"), (by decide : "FirstIn$Search" ≠ "java/lang/invoke/VarHandle"), (by decide +kernel : (parseMethodDescriptor "(II)I").map (fun d => d.parameters.length) = some 2)⟩, gt5 175 rfl rfl, gt5 176 rfl rfl, rfl, nlt rfl⟩
set_option maxRecDepth 100000 in
set_option maxHeartbeats 4000000 in
theorem c_Search_weightAt {G : jG} {S : hS} {V : hV} {v0 : Option Nat} {v1 : Int32} {v2 : Int32} {res : Int32} (hf : Search_weightAt S v0 v1 v2 V = some res) : jC G M_Search_weightAt [ar v0, ai v1, ai v2] (S, V) (some (ai res)) (S, V) := by
  unfold Search_weightAt at hf
  obtain ⟨_, _, hf⟩ := jbind hf
  refine jC_of (pf_X8 _ _) rfl (nle rfl) ?_
  show jJ G M_Search_weightAt (jEnd G M_Search_weightAt (some (ai res)) (S, V)) 0 0 0 [(0, ar v0), (1, ai v1), (2, ai v2)] [] (S, V)
  refine j_iconst (dt_Search_weightAt 0 (0, .iconst 0, 1) rfl) ic_0 ?_
  refine j_istore_n (dt_Search_weightAt 1 (1, .istore_n 3, 1) rfl) (nlt rfl) ?_
  refine j_iconst (dt_Search_weightAt 2 (2, .iconst 0, 1) rfl) ic_0 ?_
  refine j_istore (dt_Search_weightAt 3 (3, .istore 4, 2) rfl) (nlt rfl) ?_
  obtain ⟨t5, ht5, hf⟩ := jbind hf
  have hX5 : ∀ q5 : Int32, q5 = t5 → jJ G M_Search_weightAt (jEnd G M_Search_weightAt (some (ai res)) (S, V)) 0 0 59 [(3, ai q5)] [] (S, V) := by
    intro q5 hq5
    subst hq5
    refine j_iload_n (dt_Search_weightAt 34 (59, .iload_n 3, 1) rfl) rfl ?_
    cases hf
    exact j_iret (dt_Search_weightAt 35 (60, .ireturn, 1) rfl) rfl
  refine j_sub (ls' := [(0, ar v0), (1, ai v1), (2, ai v2), (3, ai 0), (4, ai 0)]) rfl ?_
  refine jloop_J (C := fun s5 => jJ G M_Search_weightAt (jEnd G M_Search_weightAt (some (ai res)) (S, V)) 0 0 5 [(0, ar v0), (1, ai v1), (2, ai v2), (3, ai s5.1), (4, ai s5.2)] [] (S, V)) (fun s5 z5_ hy5 hin5 hout5 => ?_) _ _ ht5
  unfold Search_weightAt_L5 at hy5
  refine j_iload (dt_Search_weightAt 4 (5, .iload 4, 2) rfl) rfl ?_
  refine j_iload_n (dt_Search_weightAt 5 (7, .iload_n 1, 1) rfl) rfl ?_
  refine jite hy5 (fun hc hy5 => ?_) (fun hc hy5 => ?_)
  · refine j_icmp_ge (dt_Search_weightAt 6 (8, .if_icmp .ge 51, 3) rfl) rfl (fun _ => ?_) (fun q => absurd hc q)
    cases hy5
    have hz := hX5 _ (hout5 _ rfl)
    exact j_sub rfl hz
  · refine j_icmp_ge (dt_Search_weightAt 6 (8, .if_icmp .ge 51, 3) rfl) rfl (fun q => absurd q hc) (fun _ => ?_)
    refine j_aload_n (dt_Search_weightAt 7 (11, .aload_n 0, 1) rfl) rfl ?_
    obtain ⟨x1, hx1, hy5⟩ := jbind hy5
    refine j_getR (dt_Search_weightAt 8 (12, .getfield 12, 3) rfl) fl_X8_12 hx1 (fun _ _ => rfl) ?_
    obtain ⟨x2, hx2, hy5⟩ := jbind hy5
    refine j_getR (dt_Search_weightAt 9 (15, .getfield 110, 3) rfl) fl_X8_110 hx2 (fun _ _ => rfl) ?_
    refine j_aload_n (dt_Search_weightAt 10 (18, .aload_n 0, 1) rfl) rfl ?_
    obtain ⟨x3, hx3, hy5⟩ := jbind hy5
    refine j_getR (dt_Search_weightAt 11 (19, .getfield 18, 3) rfl) fl_X8_18 hx3 (fun _ _ => rfl) ?_
    refine j_iload (dt_Search_weightAt 12 (22, .iload 4, 2) rfl) rfl ?_
    obtain ⟨x4, hx4, hy5⟩ := jbind hy5
    refine j_aldI (dt_Search_weightAt 13 (24, .iaload, 1) rfl) hx4 ?_
    refine j_bipush (dt_Search_weightAt 14 (25, .bipush 8, 2) rfl) bp_8 ?_
    refine j_imul (dt_Search_weightAt 15 (27, .imul, 1) rfl) ?_
    refine j_iload_n (dt_Search_weightAt 16 (28, .iload_n 2, 1) rfl) rfl ?_
    refine j_iadd (dt_Search_weightAt 17 (29, .iadd, 1) rfl) ?_
    obtain ⟨x5, hx5, hy5⟩ := jbind hy5
    refine j_aldI (dt_Search_weightAt 18 (30, .iaload, 1) rfl) hx5 ?_
    refine j_istore (dt_Search_weightAt 19 (31, .istore 5, 2) rfl) (nlt rfl) ?_
    refine j_iload_n (dt_Search_weightAt 20 (33, .iload_n 3, 1) rfl) rfl ?_
    refine j_aload_n (dt_Search_weightAt 21 (34, .aload_n 0, 1) rfl) rfl ?_
    obtain ⟨x6, hx6, hy5⟩ := jbind hy5
    refine j_getR (dt_Search_weightAt 22 (35, .getfield 12, 3) rfl) fl_X8_12 hx6 (fun _ _ => rfl) ?_
    obtain ⟨x7, hx7, hy5⟩ := jbind hy5
    refine j_getR (dt_Search_weightAt 23 (38, .getfield 113, 3) rfl) fl_X8_113 hx7 (fun _ _ => rfl) ?_
    refine j_iload (dt_Search_weightAt 24 (41, .iload 4, 2) rfl) rfl ?_
    refine j_iload_n (dt_Search_weightAt 25 (43, .iload_n 1, 1) rfl) rfl ?_
    refine j_callS M_Pairs_pairOf 2 [ai s5.2, ai v1] (rest := [ar x7, ai s5.1]) (dt_Search_weightAt 26 (44, .invokestatic 116, 3) rfl) ml_X8_116 ok_Pairs_pairOf (jfit rfl rfl ⟨rfl, rfl⟩ (nle rfl) (nlt rfl)) rfl rfl (nle rfl) ⟨rfl, rfl⟩ (c_Pairs_pairOf rfl) ?_
    refine j_iload (dt_Search_weightAt 27 (47, .iload 5, 2) rfl) rfl ?_
    refine j_iadd (dt_Search_weightAt 28 (49, .iadd, 1) rfl) ?_
    obtain ⟨x8, hx8, hy5⟩ := jbind hy5
    refine j_aldI (dt_Search_weightAt 29 (50, .iaload, 1) rfl) hx8 ?_
    refine j_iadd (dt_Search_weightAt 30 (51, .iadd, 1) rfl) ?_
    refine j_istore_n (dt_Search_weightAt 31 (52, .istore_n 3, 1) rfl) (nlt rfl) ?_
    refine j_iinc (dt_Search_weightAt 32 (53, .iinc 4 1, 3) rfl) rfl (nlt rfl) (ii_1 _) ?_
    refine j_goto (dt_Search_weightAt 33 (56, .goto (-51), 3) rfl) rfl ?_
    cases hy5
    have hz := hin5 _ rfl
    exact j_sub rfl hz
theorem r_Search_weightAt {S : hS} {V : hV} {v0 : Option Nat} {v1 : Int32} {v2 : Int32} {res : Int32} (hf : Search_weightAt S v0 v1 v2 V = some res) : ∃ b, rc S 8 v0 = some b := by
  unfold Search_weightAt at hf
  obtain ⟨b, hb, _⟩ := jbind hf
  exact ⟨b, hb⟩
def tb_Search_seatFrom : List (Nat × Instr × Nat) := [(0, .iload_n 1, 1), (1, .aload_n 0, 1), (2, .getfield 12, 3), (5, .getfield 56, 3), (8, .if_icmp .ge 9, 3), (11, .iload_n 1, 1), (12, .bipush 7, 2), (14, .if_icmp .lt 12, 3), (17, .aload_n 0, 1), (18, .iload_n 2, 1), (19, .iload_n 3, 1), (20, .iload 4, 2), (22, .invokevirtual 84, 3), (25, .return_, 1), (26, .iconst 0, 1), (27, .istore 5, 2), (29, .iload 5, 2), (31, .aload_n 0, 1), (32, .getfield 12, 3), (35, .getfield 88, 3), (38, .if_icmp .ge 161, 3), (41, .iload 5, 2), (43, .bipush 8, 2), (45, .if_icmp .ge 154, 3), (48, .aload_n 0, 1), (49, .iload_n 1, 1), (50, .iload 5, 2), (52, .invokevirtual 91, 3), (55, .ifCond .ne 6, 3), (58, .goto 135, 3), (61, .iload_n 2, 1), (62, .aload_n 0, 1), (63, .iload_n 1, 1), (64, .iload 5, 2), (66, .invokevirtual 94, 3), (69, .iadd, 1), (70, .istore 6, 2), (72, .aload_n 0, 1), (73, .getfield 35, 3), (76, .iconst 1, 1), (77, .if_icmp .ne 17, 3), (80, .iload_n 3, 1), (81, .aload_n 0, 1), (82, .iload_n 1, 1), (83, .iload 5, 2), (85, .invokevirtual 98, 3), (88, .invokestatic 101, 3), (91, .goto 4, 3), (94, .iconst 0, 1), (95, .istore 7, 2), (97, .iload 4, 2), (99, .aload_n 0, 1), (100, .getfield 22, 3), (103, .iload_n 1, 1), (104, .iaload, 1), (105, .iconst (-1), 1), (106, .if_icmp .eq 14, 3), (109, .aload_n 0, 1), (110, .getfield 22, 3), (113, .iload_n 1, 1), (114, .iaload, 1), (115, .iload 5, 2), (117, .if_icmp .ne 7, 3), (120, .iconst 0, 1), (121, .goto 4, 3), (124, .iconst 1, 1), (125, .iadd, 1), (126, .istore 8, 2), (128, .aload_n 0, 1), (129, .iload_n 1, 1), (130, .iconst 1, 1), (131, .iadd, 1), (132, .iload 6, 2), (134, .iload 7, 2), (136, .iload 8, 2), (138, .invokevirtual 106, 3), (141, .ifCond .eq 52, 3), (144, .aload_n 0, 1), (145, .getfield 18, 3), (148, .iload_n 1, 1), (149, .iload 5, 2), (151, .iastore, 1), (152, .aload_n 0, 1), (153, .dup, 1), (154, .getfield 32, 3), (157, .iconst 1, 1), (158, .iload 5, 2), (160, .ishl, 1), (161, .ior, 1), (162, .putfield 32, 3), (165, .aload_n 0, 1), (166, .iload_n 1, 1), (167, .iconst 1, 1), (168, .iadd, 1), (169, .iload 6, 2), (171, .iload 7, 2), (173, .iload 8, 2), (175, .invokestatic 52, 3), (178, .aload_n 0, 1), (179, .dup, 1), (180, .getfield 32, 3), (183, .iconst 1, 1), (184, .iload 5, 2), (186, .ishl, 1), (187, .iconst (-1), 1), (188, .ixor, 1), (189, .iand, 1), (190, .putfield 32, 3), (193, .iinc 5 1, 3), (196, .goto (-167), 3), (199, .return_, 1)]
theorem dt_Search_seatFrom (i : Nat) (q : Nat × Instr × Nat) (h : tb_Search_seatFrom[i]? = some q) : decode prog_10_method_4_code q.1 = .ok q.2 := jdt (by decide +kernel : tb_Search_seatFrom.all (fun q => decide (decode prog_10_method_4_code q.1 = .ok q.2)) = true) h
theorem ok_Search_seatFrom {n : Nat} : jOKS (M_Search_seatFrom n) 5 := ⟨⟨gt5 156 rfl rfl, gt1 13 rfl rfl, (by decide : "FirstIn$Search" ≠ "java/lang/invoke/MethodHandle"), (by decide : "FirstIn$Search" ≠ "java/lang/invoke/VarHandle"), (by decide +kernel : (parseMethodDescriptor "(LFirstIn$Search;IIII)V").map (fun d => d.parameters.length) = some 5)⟩, gt5 155 rfl rfl⟩
set_option maxRecDepth 100000 in
set_option maxHeartbeats 4000000 in
theorem c_Search_seatFrom_B {G : jG} {S : hS} {n : Nat} {F : (Option Nat) → Int32 → Int32 → Int32 → Int32 → hV → Option (hV)} (hF : ∀ {V : hV} {v0 : Option Nat} {v1 : Int32} {v2 : Int32} {v3 : Int32} {v4 : Int32} {res : hV}, F v0 v1 v2 v3 v4 V = some res → jC G (M_Search_seatFrom n) [ar v0, ai v1, ai v2, ai v3, ai v4] (S, V) none (S, res)) {V : hV} {v0 : Option Nat} {v1 : Int32} {v2 : Int32} {v3 : Int32} {v4 : Int32} {res : hV} (hf : Search_seatFrom_B S F v0 v1 v2 v3 v4 V = some res) : jC G (M_Search_seatFrom (n + 1)) [ar v0, ai v1, ai v2, ai v3, ai v4] (S, V) none (S, res) := by
  unfold Search_seatFrom_B at hf
  refine jC_of (pf_X8 _ _) rfl (nle rfl) ?_
  show jJ G (M_Search_seatFrom (n + 1)) (jEnd G (M_Search_seatFrom (n + 1)) none (S, res)) 0 0 0 [(0, ar v0), (1, ai v1), (2, ai v2), (3, ai v3), (4, ai v4)] [] (S, V)
  refine j_iload_n (dt_Search_seatFrom 0 (0, .iload_n 1, 1) rfl) rfl ?_
  refine j_aload_n (dt_Search_seatFrom 1 (1, .aload_n 0, 1) rfl) rfl ?_
  obtain ⟨x1, hx1, hf⟩ := jbind hf
  refine j_getR (dt_Search_seatFrom 2 (2, .getfield 12, 3) rfl) fl_X8_12 hx1 (fun _ _ => rfl) ?_
  obtain ⟨x2, hx2, hf⟩ := jbind hf
  refine j_getI (dt_Search_seatFrom 3 (5, .getfield 56, 3) rfl) fl_X8_56 hx2 (fun _ _ => rfl) ?_
  obtain ⟨k8, hk8, hf⟩ := jbind hf
  have hE8 : ∀ e8 : Unit, k8 = .inl e8 → jJ G (M_Search_seatFrom (n + 1)) (jEnd G (M_Search_seatFrom (n + 1)) none (S, res)) 0 0 17 [(0, ar v0), (2, ai v2), (3, ai v3), (4, ai v4)] [] (S, V) := by
    intro e8 he8
    subst he8
    refine j_aload_n (dt_Search_seatFrom 8 (17, .aload_n 0, 1) rfl) rfl ?_
    refine j_iload_n (dt_Search_seatFrom 9 (18, .iload_n 2, 1) rfl) rfl ?_
    refine j_iload_n (dt_Search_seatFrom 10 (19, .iload_n 3, 1) rfl) rfl ?_
    refine j_iload (dt_Search_seatFrom 11 (20, .iload 4, 2) rfl) rfl ?_
    obtain ⟨V3, hV3, hf⟩ := jbind hf
    obtain ⟨b4, hb4⟩ := r_Search_take hV3
    refine j_callV M_Search_take 3 [ai v2, ai v3, ai v4] (rest := []) (dt_Search_seatFrom 12 (22, .invokevirtual 84, 3) rfl) ml_X8_84 ok_Search_take (jfit rfl rfl ⟨rfl, rfl⟩ (nle rfl) (by omega)) rfl rfl (nle rfl) ⟨rfl, rfl⟩ hb4 ((c_Search_take hV3)) ?_
    cases hf
    exact j_vret (dt_Search_seatFrom 13 (25, .return_, 1) rfl) rfl
  refine jite hk8 (fun hc hk8 => ?_) (fun hc hk8 => ?_)
  · refine j_icmp_ge (dt_Search_seatFrom 4 (8, .if_icmp .ge 9, 3) rfl) rfl (fun _ => ?_) (fun q => absurd hc q)
    cases hk8
    have hz := hE8 _ rfl
    exact j_sub rfl hz
  · refine j_icmp_ge (dt_Search_seatFrom 4 (8, .if_icmp .ge 9, 3) rfl) rfl (fun q => absurd q hc) (fun _ => ?_)
    refine j_iload_n (dt_Search_seatFrom 5 (11, .iload_n 1, 1) rfl) rfl ?_
    refine j_bipush (dt_Search_seatFrom 6 (12, .bipush 7, 2) rfl) bp_7 ?_
    refine jite hk8 (fun hc hk8 => ?_) (fun hc hk8 => ?_)
    · refine j_icmp_lt (dt_Search_seatFrom 7 (14, .if_icmp .lt 12, 3) rfl) rfl (fun _ => ?_) (fun q => absurd hc q)
      refine j_iconst (dt_Search_seatFrom 14 (26, .iconst 0, 1) rfl) ic_0 ?_
      refine j_istore (dt_Search_seatFrom 15 (27, .istore 5, 2) rfl) (nlt rfl) ?_
      obtain ⟨t29, ht29, hk8⟩ := jbind hk8
      have hX29 : ∀ q29 : hV, q29 = t29 → jJ G (M_Search_seatFrom (n + 1)) (jEnd G (M_Search_seatFrom (n + 1)) none (S, res)) 0 0 199 [] [] (S, q29) := by
        intro q29 hq29
        subst hq29
        cases hk8
        cases hf
        exact j_vret (dt_Search_seatFrom 110 (199, .return_, 1) rfl) rfl
      refine j_sub (ls' := [(0, ar v0), (1, ai v1), (2, ai v2), (3, ai v3), (4, ai v4), (5, ai 0)]) rfl ?_
      refine jloop_J (C := fun s29 => jJ G (M_Search_seatFrom (n + 1)) (jEnd G (M_Search_seatFrom (n + 1)) none (S, res)) 0 0 29 [(0, ar v0), (1, ai v1), (2, ai v2), (3, ai v3), (4, ai v4), (5, ai s29.1)] [] (S, s29.2)) (fun s29 z29_ hy29 hin29 hout29 => ?_) _ _ ht29
      unfold Search_seatFrom_L29 at hy29
      refine j_iload (dt_Search_seatFrom 16 (29, .iload 5, 2) rfl) rfl ?_
      refine j_aload_n (dt_Search_seatFrom 17 (31, .aload_n 0, 1) rfl) rfl ?_
      obtain ⟨x5, hx5, hy29⟩ := jbind hy29
      refine j_getR (dt_Search_seatFrom 18 (32, .getfield 12, 3) rfl) fl_X8_12 hx5 (fun _ _ => rfl) ?_
      obtain ⟨x6, hx6, hy29⟩ := jbind hy29
      refine j_getI (dt_Search_seatFrom 19 (35, .getfield 88, 3) rfl) fl_X8_88 hx6 (fun _ _ => rfl) ?_
      refine jite hy29 (fun hc hy29 => ?_) (fun hc hy29 => ?_)
      · refine j_icmp_ge (dt_Search_seatFrom 20 (38, .if_icmp .ge 161, 3) rfl) rfl (fun _ => ?_) (fun q => absurd hc q)
        cases hy29
        have hz := hX29 _ (hout29 _ rfl)
        exact j_sub rfl hz
      · refine j_icmp_ge (dt_Search_seatFrom 20 (38, .if_icmp .ge 161, 3) rfl) rfl (fun q => absurd q hc) (fun _ => ?_)
        refine j_iload (dt_Search_seatFrom 21 (41, .iload 5, 2) rfl) rfl ?_
        refine j_bipush (dt_Search_seatFrom 22 (43, .bipush 8, 2) rfl) bp_8 ?_
        refine jite hy29 (fun hc hy29 => ?_) (fun hc hy29 => ?_)
        · refine j_icmp_ge (dt_Search_seatFrom 23 (45, .if_icmp .ge 154, 3) rfl) rfl (fun _ => ?_) (fun q => absurd hc q)
          cases hy29
          have hz := hX29 _ (hout29 _ rfl)
          exact j_sub rfl hz
        · refine j_icmp_ge (dt_Search_seatFrom 23 (45, .if_icmp .ge 154, 3) rfl) rfl (fun q => absurd q hc) (fun _ => ?_)
          refine j_aload_n (dt_Search_seatFrom 24 (48, .aload_n 0, 1) rfl) rfl ?_
          refine j_iload_n (dt_Search_seatFrom 25 (49, .iload_n 1, 1) rfl) rfl ?_
          refine j_iload (dt_Search_seatFrom 26 (50, .iload 5, 2) rfl) rfl ?_
          obtain ⟨x7, hx7, hy29⟩ := jbind hy29
          obtain ⟨b8, hb8⟩ := r_Search_mayTake hx7
          refine j_callV M_Search_mayTake 2 [ai v1, ai s29.1] (rest := []) (dt_Search_seatFrom 27 (52, .invokevirtual 91, 3) rfl) ml_X8_91 ok_Search_mayTake (jfit rfl rfl ⟨rfl, rfl⟩ (nle rfl) (by omega)) rfl rfl (nle rfl) ⟨rfl, rfl⟩ hb8 ((c_Search_mayTake hx7)) ?_
          refine jite hy29 (fun hc hy29 => ?_) (fun hc hy29 => ?_)
          · refine j_if_ne (dt_Search_seatFrom 28 (55, .ifCond .ne 6, 3) rfl) rfl (fun q => absurd hc q) (fun _ => ?_)
            refine j_goto (dt_Search_seatFrom 29 (58, .goto 135, 3) rfl) rfl ?_
            refine j_iinc (dt_Search_seatFrom 108 (193, .iinc 5 1, 3) rfl) rfl (nlt rfl) (ii_1 _) ?_
            refine j_goto (dt_Search_seatFrom 109 (196, .goto (-167), 3) rfl) rfl ?_
            cases hy29
            have hz := hin29 _ rfl
            exact j_sub rfl hz
          · refine j_if_ne (dt_Search_seatFrom 28 (55, .ifCond .ne 6, 3) rfl) rfl (fun _ => ?_) (fun q => absurd q hc)
            refine j_iload_n (dt_Search_seatFrom 30 (61, .iload_n 2, 1) rfl) rfl ?_
            refine j_aload_n (dt_Search_seatFrom 31 (62, .aload_n 0, 1) rfl) rfl ?_
            refine j_iload_n (dt_Search_seatFrom 32 (63, .iload_n 1, 1) rfl) rfl ?_
            refine j_iload (dt_Search_seatFrom 33 (64, .iload 5, 2) rfl) rfl ?_
            obtain ⟨x9, hx9, hy29⟩ := jbind hy29
            obtain ⟨b10, hb10⟩ := r_Search_weightAt hx9
            refine j_callV M_Search_weightAt 2 [ai v1, ai s29.1] (rest := [ai v2]) (dt_Search_seatFrom 34 (66, .invokevirtual 94, 3) rfl) ml_X8_94 ok_Search_weightAt (jfit rfl rfl ⟨rfl, rfl⟩ (nle rfl) (by omega)) rfl rfl (nle rfl) ⟨rfl, rfl⟩ hb10 ((c_Search_weightAt hx9)) ?_
            refine j_iadd (dt_Search_seatFrom 35 (69, .iadd, 1) rfl) ?_
            refine j_istore (dt_Search_seatFrom 36 (70, .istore 6, 2) rfl) (nlt rfl) ?_
            refine j_aload_n (dt_Search_seatFrom 37 (72, .aload_n 0, 1) rfl) rfl ?_
            obtain ⟨x11, hx11, hy29⟩ := jbind hy29
            refine j_getI (dt_Search_seatFrom 38 (73, .getfield 35, 3) rfl) fl_X8_35 hx11 (fun _ _ => rfl) ?_
            refine j_iconst (dt_Search_seatFrom 39 (76, .iconst 1, 1) rfl) ic_1 ?_
            obtain ⟨j77, hj77, hy29⟩ := jbind hy29
            have hP77 : jJ G (M_Search_seatFrom (n + 1)) (jEnd G (M_Search_seatFrom (n + 1)) none (S, res)) 0 0 95 [(0, ar v0), (1, ai v1), (2, ai v2), (3, ai v3), (4, ai v4), (5, ai s29.1), (6, ai (v2 + x9))] [ai j77] (S, s29.2) := by
              refine j_istore (dt_Search_seatFrom 49 (95, .istore 7, 2) rfl) (nlt rfl) ?_
              refine j_iload (dt_Search_seatFrom 50 (97, .iload 4, 2) rfl) rfl ?_
              refine j_aload_n (dt_Search_seatFrom 51 (99, .aload_n 0, 1) rfl) rfl ?_
              obtain ⟨x12, hx12, hy29⟩ := jbind hy29
              refine j_getR (dt_Search_seatFrom 52 (100, .getfield 22, 3) rfl) fl_X8_22 hx12 (fun _ _ => rfl) ?_
              refine j_iload_n (dt_Search_seatFrom 53 (103, .iload_n 1, 1) rfl) rfl ?_
              obtain ⟨x13, hx13, hy29⟩ := jbind hy29
              refine j_aldI (dt_Search_seatFrom 54 (104, .iaload, 1) rfl) hx13 ?_
              refine j_iconst (dt_Search_seatFrom 55 (105, .iconst (-1), 1) rfl) ic_m1 ?_
              obtain ⟨j106, hj106, hy29⟩ := jbind hy29
              have hP106 : jJ G (M_Search_seatFrom (n + 1)) (jEnd G (M_Search_seatFrom (n + 1)) none (S, res)) 0 0 125 [(0, ar v0), (1, ai v1), (2, ai v2), (3, ai v3), (4, ai v4), (5, ai s29.1), (6, ai (v2 + x9)), (7, ai j77)] [ai j106, ai v4] (S, s29.2) := by
                refine j_iadd (dt_Search_seatFrom 66 (125, .iadd, 1) rfl) ?_
                refine j_istore (dt_Search_seatFrom 67 (126, .istore 8, 2) rfl) (nlt rfl) ?_
                refine j_aload_n (dt_Search_seatFrom 68 (128, .aload_n 0, 1) rfl) rfl ?_
                refine j_iload_n (dt_Search_seatFrom 69 (129, .iload_n 1, 1) rfl) rfl ?_
                refine j_iconst (dt_Search_seatFrom 70 (130, .iconst 1, 1) rfl) ic_1 ?_
                refine j_iadd (dt_Search_seatFrom 71 (131, .iadd, 1) rfl) ?_
                refine j_iload (dt_Search_seatFrom 72 (132, .iload 6, 2) rfl) rfl ?_
                refine j_iload (dt_Search_seatFrom 73 (134, .iload 7, 2) rfl) rfl ?_
                refine j_iload (dt_Search_seatFrom 74 (136, .iload 8, 2) rfl) rfl ?_
                obtain ⟨x14, hx14, hy29⟩ := jbind hy29
                obtain ⟨b15, hb15⟩ := r_Search_isWorth hx14
                refine j_callV M_Search_isWorth 4 [ai (v1 + 1), ai (v2 + x9), ai j77, ai (v4 + j106)] (rest := []) (dt_Search_seatFrom 75 (138, .invokevirtual 106, 3) rfl) ml_X8_106 ok_Search_isWorth (jfit rfl rfl ⟨rfl, rfl⟩ (nle rfl) (by omega)) rfl rfl (nle rfl) ⟨rfl, rfl⟩ hb15 ((c_Search_isWorth hx14)) ?_
                refine jite hy29 (fun hc hy29 => ?_) (fun hc hy29 => ?_)
                · refine j_if_eq (dt_Search_seatFrom 76 (141, .ifCond .eq 52, 3) rfl) rfl (fun _ => ?_) (fun q => absurd hc q)
                  refine j_iinc (dt_Search_seatFrom 108 (193, .iinc 5 1, 3) rfl) rfl (nlt rfl) (ii_1 _) ?_
                  refine j_goto (dt_Search_seatFrom 109 (196, .goto (-167), 3) rfl) rfl ?_
                  cases hy29
                  have hz := hin29 _ rfl
                  exact j_sub rfl hz
                · refine j_if_eq (dt_Search_seatFrom 76 (141, .ifCond .eq 52, 3) rfl) rfl (fun q => absurd q hc) (fun _ => ?_)
                  refine j_aload_n (dt_Search_seatFrom 77 (144, .aload_n 0, 1) rfl) rfl ?_
                  obtain ⟨x16, hx16, hy29⟩ := jbind hy29
                  refine j_getR (dt_Search_seatFrom 78 (145, .getfield 18, 3) rfl) fl_X8_18 hx16 (fun _ _ => rfl) ?_
                  refine j_iload_n (dt_Search_seatFrom 79 (148, .iload_n 1, 1) rfl) rfl ?_
                  refine j_iload (dt_Search_seatFrom 80 (149, .iload 5, 2) rfl) rfl ?_
                  obtain ⟨V17, hV17, hy29⟩ := jbind hy29
                  refine j_astI (dt_Search_seatFrom 81 (151, .iastore, 1) rfl) hV17 ?_
                  refine j_aload_n (dt_Search_seatFrom 82 (152, .aload_n 0, 1) rfl) rfl ?_
                  refine j_dup (dt_Search_seatFrom 83 (153, .dup, 1) rfl) rfl ?_
                  obtain ⟨x18, hx18, hy29⟩ := jbind hy29
                  refine j_getI (dt_Search_seatFrom 84 (154, .getfield 32, 3) rfl) fl_X8_32 hx18 (fun _ _ => rfl) ?_
                  refine j_iconst (dt_Search_seatFrom 85 (157, .iconst 1, 1) rfl) ic_1 ?_
                  refine j_iload (dt_Search_seatFrom 86 (158, .iload 5, 2) rfl) rfl ?_
                  refine j_ishl (dt_Search_seatFrom 87 (160, .ishl, 1) rfl) ?_
                  refine j_ior (dt_Search_seatFrom 88 (161, .ior, 1) rfl) ?_
                  obtain ⟨V19, hV19, hy29⟩ := jbind hy29
                  refine j_putI (dt_Search_seatFrom 89 (162, .putfield 32, 3) rfl) fl_X8_32 hV19 rfl (Or.inl rfl) ?_
                  refine j_aload_n (dt_Search_seatFrom 90 (165, .aload_n 0, 1) rfl) rfl ?_
                  refine j_iload_n (dt_Search_seatFrom 91 (166, .iload_n 1, 1) rfl) rfl ?_
                  refine j_iconst (dt_Search_seatFrom 92 (167, .iconst 1, 1) rfl) ic_1 ?_
                  refine j_iadd (dt_Search_seatFrom 93 (168, .iadd, 1) rfl) ?_
                  refine j_iload (dt_Search_seatFrom 94 (169, .iload 6, 2) rfl) rfl ?_
                  refine j_iload (dt_Search_seatFrom 95 (171, .iload 7, 2) rfl) rfl ?_
                  refine j_iload (dt_Search_seatFrom 96 (173, .iload 8, 2) rfl) rfl ?_
                  obtain ⟨V20, hV20, hy29⟩ := jbind hy29
                  refine j_callS (M_Search_seatFrom n) 5 [ar v0, ai (v1 + 1), ai (v2 + x9), ai j77, ai (v4 + j106)] (rest := []) (dt_Search_seatFrom 97 (175, .invokestatic 52, 3) rfl) ml_X8_52 ok_Search_seatFrom (jfit rfl rfl ⟨rfl, rfl⟩ (nle rfl) (by omega)) rfl rfl (nle rfl) ⟨rfl, rfl⟩ (hF hV20) ?_
                  refine j_aload_n (dt_Search_seatFrom 98 (178, .aload_n 0, 1) rfl) rfl ?_
                  refine j_dup (dt_Search_seatFrom 99 (179, .dup, 1) rfl) rfl ?_
                  obtain ⟨x21, hx21, hy29⟩ := jbind hy29
                  refine j_getI (dt_Search_seatFrom 100 (180, .getfield 32, 3) rfl) fl_X8_32 hx21 (fun _ _ => rfl) ?_
                  refine j_iconst (dt_Search_seatFrom 101 (183, .iconst 1, 1) rfl) ic_1 ?_
                  refine j_iload (dt_Search_seatFrom 102 (184, .iload 5, 2) rfl) rfl ?_
                  refine j_ishl (dt_Search_seatFrom 103 (186, .ishl, 1) rfl) ?_
                  refine j_iconst (dt_Search_seatFrom 104 (187, .iconst (-1), 1) rfl) ic_m1 ?_
                  refine j_ixor (dt_Search_seatFrom 105 (188, .ixor, 1) rfl) ?_
                  refine j_iand (dt_Search_seatFrom 106 (189, .iand, 1) rfl) ?_
                  obtain ⟨V22, hV22, hy29⟩ := jbind hy29
                  refine j_putI (dt_Search_seatFrom 107 (190, .putfield 32, 3) rfl) fl_X8_32 hV22 rfl (Or.inl rfl) ?_
                  refine j_iinc (dt_Search_seatFrom 108 (193, .iinc 5 1, 3) rfl) rfl (nlt rfl) (ii_1 _) ?_
                  refine j_goto (dt_Search_seatFrom 109 (196, .goto (-167), 3) rfl) rfl ?_
                  cases hy29
                  have hz := hin29 _ rfl
                  exact j_sub rfl hz
              refine jite hj106 (fun hc hj106 => ?_) (fun hc hj106 => ?_)
              · refine j_icmp_eq (dt_Search_seatFrom 56 (106, .if_icmp .eq 14, 3) rfl) rfl (fun _ => ?_) (fun q => absurd hc q)
                refine j_iconst (dt_Search_seatFrom 63 (120, .iconst 0, 1) rfl) ic_0 ?_
                refine j_goto (dt_Search_seatFrom 64 (121, .goto 4, 3) rfl) rfl ?_
                cases hj106
                exact j_sub rfl hP106
              · refine j_icmp_eq (dt_Search_seatFrom 56 (106, .if_icmp .eq 14, 3) rfl) rfl (fun q => absurd q hc) (fun _ => ?_)
                refine j_aload_n (dt_Search_seatFrom 57 (109, .aload_n 0, 1) rfl) rfl ?_
                obtain ⟨x23, hx23, hj106⟩ := jbind hj106
                refine j_getR (dt_Search_seatFrom 58 (110, .getfield 22, 3) rfl) fl_X8_22 hx23 (fun _ _ => rfl) ?_
                refine j_iload_n (dt_Search_seatFrom 59 (113, .iload_n 1, 1) rfl) rfl ?_
                obtain ⟨x24, hx24, hj106⟩ := jbind hj106
                refine j_aldI (dt_Search_seatFrom 60 (114, .iaload, 1) rfl) hx24 ?_
                refine j_iload (dt_Search_seatFrom 61 (115, .iload 5, 2) rfl) rfl ?_
                refine jite hj106 (fun hc hj106 => ?_) (fun hc hj106 => ?_)
                · refine j_icmp_ne (dt_Search_seatFrom 62 (117, .if_icmp .ne 7, 3) rfl) rfl (fun q => absurd hc q) (fun _ => ?_)
                  refine j_iconst (dt_Search_seatFrom 63 (120, .iconst 0, 1) rfl) ic_0 ?_
                  refine j_goto (dt_Search_seatFrom 64 (121, .goto 4, 3) rfl) rfl ?_
                  cases hj106
                  exact j_sub rfl hP106
                · refine j_icmp_ne (dt_Search_seatFrom 62 (117, .if_icmp .ne 7, 3) rfl) rfl (fun _ => ?_) (fun q => absurd q hc)
                  refine j_iconst (dt_Search_seatFrom 65 (124, .iconst 1, 1) rfl) ic_1 ?_
                  cases hj106
                  exact j_sub rfl hP106
            refine jite hj77 (fun hc hj77 => ?_) (fun hc hj77 => ?_)
            · refine j_icmp_ne (dt_Search_seatFrom 40 (77, .if_icmp .ne 17, 3) rfl) rfl (fun q => absurd hc q) (fun _ => ?_)
              refine j_iload_n (dt_Search_seatFrom 41 (80, .iload_n 3, 1) rfl) rfl ?_
              refine j_aload_n (dt_Search_seatFrom 42 (81, .aload_n 0, 1) rfl) rfl ?_
              refine j_iload_n (dt_Search_seatFrom 43 (82, .iload_n 1, 1) rfl) rfl ?_
              refine j_iload (dt_Search_seatFrom 44 (83, .iload 5, 2) rfl) rfl ?_
              obtain ⟨x25, hx25, hj77⟩ := jbind hj77
              obtain ⟨b26, hb26⟩ := r_Search_heaviestAt hx25
              refine j_callV M_Search_heaviestAt 2 [ai v1, ai s29.1] (rest := [ai v3]) (dt_Search_seatFrom 45 (85, .invokevirtual 98, 3) rfl) ml_X8_98 ok_Search_heaviestAt (jfit rfl rfl ⟨rfl, rfl⟩ (nle rfl) (by omega)) rfl rfl (nle rfl) ⟨rfl, rfl⟩ hb26 ((c_Search_heaviestAt hx25)) ?_
              refine j_callS M_Jd_max 2 [ai v3, ai x25] (rest := []) (dt_Search_seatFrom 46 (88, .invokestatic 101, 3) rfl) ml_X8_101 ok_Jd_max (jfit rfl rfl ⟨rfl, rfl⟩ (nle rfl) (by omega)) rfl rfl (nle rfl) ⟨rfl, rfl⟩ (c_Jd_max rfl) ?_
              refine j_goto (dt_Search_seatFrom 47 (91, .goto 4, 3) rfl) rfl ?_
              cases hj77
              exact j_sub rfl hP77
            · refine j_icmp_ne (dt_Search_seatFrom 40 (77, .if_icmp .ne 17, 3) rfl) rfl (fun _ => ?_) (fun q => absurd q hc)
              refine j_iconst (dt_Search_seatFrom 48 (94, .iconst 0, 1) rfl) ic_0 ?_
              cases hj77
              exact j_sub rfl hP77
    · refine j_icmp_lt (dt_Search_seatFrom 7 (14, .if_icmp .lt 12, 3) rfl) rfl (fun q => absurd q hc) (fun _ => ?_)
      cases hk8
      have hz := hE8 _ rfl
      exact j_sub rfl hz
theorem c_Search_seatFrom {G : jG} {S : hS} : ∀ (n : Nat) {V : hV} {v0 : Option Nat} {v1 : Int32} {v2 : Int32} {v3 : Int32} {v4 : Int32} {res : hV}, Search_seatFrom S n v0 v1 v2 v3 v4 V = some res → jC G (M_Search_seatFrom n) [ar v0, ai v1, ai v2, ai v3, ai v4] (S, V) none (S, res)
  | 0, _, _, _, _, _, _, _, h => by cases h
  | n + 1, _, _, _, _, _, _, _, h => c_Search_seatFrom_B (fun h => c_Search_seatFrom n h) h
def tb_Search_seek : List (Nat × Instr × Nat) := [(0, .aload_n 0, 1), (1, .iload_n 3, 1), (2, .putfield 35, 3), (5, .aload_n 0, 1), (6, .aload 4, 2), (8, .putfield 41, 3), (11, .aload_n 0, 1), (12, .iconst 0, 1), (13, .putfield 32, 3), (16, .aload_n 0, 1), (17, .getfield 12, 3), (20, .aload_n 1, 1), (21, .aload_n 2, 1), (22, .invokevirtual 45, 3), (25, .aload_n 0, 1), (26, .aload_n 1, 1), (27, .aload_n 2, 1), (28, .invokevirtual 49, 3), (31, .aload_n 0, 1), (32, .iconst 0, 1), (33, .iconst 0, 1), (34, .iconst 0, 1), (35, .iconst 0, 1), (36, .invokestatic 52, 3), (39, .return_, 1)]
theorem dt_Search_seek (i : Nat) (q : Nat × Instr × Nat) (h : tb_Search_seek[i]? = some q) : decode prog_10_method_2_code q.1 = .ok q.2 := jdt (by decide +kernel : tb_Search_seek.all (fun q => decide (decode prog_10_method_2_code q.1 = .ok q.2)) = true) h
theorem ok_Search_seek : jOKV M_Search_seek 4 := ⟨⟨gt5 109 rfl rfl, gt1 13 rfl rfl, (by decide : "FirstIn$Search" ≠ "java/lang/invoke/MethodHandle"), (by decide : "FirstIn$Search" ≠ "java/lang/invoke/VarHandle"), (by decide +kernel : (parseMethodDescriptor "(LFirstIn$Court;LFirstIn$Room;ILFirstIn$Found;)V").map (fun d => d.parameters.length) = some 4)⟩, gt5 107 rfl rfl, gt5 108 rfl rfl, rfl, nlt rfl⟩
set_option maxRecDepth 100000 in
set_option maxHeartbeats 4000000 in
theorem c_Search_seek {G : jG} {S : hS} {V : hV} {v0 : Option Nat} {v1 : Option Nat} {v2 : Option Nat} {v3 : Int32} {v4 : Option Nat} {res : hV} (hf : Search_seek S v0 v1 v2 v3 v4 V = some res) : jC G M_Search_seek [ar v0, ar v1, ar v2, ai v3, ar v4] (S, V) none (S, res) := by
  unfold Search_seek at hf
  obtain ⟨_, _, hf⟩ := jbind hf
  refine jC_of (pf_X8 _ _) rfl (nle rfl) ?_
  show jJ G M_Search_seek (jEnd G M_Search_seek none (S, res)) 0 0 0 [(0, ar v0), (1, ar v1), (2, ar v2), (3, ai v3), (4, ar v4)] [] (S, V)
  refine j_aload_n (dt_Search_seek 0 (0, .aload_n 0, 1) rfl) rfl ?_
  refine j_iload_n (dt_Search_seek 1 (1, .iload_n 3, 1) rfl) rfl ?_
  obtain ⟨V1, hV1, hf⟩ := jbind hf
  refine j_putI (dt_Search_seek 2 (2, .putfield 35, 3) rfl) fl_X8_35 hV1 rfl (Or.inl rfl) ?_
  refine j_aload_n (dt_Search_seek 3 (5, .aload_n 0, 1) rfl) rfl ?_
  refine j_aload (dt_Search_seek 4 (6, .aload 4, 2) rfl) rfl ?_
  obtain ⟨V2, hV2, hf⟩ := jbind hf
  refine j_putR (dt_Search_seek 5 (8, .putfield 41, 3) rfl) fl_X8_41 hV2 (Or.inl ⟨_, rfl⟩) (Or.inl rfl) ?_
  refine j_aload_n (dt_Search_seek 6 (11, .aload_n 0, 1) rfl) rfl ?_
  refine j_iconst (dt_Search_seek 7 (12, .iconst 0, 1) rfl) ic_0 ?_
  obtain ⟨V3, hV3, hf⟩ := jbind hf
  refine j_putI (dt_Search_seek 8 (13, .putfield 32, 3) rfl) fl_X8_32 hV3 rfl (Or.inl rfl) ?_
  refine j_aload_n (dt_Search_seek 9 (16, .aload_n 0, 1) rfl) rfl ?_
  obtain ⟨x4, hx4, hf⟩ := jbind hf
  refine j_getR (dt_Search_seek 10 (17, .getfield 12, 3) rfl) fl_X8_12 hx4 (fun _ _ => rfl) ?_
  refine j_aload_n (dt_Search_seek 11 (20, .aload_n 1, 1) rfl) rfl ?_
  refine j_aload_n (dt_Search_seek 12 (21, .aload_n 2, 1) rfl) rfl ?_
  obtain ⟨V5, hV5, hf⟩ := jbind hf
  obtain ⟨b6, hb6⟩ := r_Pairs_lay hV5
  refine j_callV M_Pairs_lay 2 [ar v1, ar v2] (rest := []) (dt_Search_seek 13 (22, .invokevirtual 45, 3) rfl) ml_X8_45 ok_Pairs_lay (jfit rfl rfl ⟨rfl, rfl⟩ (nle rfl) (nlt rfl)) rfl rfl (nle rfl) ⟨rfl, rfl⟩ hb6 ((c_Pairs_lay hV5)) ?_
  refine j_aload_n (dt_Search_seek 14 (25, .aload_n 0, 1) rfl) rfl ?_
  refine j_aload_n (dt_Search_seek 15 (26, .aload_n 1, 1) rfl) rfl ?_
  refine j_aload_n (dt_Search_seek 16 (27, .aload_n 2, 1) rfl) rfl ?_
  obtain ⟨V7, hV7, hf⟩ := jbind hf
  obtain ⟨b8, hb8⟩ := r_Search_lookAtHomes hV7
  refine j_callV M_Search_lookAtHomes 2 [ar v1, ar v2] (rest := []) (dt_Search_seek 17 (28, .invokevirtual 49, 3) rfl) ml_X8_49 ok_Search_lookAtHomes (jfit rfl rfl ⟨rfl, rfl⟩ (nle rfl) (nlt rfl)) rfl rfl (nle rfl) ⟨rfl, rfl⟩ hb8 ((c_Search_lookAtHomes hV7)) ?_
  refine j_aload_n (dt_Search_seek 18 (31, .aload_n 0, 1) rfl) rfl ?_
  refine j_iconst (dt_Search_seek 19 (32, .iconst 0, 1) rfl) ic_0 ?_
  refine j_iconst (dt_Search_seek 20 (33, .iconst 0, 1) rfl) ic_0 ?_
  refine j_iconst (dt_Search_seek 21 (34, .iconst 0, 1) rfl) ic_0 ?_
  refine j_iconst (dt_Search_seek 22 (35, .iconst 0, 1) rfl) ic_0 ?_
  obtain ⟨V9, hV9, hf⟩ := jbind hf
  refine j_callS (M_Search_seatFrom RD) 5 [ar v0, ai 0, ai 0, ai 0, ai 0] (rest := []) (dt_Search_seek 23 (36, .invokestatic 52, 3) rfl) ml_X8_52 ok_Search_seatFrom (jfit rfl rfl ⟨rfl, rfl⟩ (nle rfl) (nlt rfl)) rfl rfl (nle rfl) ⟨rfl, rfl⟩ ((c_Search_seatFrom RD hV9)) ?_
  cases hf
  exact j_vret (dt_Search_seek 24 (39, .return_, 1) rfl) rfl
theorem r_Search_seek {S : hS} {V : hV} {v0 : Option Nat} {v1 : Option Nat} {v2 : Option Nat} {v3 : Int32} {v4 : Option Nat} {res : hV} (hf : Search_seek S v0 v1 v2 v3 v4 V = some res) : ∃ b, rc S 8 v0 = some b := by
  unfold Search_seek at hf
  obtain ⟨b, hb, _⟩ := jbind hf
  exact ⟨b, hb⟩
def tb_Fi_seatings : List (Nat × Instr × Nat) := [(0, .aload_n 0, 1), (1, .iload_n 1, 1), (2, .invokevirtual 144, 3), (5, .astore 4, 2), (7, .aload 4, 2), (9, .ifnull 21, 3), (12, .aload 4, 2), (14, .aload_n 0, 1), (15, .getfield 65, 3), (18, .getfield 104, 3), (21, .invokestatic 269, 3), (24, .invokevirtual 322, 3), (27, .ifCond .ne 5, 3), (30, .aconst_null, 1), (31, .areturn, 1), (32, .aload 4, 2), (34, .iload_n 2, 1), (35, .invokevirtual 325, 3), (38, .astore 5, 2), (40, .iload_n 2, 1), (41, .iconst 2, 1), (42, .if_icmp .ne 13, 3), (45, .aload_n 0, 1), (46, .getfield 65, 3), (49, .getfield 329, 3), (52, .goto 10, 3), (55, .aload_n 0, 1), (56, .getfield 65, 3), (59, .getfield 229, 3), (62, .istore 6, 2), (64, .aload 5, 2), (66, .getfield 332, 3), (69, .iload 6, 2), (71, .if_icmp .ne 12, 3), (74, .aload 5, 2), (76, .getfield 335, 3), (79, .iload_n 3, 1), (80, .if_icmp .eq 27, 3), (83, .aload 5, 2), (85, .iload 6, 2), (87, .iload_n 3, 1), (88, .invokevirtual 338, 3), (91, .aload_n 0, 1), (92, .getfield 58, 3), (95, .aload_n 0, 1), (96, .getfield 65, 3), (99, .aload 4, 2), (101, .iload_n 2, 1), (102, .aload 5, 2), (104, .invokevirtual 341, 3), (107, .aload 5, 2), (109, .areturn, 1)]
theorem dt_Fi_seatings (i : Nat) (q : Nat × Instr × Nat) (h : tb_Fi_seatings[i]? = some q) : decode prog_1_method_35_code q.1 = .ok q.2 := jdt (by decide +kernel : tb_Fi_seatings.all (fun q => decide (decode prog_1_method_35_code q.1 = .ok q.2)) = true) h
theorem ok_Fi_seatings : jOKV M_Fi_seatings 3 := ⟨⟨gt5 92 rfl rfl, gt1 1 rfl rfl, (by decide : "FirstIn" ≠ "java/lang/invoke/MethodHandle"), (by decide : "FirstIn" ≠ "java/lang/invoke/VarHandle"), (by decide +kernel : (parseMethodDescriptor "(III)LFirstIn$Found;").map (fun d => d.parameters.length) = some 3)⟩, gt5 91 rfl rfl, gs_in 3 rfl, rfl, nlt rfl⟩
set_option maxRecDepth 100000 in
set_option maxHeartbeats 4000000 in
theorem c_Fi_seatings {G : jG} {S : hS} {V : hV} {v0 : Option Nat} {v1 : Int32} {v2 : Int32} {v3 : Int32} {res : Option Nat × hV} (hf : Fi_seatings S v0 v1 v2 v3 V = some res) : jC G M_Fi_seatings [ar v0, ai v1, ai v2, ai v3] (S, V) (some (ar res.1)) (S, res.2) := by
  unfold Fi_seatings at hf
  obtain ⟨_, _, hf⟩ := jbind hf
  refine jC_of (pf_X11 _ _) rfl (nle rfl) ?_
  show jJ G M_Fi_seatings (jEnd G M_Fi_seatings (some (ar res.1)) (S, res.2)) 0 0 0 [(0, ar v0), (1, ai v1), (2, ai v2), (3, ai v3)] [] (S, V)
  refine j_aload_n (dt_Fi_seatings 0 (0, .aload_n 0, 1) rfl) rfl ?_
  refine j_iload_n (dt_Fi_seatings 1 (1, .iload_n 1, 1) rfl) rfl ?_
  obtain ⟨x1, hx1, hf⟩ := jbind hf
  obtain ⟨b2, hb2⟩ := r_Fi_roomOrNull hx1
  refine j_callV M_Fi_roomOrNull 1 [ai v1] (rest := []) (dt_Fi_seatings 2 (2, .invokevirtual 144, 3) rfl) ml_X11_144 ok_Fi_roomOrNull (jfit rfl rfl ⟨rfl, rfl⟩ (nle rfl) (nlt rfl)) rfl rfl (nle rfl) ⟨rfl, rfl⟩ hb2 ((c_Fi_roomOrNull hx1)) ?_
  refine j_astore (dt_Fi_seatings 3 (5, .astore 4, 2) rfl) (nlt rfl) ?_
  refine j_aload (dt_Fi_seatings 4 (7, .aload 4, 2) rfl) rfl ?_
  refine jite hf (fun hc hf => ?_) (fun hc hf => ?_)
  · refine j_ifnull (dt_Fi_seatings 5 (9, .ifnull 21, 3) rfl) rfl (fun _ => ?_) (fun q => absurd hc q)
    refine j_null (dt_Fi_seatings 13 (30, .aconst_null, 1) rfl) ?_
    cases hf
    exact j_aret (dt_Fi_seatings 14 (31, .areturn, 1) rfl) rfl
  · refine j_ifnull (dt_Fi_seatings 5 (9, .ifnull 21, 3) rfl) rfl (fun q => absurd q hc) (fun _ => ?_)
    refine j_aload (dt_Fi_seatings 6 (12, .aload 4, 2) rfl) rfl ?_
    refine j_aload_n (dt_Fi_seatings 7 (14, .aload_n 0, 1) rfl) rfl ?_
    obtain ⟨x3, hx3, hf⟩ := jbind hf
    refine j_getR (dt_Fi_seatings 8 (15, .getfield 65, 3) rfl) fl_X11_65 hx3 (fun _ _ => rfl) ?_
    obtain ⟨x4, hx4, hf⟩ := jbind hf
    refine j_getI (dt_Fi_seatings 9 (18, .getfield 104, 3) rfl) fl_X11_104 hx4 (fun _ _ => rfl) ?_
    refine j_callS M_Jd_bitCount 1 [ai x4] (rest := [ar x1]) (dt_Fi_seatings 10 (21, .invokestatic 269, 3) rfl) ml_X11_269 ok_Jd_bitCount (jfit rfl rfl ⟨rfl, rfl⟩ (nle rfl) (nlt rfl)) rfl rfl (nle rfl) ⟨rfl, rfl⟩ (c_Jd_bitCount rfl) ?_
    obtain ⟨x5, hx5, hf⟩ := jbind hf
    obtain ⟨b6, hb6⟩ := r_Room_canSeat hx5
    refine j_callV M_Room_canSeat 1 [ai (Jd_bitCount x4)] (rest := []) (dt_Fi_seatings 11 (24, .invokevirtual 322, 3) rfl) ml_X11_322 ok_Room_canSeat (jfit rfl rfl ⟨rfl, rfl⟩ (nle rfl) (nlt rfl)) rfl rfl (nle rfl) ⟨rfl, rfl⟩ hb6 ((c_Room_canSeat hx5)) ?_
    refine jite hf (fun hc hf => ?_) (fun hc hf => ?_)
    · refine j_if_ne (dt_Fi_seatings 12 (27, .ifCond .ne 5, 3) rfl) rfl (fun q => absurd hc q) (fun _ => ?_)
      refine j_null (dt_Fi_seatings 13 (30, .aconst_null, 1) rfl) ?_
      cases hf
      exact j_aret (dt_Fi_seatings 14 (31, .areturn, 1) rfl) rfl
    · refine j_if_ne (dt_Fi_seatings 12 (27, .ifCond .ne 5, 3) rfl) rfl (fun _ => ?_) (fun q => absurd q hc)
      refine j_aload (dt_Fi_seatings 15 (32, .aload 4, 2) rfl) rfl ?_
      refine j_iload_n (dt_Fi_seatings 16 (34, .iload_n 2, 1) rfl) rfl ?_
      obtain ⟨x7, hx7, hf⟩ := jbind hf
      obtain ⟨b8, hb8⟩ := r_Room_foundFor hx7
      refine j_callV M_Room_foundFor 1 [ai v2] (rest := []) (dt_Fi_seatings 17 (35, .invokevirtual 325, 3) rfl) ml_X11_325 ok_Room_foundFor (jfit rfl rfl ⟨rfl, rfl⟩ (nle rfl) (nlt rfl)) rfl rfl (nle rfl) ⟨rfl, rfl⟩ hb8 ((c_Room_foundFor hx7)) ?_
      refine j_astore (dt_Fi_seatings 18 (38, .astore 5, 2) rfl) (nlt rfl) ?_
      refine j_iload_n (dt_Fi_seatings 19 (40, .iload_n 2, 1) rfl) rfl ?_
      refine j_iconst (dt_Fi_seatings 20 (41, .iconst 2, 1) rfl) ic_2 ?_
      obtain ⟨j42, hj42, hf⟩ := jbind hf
      have hP42 : jJ G M_Fi_seatings (jEnd G M_Fi_seatings (some (ar res.1)) (S, res.2)) 0 0 62 [(0, ar v0), (2, ai v2), (3, ai v3), (4, ar x1), (5, ar x7)] [ai j42] (S, V) := by
        refine j_istore (dt_Fi_seatings 29 (62, .istore 6, 2) rfl) (nlt rfl) ?_
        refine j_aload (dt_Fi_seatings 30 (64, .aload 5, 2) rfl) rfl ?_
        obtain ⟨x9, hx9, hf⟩ := jbind hf
        refine j_getI (dt_Fi_seatings 31 (66, .getfield 332, 3) rfl) fl_X11_332 hx9 (fun _ _ => rfl) ?_
        refine j_iload (dt_Fi_seatings 32 (69, .iload 6, 2) rfl) rfl ?_
        obtain ⟨k71, hk71, hf⟩ := jbind hf
        have hE71 : ∀ e71 : Unit, k71 = .inl e71 → jJ G M_Fi_seatings (jEnd G M_Fi_seatings (some (ar res.1)) (S, res.2)) 0 0 83 [(0, ar v0), (2, ai v2), (3, ai v3), (4, ar x1), (5, ar x7), (6, ai j42)] [] (S, V) := by
          intro e71 he71
          subst he71
          refine j_aload (dt_Fi_seatings 38 (83, .aload 5, 2) rfl) rfl ?_
          refine j_iload (dt_Fi_seatings 39 (85, .iload 6, 2) rfl) rfl ?_
          refine j_iload_n (dt_Fi_seatings 40 (87, .iload_n 3, 1) rfl) rfl ?_
          obtain ⟨V10, hV10, hf⟩ := jbind hf
          obtain ⟨b11, hb11⟩ := r_Found_forget hV10
          refine j_callV M_Found_forget 2 [ai j42, ai v3] (rest := []) (dt_Fi_seatings 41 (88, .invokevirtual 338, 3) rfl) ml_X11_338 ok_Found_forget (jfit rfl rfl ⟨rfl, rfl⟩ (nle rfl) (nlt rfl)) rfl rfl (nle rfl) ⟨rfl, rfl⟩ hb11 ((c_Found_forget hV10)) ?_
          refine j_aload_n (dt_Fi_seatings 42 (91, .aload_n 0, 1) rfl) rfl ?_
          obtain ⟨x12, hx12, hf⟩ := jbind hf
          refine j_getR (dt_Fi_seatings 43 (92, .getfield 58, 3) rfl) fl_X11_58 hx12 (fun _ _ => rfl) ?_
          refine j_aload_n (dt_Fi_seatings 44 (95, .aload_n 0, 1) rfl) rfl ?_
          obtain ⟨x13, hx13, hf⟩ := jbind hf
          refine j_getR (dt_Fi_seatings 45 (96, .getfield 65, 3) rfl) fl_X11_65 hx13 (fun _ _ => rfl) ?_
          refine j_aload (dt_Fi_seatings 46 (99, .aload 4, 2) rfl) rfl ?_
          refine j_iload_n (dt_Fi_seatings 47 (101, .iload_n 2, 1) rfl) rfl ?_
          refine j_aload (dt_Fi_seatings 48 (102, .aload 5, 2) rfl) rfl ?_
          obtain ⟨V14, hV14, hf⟩ := jbind hf
          obtain ⟨b15, hb15⟩ := r_Search_seek hV14
          refine j_callV M_Search_seek 4 [ar x13, ar x1, ai v2, ar x7] (rest := []) (dt_Fi_seatings 49 (104, .invokevirtual 341, 3) rfl) ml_X11_341 ok_Search_seek (jfit rfl rfl ⟨rfl, rfl⟩ (nle rfl) (nlt rfl)) rfl rfl (nle rfl) ⟨rfl, rfl⟩ hb15 ((c_Search_seek hV14)) ?_
          refine j_aload (dt_Fi_seatings 50 (107, .aload 5, 2) rfl) rfl ?_
          cases hf
          exact j_aret (dt_Fi_seatings 51 (109, .areturn, 1) rfl) rfl
        refine jite hk71 (fun hc hk71 => ?_) (fun hc hk71 => ?_)
        · refine j_icmp_ne (dt_Fi_seatings 33 (71, .if_icmp .ne 12, 3) rfl) rfl (fun q => absurd hc q) (fun _ => ?_)
          refine j_aload (dt_Fi_seatings 34 (74, .aload 5, 2) rfl) rfl ?_
          obtain ⟨x16, hx16, hk71⟩ := jbind hk71
          refine j_getI (dt_Fi_seatings 35 (76, .getfield 335, 3) rfl) fl_X11_335 hx16 (fun _ _ => rfl) ?_
          refine j_iload_n (dt_Fi_seatings 36 (79, .iload_n 3, 1) rfl) rfl ?_
          refine jite hk71 (fun hc hk71 => ?_) (fun hc hk71 => ?_)
          · refine j_icmp_eq (dt_Fi_seatings 37 (80, .if_icmp .eq 27, 3) rfl) rfl (fun _ => ?_) (fun q => absurd hc q)
            refine j_aload (dt_Fi_seatings 50 (107, .aload 5, 2) rfl) rfl ?_
            cases hk71
            cases hf
            exact j_aret (dt_Fi_seatings 51 (109, .areturn, 1) rfl) rfl
          · refine j_icmp_eq (dt_Fi_seatings 37 (80, .if_icmp .eq 27, 3) rfl) rfl (fun q => absurd q hc) (fun _ => ?_)
            cases hk71
            have hz := hE71 _ rfl
            exact j_sub rfl hz
        · refine j_icmp_ne (dt_Fi_seatings 33 (71, .if_icmp .ne 12, 3) rfl) rfl (fun _ => ?_) (fun q => absurd q hc)
          cases hk71
          have hz := hE71 _ rfl
          exact j_sub rfl hz
      refine jite hj42 (fun hc hj42 => ?_) (fun hc hj42 => ?_)
      · refine j_icmp_ne (dt_Fi_seatings 21 (42, .if_icmp .ne 13, 3) rfl) rfl (fun q => absurd hc q) (fun _ => ?_)
        refine j_aload_n (dt_Fi_seatings 22 (45, .aload_n 0, 1) rfl) rfl ?_
        obtain ⟨x19, hx19, hj42⟩ := jbind hj42
        refine j_getR (dt_Fi_seatings 23 (46, .getfield 65, 3) rfl) fl_X11_65 hx19 (fun _ _ => rfl) ?_
        obtain ⟨x20, hx20, hj42⟩ := jbind hj42
        refine j_getI (dt_Fi_seatings 24 (49, .getfield 329, 3) rfl) fl_X11_329 hx20 (fun _ _ => rfl) ?_
        refine j_goto (dt_Fi_seatings 25 (52, .goto 10, 3) rfl) rfl ?_
        cases hj42
        exact j_sub rfl hP42
      · refine j_icmp_ne (dt_Fi_seatings 21 (42, .if_icmp .ne 13, 3) rfl) rfl (fun _ => ?_) (fun q => absurd q hc)
        refine j_aload_n (dt_Fi_seatings 26 (55, .aload_n 0, 1) rfl) rfl ?_
        obtain ⟨x17, hx17, hj42⟩ := jbind hj42
        refine j_getR (dt_Fi_seatings 27 (56, .getfield 65, 3) rfl) fl_X11_65 hx17 (fun _ _ => rfl) ?_
        obtain ⟨x18, hx18, hj42⟩ := jbind hj42
        refine j_getI (dt_Fi_seatings 28 (59, .getfield 229, 3) rfl) fl_X11_229 hx18 (fun _ _ => rfl) ?_
        cases hj42
        exact j_sub rfl hP42
theorem r_Fi_seatings {S : hS} {V : hV} {v0 : Option Nat} {v1 : Int32} {v2 : Int32} {v3 : Int32} {res : Option Nat × hV} (hf : Fi_seatings S v0 v1 v2 v3 V = some res) : ∃ b, rc S 11 v0 = some b := by
  unfold Fi_seatings at hf
  obtain ⟨b, hb, _⟩ := jbind hf
  exact ⟨b, hb⟩
def tb_Fi_least : List (Nat × Instr × Nat) := [(0, .aload_n 0, 1), (1, .iload_n 1, 1), (2, .iload_n 2, 1), (3, .ifCond .eq 8, 3), (6, .iload_n 2, 1), (7, .iconst 1, 1), (8, .if_icmp .ne 7, 3), (11, .iconst 0, 1), (12, .goto 4, 3), (15, .iconst 1, 1), (16, .iconst 0, 1), (17, .invokevirtual 254, 3), (20, .astore_n 3, 1), (21, .aload_n 3, 1), (22, .ifnonnull 5, 3), (25, .iconst (-1), 1), (26, .ireturn, 1), (27, .iload_n 2, 1), (28, .tableswitch 52 0 3 #[32, 37, 42, 47], 32), (60, .aload_n 3, 1), (61, .getfield 258, 3), (64, .ireturn, 1), (65, .aload_n 3, 1), (66, .getfield 261, 3), (69, .ireturn, 1), (70, .aload_n 3, 1), (71, .getfield 258, 3), (74, .ireturn, 1), (75, .aload_n 3, 1), (76, .getfield 262, 3), (79, .ireturn, 1), (80, .iconst (-1), 1), (81, .ireturn, 1)]
theorem dt_Fi_least (i : Nat) (q : Nat × Instr × Nat) (h : tb_Fi_least[i]? = some q) : decode prog_1_method_25_code q.1 = .ok q.2 := jdt (by decide +kernel : tb_Fi_least.all (fun q => decide (decode prog_1_method_25_code q.1 = .ok q.2)) = true) h
theorem ok_Fi_least : jOKV M_Fi_least 2 := ⟨⟨gt5 88 rfl rfl, gt1 1 rfl rfl, (by decide : "FirstIn" ≠ "java/lang/invoke/MethodHandle"), (by decide : "FirstIn" ≠ "java/lang/invoke/VarHandle"), (by decide +kernel : (parseMethodDescriptor "(II)I").map (fun d => d.parameters.length) = some 2)⟩, gt5 86 rfl rfl, gt5 87 rfl rfl, rfl, nlt rfl⟩
set_option maxRecDepth 100000 in
set_option maxHeartbeats 4000000 in
theorem c_Fi_least {G : jG} {S : hS} {V : hV} {v0 : Option Nat} {v1 : Int32} {v2 : Int32} {res : Int32 × hV} (hf : Fi_least S v0 v1 v2 V = some res) : jC G M_Fi_least [ar v0, ai v1, ai v2] (S, V) (some (ai res.1)) (S, res.2) := by
  unfold Fi_least at hf
  obtain ⟨_, _, hf⟩ := jbind hf
  refine jC_of (pf_X11 _ _) rfl (nle rfl) ?_
  show jJ G M_Fi_least (jEnd G M_Fi_least (some (ai res.1)) (S, res.2)) 0 0 0 [(0, ar v0), (1, ai v1), (2, ai v2)] [] (S, V)
  refine j_aload_n (dt_Fi_least 0 (0, .aload_n 0, 1) rfl) rfl ?_
  refine j_iload_n (dt_Fi_least 1 (1, .iload_n 1, 1) rfl) rfl ?_
  refine j_iload_n (dt_Fi_least 2 (2, .iload_n 2, 1) rfl) rfl ?_
  obtain ⟨j3, hj3, hf⟩ := jbind hf
  have hP3 : jJ G M_Fi_least (jEnd G M_Fi_least (some (ai res.1)) (S, res.2)) 0 0 16 [(2, ai v2)] [ai j3, ai v1, ar v0] (S, V) := by
    refine j_iconst (dt_Fi_least 10 (16, .iconst 0, 1) rfl) ic_0 ?_
    obtain ⟨w1, hw1, hf⟩ := jbind hf
    obtain ⟨b2, hb2⟩ := r_Fi_seatings hw1
    refine j_callV M_Fi_seatings 3 [ai v1, ai j3, ai 0] (rest := []) (dt_Fi_least 11 (17, .invokevirtual 254, 3) rfl) ml_X11_254 ok_Fi_seatings (jfit rfl rfl ⟨rfl, rfl⟩ (nle rfl) (nlt rfl)) rfl rfl (nle rfl) ⟨rfl, rfl⟩ hb2 ((c_Fi_seatings hw1)) ?_
    refine j_astore_n (dt_Fi_least 12 (20, .astore_n 3, 1) rfl) (nlt rfl) ?_
    refine j_aload_n (dt_Fi_least 13 (21, .aload_n 3, 1) rfl) rfl ?_
    refine jite hf (fun hc hf => ?_) (fun hc hf => ?_)
    · refine j_ifnonnull (dt_Fi_least 14 (22, .ifnonnull 5, 3) rfl) rfl (fun q => absurd hc q) (fun _ => ?_)
      refine j_iconst (dt_Fi_least 15 (25, .iconst (-1), 1) rfl) ic_m1 ?_
      cases hf
      exact j_iret (dt_Fi_least 16 (26, .ireturn, 1) rfl) rfl
    · refine j_ifnonnull (dt_Fi_least 14 (22, .ifnonnull 5, 3) rfl) rfl (fun _ => ?_) (fun q => absurd q hc)
      refine j_iload_n (dt_Fi_least 17 (27, .iload_n 2, 1) rfl) rfl ?_
      refine jite hf (fun hc0 hf => ?_) (fun hc0 hf => ?_)
      · refine j_swIn (off := 32) (tgt := 60) 0 hc0 (dt_Fi_least 18 (28, .tableswitch 52 0 3 #[32, 37, 42, 47], 32) rfl) (by decide) ?_
        refine j_aload_n (dt_Fi_least 19 (60, .aload_n 3, 1) rfl) rfl ?_
        obtain ⟨x3, hx3, hf⟩ := jbind hf
        refine j_getI (dt_Fi_least 20 (61, .getfield 258, 3) rfl) fl_X11_258 hx3 (fun _ _ => rfl) ?_
        cases hf
        exact j_iret (dt_Fi_least 21 (64, .ireturn, 1) rfl) rfl
      · refine jite hf (fun hc1 hf => ?_) (fun hc1 hf => ?_)
        · refine j_swIn (off := 37) (tgt := 65) 1 hc1 (dt_Fi_least 18 (28, .tableswitch 52 0 3 #[32, 37, 42, 47], 32) rfl) (by decide) ?_
          refine j_aload_n (dt_Fi_least 22 (65, .aload_n 3, 1) rfl) rfl ?_
          obtain ⟨x4, hx4, hf⟩ := jbind hf
          refine j_getI (dt_Fi_least 23 (66, .getfield 261, 3) rfl) fl_X11_261 hx4 (fun _ _ => rfl) ?_
          cases hf
          exact j_iret (dt_Fi_least 24 (69, .ireturn, 1) rfl) rfl
        · refine jite hf (fun hc2 hf => ?_) (fun hc2 hf => ?_)
          · refine j_swIn (off := 42) (tgt := 70) 2 hc2 (dt_Fi_least 18 (28, .tableswitch 52 0 3 #[32, 37, 42, 47], 32) rfl) (by decide) ?_
            refine j_aload_n (dt_Fi_least 25 (70, .aload_n 3, 1) rfl) rfl ?_
            obtain ⟨x5, hx5, hf⟩ := jbind hf
            refine j_getI (dt_Fi_least 26 (71, .getfield 258, 3) rfl) fl_X11_258 hx5 (fun _ _ => rfl) ?_
            cases hf
            exact j_iret (dt_Fi_least 27 (74, .ireturn, 1) rfl) rfl
          · refine jite hf (fun hc3 hf => ?_) (fun hc3 hf => ?_)
            · refine j_swIn (off := 47) (tgt := 75) 3 hc3 (dt_Fi_least 18 (28, .tableswitch 52 0 3 #[32, 37, 42, 47], 32) rfl) (by decide) ?_
              refine j_aload_n (dt_Fi_least 28 (75, .aload_n 3, 1) rfl) rfl ?_
              obtain ⟨x6, hx6, hf⟩ := jbind hf
              refine j_getI (dt_Fi_least 29 (76, .getfield 262, 3) rfl) fl_X11_262 hx6 (fun _ _ => rfl) ?_
              cases hf
              exact j_iret (dt_Fi_least 30 (79, .ireturn, 1) rfl) rfl
            · refine j_swOut (dt_Fi_least 18 (28, .tableswitch 52 0 3 #[32, 37, 42, 47], 32) rfl) (jsw_out (lo := 0) 4 (fun k hk => ?_) (by decide) (by decide)) rfl ?_
              · match k, hk with
                | 0, _ => exact hc0
                | 1, _ => exact hc1
                | 2, _ => exact hc2
                | 3, _ => exact hc3
                | k + 4, hk => omega
              · refine j_iconst (dt_Fi_least 31 (80, .iconst (-1), 1) rfl) ic_m1 ?_
                cases hf
                exact j_iret (dt_Fi_least 32 (81, .ireturn, 1) rfl) rfl
  refine jite hj3 (fun hc hj3 => ?_) (fun hc hj3 => ?_)
  · refine j_if_eq (dt_Fi_least 3 (3, .ifCond .eq 8, 3) rfl) rfl (fun _ => ?_) (fun q => absurd hc q)
    refine j_iconst (dt_Fi_least 7 (11, .iconst 0, 1) rfl) ic_0 ?_
    refine j_goto (dt_Fi_least 8 (12, .goto 4, 3) rfl) rfl ?_
    cases hj3
    exact j_sub rfl hP3
  · refine j_if_eq (dt_Fi_least 3 (3, .ifCond .eq 8, 3) rfl) rfl (fun q => absurd q hc) (fun _ => ?_)
    refine j_iload_n (dt_Fi_least 4 (6, .iload_n 2, 1) rfl) rfl ?_
    refine j_iconst (dt_Fi_least 5 (7, .iconst 1, 1) rfl) ic_1 ?_
    refine jite hj3 (fun hc hj3 => ?_) (fun hc hj3 => ?_)
    · refine j_icmp_ne (dt_Fi_least 6 (8, .if_icmp .ne 7, 3) rfl) rfl (fun q => absurd hc q) (fun _ => ?_)
      refine j_iconst (dt_Fi_least 7 (11, .iconst 0, 1) rfl) ic_0 ?_
      refine j_goto (dt_Fi_least 8 (12, .goto 4, 3) rfl) rfl ?_
      cases hj3
      exact j_sub rfl hP3
    · refine j_icmp_ne (dt_Fi_least 6 (8, .if_icmp .ne 7, 3) rfl) rfl (fun _ => ?_) (fun q => absurd q hc)
      refine j_iconst (dt_Fi_least 9 (15, .iconst 1, 1) rfl) ic_1 ?_
      cases hj3
      exact j_sub rfl hP3
theorem r_Fi_least {S : hS} {V : hV} {v0 : Option Nat} {v1 : Int32} {v2 : Int32} {res : Int32 × hV} (hf : Fi_least S v0 v1 v2 V = some res) : ∃ b, rc S 11 v0 = some b := by
  unfold Fi_least at hf
  obtain ⟨b, hb, _⟩ := jbind hf
  exact ⟨b, hb⟩
def tb_Fi_best : List (Nat × Instr × Nat) := [(0, .aload_n 0, 1), (1, .getfield 65, 3), (4, .iload_n 2, 1), (5, .invokevirtual 151, 3), (8, .ifCond .ne 5, 3), (11, .iconst (-1), 1), (12, .ireturn, 1), (13, .aload_n 0, 1), (14, .iload_n 1, 1), (15, .iload_n 3, 1), (16, .ifCond .eq 7, 3), (19, .iconst 1, 1), (20, .goto 4, 3), (23, .iconst 0, 1), (24, .iconst 0, 1), (25, .invokevirtual 254, 3), (28, .astore 4, 2), (30, .aload 4, 2), (32, .ifnonnull 7, 3), (35, .iconst (-1), 1), (36, .goto 10, 3), (39, .aload 4, 2), (41, .getfield 263, 3), (44, .iload_n 2, 1), (45, .iaload, 1), (46, .ireturn, 1)]
theorem dt_Fi_best (i : Nat) (q : Nat × Instr × Nat) (h : tb_Fi_best[i]? = some q) : decode prog_1_method_26_code q.1 = .ok q.2 := jdt (by decide +kernel : tb_Fi_best.all (fun q => decide (decode prog_1_method_26_code q.1 = .ok q.2)) = true) h
theorem ok_Fi_best : jOKV M_Fi_best 3 := ⟨⟨gt5 186 rfl rfl, gt1 1 rfl rfl, (by decide : "FirstIn" ≠ "java/lang/invoke/MethodHandle"), (by decide : "FirstIn" ≠ "java/lang/invoke/VarHandle"), (by decide +kernel : (parseMethodDescriptor "(IIZ)I").map (fun d => d.parameters.length) = some 3)⟩, gt5 184 rfl rfl, gt5 185 rfl rfl, rfl, nlt rfl⟩
set_option maxRecDepth 100000 in
set_option maxHeartbeats 4000000 in
theorem c_Fi_best {G : jG} {S : hS} {V : hV} {v0 : Option Nat} {v1 : Int32} {v2 : Int32} {v3 : Int32} {res : Int32 × hV} (hf : Fi_best S v0 v1 v2 v3 V = some res) : jC G M_Fi_best [ar v0, ai v1, ai v2, ai v3] (S, V) (some (ai res.1)) (S, res.2) := by
  unfold Fi_best at hf
  obtain ⟨_, _, hf⟩ := jbind hf
  refine jC_of (pf_X11 _ _) rfl (nle rfl) ?_
  show jJ G M_Fi_best (jEnd G M_Fi_best (some (ai res.1)) (S, res.2)) 0 0 0 [(0, ar v0), (1, ai v1), (2, ai v2), (3, ai v3)] [] (S, V)
  refine j_aload_n (dt_Fi_best 0 (0, .aload_n 0, 1) rfl) rfl ?_
  obtain ⟨x1, hx1, hf⟩ := jbind hf
  refine j_getR (dt_Fi_best 1 (1, .getfield 65, 3) rfl) fl_X11_65 hx1 (fun _ _ => rfl) ?_
  refine j_iload_n (dt_Fi_best 2 (4, .iload_n 2, 1) rfl) rfl ?_
  obtain ⟨x2, hx2, hf⟩ := jbind hf
  obtain ⟨b3, hb3⟩ := r_Court_isComing hx2
  refine j_callV M_Court_isComing 1 [ai v2] (rest := []) (dt_Fi_best 3 (5, .invokevirtual 151, 3) rfl) ml_X11_151 ok_Court_isComing (jfit rfl rfl ⟨rfl, rfl⟩ (nle rfl) (nlt rfl)) rfl rfl (nle rfl) ⟨rfl, rfl⟩ hb3 ((c_Court_isComing hx2)) ?_
  refine jite hf (fun hc hf => ?_) (fun hc hf => ?_)
  · refine j_if_ne (dt_Fi_best 4 (8, .ifCond .ne 5, 3) rfl) rfl (fun q => absurd hc q) (fun _ => ?_)
    refine j_iconst (dt_Fi_best 5 (11, .iconst (-1), 1) rfl) ic_m1 ?_
    cases hf
    exact j_iret (dt_Fi_best 6 (12, .ireturn, 1) rfl) rfl
  · refine j_if_ne (dt_Fi_best 4 (8, .ifCond .ne 5, 3) rfl) rfl (fun _ => ?_) (fun q => absurd q hc)
    refine j_aload_n (dt_Fi_best 7 (13, .aload_n 0, 1) rfl) rfl ?_
    refine j_iload_n (dt_Fi_best 8 (14, .iload_n 1, 1) rfl) rfl ?_
    refine j_iload_n (dt_Fi_best 9 (15, .iload_n 3, 1) rfl) rfl ?_
    obtain ⟨j16, hj16, hf⟩ := jbind hf
    have hP16 : jJ G M_Fi_best (jEnd G M_Fi_best (some (ai res.1)) (S, res.2)) 0 0 24 [(2, ai v2)] [ai j16, ai v1, ar v0] (S, V) := by
      refine j_iconst (dt_Fi_best 14 (24, .iconst 0, 1) rfl) ic_0 ?_
      obtain ⟨w4, hw4, hf⟩ := jbind hf
      obtain ⟨b5, hb5⟩ := r_Fi_seatings hw4
      refine j_callV M_Fi_seatings 3 [ai v1, ai j16, ai 0] (rest := []) (dt_Fi_best 15 (25, .invokevirtual 254, 3) rfl) ml_X11_254 ok_Fi_seatings (jfit rfl rfl ⟨rfl, rfl⟩ (nle rfl) (nlt rfl)) rfl rfl (nle rfl) ⟨rfl, rfl⟩ hb5 ((c_Fi_seatings hw4)) ?_
      refine j_astore (dt_Fi_best 16 (28, .astore 4, 2) rfl) (nlt rfl) ?_
      refine j_aload (dt_Fi_best 17 (30, .aload 4, 2) rfl) rfl ?_
      refine jite hf (fun hc hf => ?_) (fun hc hf => ?_)
      · refine j_ifnonnull (dt_Fi_best 18 (32, .ifnonnull 7, 3) rfl) rfl (fun q => absurd hc q) (fun _ => ?_)
        refine j_iconst (dt_Fi_best 19 (35, .iconst (-1), 1) rfl) ic_m1 ?_
        refine j_goto (dt_Fi_best 20 (36, .goto 10, 3) rfl) rfl ?_
        cases hf
        exact j_iret (dt_Fi_best 25 (46, .ireturn, 1) rfl) rfl
      · refine j_ifnonnull (dt_Fi_best 18 (32, .ifnonnull 7, 3) rfl) rfl (fun _ => ?_) (fun q => absurd q hc)
        refine j_aload (dt_Fi_best 21 (39, .aload 4, 2) rfl) rfl ?_
        obtain ⟨x6, hx6, hf⟩ := jbind hf
        refine j_getR (dt_Fi_best 22 (41, .getfield 263, 3) rfl) fl_X11_263 hx6 (fun _ _ => rfl) ?_
        refine j_iload_n (dt_Fi_best 23 (44, .iload_n 2, 1) rfl) rfl ?_
        obtain ⟨x7, hx7, hf⟩ := jbind hf
        refine j_aldI (dt_Fi_best 24 (45, .iaload, 1) rfl) hx7 ?_
        cases hf
        exact j_iret (dt_Fi_best 25 (46, .ireturn, 1) rfl) rfl
    refine jite hj16 (fun hc hj16 => ?_) (fun hc hj16 => ?_)
    · refine j_if_eq (dt_Fi_best 10 (16, .ifCond .eq 7, 3) rfl) rfl (fun _ => ?_) (fun q => absurd hc q)
      refine j_iconst (dt_Fi_best 13 (23, .iconst 0, 1) rfl) ic_0 ?_
      cases hj16
      exact j_sub rfl hP16
    · refine j_if_eq (dt_Fi_best 10 (16, .ifCond .eq 7, 3) rfl) rfl (fun q => absurd q hc) (fun _ => ?_)
      refine j_iconst (dt_Fi_best 11 (19, .iconst 1, 1) rfl) ic_1 ?_
      refine j_goto (dt_Fi_best 12 (20, .goto 4, 3) rfl) rfl ?_
      cases hj16
      exact j_sub rfl hP16
theorem r_Fi_best {S : hS} {V : hV} {v0 : Option Nat} {v1 : Int32} {v2 : Int32} {v3 : Int32} {res : Int32 × hV} (hf : Fi_best S v0 v1 v2 v3 V = some res) : ∃ b, rc S 11 v0 = some b := by
  unfold Fi_best at hf
  obtain ⟨b, hb, _⟩ := jbind hf
  exact ⟨b, hb⟩
def tb_Fi_must : List (Nat × Instr × Nat) := [(0, .aload_n 0, 1), (1, .getfield 65, 3), (4, .iload_n 2, 1), (5, .invokevirtual 151, 3), (8, .ifCond .ne 5, 3), (11, .iconst (-1), 1), (12, .ireturn, 1), (13, .aload_n 0, 1), (14, .iload_n 1, 1), (15, .iconst 0, 1), (16, .iconst 0, 1), (17, .invokevirtual 254, 3), (20, .astore_n 3, 1), (21, .aload_n 3, 1), (22, .ifnull 16, 3), (25, .aload_n 3, 1), (26, .getfield 266, 3), (29, .iload_n 2, 1), (30, .iaload, 1), (31, .invokestatic 269, 3), (34, .iconst 1, 1), (35, .if_icmp .eq 5, 3), (38, .iconst (-1), 1), (39, .ireturn, 1), (40, .aload_n 3, 1), (41, .getfield 263, 3), (44, .iload_n 2, 1), (45, .iaload, 1), (46, .ireturn, 1)]
theorem dt_Fi_must (i : Nat) (q : Nat × Instr × Nat) (h : tb_Fi_must[i]? = some q) : decode prog_1_method_27_code q.1 = .ok q.2 := jdt (by decide +kernel : tb_Fi_must.all (fun q => decide (decode prog_1_method_27_code q.1 = .ok q.2)) = true) h
theorem ok_Fi_must : jOKV M_Fi_must 2 := ⟨⟨gt5 190 rfl rfl, gt1 1 rfl rfl, (by decide : "FirstIn" ≠ "java/lang/invoke/MethodHandle"), (by decide : "FirstIn" ≠ "java/lang/invoke/VarHandle"), (by decide +kernel : (parseMethodDescriptor "(II)I").map (fun d => d.parameters.length) = some 2)⟩, gt5 188 rfl rfl, gt5 189 rfl rfl, rfl, nlt rfl⟩
set_option maxRecDepth 100000 in
set_option maxHeartbeats 4000000 in
theorem c_Fi_must {G : jG} {S : hS} {V : hV} {v0 : Option Nat} {v1 : Int32} {v2 : Int32} {res : Int32 × hV} (hf : Fi_must S v0 v1 v2 V = some res) : jC G M_Fi_must [ar v0, ai v1, ai v2] (S, V) (some (ai res.1)) (S, res.2) := by
  unfold Fi_must at hf
  obtain ⟨_, _, hf⟩ := jbind hf
  refine jC_of (pf_X11 _ _) rfl (nle rfl) ?_
  show jJ G M_Fi_must (jEnd G M_Fi_must (some (ai res.1)) (S, res.2)) 0 0 0 [(0, ar v0), (1, ai v1), (2, ai v2)] [] (S, V)
  refine j_aload_n (dt_Fi_must 0 (0, .aload_n 0, 1) rfl) rfl ?_
  obtain ⟨x1, hx1, hf⟩ := jbind hf
  refine j_getR (dt_Fi_must 1 (1, .getfield 65, 3) rfl) fl_X11_65 hx1 (fun _ _ => rfl) ?_
  refine j_iload_n (dt_Fi_must 2 (4, .iload_n 2, 1) rfl) rfl ?_
  obtain ⟨x2, hx2, hf⟩ := jbind hf
  obtain ⟨b3, hb3⟩ := r_Court_isComing hx2
  refine j_callV M_Court_isComing 1 [ai v2] (rest := []) (dt_Fi_must 3 (5, .invokevirtual 151, 3) rfl) ml_X11_151 ok_Court_isComing (jfit rfl rfl ⟨rfl, rfl⟩ (nle rfl) (nlt rfl)) rfl rfl (nle rfl) ⟨rfl, rfl⟩ hb3 ((c_Court_isComing hx2)) ?_
  refine jite hf (fun hc hf => ?_) (fun hc hf => ?_)
  · refine j_if_ne (dt_Fi_must 4 (8, .ifCond .ne 5, 3) rfl) rfl (fun q => absurd hc q) (fun _ => ?_)
    refine j_iconst (dt_Fi_must 5 (11, .iconst (-1), 1) rfl) ic_m1 ?_
    cases hf
    exact j_iret (dt_Fi_must 6 (12, .ireturn, 1) rfl) rfl
  · refine j_if_ne (dt_Fi_must 4 (8, .ifCond .ne 5, 3) rfl) rfl (fun _ => ?_) (fun q => absurd q hc)
    refine j_aload_n (dt_Fi_must 7 (13, .aload_n 0, 1) rfl) rfl ?_
    refine j_iload_n (dt_Fi_must 8 (14, .iload_n 1, 1) rfl) rfl ?_
    refine j_iconst (dt_Fi_must 9 (15, .iconst 0, 1) rfl) ic_0 ?_
    refine j_iconst (dt_Fi_must 10 (16, .iconst 0, 1) rfl) ic_0 ?_
    obtain ⟨w4, hw4, hf⟩ := jbind hf
    obtain ⟨b5, hb5⟩ := r_Fi_seatings hw4
    refine j_callV M_Fi_seatings 3 [ai v1, ai 0, ai 0] (rest := []) (dt_Fi_must 11 (17, .invokevirtual 254, 3) rfl) ml_X11_254 ok_Fi_seatings (jfit rfl rfl ⟨rfl, rfl⟩ (nle rfl) (nlt rfl)) rfl rfl (nle rfl) ⟨rfl, rfl⟩ hb5 ((c_Fi_seatings hw4)) ?_
    refine j_astore_n (dt_Fi_must 12 (20, .astore_n 3, 1) rfl) (nlt rfl) ?_
    refine j_aload_n (dt_Fi_must 13 (21, .aload_n 3, 1) rfl) rfl ?_
    refine jite hf (fun hc hf => ?_) (fun hc hf => ?_)
    · refine j_ifnull (dt_Fi_must 14 (22, .ifnull 16, 3) rfl) rfl (fun _ => ?_) (fun q => absurd hc q)
      refine j_iconst (dt_Fi_must 22 (38, .iconst (-1), 1) rfl) ic_m1 ?_
      cases hf
      exact j_iret (dt_Fi_must 23 (39, .ireturn, 1) rfl) rfl
    · refine j_ifnull (dt_Fi_must 14 (22, .ifnull 16, 3) rfl) rfl (fun q => absurd q hc) (fun _ => ?_)
      refine j_aload_n (dt_Fi_must 15 (25, .aload_n 3, 1) rfl) rfl ?_
      obtain ⟨x6, hx6, hf⟩ := jbind hf
      refine j_getR (dt_Fi_must 16 (26, .getfield 266, 3) rfl) fl_X11_266 hx6 (fun _ _ => rfl) ?_
      refine j_iload_n (dt_Fi_must 17 (29, .iload_n 2, 1) rfl) rfl ?_
      obtain ⟨x7, hx7, hf⟩ := jbind hf
      refine j_aldI (dt_Fi_must 18 (30, .iaload, 1) rfl) hx7 ?_
      refine j_callS M_Jd_bitCount 1 [ai x7] (rest := []) (dt_Fi_must 19 (31, .invokestatic 269, 3) rfl) ml_X11_269 ok_Jd_bitCount (jfit rfl rfl ⟨rfl, rfl⟩ (nle rfl) (nlt rfl)) rfl rfl (nle rfl) ⟨rfl, rfl⟩ (c_Jd_bitCount rfl) ?_
      refine j_iconst (dt_Fi_must 20 (34, .iconst 1, 1) rfl) ic_1 ?_
      refine jite hf (fun hc hf => ?_) (fun hc hf => ?_)
      · refine j_icmp_eq (dt_Fi_must 21 (35, .if_icmp .eq 5, 3) rfl) rfl (fun _ => ?_) (fun q => absurd hc q)
        refine j_aload_n (dt_Fi_must 24 (40, .aload_n 3, 1) rfl) rfl ?_
        obtain ⟨x8, hx8, hf⟩ := jbind hf
        refine j_getR (dt_Fi_must 25 (41, .getfield 263, 3) rfl) fl_X11_263 hx8 (fun _ _ => rfl) ?_
        refine j_iload_n (dt_Fi_must 26 (44, .iload_n 2, 1) rfl) rfl ?_
        obtain ⟨x9, hx9, hf⟩ := jbind hf
        refine j_aldI (dt_Fi_must 27 (45, .iaload, 1) rfl) hx9 ?_
        cases hf
        exact j_iret (dt_Fi_must 28 (46, .ireturn, 1) rfl) rfl
      · refine j_icmp_eq (dt_Fi_must 21 (35, .if_icmp .eq 5, 3) rfl) rfl (fun q => absurd q hc) (fun _ => ?_)
        refine j_iconst (dt_Fi_must 22 (38, .iconst (-1), 1) rfl) ic_m1 ?_
        cases hf
        exact j_iret (dt_Fi_must 23 (39, .ireturn, 1) rfl) rfl
theorem r_Fi_must {S : hS} {V : hV} {v0 : Option Nat} {v1 : Int32} {v2 : Int32} {res : Int32 × hV} (hf : Fi_must S v0 v1 v2 V = some res) : ∃ b, rc S 11 v0 = some b := by
  unfold Fi_must at hf
  obtain ⟨b, hb, _⟩ := jbind hf
  exact ⟨b, hb⟩
def tb_Found_howManyAt : List (Nat × Instr × Nat) := [(0, .iconst 0, 1), (1, .istore_n 2, 1), (2, .iconst 0, 1), (3, .istore_n 3, 1), (4, .iload_n 3, 1), (5, .bipush 10, 2), (7, .if_icmp .ge 22, 3), (10, .iload_n 2, 1), (11, .aload_n 0, 1), (12, .getfield 15, 3), (15, .iload_n 3, 1), (16, .iaload, 1), (17, .iload_n 1, 1), (18, .invokestatic 47, 3), (21, .iadd, 1), (22, .istore_n 2, 1), (23, .iinc 3 1, 3), (26, .goto (-22), 3), (29, .iload_n 2, 1), (30, .ireturn, 1)]
theorem dt_Found_howManyAt (i : Nat) (q : Nat × Instr × Nat) (h : tb_Found_howManyAt[i]? = some q) : decode prog_4_method_4_code q.1 = .ok q.2 := jdt (by decide +kernel : tb_Found_howManyAt.all (fun q => decide (decode prog_4_method_4_code q.1 = .ok q.2)) = true) h
theorem ok_Found_howManyAt : jOKV M_Found_howManyAt 1 := ⟨⟨gt5 198 rfl rfl, gt1 9 rfl rfl, (by decide : "FirstIn$Found" ≠ "java/lang/invoke/MethodHandle"), (by decide : "FirstIn$Found" ≠ "java/lang/invoke/VarHandle"), (by decide +kernel : (parseMethodDescriptor "(I)I").map (fun d => d.parameters.length) = some 1)⟩, gt5 196 rfl rfl, gt5 197 rfl rfl, rfl, nlt rfl⟩
set_option maxRecDepth 100000 in
set_option maxHeartbeats 4000000 in
theorem c_Found_howManyAt {G : jG} {S : hS} {V : hV} {v0 : Option Nat} {v1 : Int32} {res : Int32} (hf : Found_howManyAt S v0 v1 V = some res) : jC G M_Found_howManyAt [ar v0, ai v1] (S, V) (some (ai res)) (S, V) := by
  unfold Found_howManyAt at hf
  obtain ⟨_, _, hf⟩ := jbind hf
  refine jC_of (pf_X2 _ _) rfl (nle rfl) ?_
  show jJ G M_Found_howManyAt (jEnd G M_Found_howManyAt (some (ai res)) (S, V)) 0 0 0 [(0, ar v0), (1, ai v1)] [] (S, V)
  refine j_iconst (dt_Found_howManyAt 0 (0, .iconst 0, 1) rfl) ic_0 ?_
  refine j_istore_n (dt_Found_howManyAt 1 (1, .istore_n 2, 1) rfl) (nlt rfl) ?_
  refine j_iconst (dt_Found_howManyAt 2 (2, .iconst 0, 1) rfl) ic_0 ?_
  refine j_istore_n (dt_Found_howManyAt 3 (3, .istore_n 3, 1) rfl) (nlt rfl) ?_
  obtain ⟨t4, ht4, hf⟩ := jbind hf
  have hX4 : ∀ q4 : Int32, q4 = t4 → jJ G M_Found_howManyAt (jEnd G M_Found_howManyAt (some (ai res)) (S, V)) 0 0 29 [(2, ai q4)] [] (S, V) := by
    intro q4 hq4
    subst hq4
    refine j_iload_n (dt_Found_howManyAt 18 (29, .iload_n 2, 1) rfl) rfl ?_
    cases hf
    exact j_iret (dt_Found_howManyAt 19 (30, .ireturn, 1) rfl) rfl
  refine j_sub (ls' := [(0, ar v0), (1, ai v1), (2, ai 0), (3, ai 0)]) rfl ?_
  refine jloop_J (C := fun s4 => jJ G M_Found_howManyAt (jEnd G M_Found_howManyAt (some (ai res)) (S, V)) 0 0 4 [(0, ar v0), (1, ai v1), (2, ai s4.1), (3, ai s4.2)] [] (S, V)) (fun s4 z4_ hy4 hin4 hout4 => ?_) _ _ ht4
  unfold Found_howManyAt_L4 at hy4
  refine j_iload_n (dt_Found_howManyAt 4 (4, .iload_n 3, 1) rfl) rfl ?_
  refine j_bipush (dt_Found_howManyAt 5 (5, .bipush 10, 2) rfl) bp_10 ?_
  refine jite hy4 (fun hc hy4 => ?_) (fun hc hy4 => ?_)
  · refine j_icmp_ge (dt_Found_howManyAt 6 (7, .if_icmp .ge 22, 3) rfl) rfl (fun _ => ?_) (fun q => absurd hc q)
    cases hy4
    have hz := hX4 _ (hout4 _ rfl)
    exact j_sub rfl hz
  · refine j_icmp_ge (dt_Found_howManyAt 6 (7, .if_icmp .ge 22, 3) rfl) rfl (fun q => absurd q hc) (fun _ => ?_)
    refine j_iload_n (dt_Found_howManyAt 7 (10, .iload_n 2, 1) rfl) rfl ?_
    refine j_aload_n (dt_Found_howManyAt 8 (11, .aload_n 0, 1) rfl) rfl ?_
    obtain ⟨x1, hx1, hy4⟩ := jbind hy4
    refine j_getR (dt_Found_howManyAt 9 (12, .getfield 15, 3) rfl) fl_X2_15 hx1 (fun _ _ => rfl) ?_
    refine j_iload_n (dt_Found_howManyAt 10 (15, .iload_n 3, 1) rfl) rfl ?_
    obtain ⟨x2, hx2, hy4⟩ := jbind hy4
    refine j_aldI (dt_Found_howManyAt 11 (16, .iaload, 1) rfl) hx2 ?_
    refine j_iload_n (dt_Found_howManyAt 12 (17, .iload_n 1, 1) rfl) rfl ?_
    refine j_callSN M_Fi_bitAt 2 [ai x2, ai v1] (rest := [ai s4.1]) (dt_Found_howManyAt 13 (18, .invokestatic 47, 3) rfl) ml_X2_47 ok_Fi_bitAt (jfit rfl rfl ⟨rfl, rfl⟩ (nle rfl) (nlt rfl)) rfl rfl (nle rfl) ⟨rfl, rfl⟩ (c_Fi_bitAt rfl) ?_
    refine j_iadd (dt_Found_howManyAt 14 (21, .iadd, 1) rfl) ?_
    refine j_istore_n (dt_Found_howManyAt 15 (22, .istore_n 2, 1) rfl) (nlt rfl) ?_
    refine j_iinc (dt_Found_howManyAt 16 (23, .iinc 3 1, 3) rfl) rfl (nlt rfl) (ii_1 _) ?_
    refine j_goto (dt_Found_howManyAt 17 (26, .goto (-22), 3) rfl) rfl ?_
    cases hy4
    have hz := hin4 _ rfl
    exact j_sub rfl hz
theorem r_Found_howManyAt {S : hS} {V : hV} {v0 : Option Nat} {v1 : Int32} {res : Int32} (hf : Found_howManyAt S v0 v1 V = some res) : ∃ b, rc S 2 v0 = some b := by
  unfold Found_howManyAt at hf
  obtain ⟨b, hb, _⟩ := jbind hf
  exact ⟨b, hb⟩
def tb_Fi_free : List (Nat × Instr × Nat) := [(0, .aload_n 0, 1), (1, .iload_n 1, 1), (2, .invokevirtual 144, 3), (5, .astore_n 3, 1), (6, .aload_n 3, 1), (7, .ifnull 11, 3), (10, .aload_n 3, 1), (11, .iload_n 2, 1), (12, .invokevirtual 148, 3), (15, .ifCond .ne 5, 3), (18, .iconst (-1), 1), (19, .ireturn, 1), (20, .aload_n 0, 1), (21, .iload_n 1, 1), (22, .iconst 0, 1), (23, .iconst 0, 1), (24, .invokevirtual 254, 3), (27, .astore 4, 2), (29, .aload 4, 2), (31, .ifnonnull 7, 3), (34, .iconst (-1), 1), (35, .goto 9, 3), (38, .aload 4, 2), (40, .iload_n 2, 1), (41, .invokevirtual 274, 3), (44, .ireturn, 1)]
theorem dt_Fi_free (i : Nat) (q : Nat × Instr × Nat) (h : tb_Fi_free[i]? = some q) : decode prog_1_method_28_code q.1 = .ok q.2 := jdt (by decide +kernel : tb_Fi_free.all (fun q => decide (decode prog_1_method_28_code q.1 = .ok q.2)) = true) h
theorem ok_Fi_free : jOKV M_Fi_free 2 := ⟨⟨gt5 194 rfl rfl, gt1 1 rfl rfl, (by decide : "FirstIn" ≠ "java/lang/invoke/MethodHandle"), (by decide : "FirstIn" ≠ "java/lang/invoke/VarHandle"), (by decide +kernel : (parseMethodDescriptor "(II)I").map (fun d => d.parameters.length) = some 2)⟩, gt5 192 rfl rfl, gt5 193 rfl rfl, rfl, nlt rfl⟩
set_option maxRecDepth 100000 in
set_option maxHeartbeats 4000000 in
theorem c_Fi_free {G : jG} {S : hS} {V : hV} {v0 : Option Nat} {v1 : Int32} {v2 : Int32} {res : Int32 × hV} (hf : Fi_free S v0 v1 v2 V = some res) : jC G M_Fi_free [ar v0, ai v1, ai v2] (S, V) (some (ai res.1)) (S, res.2) := by
  unfold Fi_free at hf
  obtain ⟨_, _, hf⟩ := jbind hf
  refine jC_of (pf_X11 _ _) rfl (nle rfl) ?_
  show jJ G M_Fi_free (jEnd G M_Fi_free (some (ai res.1)) (S, res.2)) 0 0 0 [(0, ar v0), (1, ai v1), (2, ai v2)] [] (S, V)
  refine j_aload_n (dt_Fi_free 0 (0, .aload_n 0, 1) rfl) rfl ?_
  refine j_iload_n (dt_Fi_free 1 (1, .iload_n 1, 1) rfl) rfl ?_
  obtain ⟨x1, hx1, hf⟩ := jbind hf
  obtain ⟨b2, hb2⟩ := r_Fi_roomOrNull hx1
  refine j_callV M_Fi_roomOrNull 1 [ai v1] (rest := []) (dt_Fi_free 2 (2, .invokevirtual 144, 3) rfl) ml_X11_144 ok_Fi_roomOrNull (jfit rfl rfl ⟨rfl, rfl⟩ (nle rfl) (nlt rfl)) rfl rfl (nle rfl) ⟨rfl, rfl⟩ hb2 ((c_Fi_roomOrNull hx1)) ?_
  refine j_astore_n (dt_Fi_free 3 (5, .astore_n 3, 1) rfl) (nlt rfl) ?_
  refine j_aload_n (dt_Fi_free 4 (6, .aload_n 3, 1) rfl) rfl ?_
  refine jite hf (fun hc hf => ?_) (fun hc hf => ?_)
  · refine j_ifnull (dt_Fi_free 5 (7, .ifnull 11, 3) rfl) rfl (fun _ => ?_) (fun q => absurd hc q)
    refine j_iconst (dt_Fi_free 10 (18, .iconst (-1), 1) rfl) ic_m1 ?_
    cases hf
    exact j_iret (dt_Fi_free 11 (19, .ireturn, 1) rfl) rfl
  · refine j_ifnull (dt_Fi_free 5 (7, .ifnull 11, 3) rfl) rfl (fun q => absurd q hc) (fun _ => ?_)
    refine j_aload_n (dt_Fi_free 6 (10, .aload_n 3, 1) rfl) rfl ?_
    refine j_iload_n (dt_Fi_free 7 (11, .iload_n 2, 1) rfl) rfl ?_
    obtain ⟨x3, hx3, hf⟩ := jbind hf
    obtain ⟨b4, hb4⟩ := r_Room_hasPlace hx3
    refine j_callV M_Room_hasPlace 1 [ai v2] (rest := []) (dt_Fi_free 8 (12, .invokevirtual 148, 3) rfl) ml_X11_148 ok_Room_hasPlace (jfit rfl rfl ⟨rfl, rfl⟩ (nle rfl) (nlt rfl)) rfl rfl (nle rfl) ⟨rfl, rfl⟩ hb4 ((c_Room_hasPlace hx3)) ?_
    refine jite hf (fun hc hf => ?_) (fun hc hf => ?_)
    · refine j_if_ne (dt_Fi_free 9 (15, .ifCond .ne 5, 3) rfl) rfl (fun q => absurd hc q) (fun _ => ?_)
      refine j_iconst (dt_Fi_free 10 (18, .iconst (-1), 1) rfl) ic_m1 ?_
      cases hf
      exact j_iret (dt_Fi_free 11 (19, .ireturn, 1) rfl) rfl
    · refine j_if_ne (dt_Fi_free 9 (15, .ifCond .ne 5, 3) rfl) rfl (fun _ => ?_) (fun q => absurd q hc)
      refine j_aload_n (dt_Fi_free 12 (20, .aload_n 0, 1) rfl) rfl ?_
      refine j_iload_n (dt_Fi_free 13 (21, .iload_n 1, 1) rfl) rfl ?_
      refine j_iconst (dt_Fi_free 14 (22, .iconst 0, 1) rfl) ic_0 ?_
      refine j_iconst (dt_Fi_free 15 (23, .iconst 0, 1) rfl) ic_0 ?_
      obtain ⟨w5, hw5, hf⟩ := jbind hf
      obtain ⟨b6, hb6⟩ := r_Fi_seatings hw5
      refine j_callV M_Fi_seatings 3 [ai v1, ai 0, ai 0] (rest := []) (dt_Fi_free 16 (24, .invokevirtual 254, 3) rfl) ml_X11_254 ok_Fi_seatings (jfit rfl rfl ⟨rfl, rfl⟩ (nle rfl) (nlt rfl)) rfl rfl (nle rfl) ⟨rfl, rfl⟩ hb6 ((c_Fi_seatings hw5)) ?_
      refine j_astore (dt_Fi_free 17 (27, .astore 4, 2) rfl) (nlt rfl) ?_
      refine j_aload (dt_Fi_free 18 (29, .aload 4, 2) rfl) rfl ?_
      refine jite hf (fun hc hf => ?_) (fun hc hf => ?_)
      · refine j_ifnonnull (dt_Fi_free 19 (31, .ifnonnull 7, 3) rfl) rfl (fun q => absurd hc q) (fun _ => ?_)
        refine j_iconst (dt_Fi_free 20 (34, .iconst (-1), 1) rfl) ic_m1 ?_
        refine j_goto (dt_Fi_free 21 (35, .goto 9, 3) rfl) rfl ?_
        cases hf
        exact j_iret (dt_Fi_free 25 (44, .ireturn, 1) rfl) rfl
      · refine j_ifnonnull (dt_Fi_free 19 (31, .ifnonnull 7, 3) rfl) rfl (fun _ => ?_) (fun q => absurd q hc)
        refine j_aload (dt_Fi_free 22 (38, .aload 4, 2) rfl) rfl ?_
        refine j_iload_n (dt_Fi_free 23 (40, .iload_n 2, 1) rfl) rfl ?_
        obtain ⟨x7, hx7, hf⟩ := jbind hf
        obtain ⟨b8, hb8⟩ := r_Found_howManyAt hx7
        refine j_callV M_Found_howManyAt 1 [ai v2] (rest := []) (dt_Fi_free 24 (41, .invokevirtual 274, 3) rfl) ml_X11_274 ok_Found_howManyAt (jfit rfl rfl ⟨rfl, rfl⟩ (nle rfl) (nlt rfl)) rfl rfl (nle rfl) ⟨rfl, rfl⟩ hb8 ((c_Found_howManyAt hx7)) ?_
        cases hf
        exact j_iret (dt_Fi_free 25 (44, .ireturn, 1) rfl) rfl
theorem r_Fi_free {S : hS} {V : hV} {v0 : Option Nat} {v1 : Int32} {v2 : Int32} {res : Int32 × hV} (hf : Fi_free S v0 v1 v2 V = some res) : ∃ b, rc S 11 v0 = some b := by
  unfold Fi_free at hf
  obtain ⟨b, hb, _⟩ := jbind hf
  exact ⟨b, hb⟩
def tb_Fi_mended : List (Nat × Instr × Nat) := [(0, .iload_n 3, 1), (1, .iconst (-1), 1), (2, .if_icmp .eq 16, 3), (5, .aload_n 0, 1), (6, .getfield 65, 3), (9, .iload_n 3, 1), (10, .invokevirtual 151, 3), (13, .ifCond .ne 5, 3), (16, .iconst (-1), 1), (17, .ireturn, 1), (18, .aload_n 0, 1), (19, .iload_n 1, 1), (20, .iconst 2, 1), (21, .iload_n 2, 1), (22, .invokevirtual 254, 3), (25, .astore 4, 2), (27, .aload 4, 2), (29, .ifnull 11, 3), (32, .aload 4, 2), (34, .getfield 277, 3), (37, .ifCond .ne 5, 3), (40, .iconst (-1), 1), (41, .ireturn, 1), (42, .iload_n 3, 1), (43, .iconst (-1), 1), (44, .if_icmp .ne 11, 3), (47, .aload 4, 2), (49, .getfield 281, 3), (52, .goto 10, 3), (55, .aload 4, 2), (57, .getfield 263, 3), (60, .iload_n 3, 1), (61, .iaload, 1), (62, .ireturn, 1)]
theorem dt_Fi_mended (i : Nat) (q : Nat × Instr × Nat) (h : tb_Fi_mended[i]? = some q) : decode prog_1_method_29_code q.1 = .ok q.2 := jdt (by decide +kernel : tb_Fi_mended.all (fun q => decide (decode prog_1_method_29_code q.1 = .ok q.2)) = true) h
theorem ok_Fi_mended : jOKV M_Fi_mended 3 := ⟨⟨gt5 203 rfl rfl, gt1 1 rfl rfl, (by decide : "FirstIn" ≠ "java/lang/invoke/MethodHandle"), (by decide : "FirstIn" ≠ "java/lang/invoke/VarHandle"), (by decide +kernel : (parseMethodDescriptor "(III)I").map (fun d => d.parameters.length) = some 3)⟩, gt5 201 rfl rfl, gt5 202 rfl rfl, rfl, nlt rfl⟩
set_option maxRecDepth 100000 in
set_option maxHeartbeats 4000000 in
theorem c_Fi_mended {G : jG} {S : hS} {V : hV} {v0 : Option Nat} {v1 : Int32} {v2 : Int32} {v3 : Int32} {res : Int32 × hV} (hf : Fi_mended S v0 v1 v2 v3 V = some res) : jC G M_Fi_mended [ar v0, ai v1, ai v2, ai v3] (S, V) (some (ai res.1)) (S, res.2) := by
  unfold Fi_mended at hf
  obtain ⟨_, _, hf⟩ := jbind hf
  refine jC_of (pf_X11 _ _) rfl (nle rfl) ?_
  show jJ G M_Fi_mended (jEnd G M_Fi_mended (some (ai res.1)) (S, res.2)) 0 0 0 [(0, ar v0), (1, ai v1), (2, ai v2), (3, ai v3)] [] (S, V)
  refine j_iload_n (dt_Fi_mended 0 (0, .iload_n 3, 1) rfl) rfl ?_
  refine j_iconst (dt_Fi_mended 1 (1, .iconst (-1), 1) rfl) ic_m1 ?_
  obtain ⟨k2, hk2, hf⟩ := jbind hf
  have hE2 : ∀ e2 : Unit, k2 = .inl e2 → jJ G M_Fi_mended (jEnd G M_Fi_mended (some (ai res.1)) (S, res.2)) 0 0 18 [(0, ar v0), (1, ai v1), (2, ai v2), (3, ai v3)] [] (S, V) := by
    intro e2 he2
    subst he2
    refine j_aload_n (dt_Fi_mended 10 (18, .aload_n 0, 1) rfl) rfl ?_
    refine j_iload_n (dt_Fi_mended 11 (19, .iload_n 1, 1) rfl) rfl ?_
    refine j_iconst (dt_Fi_mended 12 (20, .iconst 2, 1) rfl) ic_2 ?_
    refine j_iload_n (dt_Fi_mended 13 (21, .iload_n 2, 1) rfl) rfl ?_
    obtain ⟨w1, hw1, hf⟩ := jbind hf
    obtain ⟨b2, hb2⟩ := r_Fi_seatings hw1
    refine j_callV M_Fi_seatings 3 [ai v1, ai 2, ai v2] (rest := []) (dt_Fi_mended 14 (22, .invokevirtual 254, 3) rfl) ml_X11_254 ok_Fi_seatings (jfit rfl rfl ⟨rfl, rfl⟩ (nle rfl) (nlt rfl)) rfl rfl (nle rfl) ⟨rfl, rfl⟩ hb2 ((c_Fi_seatings hw1)) ?_
    refine j_astore (dt_Fi_mended 15 (25, .astore 4, 2) rfl) (nlt rfl) ?_
    refine j_aload (dt_Fi_mended 16 (27, .aload 4, 2) rfl) rfl ?_
    refine jite hf (fun hc hf => ?_) (fun hc hf => ?_)
    · refine j_ifnull (dt_Fi_mended 17 (29, .ifnull 11, 3) rfl) rfl (fun _ => ?_) (fun q => absurd hc q)
      refine j_iconst (dt_Fi_mended 21 (40, .iconst (-1), 1) rfl) ic_m1 ?_
      cases hf
      exact j_iret (dt_Fi_mended 22 (41, .ireturn, 1) rfl) rfl
    · refine j_ifnull (dt_Fi_mended 17 (29, .ifnull 11, 3) rfl) rfl (fun q => absurd q hc) (fun _ => ?_)
      refine j_aload (dt_Fi_mended 18 (32, .aload 4, 2) rfl) rfl ?_
      obtain ⟨x3, hx3, hf⟩ := jbind hf
      refine j_getI (dt_Fi_mended 19 (34, .getfield 277, 3) rfl) fl_X11_277 hx3 (fun _ _ => rfl) ?_
      refine jite hf (fun hc hf => ?_) (fun hc hf => ?_)
      · refine j_if_ne (dt_Fi_mended 20 (37, .ifCond .ne 5, 3) rfl) rfl (fun q => absurd hc q) (fun _ => ?_)
        refine j_iconst (dt_Fi_mended 21 (40, .iconst (-1), 1) rfl) ic_m1 ?_
        cases hf
        exact j_iret (dt_Fi_mended 22 (41, .ireturn, 1) rfl) rfl
      · refine j_if_ne (dt_Fi_mended 20 (37, .ifCond .ne 5, 3) rfl) rfl (fun _ => ?_) (fun q => absurd q hc)
        refine j_iload_n (dt_Fi_mended 23 (42, .iload_n 3, 1) rfl) rfl ?_
        refine j_iconst (dt_Fi_mended 24 (43, .iconst (-1), 1) rfl) ic_m1 ?_
        refine jite hf (fun hc hf => ?_) (fun hc hf => ?_)
        · refine j_icmp_ne (dt_Fi_mended 25 (44, .if_icmp .ne 11, 3) rfl) rfl (fun q => absurd hc q) (fun _ => ?_)
          refine j_aload (dt_Fi_mended 26 (47, .aload 4, 2) rfl) rfl ?_
          obtain ⟨x6, hx6, hf⟩ := jbind hf
          refine j_getI (dt_Fi_mended 27 (49, .getfield 281, 3) rfl) fl_X11_281 hx6 (fun _ _ => rfl) ?_
          refine j_goto (dt_Fi_mended 28 (52, .goto 10, 3) rfl) rfl ?_
          cases hf
          exact j_iret (dt_Fi_mended 33 (62, .ireturn, 1) rfl) rfl
        · refine j_icmp_ne (dt_Fi_mended 25 (44, .if_icmp .ne 11, 3) rfl) rfl (fun _ => ?_) (fun q => absurd q hc)
          refine j_aload (dt_Fi_mended 29 (55, .aload 4, 2) rfl) rfl ?_
          obtain ⟨x4, hx4, hf⟩ := jbind hf
          refine j_getR (dt_Fi_mended 30 (57, .getfield 263, 3) rfl) fl_X11_263 hx4 (fun _ _ => rfl) ?_
          refine j_iload_n (dt_Fi_mended 31 (60, .iload_n 3, 1) rfl) rfl ?_
          obtain ⟨x5, hx5, hf⟩ := jbind hf
          refine j_aldI (dt_Fi_mended 32 (61, .iaload, 1) rfl) hx5 ?_
          cases hf
          exact j_iret (dt_Fi_mended 33 (62, .ireturn, 1) rfl) rfl
  refine jite hk2 (fun hc hk2 => ?_) (fun hc hk2 => ?_)
  · refine j_icmp_eq (dt_Fi_mended 2 (2, .if_icmp .eq 16, 3) rfl) rfl (fun _ => ?_) (fun q => absurd hc q)
    cases hk2
    have hz := hE2 _ rfl
    exact j_sub rfl hz
  · refine j_icmp_eq (dt_Fi_mended 2 (2, .if_icmp .eq 16, 3) rfl) rfl (fun q => absurd q hc) (fun _ => ?_)
    refine j_aload_n (dt_Fi_mended 3 (5, .aload_n 0, 1) rfl) rfl ?_
    obtain ⟨x7, hx7, hk2⟩ := jbind hk2
    refine j_getR (dt_Fi_mended 4 (6, .getfield 65, 3) rfl) fl_X11_65 hx7 (fun _ _ => rfl) ?_
    refine j_iload_n (dt_Fi_mended 5 (9, .iload_n 3, 1) rfl) rfl ?_
    obtain ⟨x8, hx8, hk2⟩ := jbind hk2
    obtain ⟨b9, hb9⟩ := r_Court_isComing hx8
    refine j_callV M_Court_isComing 1 [ai v3] (rest := []) (dt_Fi_mended 6 (10, .invokevirtual 151, 3) rfl) ml_X11_151 ok_Court_isComing (jfit rfl rfl ⟨rfl, rfl⟩ (nle rfl) (nlt rfl)) rfl rfl (nle rfl) ⟨rfl, rfl⟩ hb9 ((c_Court_isComing hx8)) ?_
    refine jite hk2 (fun hc hk2 => ?_) (fun hc hk2 => ?_)
    · refine j_if_ne (dt_Fi_mended 7 (13, .ifCond .ne 5, 3) rfl) rfl (fun q => absurd hc q) (fun _ => ?_)
      refine j_iconst (dt_Fi_mended 8 (16, .iconst (-1), 1) rfl) ic_m1 ?_
      cases hk2
      cases hf
      exact j_iret (dt_Fi_mended 9 (17, .ireturn, 1) rfl) rfl
    · refine j_if_ne (dt_Fi_mended 7 (13, .ifCond .ne 5, 3) rfl) rfl (fun _ => ?_) (fun q => absurd q hc)
      cases hk2
      have hz := hE2 _ rfl
      exact j_sub rfl hz
theorem r_Fi_mended {S : hS} {V : hV} {v0 : Option Nat} {v1 : Int32} {v2 : Int32} {v3 : Int32} {res : Int32 × hV} (hf : Fi_mended S v0 v1 v2 v3 V = some res) : ∃ b, rc S 11 v0 = some b := by
  unfold Fi_mended at hf
  obtain ⟨b, hb, _⟩ := jbind hf
  exact ⟨b, hb⟩
def tb_Fi_evened : List (Nat × Instr × Nat) := [(0, .aload_n 0, 1), (1, .iload_n 1, 1), (2, .invokevirtual 144, 3), (5, .astore 4, 2), (7, .aload 4, 2), (9, .ifnull 22, 3), (12, .aload 4, 2), (14, .getfield 284, 3), (17, .iconst 4, 1), (18, .if_icmp .ne 13, 3), (21, .aload 4, 2), (23, .getfield 287, 3), (26, .bipush 8, 2), (28, .if_icmp .le 5, 3), (31, .iconst (-1), 1), (32, .ireturn, 1), (33, .iload_n 2, 1), (34, .iconst 1, 1), (35, .if_icmp .lt 18, 3), (38, .iload_n 2, 1), (39, .iconst 3, 1), (40, .if_icmp .gt 13, 3), (43, .iload_n 3, 1), (44, .iconst (-1), 1), (45, .if_icmp .lt 8, 3), (48, .iload_n 3, 1), (49, .iload_n 2, 1), (50, .if_icmp .lt 5, 3), (53, .iconst (-1), 1), (54, .ireturn, 1), (55, .aload_n 0, 1), (56, .getfield 51, 3), (59, .aload_n 0, 1), (60, .getfield 65, 3), (63, .aload 4, 2), (65, .iload_n 2, 1), (66, .aload_n 0, 1), (67, .getfield 44, 3), (70, .invokevirtual 290, 3), (73, .iload_n 3, 1), (74, .iconst (-1), 1), (75, .if_icmp .ne 13, 3), (78, .aload_n 0, 1), (79, .getfield 51, 3), (82, .getfield 294, 3), (85, .goto 12, 3), (88, .aload_n 0, 1), (89, .getfield 51, 3), (92, .getfield 297, 3), (95, .iload_n 3, 1), (96, .iaload, 1), (97, .ireturn, 1)]
theorem dt_Fi_evened (i : Nat) (q : Nat × Instr × Nat) (h : tb_Fi_evened[i]? = some q) : decode prog_1_method_30_code q.1 = .ok q.2 := jdt (by decide +kernel : tb_Fi_evened.all (fun q => decide (decode prog_1_method_30_code q.1 = .ok q.2)) = true) h
theorem ok_Fi_evened : jOKV M_Fi_evened 3 := ⟨⟨gt5 207 rfl rfl, gt1 1 rfl rfl, (by decide : "FirstIn" ≠ "java/lang/invoke/MethodHandle"), (by decide : "FirstIn" ≠ "java/lang/invoke/VarHandle"), (by decide +kernel : (parseMethodDescriptor "(III)I").map (fun d => d.parameters.length) = some 3)⟩, gt5 205 rfl rfl, gt5 206 rfl rfl, rfl, nlt rfl⟩
set_option maxRecDepth 100000 in
set_option maxHeartbeats 4000000 in
theorem c_Fi_evened {G : jG} {S : hS} {V : hV} {v0 : Option Nat} {v1 : Int32} {v2 : Int32} {v3 : Int32} {res : Int32 × hV} (hf : Fi_evened S v0 v1 v2 v3 V = some res) : jC G M_Fi_evened [ar v0, ai v1, ai v2, ai v3] (S, V) (some (ai res.1)) (S, res.2) := by
  unfold Fi_evened at hf
  obtain ⟨_, _, hf⟩ := jbind hf
  refine jC_of (pf_X11 _ _) rfl (nle rfl) ?_
  show jJ G M_Fi_evened (jEnd G M_Fi_evened (some (ai res.1)) (S, res.2)) 0 0 0 [(0, ar v0), (1, ai v1), (2, ai v2), (3, ai v3)] [] (S, V)
  refine j_aload_n (dt_Fi_evened 0 (0, .aload_n 0, 1) rfl) rfl ?_
  refine j_iload_n (dt_Fi_evened 1 (1, .iload_n 1, 1) rfl) rfl ?_
  obtain ⟨x1, hx1, hf⟩ := jbind hf
  obtain ⟨b2, hb2⟩ := r_Fi_roomOrNull hx1
  refine j_callV M_Fi_roomOrNull 1 [ai v1] (rest := []) (dt_Fi_evened 2 (2, .invokevirtual 144, 3) rfl) ml_X11_144 ok_Fi_roomOrNull (jfit rfl rfl ⟨rfl, rfl⟩ (nle rfl) (nlt rfl)) rfl rfl (nle rfl) ⟨rfl, rfl⟩ hb2 ((c_Fi_roomOrNull hx1)) ?_
  refine j_astore (dt_Fi_evened 3 (5, .astore 4, 2) rfl) (nlt rfl) ?_
  refine j_aload (dt_Fi_evened 4 (7, .aload 4, 2) rfl) rfl ?_
  refine jite hf (fun hc hf => ?_) (fun hc hf => ?_)
  · refine j_ifnull (dt_Fi_evened 5 (9, .ifnull 22, 3) rfl) rfl (fun _ => ?_) (fun q => absurd hc q)
    refine j_iconst (dt_Fi_evened 14 (31, .iconst (-1), 1) rfl) ic_m1 ?_
    cases hf
    exact j_iret (dt_Fi_evened 15 (32, .ireturn, 1) rfl) rfl
  · refine j_ifnull (dt_Fi_evened 5 (9, .ifnull 22, 3) rfl) rfl (fun q => absurd q hc) (fun _ => ?_)
    refine j_aload (dt_Fi_evened 6 (12, .aload 4, 2) rfl) rfl ?_
    obtain ⟨x3, hx3, hf⟩ := jbind hf
    refine j_getI (dt_Fi_evened 7 (14, .getfield 284, 3) rfl) fl_X11_284 hx3 (fun _ _ => rfl) ?_
    refine j_iconst (dt_Fi_evened 8 (17, .iconst 4, 1) rfl) ic_4 ?_
    refine jite hf (fun hc hf => ?_) (fun hc hf => ?_)
    · refine j_icmp_ne (dt_Fi_evened 9 (18, .if_icmp .ne 13, 3) rfl) rfl (fun q => absurd hc q) (fun _ => ?_)
      refine j_aload (dt_Fi_evened 10 (21, .aload 4, 2) rfl) rfl ?_
      obtain ⟨x4, hx4, hf⟩ := jbind hf
      refine j_getI (dt_Fi_evened 11 (23, .getfield 287, 3) rfl) fl_X11_287 hx4 (fun _ _ => rfl) ?_
      refine j_bipush (dt_Fi_evened 12 (26, .bipush 8, 2) rfl) bp_8 ?_
      refine jite hf (fun hc hf => ?_) (fun hc hf => ?_)
      · refine j_icmp_le (dt_Fi_evened 13 (28, .if_icmp .le 5, 3) rfl) rfl (fun _ => ?_) (fun q => absurd hc q)
        refine j_iload_n (dt_Fi_evened 16 (33, .iload_n 2, 1) rfl) rfl ?_
        refine j_iconst (dt_Fi_evened 17 (34, .iconst 1, 1) rfl) ic_1 ?_
        refine jite hf (fun hc hf => ?_) (fun hc hf => ?_)
        · refine j_icmp_lt (dt_Fi_evened 18 (35, .if_icmp .lt 18, 3) rfl) rfl (fun _ => ?_) (fun q => absurd hc q)
          refine j_iconst (dt_Fi_evened 28 (53, .iconst (-1), 1) rfl) ic_m1 ?_
          cases hf
          exact j_iret (dt_Fi_evened 29 (54, .ireturn, 1) rfl) rfl
        · refine j_icmp_lt (dt_Fi_evened 18 (35, .if_icmp .lt 18, 3) rfl) rfl (fun q => absurd q hc) (fun _ => ?_)
          refine j_iload_n (dt_Fi_evened 19 (38, .iload_n 2, 1) rfl) rfl ?_
          refine j_iconst (dt_Fi_evened 20 (39, .iconst 3, 1) rfl) ic_3 ?_
          refine jite hf (fun hc hf => ?_) (fun hc hf => ?_)
          · refine j_icmp_gt (dt_Fi_evened 21 (40, .if_icmp .gt 13, 3) rfl) rfl (fun _ => ?_) (fun q => absurd hc q)
            refine j_iconst (dt_Fi_evened 28 (53, .iconst (-1), 1) rfl) ic_m1 ?_
            cases hf
            exact j_iret (dt_Fi_evened 29 (54, .ireturn, 1) rfl) rfl
          · refine j_icmp_gt (dt_Fi_evened 21 (40, .if_icmp .gt 13, 3) rfl) rfl (fun q => absurd q hc) (fun _ => ?_)
            refine j_iload_n (dt_Fi_evened 22 (43, .iload_n 3, 1) rfl) rfl ?_
            refine j_iconst (dt_Fi_evened 23 (44, .iconst (-1), 1) rfl) ic_m1 ?_
            refine jite hf (fun hc hf => ?_) (fun hc hf => ?_)
            · refine j_icmp_lt (dt_Fi_evened 24 (45, .if_icmp .lt 8, 3) rfl) rfl (fun _ => ?_) (fun q => absurd hc q)
              refine j_iconst (dt_Fi_evened 28 (53, .iconst (-1), 1) rfl) ic_m1 ?_
              cases hf
              exact j_iret (dt_Fi_evened 29 (54, .ireturn, 1) rfl) rfl
            · refine j_icmp_lt (dt_Fi_evened 24 (45, .if_icmp .lt 8, 3) rfl) rfl (fun q => absurd q hc) (fun _ => ?_)
              refine j_iload_n (dt_Fi_evened 25 (48, .iload_n 3, 1) rfl) rfl ?_
              refine j_iload_n (dt_Fi_evened 26 (49, .iload_n 2, 1) rfl) rfl ?_
              refine jite hf (fun hc hf => ?_) (fun hc hf => ?_)
              · refine j_icmp_lt (dt_Fi_evened 27 (50, .if_icmp .lt 5, 3) rfl) rfl (fun _ => ?_) (fun q => absurd hc q)
                refine j_aload_n (dt_Fi_evened 30 (55, .aload_n 0, 1) rfl) rfl ?_
                obtain ⟨x5, hx5, hf⟩ := jbind hf
                refine j_getR (dt_Fi_evened 31 (56, .getfield 51, 3) rfl) fl_X11_51 hx5 (fun _ _ => rfl) ?_
                refine j_aload_n (dt_Fi_evened 32 (59, .aload_n 0, 1) rfl) rfl ?_
                obtain ⟨x6, hx6, hf⟩ := jbind hf
                refine j_getR (dt_Fi_evened 33 (60, .getfield 65, 3) rfl) fl_X11_65 hx6 (fun _ _ => rfl) ?_
                refine j_aload (dt_Fi_evened 34 (63, .aload 4, 2) rfl) rfl ?_
                refine j_iload_n (dt_Fi_evened 35 (65, .iload_n 2, 1) rfl) rfl ?_
                refine j_aload_n (dt_Fi_evened 36 (66, .aload_n 0, 1) rfl) rfl ?_
                obtain ⟨x7, hx7, hf⟩ := jbind hf
                refine j_getR (dt_Fi_evened 37 (67, .getfield 44, 3) rfl) fl_X11_44 hx7 (fun _ _ => rfl) ?_
                obtain ⟨V8, hV8, hf⟩ := jbind hf
                obtain ⟨b9, hb9⟩ := r_Evening_seek hV8
                refine j_callV M_Evening_seek 4 [ar x6, ar x1, ai v2, ar x7] (rest := []) (dt_Fi_evened 38 (70, .invokevirtual 290, 3) rfl) ml_X11_290 ok_Evening_seek (jfit rfl rfl ⟨rfl, rfl⟩ (nle rfl) (nlt rfl)) rfl rfl (nle rfl) ⟨rfl, rfl⟩ hb9 ((c_Evening_seek hV8)) ?_
                refine j_iload_n (dt_Fi_evened 39 (73, .iload_n 3, 1) rfl) rfl ?_
                refine j_iconst (dt_Fi_evened 40 (74, .iconst (-1), 1) rfl) ic_m1 ?_
                refine jite hf (fun hc hf => ?_) (fun hc hf => ?_)
                · refine j_icmp_ne (dt_Fi_evened 41 (75, .if_icmp .ne 13, 3) rfl) rfl (fun q => absurd hc q) (fun _ => ?_)
                  refine j_aload_n (dt_Fi_evened 42 (78, .aload_n 0, 1) rfl) rfl ?_
                  obtain ⟨x13, hx13, hf⟩ := jbind hf
                  refine j_getR (dt_Fi_evened 43 (79, .getfield 51, 3) rfl) fl_X11_51 hx13 (fun _ _ => rfl) ?_
                  obtain ⟨x14, hx14, hf⟩ := jbind hf
                  refine j_getI (dt_Fi_evened 44 (82, .getfield 294, 3) rfl) fl_X11_294 hx14 (fun _ _ => rfl) ?_
                  refine j_goto (dt_Fi_evened 45 (85, .goto 12, 3) rfl) rfl ?_
                  cases hf
                  exact j_iret (dt_Fi_evened 51 (97, .ireturn, 1) rfl) rfl
                · refine j_icmp_ne (dt_Fi_evened 41 (75, .if_icmp .ne 13, 3) rfl) rfl (fun _ => ?_) (fun q => absurd q hc)
                  refine j_aload_n (dt_Fi_evened 46 (88, .aload_n 0, 1) rfl) rfl ?_
                  obtain ⟨x10, hx10, hf⟩ := jbind hf
                  refine j_getR (dt_Fi_evened 47 (89, .getfield 51, 3) rfl) fl_X11_51 hx10 (fun _ _ => rfl) ?_
                  obtain ⟨x11, hx11, hf⟩ := jbind hf
                  refine j_getR (dt_Fi_evened 48 (92, .getfield 297, 3) rfl) fl_X11_297 hx11 (fun _ _ => rfl) ?_
                  refine j_iload_n (dt_Fi_evened 49 (95, .iload_n 3, 1) rfl) rfl ?_
                  obtain ⟨x12, hx12, hf⟩ := jbind hf
                  refine j_aldI (dt_Fi_evened 50 (96, .iaload, 1) rfl) hx12 ?_
                  cases hf
                  exact j_iret (dt_Fi_evened 51 (97, .ireturn, 1) rfl) rfl
              · refine j_icmp_lt (dt_Fi_evened 27 (50, .if_icmp .lt 5, 3) rfl) rfl (fun q => absurd q hc) (fun _ => ?_)
                refine j_iconst (dt_Fi_evened 28 (53, .iconst (-1), 1) rfl) ic_m1 ?_
                cases hf
                exact j_iret (dt_Fi_evened 29 (54, .ireturn, 1) rfl) rfl
      · refine j_icmp_le (dt_Fi_evened 13 (28, .if_icmp .le 5, 3) rfl) rfl (fun q => absurd q hc) (fun _ => ?_)
        refine j_iconst (dt_Fi_evened 14 (31, .iconst (-1), 1) rfl) ic_m1 ?_
        cases hf
        exact j_iret (dt_Fi_evened 15 (32, .ireturn, 1) rfl) rfl
    · refine j_icmp_ne (dt_Fi_evened 9 (18, .if_icmp .ne 13, 3) rfl) rfl (fun _ => ?_) (fun q => absurd q hc)
      refine j_iconst (dt_Fi_evened 14 (31, .iconst (-1), 1) rfl) ic_m1 ?_
      cases hf
      exact j_iret (dt_Fi_evened 15 (32, .ireturn, 1) rfl) rfl
theorem r_Fi_evened {S : hS} {V : hV} {v0 : Option Nat} {v1 : Int32} {v2 : Int32} {v3 : Int32} {res : Int32 × hV} (hf : Fi_evened S v0 v1 v2 v3 V = some res) : ∃ b, rc S 11 v0 = some b := by
  unfold Fi_evened at hf
  obtain ⟨b, hb, _⟩ := jbind hf
  exact ⟨b, hb⟩
