/-! ===== walks ===== -/
def tb_Mo_staysElsewhere : List (Nat × Instr × Nat) := [(0, .aload_n 0, 1), (1, .getfield 136, 3), (4, .iload_n 1, 1), (5, .iaload, 1), (6, .istore_n 3, 1), (7, .aload_n 0, 1), (8, .getfield 401, 3), (11, .ifCond .eq 39, 3), (14, .aload_n 0, 1), (15, .getfield 84, 3), (18, .iload_n 3, 1), (19, .baload, 1), (20, .ifCond .eq 30, 3), (23, .aload_n 0, 1), (24, .getfield 87, 3), (27, .iload_n 3, 1), (28, .iaload, 1), (29, .aload_n 0, 1), (30, .getfield 405, 3), (33, .if_icmp .ne 17, 3), (36, .aload_n 0, 1), (37, .getfield 90, 3), (40, .iload_n 3, 1), (41, .iaload, 1), (42, .iload_n 2, 1), (43, .if_icmp .eq 7, 3), (46, .iconst 1, 1), (47, .goto 4, 3), (50, .iconst 0, 1), (51, .ireturn, 1)]
theorem dt_Mo_staysElsewhere (i : Nat) (q : Nat × Instr × Nat) (h : tb_Mo_staysElsewhere[i]? = some q) : decode prog_14_method_74_code q.1 = .ok q.2 := jdt (by decide +kernel : tb_Mo_staysElsewhere.all (fun q => decide (decode prog_14_method_74_code q.1 = .ok q.2)) = true) h
theorem ok_Mo_staysElsewhere : jOKV M_Mo_staysElsewhere 2 := ⟨⟨gt8 54 rfl rfl, gt1 17 rfl rfl, (by decide : "FirstInModel" ≠ "java/lang/invoke/MethodHandle"), (by decide : "FirstInModel" ≠ "java/lang/invoke/VarHandle"), (by decide +kernel : (parseMethodDescriptor "(II)Z").map (fun d => d.parameters.length) = some 2)⟩, gt8 53 rfl rfl, gs_in 54 rfl, rfl, nlt rfl⟩
set_option maxRecDepth 100000 in
set_option maxHeartbeats 4000000 in
theorem c_Mo_staysElsewhere {G : jG} {S : hS} {V : hV} {v0 : Option Nat} {v1 : Int32} {v2 : Int32} {res : Int32} (hf : Mo_staysElsewhere S v0 v1 v2 V = some res) : jC G M_Mo_staysElsewhere [ar v0, ai v1, ai v2] (S, V) (some (ai res)) (S, V) := by
  unfold Mo_staysElsewhere at hf
  obtain ⟨_, _, hf⟩ := jbind hf
  refine jC_of (pf_X12 _ _) rfl (nle rfl) ?_
  show jJ G M_Mo_staysElsewhere (jEnd G M_Mo_staysElsewhere (some (ai res)) (S, V)) 0 0 0 [(0, ar v0), (1, ai v1), (2, ai v2)] [] (S, V)
  refine j_aload_n (dt_Mo_staysElsewhere 0 (0, .aload_n 0, 1) rfl) rfl ?_
  obtain ⟨x1, hx1, hf⟩ := jbind hf
  refine j_getR (dt_Mo_staysElsewhere 1 (1, .getfield 136, 3) rfl) fl_X12_136 hx1 (fun _ _ => rfl) ?_
  refine j_iload_n (dt_Mo_staysElsewhere 2 (4, .iload_n 1, 1) rfl) rfl ?_
  obtain ⟨x2, hx2, hf⟩ := jbind hf
  refine j_aldI (dt_Mo_staysElsewhere 3 (5, .iaload, 1) rfl) hx2 ?_
  refine j_istore_n (dt_Mo_staysElsewhere 4 (6, .istore_n 3, 1) rfl) (nlt rfl) ?_
  refine j_aload_n (dt_Mo_staysElsewhere 5 (7, .aload_n 0, 1) rfl) rfl ?_
  obtain ⟨x3, hx3, hf⟩ := jbind hf
  refine j_getI (dt_Mo_staysElsewhere 6 (8, .getfield 401, 3) rfl) fl_X12_401 hx3 (fun _ _ => rfl) ?_
  refine jite hf (fun hc hf => ?_) (fun hc hf => ?_)
  · refine j_if_eq (dt_Mo_staysElsewhere 7 (11, .ifCond .eq 39, 3) rfl) rfl (fun _ => ?_) (fun q => absurd hc q)
    refine j_iconst (dt_Mo_staysElsewhere 28 (50, .iconst 0, 1) rfl) ic_0 ?_
    cases hf
    exact j_zret (x := 0) (dt_Mo_staysElsewhere 29 (51, .ireturn, 1) rfl) rfl rfl
  · refine j_if_eq (dt_Mo_staysElsewhere 7 (11, .ifCond .eq 39, 3) rfl) rfl (fun q => absurd q hc) (fun _ => ?_)
    refine j_aload_n (dt_Mo_staysElsewhere 8 (14, .aload_n 0, 1) rfl) rfl ?_
    obtain ⟨x4, hx4, hf⟩ := jbind hf
    refine j_getR (dt_Mo_staysElsewhere 9 (15, .getfield 84, 3) rfl) fl_X12_84 hx4 (fun _ _ => rfl) ?_
    refine j_iload_n (dt_Mo_staysElsewhere 10 (18, .iload_n 3, 1) rfl) rfl ?_
    obtain ⟨x5, hx5, hf⟩ := jbind hf
    refine j_aldZ (dt_Mo_staysElsewhere 11 (19, .baload, 1) rfl) hx5 ?_
    refine jite hf (fun hc hf => ?_) (fun hc hf => ?_)
    · refine j_if_eq (dt_Mo_staysElsewhere 12 (20, .ifCond .eq 30, 3) rfl) rfl (fun _ => ?_) (fun q => absurd hc q)
      refine j_iconst (dt_Mo_staysElsewhere 28 (50, .iconst 0, 1) rfl) ic_0 ?_
      cases hf
      exact j_zret (x := 0) (dt_Mo_staysElsewhere 29 (51, .ireturn, 1) rfl) rfl rfl
    · refine j_if_eq (dt_Mo_staysElsewhere 12 (20, .ifCond .eq 30, 3) rfl) rfl (fun q => absurd q hc) (fun _ => ?_)
      refine j_aload_n (dt_Mo_staysElsewhere 13 (23, .aload_n 0, 1) rfl) rfl ?_
      obtain ⟨x6, hx6, hf⟩ := jbind hf
      refine j_getR (dt_Mo_staysElsewhere 14 (24, .getfield 87, 3) rfl) fl_X12_87 hx6 (fun _ _ => rfl) ?_
      refine j_iload_n (dt_Mo_staysElsewhere 15 (27, .iload_n 3, 1) rfl) rfl ?_
      obtain ⟨x7, hx7, hf⟩ := jbind hf
      refine j_aldI (dt_Mo_staysElsewhere 16 (28, .iaload, 1) rfl) hx7 ?_
      refine j_aload_n (dt_Mo_staysElsewhere 17 (29, .aload_n 0, 1) rfl) rfl ?_
      obtain ⟨x8, hx8, hf⟩ := jbind hf
      refine j_getI (dt_Mo_staysElsewhere 18 (30, .getfield 405, 3) rfl) fl_X12_405 hx8 (fun _ _ => rfl) ?_
      refine jite hf (fun hc hf => ?_) (fun hc hf => ?_)
      · refine j_icmp_ne (dt_Mo_staysElsewhere 19 (33, .if_icmp .ne 17, 3) rfl) rfl (fun q => absurd hc q) (fun _ => ?_)
        refine j_aload_n (dt_Mo_staysElsewhere 20 (36, .aload_n 0, 1) rfl) rfl ?_
        obtain ⟨x9, hx9, hf⟩ := jbind hf
        refine j_getR (dt_Mo_staysElsewhere 21 (37, .getfield 90, 3) rfl) fl_X12_90 hx9 (fun _ _ => rfl) ?_
        refine j_iload_n (dt_Mo_staysElsewhere 22 (40, .iload_n 3, 1) rfl) rfl ?_
        obtain ⟨x10, hx10, hf⟩ := jbind hf
        refine j_aldI (dt_Mo_staysElsewhere 23 (41, .iaload, 1) rfl) hx10 ?_
        refine j_iload_n (dt_Mo_staysElsewhere 24 (42, .iload_n 2, 1) rfl) rfl ?_
        refine jite hf (fun hc hf => ?_) (fun hc hf => ?_)
        · refine j_icmp_eq (dt_Mo_staysElsewhere 25 (43, .if_icmp .eq 7, 3) rfl) rfl (fun _ => ?_) (fun q => absurd hc q)
          refine j_iconst (dt_Mo_staysElsewhere 28 (50, .iconst 0, 1) rfl) ic_0 ?_
          cases hf
          exact j_zret (x := 0) (dt_Mo_staysElsewhere 29 (51, .ireturn, 1) rfl) rfl rfl
        · refine j_icmp_eq (dt_Mo_staysElsewhere 25 (43, .if_icmp .eq 7, 3) rfl) rfl (fun q => absurd q hc) (fun _ => ?_)
          refine j_iconst (dt_Mo_staysElsewhere 26 (46, .iconst 1, 1) rfl) ic_1 ?_
          refine j_goto (dt_Mo_staysElsewhere 27 (47, .goto 4, 3) rfl) rfl ?_
          cases hf
          exact j_zret (x := 1) (dt_Mo_staysElsewhere 29 (51, .ireturn, 1) rfl) rfl rfl
      · refine j_icmp_ne (dt_Mo_staysElsewhere 19 (33, .if_icmp .ne 17, 3) rfl) rfl (fun _ => ?_) (fun q => absurd q hc)
        refine j_iconst (dt_Mo_staysElsewhere 28 (50, .iconst 0, 1) rfl) ic_0 ?_
        cases hf
        exact j_zret (x := 0) (dt_Mo_staysElsewhere 29 (51, .ireturn, 1) rfl) rfl rfl
theorem r_Mo_staysElsewhere {S : hS} {V : hV} {v0 : Option Nat} {v1 : Int32} {v2 : Int32} {res : Int32} (hf : Mo_staysElsewhere S v0 v1 v2 V = some res) : ∃ b, rc S 12 v0 = some b := by
  unfold Mo_staysElsewhere at hf
  obtain ⟨b, hb, _⟩ := jbind hf
  exact ⟨b, hb⟩
def tb_Mo_seatsFrom : List (Nat × Instr × Nat) := [(0, .iload_n 1, 1), (1, .aload_n 0, 1), (2, .getfield 382, 3), (5, .if_icmp .ne 11, 3), (8, .aload_n 0, 1), (9, .iload_n 3, 1), (10, .iload 4, 2), (12, .invokevirtual 430, 3), (15, .return_, 1), (16, .iconst 0, 1), (17, .istore 5, 2), (19, .iload 5, 2), (21, .aload_n 0, 1), (22, .getfield 394, 3), (25, .if_icmp .ge 131, 3), (28, .iload_n 2, 1), (29, .iload 5, 2), (31, .ishr, 1), (32, .iconst 1, 1), (33, .iand, 1), (34, .iconst 1, 1), (35, .if_icmp .eq 115, 3), (38, .aload_n 0, 1), (39, .iload_n 1, 1), (40, .iload 5, 2), (42, .invokevirtual 433, 3), (45, .ifCond .eq 6, 3), (48, .goto 102, 3), (51, .aload_n 0, 1), (52, .getfield 148, 3), (55, .iload_n 1, 1), (56, .iload 5, 2), (58, .iastore, 1), (59, .iload_n 3, 1), (60, .istore 6, 2), (62, .iload 4, 2), (64, .istore 7, 2), (66, .iconst 0, 1), (67, .istore 8, 2), (69, .iload 8, 2), (71, .iload_n 1, 1), (72, .if_icmp .ge 61, 3), (75, .bipush 80, 2), (77, .bipush 8, 2), (79, .iload 8, 2), (81, .imul, 1), (82, .aload_n 0, 1), (83, .getfield 148, 3), (86, .iload 8, 2), (88, .iaload, 1), (89, .iadd, 1), (90, .imul, 1), (91, .bipush 8, 2), (93, .iload_n 1, 1), (94, .imul, 1), (95, .iadd, 1), (96, .iload 5, 2), (98, .iadd, 1), (99, .istore 9, 2), (101, .iload 6, 2), (103, .aload_n 0, 1), (104, .getfield 142, 3), (107, .iload 9, 2), (109, .iaload, 1), (110, .iadd, 1), (111, .istore 6, 2), (113, .iload 7, 2), (115, .aload_n 0, 1), (116, .getfield 145, 3), (119, .iload 9, 2), (121, .iaload, 1), (122, .invokestatic 334, 3), (125, .istore 7, 2), (127, .iinc 8 1, 3), (130, .goto (-61), 3), (133, .aload_n 0, 1), (134, .iload_n 1, 1), (135, .iconst 1, 1), (136, .iadd, 1), (137, .iload_n 2, 1), (138, .iconst 1, 1), (139, .iload 5, 2), (141, .ishl, 1), (142, .ior, 1), (143, .iload 6, 2), (145, .iload 7, 2), (147, .invokevirtual 436, 3), (150, .iinc 5 1, 3), (153, .goto (-134), 3), (156, .return_, 1)]
theorem dt_Mo_seatsFrom (i : Nat) (q : Nat × Instr × Nat) (h : tb_Mo_seatsFrom[i]? = some q) : decode prog_14_method_75_code q.1 = .ok q.2 := jdt (by decide +kernel : tb_Mo_seatsFrom.all (fun q => decide (decode prog_14_method_75_code q.1 = .ok q.2)) = true) h
theorem ok_Mo_seatsFrom {n : Nat} : jOKV (M_Mo_seatsFrom n) 4 := ⟨⟨gt8 42 rfl rfl, gt1 17 rfl rfl, (by decide : "FirstInModel" ≠ "java/lang/invoke/MethodHandle"), (by decide : "FirstInModel" ≠ "java/lang/invoke/VarHandle"), (by decide +kernel : (parseMethodDescriptor "(IIII)V").map (fun d => d.parameters.length) = some 4)⟩, gt8 41 rfl rfl, gs_in 51 rfl, rfl, nlt rfl⟩
set_option maxRecDepth 100000 in
set_option maxHeartbeats 4000000 in
theorem c_Mo_seatsFrom_B {G : jG} {S : hS} {n : Nat} {F : (Option Nat) → Int32 → Int32 → Int32 → Int32 → hV → Option (hV)} (hF : ∀ {V : hV} {v0 : Option Nat} {v1 : Int32} {v2 : Int32} {v3 : Int32} {v4 : Int32} {res : hV}, F v0 v1 v2 v3 v4 V = some res → jC G (M_Mo_seatsFrom n) [ar v0, ai v1, ai v2, ai v3, ai v4] (S, V) none (S, res)) (hFr : ∀ {V : hV} {v0 : Option Nat} {v1 : Int32} {v2 : Int32} {v3 : Int32} {v4 : Int32} {res : hV}, F v0 v1 v2 v3 v4 V = some res → ∃ b, rc S 12 v0 = some b) {V : hV} {v0 : Option Nat} {v1 : Int32} {v2 : Int32} {v3 : Int32} {v4 : Int32} {res : hV} (hf : Mo_seatsFrom_B S F v0 v1 v2 v3 v4 V = some res) : jC G (M_Mo_seatsFrom (n + 1)) [ar v0, ai v1, ai v2, ai v3, ai v4] (S, V) none (S, res) := by
  unfold Mo_seatsFrom_B at hf
  obtain ⟨_, _, hf⟩ := jbind hf
  refine jC_of (pf_X12 _ _) rfl (nle rfl) ?_
  show jJ G (M_Mo_seatsFrom (n + 1)) (jEnd G (M_Mo_seatsFrom (n + 1)) none (S, res)) 0 0 0 [(0, ar v0), (1, ai v1), (2, ai v2), (3, ai v3), (4, ai v4)] [] (S, V)
  refine j_iload_n (dt_Mo_seatsFrom 0 (0, .iload_n 1, 1) rfl) rfl ?_
  refine j_aload_n (dt_Mo_seatsFrom 1 (1, .aload_n 0, 1) rfl) rfl ?_
  obtain ⟨x1, hx1, hf⟩ := jbind hf
  refine j_getI (dt_Mo_seatsFrom 2 (2, .getfield 382, 3) rfl) fl_X12_382 hx1 (fun _ _ => rfl) ?_
  refine jite hf (fun hc hf => ?_) (fun hc hf => ?_)
  · refine j_icmp_ne (dt_Mo_seatsFrom 3 (5, .if_icmp .ne 11, 3) rfl) rfl (fun q => absurd hc q) (fun _ => ?_)
    refine j_aload_n (dt_Mo_seatsFrom 4 (8, .aload_n 0, 1) rfl) rfl ?_
    refine j_iload_n (dt_Mo_seatsFrom 5 (9, .iload_n 3, 1) rfl) rfl ?_
    refine j_iload (dt_Mo_seatsFrom 6 (10, .iload 4, 2) rfl) rfl ?_
    obtain ⟨V15, hV15, hf⟩ := jbind hf
    obtain ⟨b16, hb16⟩ := r_Mo_meets hV15
    refine j_callV M_Mo_meets 2 [ai v3, ai v4] (rest := []) (dt_Mo_seatsFrom 7 (12, .invokevirtual 430, 3) rfl) ml_X12_430 ok_Mo_meets (jfit rfl rfl ⟨rfl, rfl⟩ (nle rfl) (by omega)) rfl rfl (nle rfl) ⟨rfl, rfl⟩ hb16 ((c_Mo_meets hV15)) ?_
    cases hf
    exact j_vret (dt_Mo_seatsFrom 8 (15, .return_, 1) rfl) rfl
  · refine j_icmp_ne (dt_Mo_seatsFrom 3 (5, .if_icmp .ne 11, 3) rfl) rfl (fun _ => ?_) (fun q => absurd q hc)
    refine j_iconst (dt_Mo_seatsFrom 9 (16, .iconst 0, 1) rfl) ic_0 ?_
    refine j_istore (dt_Mo_seatsFrom 10 (17, .istore 5, 2) rfl) (nlt rfl) ?_
    obtain ⟨t19, ht19, hf⟩ := jbind hf
    have hX19 : ∀ q19 : hV, q19 = t19 → jJ G (M_Mo_seatsFrom (n + 1)) (jEnd G (M_Mo_seatsFrom (n + 1)) none (S, res)) 0 0 156 [] [] (S, q19) := by
      intro q19 hq19
      subst hq19
      cases hf
      exact j_vret (dt_Mo_seatsFrom 89 (156, .return_, 1) rfl) rfl
    refine j_sub (ls' := [(0, ar v0), (1, ai v1), (2, ai v2), (3, ai v3), (4, ai v4), (5, ai 0)]) rfl ?_
    refine jloop_J (C := fun s19 => jJ G (M_Mo_seatsFrom (n + 1)) (jEnd G (M_Mo_seatsFrom (n + 1)) none (S, res)) 0 0 19 [(0, ar v0), (1, ai v1), (2, ai v2), (3, ai v3), (4, ai v4), (5, ai s19.1)] [] (S, s19.2)) (fun s19 z19_ hy19 hin19 hout19 => ?_) _ _ ht19
    unfold Mo_seatsFrom_L19 at hy19
    refine j_iload (dt_Mo_seatsFrom 11 (19, .iload 5, 2) rfl) rfl ?_
    refine j_aload_n (dt_Mo_seatsFrom 12 (21, .aload_n 0, 1) rfl) rfl ?_
    obtain ⟨x2, hx2, hy19⟩ := jbind hy19
    refine j_getI (dt_Mo_seatsFrom 13 (22, .getfield 394, 3) rfl) fl_X12_394 hx2 (fun _ _ => rfl) ?_
    refine jite hy19 (fun hc hy19 => ?_) (fun hc hy19 => ?_)
    · refine j_icmp_ge (dt_Mo_seatsFrom 14 (25, .if_icmp .ge 131, 3) rfl) rfl (fun _ => ?_) (fun q => absurd hc q)
      cases hy19
      have hz := hX19 _ (hout19 _ rfl)
      exact j_sub rfl hz
    · refine j_icmp_ge (dt_Mo_seatsFrom 14 (25, .if_icmp .ge 131, 3) rfl) rfl (fun q => absurd q hc) (fun _ => ?_)
      refine j_iload_n (dt_Mo_seatsFrom 15 (28, .iload_n 2, 1) rfl) rfl ?_
      refine j_iload (dt_Mo_seatsFrom 16 (29, .iload 5, 2) rfl) rfl ?_
      refine j_ishr (dt_Mo_seatsFrom 17 (31, .ishr, 1) rfl) ?_
      refine j_iconst (dt_Mo_seatsFrom 18 (32, .iconst 1, 1) rfl) ic_1 ?_
      refine j_iand (dt_Mo_seatsFrom 19 (33, .iand, 1) rfl) ?_
      refine j_iconst (dt_Mo_seatsFrom 20 (34, .iconst 1, 1) rfl) ic_1 ?_
      refine jite hy19 (fun hc hy19 => ?_) (fun hc hy19 => ?_)
      · refine j_icmp_eq (dt_Mo_seatsFrom 21 (35, .if_icmp .eq 115, 3) rfl) rfl (fun _ => ?_) (fun q => absurd hc q)
        refine j_iinc (dt_Mo_seatsFrom 87 (150, .iinc 5 1, 3) rfl) rfl (nlt rfl) (ii_1 _) ?_
        refine j_goto (dt_Mo_seatsFrom 88 (153, .goto (-134), 3) rfl) rfl ?_
        cases hy19
        have hz := hin19 _ rfl
        exact j_sub rfl hz
      · refine j_icmp_eq (dt_Mo_seatsFrom 21 (35, .if_icmp .eq 115, 3) rfl) rfl (fun q => absurd q hc) (fun _ => ?_)
        refine j_aload_n (dt_Mo_seatsFrom 22 (38, .aload_n 0, 1) rfl) rfl ?_
        refine j_iload_n (dt_Mo_seatsFrom 23 (39, .iload_n 1, 1) rfl) rfl ?_
        refine j_iload (dt_Mo_seatsFrom 24 (40, .iload 5, 2) rfl) rfl ?_
        obtain ⟨x3, hx3, hy19⟩ := jbind hy19
        obtain ⟨b4, hb4⟩ := r_Mo_staysElsewhere hx3
        refine j_callV M_Mo_staysElsewhere 2 [ai v1, ai s19.1] (rest := []) (dt_Mo_seatsFrom 25 (42, .invokevirtual 433, 3) rfl) ml_X12_433 ok_Mo_staysElsewhere (jfit rfl rfl ⟨rfl, rfl⟩ (nle rfl) (by omega)) rfl rfl (nle rfl) ⟨rfl, rfl⟩ hb4 ((c_Mo_staysElsewhere hx3)) ?_
        refine jite hy19 (fun hc hy19 => ?_) (fun hc hy19 => ?_)
        · refine j_if_eq (dt_Mo_seatsFrom 26 (45, .ifCond .eq 6, 3) rfl) rfl (fun _ => ?_) (fun q => absurd hc q)
          refine j_aload_n (dt_Mo_seatsFrom 28 (51, .aload_n 0, 1) rfl) rfl ?_
          obtain ⟨x5, hx5, hy19⟩ := jbind hy19
          refine j_getR (dt_Mo_seatsFrom 29 (52, .getfield 148, 3) rfl) fl_X12_148 hx5 (fun _ _ => rfl) ?_
          refine j_iload_n (dt_Mo_seatsFrom 30 (55, .iload_n 1, 1) rfl) rfl ?_
          refine j_iload (dt_Mo_seatsFrom 31 (56, .iload 5, 2) rfl) rfl ?_
          obtain ⟨V6, hV6, hy19⟩ := jbind hy19
          refine j_astI (dt_Mo_seatsFrom 32 (58, .iastore, 1) rfl) hV6 ?_
          refine j_iload_n (dt_Mo_seatsFrom 33 (59, .iload_n 3, 1) rfl) rfl ?_
          refine j_istore (dt_Mo_seatsFrom 34 (60, .istore 6, 2) rfl) (nlt rfl) ?_
          refine j_iload (dt_Mo_seatsFrom 35 (62, .iload 4, 2) rfl) rfl ?_
          refine j_istore (dt_Mo_seatsFrom 36 (64, .istore 7, 2) rfl) (nlt rfl) ?_
          refine j_iconst (dt_Mo_seatsFrom 37 (66, .iconst 0, 1) rfl) ic_0 ?_
          refine j_istore (dt_Mo_seatsFrom 38 (67, .istore 8, 2) rfl) (nlt rfl) ?_
          obtain ⟨t69, ht69, hy19⟩ := jbind hy19
          have hX69 : ∀ q69 : Int32 × Int32, q69 = t69 → jJ G (M_Mo_seatsFrom (n + 1)) (jEnd G (M_Mo_seatsFrom (n + 1)) none (S, res)) 0 0 133 [(0, ar v0), (1, ai v1), (2, ai v2), (3, ai v3), (4, ai v4), (5, ai s19.1), (6, ai q69.1), (7, ai q69.2)] [] (S, V6) := by
            intro q69 hq69
            subst hq69
            refine j_aload_n (dt_Mo_seatsFrom 75 (133, .aload_n 0, 1) rfl) rfl ?_
            refine j_iload_n (dt_Mo_seatsFrom 76 (134, .iload_n 1, 1) rfl) rfl ?_
            refine j_iconst (dt_Mo_seatsFrom 77 (135, .iconst 1, 1) rfl) ic_1 ?_
            refine j_iadd (dt_Mo_seatsFrom 78 (136, .iadd, 1) rfl) ?_
            refine j_iload_n (dt_Mo_seatsFrom 79 (137, .iload_n 2, 1) rfl) rfl ?_
            refine j_iconst (dt_Mo_seatsFrom 80 (138, .iconst 1, 1) rfl) ic_1 ?_
            refine j_iload (dt_Mo_seatsFrom 81 (139, .iload 5, 2) rfl) rfl ?_
            refine j_ishl (dt_Mo_seatsFrom 82 (141, .ishl, 1) rfl) ?_
            refine j_ior (dt_Mo_seatsFrom 83 (142, .ior, 1) rfl) ?_
            refine j_iload (dt_Mo_seatsFrom 84 (143, .iload 6, 2) rfl) rfl ?_
            refine j_iload (dt_Mo_seatsFrom 85 (145, .iload 7, 2) rfl) rfl ?_
            obtain ⟨V13, hV13, hy19⟩ := jbind hy19
            obtain ⟨b14, hb14⟩ := hFr hV13
            refine j_callV (M_Mo_seatsFrom n) 4 [ai (v1 + 1), ai (v2 ||| (shl 1 s19.1)), ai q69.1, ai q69.2] (rest := []) (dt_Mo_seatsFrom 86 (147, .invokevirtual 436, 3) rfl) ml_X12_436 ok_Mo_seatsFrom (jfit rfl rfl ⟨rfl, rfl⟩ (nle rfl) (by omega)) rfl rfl (nle rfl) ⟨rfl, rfl⟩ hb14 (hF hV13) ?_
            refine j_iinc (dt_Mo_seatsFrom 87 (150, .iinc 5 1, 3) rfl) rfl (nlt rfl) (ii_1 _) ?_
            refine j_goto (dt_Mo_seatsFrom 88 (153, .goto (-134), 3) rfl) rfl ?_
            cases hy19
            have hz := hin19 _ rfl
            exact j_sub rfl hz
          refine j_sub (ls' := [(0, ar v0), (1, ai v1), (2, ai v2), (3, ai v3), (4, ai v4), (5, ai s19.1), (6, ai v3), (7, ai v4), (8, ai 0)]) rfl ?_
          refine jloop_J (C := fun s69 => jJ G (M_Mo_seatsFrom (n + 1)) (jEnd G (M_Mo_seatsFrom (n + 1)) none (S, res)) 0 0 69 [(0, ar v0), (1, ai v1), (2, ai v2), (3, ai v3), (4, ai v4), (5, ai s19.1), (6, ai s69.1), (7, ai s69.2.1), (8, ai s69.2.2)] [] (S, V6)) (fun s69 z69_ hy69 hin69 hout69 => ?_) _ _ ht69
          unfold Mo_seatsFrom_L69 at hy69
          refine j_iload (dt_Mo_seatsFrom 39 (69, .iload 8, 2) rfl) rfl ?_
          refine j_iload_n (dt_Mo_seatsFrom 40 (71, .iload_n 1, 1) rfl) rfl ?_
          refine jite hy69 (fun hc hy69 => ?_) (fun hc hy69 => ?_)
          · refine j_icmp_ge (dt_Mo_seatsFrom 41 (72, .if_icmp .ge 61, 3) rfl) rfl (fun _ => ?_) (fun q => absurd hc q)
            cases hy69
            have hz := hX69 _ (hout69 _ rfl)
            exact j_sub rfl hz
          · refine j_icmp_ge (dt_Mo_seatsFrom 41 (72, .if_icmp .ge 61, 3) rfl) rfl (fun q => absurd q hc) (fun _ => ?_)
            refine j_bipush (dt_Mo_seatsFrom 42 (75, .bipush 80, 2) rfl) bp_80 ?_
            refine j_bipush (dt_Mo_seatsFrom 43 (77, .bipush 8, 2) rfl) bp_8 ?_
            refine j_iload (dt_Mo_seatsFrom 44 (79, .iload 8, 2) rfl) rfl ?_
            refine j_imul (dt_Mo_seatsFrom 45 (81, .imul, 1) rfl) ?_
            refine j_aload_n (dt_Mo_seatsFrom 46 (82, .aload_n 0, 1) rfl) rfl ?_
            obtain ⟨x7, hx7, hy69⟩ := jbind hy69
            refine j_getR (dt_Mo_seatsFrom 47 (83, .getfield 148, 3) rfl) fl_X12_148 hx7 (fun _ _ => rfl) ?_
            refine j_iload (dt_Mo_seatsFrom 48 (86, .iload 8, 2) rfl) rfl ?_
            obtain ⟨x8, hx8, hy69⟩ := jbind hy69
            refine j_aldI (dt_Mo_seatsFrom 49 (88, .iaload, 1) rfl) hx8 ?_
            refine j_iadd (dt_Mo_seatsFrom 50 (89, .iadd, 1) rfl) ?_
            refine j_imul (dt_Mo_seatsFrom 51 (90, .imul, 1) rfl) ?_
            refine j_bipush (dt_Mo_seatsFrom 52 (91, .bipush 8, 2) rfl) bp_8 ?_
            refine j_iload_n (dt_Mo_seatsFrom 53 (93, .iload_n 1, 1) rfl) rfl ?_
            refine j_imul (dt_Mo_seatsFrom 54 (94, .imul, 1) rfl) ?_
            refine j_iadd (dt_Mo_seatsFrom 55 (95, .iadd, 1) rfl) ?_
            refine j_iload (dt_Mo_seatsFrom 56 (96, .iload 5, 2) rfl) rfl ?_
            refine j_iadd (dt_Mo_seatsFrom 57 (98, .iadd, 1) rfl) ?_
            refine j_istore (dt_Mo_seatsFrom 58 (99, .istore 9, 2) rfl) (nlt rfl) ?_
            refine j_iload (dt_Mo_seatsFrom 59 (101, .iload 6, 2) rfl) rfl ?_
            refine j_aload_n (dt_Mo_seatsFrom 60 (103, .aload_n 0, 1) rfl) rfl ?_
            obtain ⟨x9, hx9, hy69⟩ := jbind hy69
            refine j_getR (dt_Mo_seatsFrom 61 (104, .getfield 142, 3) rfl) fl_X12_142 hx9 (fun _ _ => rfl) ?_
            refine j_iload (dt_Mo_seatsFrom 62 (107, .iload 9, 2) rfl) rfl ?_
            obtain ⟨x10, hx10, hy69⟩ := jbind hy69
            refine j_aldI (dt_Mo_seatsFrom 63 (109, .iaload, 1) rfl) hx10 ?_
            refine j_iadd (dt_Mo_seatsFrom 64 (110, .iadd, 1) rfl) ?_
            refine j_istore (dt_Mo_seatsFrom 65 (111, .istore 6, 2) rfl) (nlt rfl) ?_
            refine j_iload (dt_Mo_seatsFrom 66 (113, .iload 7, 2) rfl) rfl ?_
            refine j_aload_n (dt_Mo_seatsFrom 67 (115, .aload_n 0, 1) rfl) rfl ?_
            obtain ⟨x11, hx11, hy69⟩ := jbind hy69
            refine j_getR (dt_Mo_seatsFrom 68 (116, .getfield 145, 3) rfl) fl_X12_145 hx11 (fun _ _ => rfl) ?_
            refine j_iload (dt_Mo_seatsFrom 69 (119, .iload 9, 2) rfl) rfl ?_
            obtain ⟨x12, hx12, hy69⟩ := jbind hy69
            refine j_aldI (dt_Mo_seatsFrom 70 (121, .iaload, 1) rfl) hx12 ?_
            refine j_callS M_Jd_max 2 [ai s69.2.1, ai x12] (rest := []) (dt_Mo_seatsFrom 71 (122, .invokestatic 334, 3) rfl) ml_X12_334 ok_Jd_max (jfit rfl rfl ⟨rfl, rfl⟩ (nle rfl) (by omega)) rfl rfl (nle rfl) ⟨rfl, rfl⟩ (c_Jd_max rfl) ?_
            refine j_istore (dt_Mo_seatsFrom 72 (125, .istore 7, 2) rfl) (nlt rfl) ?_
            refine j_iinc (dt_Mo_seatsFrom 73 (127, .iinc 8 1, 3) rfl) rfl (nlt rfl) (ii_1 _) ?_
            refine j_goto (dt_Mo_seatsFrom 74 (130, .goto (-61), 3) rfl) rfl ?_
            cases hy69
            have hz := hin69 _ rfl
            exact j_sub rfl hz
        · refine j_if_eq (dt_Mo_seatsFrom 26 (45, .ifCond .eq 6, 3) rfl) rfl (fun q => absurd q hc) (fun _ => ?_)
          refine j_goto (dt_Mo_seatsFrom 27 (48, .goto 102, 3) rfl) rfl ?_
          refine j_iinc (dt_Mo_seatsFrom 87 (150, .iinc 5 1, 3) rfl) rfl (nlt rfl) (ii_1 _) ?_
          refine j_goto (dt_Mo_seatsFrom 88 (153, .goto (-134), 3) rfl) rfl ?_
          cases hy19
          have hz := hin19 _ rfl
          exact j_sub rfl hz
theorem r_Mo_seatsFrom {S : hS} (n : Nat) {V : hV} {v0 : Option Nat} {v1 : Int32} {v2 : Int32} {v3 : Int32} {v4 : Int32} {res : hV} (hf : Mo_seatsFrom S n v0 v1 v2 v3 v4 V = some res) : ∃ b, rc S 12 v0 = some b := by
  cases n with
  | zero => cases hf
  | succ n =>
    have hf : Mo_seatsFrom_B S (Mo_seatsFrom S n) v0 v1 v2 v3 v4 V = some res := hf
    unfold Mo_seatsFrom_B at hf
    obtain ⟨b, hb, _⟩ := jbind hf
    exact ⟨b, hb⟩
theorem c_Mo_seatsFrom {G : jG} {S : hS} : ∀ (n : Nat) {V : hV} {v0 : Option Nat} {v1 : Int32} {v2 : Int32} {v3 : Int32} {v4 : Int32} {res : hV}, Mo_seatsFrom S n v0 v1 v2 v3 v4 V = some res → jC G (M_Mo_seatsFrom n) [ar v0, ai v1, ai v2, ai v3, ai v4] (S, V) none (S, res)
  | 0, _, _, _, _, _, _, _, h => by cases h
  | n + 1, _, _, _, _, _, _, _, h => c_Mo_seatsFrom_B (fun h => c_Mo_seatsFrom n h) (fun h => r_Mo_seatsFrom n h) h
def tb_Mo_goesThrough : List (Nat × Instr × Nat) := [(0, .aload_n 0, 1), (1, .iload_n 1, 1), (2, .invokevirtual 297, 3), (5, .ifCond .ne 5, 3), (8, .iconst 0, 1), (9, .ireturn, 1), (10, .aload_n 0, 1), (11, .iconst 0, 1), (12, .putfield 382, 3), (15, .iconst 0, 1), (16, .istore_n 3, 1), (17, .iload_n 3, 1), (18, .aload_n 0, 1), (19, .getfield 44, 3), (22, .iconst 0, 1), (23, .iaload, 1), (24, .if_icmp .ge 41, 3), (27, .aload_n 0, 1), (28, .getfield 81, 3), (31, .iload_n 3, 1), (32, .baload, 1), (33, .ifCond .ne 6, 3), (36, .goto 23, 3), (39, .aload_n 0, 1), (40, .getfield 136, 3), (43, .aload_n 0, 1), (44, .getfield 382, 3), (47, .iload_n 3, 1), (48, .iastore, 1), (49, .aload_n 0, 1), (50, .dup, 1), (51, .getfield 382, 3), (54, .iconst 1, 1), (55, .iadd, 1), (56, .putfield 382, 3), (59, .iinc 3 1, 3), (62, .goto (-45), 3), (65, .aload_n 0, 1), (66, .aload_n 0, 1), (67, .getfield 96, 3), (70, .iload_n 1, 1), (71, .iaload, 1), (72, .putfield 394, 3), (75, .aload_n 0, 1), (76, .getfield 382, 3), (79, .bipush 7, 2), (81, .if_icmp .gt 23, 3), (84, .aload_n 0, 1), (85, .getfield 394, 3), (88, .bipush 8, 2), (90, .if_icmp .gt 14, 3), (93, .aload_n 0, 1), (94, .getfield 394, 3), (97, .aload_n 0, 1), (98, .getfield 382, 3), (101, .if_icmp .ge 5, 3), (104, .iconst 0, 1), (105, .ireturn, 1), (106, .aload_n 0, 1), (107, .iload_n 1, 1), (108, .putfield 405, 3), (111, .aload_n 0, 1), (112, .iload_n 2, 1), (113, .putfield 401, 3), (116, .aload_n 0, 1), (117, .iconst (-1), 1), (118, .putfield 424, 3), (121, .aload_n 0, 1), (122, .iconst 0, 1), (123, .putfield 427, 3), (126, .aload_n 0, 1), (127, .iconst (-1), 1), (128, .putfield 418, 3), (131, .aload_n 0, 1), (132, .iconst (-1), 1), (133, .putfield 411, 3), (136, .aload_n 0, 1), (137, .iload_n 1, 1), (138, .invokevirtual 440, 3), (141, .aload_n 0, 1), (142, .iconst 0, 1), (143, .iconst 0, 1), (144, .iconst 0, 1), (145, .iconst 0, 1), (146, .invokevirtual 436, 3), (149, .iconst 1, 1), (150, .ireturn, 1)]
theorem dt_Mo_goesThrough (i : Nat) (q : Nat × Instr × Nat) (h : tb_Mo_goesThrough[i]? = some q) : decode prog_14_method_76_code q.1 = .ok q.2 := jdt (by decide +kernel : tb_Mo_goesThrough.all (fun q => decide (decode prog_14_method_76_code q.1 = .ok q.2)) = true) h
theorem ok_Mo_goesThrough : jOKV M_Mo_goesThrough 2 := ⟨⟨gt8 30 rfl rfl, gt1 17 rfl rfl, (by decide : "FirstInModel" ≠ "java/lang/invoke/MethodHandle"), (by decide : "FirstInModel" ≠ "java/lang/invoke/VarHandle"), (by decide +kernel : (parseMethodDescriptor "(IZ)Z").map (fun d => d.parameters.length) = some 2)⟩, gt8 29 rfl rfl, gs_in 48 rfl, rfl, nlt rfl⟩
set_option maxRecDepth 100000 in
set_option maxHeartbeats 4000000 in
theorem c_Mo_goesThrough {G : jG} {S : hS} {V : hV} {v0 : Option Nat} {v1 : Int32} {v2 : Int32} {res : Int32 × hV} (hf : Mo_goesThrough S v0 v1 v2 V = some res) : jC G M_Mo_goesThrough [ar v0, ai v1, ai v2] (S, V) (some (ai res.1)) (S, res.2) := by
  unfold Mo_goesThrough at hf
  obtain ⟨_, _, hf⟩ := jbind hf
  refine jC_of (pf_X12 _ _) rfl (nle rfl) ?_
  show jJ G M_Mo_goesThrough (jEnd G M_Mo_goesThrough (some (ai res.1)) (S, res.2)) 0 0 0 [(0, ar v0), (1, ai v1), (2, ai v2)] [] (S, V)
  refine j_aload_n (dt_Mo_goesThrough 0 (0, .aload_n 0, 1) rfl) rfl ?_
  refine j_iload_n (dt_Mo_goesThrough 1 (1, .iload_n 1, 1) rfl) rfl ?_
  obtain ⟨x1, hx1, hf⟩ := jbind hf
  obtain ⟨b2, hb2⟩ := r_Mo_isRoom hx1
  refine j_callV M_Mo_isRoom 1 [ai v1] (rest := []) (dt_Mo_goesThrough 2 (2, .invokevirtual 297, 3) rfl) ml_X12_297 ok_Mo_isRoom (jfit rfl rfl ⟨rfl, rfl⟩ (nle rfl) (nlt rfl)) rfl rfl (nle rfl) ⟨rfl, rfl⟩ hb2 ((c_Mo_isRoom hx1)) ?_
  refine jite hf (fun hc hf => ?_) (fun hc hf => ?_)
  · refine j_if_ne (dt_Mo_goesThrough 3 (5, .ifCond .ne 5, 3) rfl) rfl (fun q => absurd hc q) (fun _ => ?_)
    refine j_iconst (dt_Mo_goesThrough 4 (8, .iconst 0, 1) rfl) ic_0 ?_
    cases hf
    exact j_zret (x := 0) (dt_Mo_goesThrough 5 (9, .ireturn, 1) rfl) rfl rfl
  · refine j_if_ne (dt_Mo_goesThrough 3 (5, .ifCond .ne 5, 3) rfl) rfl (fun _ => ?_) (fun q => absurd q hc)
    refine j_aload_n (dt_Mo_goesThrough 6 (10, .aload_n 0, 1) rfl) rfl ?_
    refine j_iconst (dt_Mo_goesThrough 7 (11, .iconst 0, 1) rfl) ic_0 ?_
    obtain ⟨V3, hV3, hf⟩ := jbind hf
    refine j_putI (dt_Mo_goesThrough 8 (12, .putfield 382, 3) rfl) fl_X12_382 hV3 rfl (Or.inl rfl) ?_
    refine j_iconst (dt_Mo_goesThrough 9 (15, .iconst 0, 1) rfl) ic_0 ?_
    refine j_istore_n (dt_Mo_goesThrough 10 (16, .istore_n 3, 1) rfl) (nlt rfl) ?_
    obtain ⟨t17, ht17, hf⟩ := jbind hf
    have hX17 : ∀ q17 : hV, q17 = t17 → jJ G M_Mo_goesThrough (jEnd G M_Mo_goesThrough (some (ai res.1)) (S, res.2)) 0 0 65 [(0, ar v0), (1, ai v1), (2, ai v2)] [] (S, q17) := by
      intro q17 hq17
      subst hq17
      refine j_aload_n (dt_Mo_goesThrough 37 (65, .aload_n 0, 1) rfl) rfl ?_
      refine j_aload_n (dt_Mo_goesThrough 38 (66, .aload_n 0, 1) rfl) rfl ?_
      obtain ⟨x13, hx13, hf⟩ := jbind hf
      refine j_getR (dt_Mo_goesThrough 39 (67, .getfield 96, 3) rfl) fl_X12_96 hx13 (fun _ _ => rfl) ?_
      refine j_iload_n (dt_Mo_goesThrough 40 (70, .iload_n 1, 1) rfl) rfl ?_
      obtain ⟨x14, hx14, hf⟩ := jbind hf
      refine j_aldI (dt_Mo_goesThrough 41 (71, .iaload, 1) rfl) hx14 ?_
      obtain ⟨V15, hV15, hf⟩ := jbind hf
      refine j_putI (dt_Mo_goesThrough 42 (72, .putfield 394, 3) rfl) fl_X12_394 hV15 rfl (Or.inl rfl) ?_
      refine j_aload_n (dt_Mo_goesThrough 43 (75, .aload_n 0, 1) rfl) rfl ?_
      obtain ⟨x16, hx16, hf⟩ := jbind hf
      refine j_getI (dt_Mo_goesThrough 44 (76, .getfield 382, 3) rfl) fl_X12_382 hx16 (fun _ _ => rfl) ?_
      refine j_bipush (dt_Mo_goesThrough 45 (79, .bipush 7, 2) rfl) bp_7 ?_
      refine jite hf (fun hc hf => ?_) (fun hc hf => ?_)
      · refine j_icmp_gt (dt_Mo_goesThrough 46 (81, .if_icmp .gt 23, 3) rfl) rfl (fun _ => ?_) (fun q => absurd hc q)
        refine j_iconst (dt_Mo_goesThrough 56 (104, .iconst 0, 1) rfl) ic_0 ?_
        cases hf
        exact j_zret (x := 0) (dt_Mo_goesThrough 57 (105, .ireturn, 1) rfl) rfl rfl
      · refine j_icmp_gt (dt_Mo_goesThrough 46 (81, .if_icmp .gt 23, 3) rfl) rfl (fun q => absurd q hc) (fun _ => ?_)
        refine j_aload_n (dt_Mo_goesThrough 47 (84, .aload_n 0, 1) rfl) rfl ?_
        obtain ⟨x17, hx17, hf⟩ := jbind hf
        refine j_getI (dt_Mo_goesThrough 48 (85, .getfield 394, 3) rfl) fl_X12_394 hx17 (fun _ _ => rfl) ?_
        refine j_bipush (dt_Mo_goesThrough 49 (88, .bipush 8, 2) rfl) bp_8 ?_
        refine jite hf (fun hc hf => ?_) (fun hc hf => ?_)
        · refine j_icmp_gt (dt_Mo_goesThrough 50 (90, .if_icmp .gt 14, 3) rfl) rfl (fun _ => ?_) (fun q => absurd hc q)
          refine j_iconst (dt_Mo_goesThrough 56 (104, .iconst 0, 1) rfl) ic_0 ?_
          cases hf
          exact j_zret (x := 0) (dt_Mo_goesThrough 57 (105, .ireturn, 1) rfl) rfl rfl
        · refine j_icmp_gt (dt_Mo_goesThrough 50 (90, .if_icmp .gt 14, 3) rfl) rfl (fun q => absurd q hc) (fun _ => ?_)
          refine j_aload_n (dt_Mo_goesThrough 51 (93, .aload_n 0, 1) rfl) rfl ?_
          obtain ⟨x18, hx18, hf⟩ := jbind hf
          refine j_getI (dt_Mo_goesThrough 52 (94, .getfield 394, 3) rfl) fl_X12_394 hx18 (fun _ _ => rfl) ?_
          refine j_aload_n (dt_Mo_goesThrough 53 (97, .aload_n 0, 1) rfl) rfl ?_
          obtain ⟨x19, hx19, hf⟩ := jbind hf
          refine j_getI (dt_Mo_goesThrough 54 (98, .getfield 382, 3) rfl) fl_X12_382 hx19 (fun _ _ => rfl) ?_
          refine jite hf (fun hc hf => ?_) (fun hc hf => ?_)
          · refine j_icmp_ge (dt_Mo_goesThrough 55 (101, .if_icmp .ge 5, 3) rfl) rfl (fun _ => ?_) (fun q => absurd hc q)
            refine j_aload_n (dt_Mo_goesThrough 58 (106, .aload_n 0, 1) rfl) rfl ?_
            refine j_iload_n (dt_Mo_goesThrough 59 (107, .iload_n 1, 1) rfl) rfl ?_
            obtain ⟨V20, hV20, hf⟩ := jbind hf
            refine j_putI (dt_Mo_goesThrough 60 (108, .putfield 405, 3) rfl) fl_X12_405 hV20 rfl (Or.inl rfl) ?_
            refine j_aload_n (dt_Mo_goesThrough 61 (111, .aload_n 0, 1) rfl) rfl ?_
            refine j_iload_n (dt_Mo_goesThrough 62 (112, .iload_n 2, 1) rfl) rfl ?_
            obtain ⟨V21, hV21, hf⟩ := jbind hf
            refine j_putZ (dt_Mo_goesThrough 63 (113, .putfield 401, 3) rfl) fl_X12_401 hV21 rfl (Or.inl rfl) ?_
            refine j_aload_n (dt_Mo_goesThrough 64 (116, .aload_n 0, 1) rfl) rfl ?_
            refine j_iconst (dt_Mo_goesThrough 65 (117, .iconst (-1), 1) rfl) ic_m1 ?_
            obtain ⟨V22, hV22, hf⟩ := jbind hf
            refine j_putI (dt_Mo_goesThrough 66 (118, .putfield 424, 3) rfl) fl_X12_424 hV22 rfl (Or.inl rfl) ?_
            refine j_aload_n (dt_Mo_goesThrough 67 (121, .aload_n 0, 1) rfl) rfl ?_
            refine j_iconst (dt_Mo_goesThrough 68 (122, .iconst 0, 1) rfl) ic_0 ?_
            obtain ⟨V23, hV23, hf⟩ := jbind hf
            refine j_putI (dt_Mo_goesThrough 69 (123, .putfield 427, 3) rfl) fl_X12_427 hV23 rfl (Or.inl rfl) ?_
            refine j_aload_n (dt_Mo_goesThrough 70 (126, .aload_n 0, 1) rfl) rfl ?_
            refine j_iconst (dt_Mo_goesThrough 71 (127, .iconst (-1), 1) rfl) ic_m1 ?_
            obtain ⟨V24, hV24, hf⟩ := jbind hf
            refine j_putI (dt_Mo_goesThrough 72 (128, .putfield 418, 3) rfl) fl_X12_418 hV24 rfl (Or.inl rfl) ?_
            refine j_aload_n (dt_Mo_goesThrough 73 (131, .aload_n 0, 1) rfl) rfl ?_
            refine j_iconst (dt_Mo_goesThrough 74 (132, .iconst (-1), 1) rfl) ic_m1 ?_
            obtain ⟨V25, hV25, hf⟩ := jbind hf
            refine j_putI (dt_Mo_goesThrough 75 (133, .putfield 411, 3) rfl) fl_X12_411 hV25 rfl (Or.inl rfl) ?_
            refine j_aload_n (dt_Mo_goesThrough 76 (136, .aload_n 0, 1) rfl) rfl ?_
            refine j_iload_n (dt_Mo_goesThrough 77 (137, .iload_n 1, 1) rfl) rfl ?_
            obtain ⟨V26, hV26, hf⟩ := jbind hf
            obtain ⟨b27, hb27⟩ := r_Mo_weighPlaces hV26
            refine j_callV M_Mo_weighPlaces 1 [ai v1] (rest := []) (dt_Mo_goesThrough 78 (138, .invokevirtual 440, 3) rfl) ml_X12_440 ok_Mo_weighPlaces (jfit rfl rfl ⟨rfl, rfl⟩ (nle rfl) (nlt rfl)) rfl rfl (nle rfl) ⟨rfl, rfl⟩ hb27 ((c_Mo_weighPlaces hV26)) ?_
            refine j_aload_n (dt_Mo_goesThrough 79 (141, .aload_n 0, 1) rfl) rfl ?_
            refine j_iconst (dt_Mo_goesThrough 80 (142, .iconst 0, 1) rfl) ic_0 ?_
            refine j_iconst (dt_Mo_goesThrough 81 (143, .iconst 0, 1) rfl) ic_0 ?_
            refine j_iconst (dt_Mo_goesThrough 82 (144, .iconst 0, 1) rfl) ic_0 ?_
            refine j_iconst (dt_Mo_goesThrough 83 (145, .iconst 0, 1) rfl) ic_0 ?_
            obtain ⟨V28, hV28, hf⟩ := jbind hf
            obtain ⟨b29, hb29⟩ := r_Mo_seatsFrom RD hV28
            refine j_callV (M_Mo_seatsFrom RD) 4 [ai 0, ai 0, ai 0, ai 0] (rest := []) (dt_Mo_goesThrough 84 (146, .invokevirtual 436, 3) rfl) ml_X12_436 ok_Mo_seatsFrom (jfit rfl rfl ⟨rfl, rfl⟩ (nle rfl) (nlt rfl)) rfl rfl (nle rfl) ⟨rfl, rfl⟩ hb29 ((c_Mo_seatsFrom RD hV28)) ?_
            refine j_iconst (dt_Mo_goesThrough 85 (149, .iconst 1, 1) rfl) ic_1 ?_
            cases hf
            exact j_zret (x := 1) (dt_Mo_goesThrough 86 (150, .ireturn, 1) rfl) rfl rfl
          · refine j_icmp_ge (dt_Mo_goesThrough 55 (101, .if_icmp .ge 5, 3) rfl) rfl (fun q => absurd q hc) (fun _ => ?_)
            refine j_iconst (dt_Mo_goesThrough 56 (104, .iconst 0, 1) rfl) ic_0 ?_
            cases hf
            exact j_zret (x := 0) (dt_Mo_goesThrough 57 (105, .ireturn, 1) rfl) rfl rfl
    refine j_sub (ls' := [(0, ar v0), (1, ai v1), (2, ai v2), (3, ai 0)]) rfl ?_
    refine jloop_J (C := fun s17 => jJ G M_Mo_goesThrough (jEnd G M_Mo_goesThrough (some (ai res.1)) (S, res.2)) 0 0 17 [(0, ar v0), (1, ai v1), (2, ai v2), (3, ai s17.1)] [] (S, s17.2)) (fun s17 z17_ hy17 hin17 hout17 => ?_) _ _ ht17
    unfold Mo_goesThrough_L17 at hy17
    refine j_iload_n (dt_Mo_goesThrough 11 (17, .iload_n 3, 1) rfl) rfl ?_
    refine j_aload_n (dt_Mo_goesThrough 12 (18, .aload_n 0, 1) rfl) rfl ?_
    obtain ⟨x4, hx4, hy17⟩ := jbind hy17
    refine j_getR (dt_Mo_goesThrough 13 (19, .getfield 44, 3) rfl) fl_X12_44 hx4 (fun _ _ => rfl) ?_
    refine j_iconst (dt_Mo_goesThrough 14 (22, .iconst 0, 1) rfl) ic_0 ?_
    obtain ⟨x5, hx5, hy17⟩ := jbind hy17
    refine j_aldI (dt_Mo_goesThrough 15 (23, .iaload, 1) rfl) hx5 ?_
    refine jite hy17 (fun hc hy17 => ?_) (fun hc hy17 => ?_)
    · refine j_icmp_ge (dt_Mo_goesThrough 16 (24, .if_icmp .ge 41, 3) rfl) rfl (fun _ => ?_) (fun q => absurd hc q)
      cases hy17
      have hz := hX17 _ (hout17 _ rfl)
      exact j_sub rfl hz
    · refine j_icmp_ge (dt_Mo_goesThrough 16 (24, .if_icmp .ge 41, 3) rfl) rfl (fun q => absurd q hc) (fun _ => ?_)
      refine j_aload_n (dt_Mo_goesThrough 17 (27, .aload_n 0, 1) rfl) rfl ?_
      obtain ⟨x6, hx6, hy17⟩ := jbind hy17
      refine j_getR (dt_Mo_goesThrough 18 (28, .getfield 81, 3) rfl) fl_X12_81 hx6 (fun _ _ => rfl) ?_
      refine j_iload_n (dt_Mo_goesThrough 19 (31, .iload_n 3, 1) rfl) rfl ?_
      obtain ⟨x7, hx7, hy17⟩ := jbind hy17
      refine j_aldZ (dt_Mo_goesThrough 20 (32, .baload, 1) rfl) hx7 ?_
      refine jite hy17 (fun hc hy17 => ?_) (fun hc hy17 => ?_)
      · refine j_if_ne (dt_Mo_goesThrough 21 (33, .ifCond .ne 6, 3) rfl) rfl (fun q => absurd hc q) (fun _ => ?_)
        refine j_goto (dt_Mo_goesThrough 22 (36, .goto 23, 3) rfl) rfl ?_
        refine j_iinc (dt_Mo_goesThrough 35 (59, .iinc 3 1, 3) rfl) rfl (nlt rfl) (ii_1 _) ?_
        refine j_goto (dt_Mo_goesThrough 36 (62, .goto (-45), 3) rfl) rfl ?_
        cases hy17
        have hz := hin17 _ rfl
        exact j_sub rfl hz
      · refine j_if_ne (dt_Mo_goesThrough 21 (33, .ifCond .ne 6, 3) rfl) rfl (fun _ => ?_) (fun q => absurd q hc)
        refine j_aload_n (dt_Mo_goesThrough 23 (39, .aload_n 0, 1) rfl) rfl ?_
        obtain ⟨x8, hx8, hy17⟩ := jbind hy17
        refine j_getR (dt_Mo_goesThrough 24 (40, .getfield 136, 3) rfl) fl_X12_136 hx8 (fun _ _ => rfl) ?_
        refine j_aload_n (dt_Mo_goesThrough 25 (43, .aload_n 0, 1) rfl) rfl ?_
        obtain ⟨x9, hx9, hy17⟩ := jbind hy17
        refine j_getI (dt_Mo_goesThrough 26 (44, .getfield 382, 3) rfl) fl_X12_382 hx9 (fun _ _ => rfl) ?_
        refine j_iload_n (dt_Mo_goesThrough 27 (47, .iload_n 3, 1) rfl) rfl ?_
        obtain ⟨V10, hV10, hy17⟩ := jbind hy17
        refine j_astI (dt_Mo_goesThrough 28 (48, .iastore, 1) rfl) hV10 ?_
        refine j_aload_n (dt_Mo_goesThrough 29 (49, .aload_n 0, 1) rfl) rfl ?_
        refine j_dup (dt_Mo_goesThrough 30 (50, .dup, 1) rfl) rfl ?_
        obtain ⟨x11, hx11, hy17⟩ := jbind hy17
        refine j_getI (dt_Mo_goesThrough 31 (51, .getfield 382, 3) rfl) fl_X12_382 hx11 (fun _ _ => rfl) ?_
        refine j_iconst (dt_Mo_goesThrough 32 (54, .iconst 1, 1) rfl) ic_1 ?_
        refine j_iadd (dt_Mo_goesThrough 33 (55, .iadd, 1) rfl) ?_
        obtain ⟨V12, hV12, hy17⟩ := jbind hy17
        refine j_putI (dt_Mo_goesThrough 34 (56, .putfield 382, 3) rfl) fl_X12_382 hV12 rfl (Or.inl rfl) ?_
        refine j_iinc (dt_Mo_goesThrough 35 (59, .iinc 3 1, 3) rfl) rfl (nlt rfl) (ii_1 _) ?_
        refine j_goto (dt_Mo_goesThrough 36 (62, .goto (-45), 3) rfl) rfl ?_
        cases hy17
        have hz := hin17 _ rfl
        exact j_sub rfl hz
theorem r_Mo_goesThrough {S : hS} {V : hV} {v0 : Option Nat} {v1 : Int32} {v2 : Int32} {res : Int32 × hV} (hf : Mo_goesThrough S v0 v1 v2 V = some res) : ∃ b, rc S 12 v0 = some b := by
  unfold Mo_goesThrough at hf
  obtain ⟨b, hb, _⟩ := jbind hf
  exact ⟨b, hb⟩
def tb_Mo_memberOf : List (Nat × Instr × Nat) := [(0, .iconst 0, 1), (1, .istore_n 2, 1), (2, .iload_n 2, 1), (3, .aload_n 0, 1), (4, .getfield 382, 3), (7, .if_icmp .ge 21, 3), (10, .aload_n 0, 1), (11, .getfield 136, 3), (14, .iload_n 2, 1), (15, .iaload, 1), (16, .iload_n 1, 1), (17, .if_icmp .ne 5, 3), (20, .iload_n 2, 1), (21, .ireturn, 1), (22, .iinc 2 1, 3), (25, .goto (-23), 3), (28, .iconst (-1), 1), (29, .ireturn, 1)]
theorem dt_Mo_memberOf (i : Nat) (q : Nat × Instr × Nat) (h : tb_Mo_memberOf[i]? = some q) : decode prog_14_method_77_code q.1 = .ok q.2 := jdt (by decide +kernel : tb_Mo_memberOf.all (fun q => decide (decode prog_14_method_77_code q.1 = .ok q.2)) = true) h
theorem ok_Mo_memberOf : jOKV M_Mo_memberOf 1 := ⟨⟨gt8 62 rfl rfl, gt1 17 rfl rfl, (by decide : "FirstInModel" ≠ "java/lang/invoke/MethodHandle"), (by decide : "FirstInModel" ≠ "java/lang/invoke/VarHandle"), (by decide +kernel : (parseMethodDescriptor "(I)I").map (fun d => d.parameters.length) = some 1)⟩, gt8 61 rfl rfl, gs_in 55 rfl, rfl, nlt rfl⟩
set_option maxRecDepth 100000 in
set_option maxHeartbeats 4000000 in
theorem c_Mo_memberOf {G : jG} {S : hS} {V : hV} {v0 : Option Nat} {v1 : Int32} {res : Int32} (hf : Mo_memberOf S v0 v1 V = some res) : jC G M_Mo_memberOf [ar v0, ai v1] (S, V) (some (ai res)) (S, V) := by
  unfold Mo_memberOf at hf
  obtain ⟨_, _, hf⟩ := jbind hf
  refine jC_of (pf_X12 _ _) rfl (nle rfl) ?_
  show jJ G M_Mo_memberOf (jEnd G M_Mo_memberOf (some (ai res)) (S, V)) 0 0 0 [(0, ar v0), (1, ai v1)] [] (S, V)
  refine j_iconst (dt_Mo_memberOf 0 (0, .iconst 0, 1) rfl) ic_0 ?_
  refine j_istore_n (dt_Mo_memberOf 1 (1, .istore_n 2, 1) rfl) (nlt rfl) ?_
  obtain ⟨t2, ht2, hf⟩ := jbind hf
  have hX2 : ∀ q2 : Unit, t2 = .inl q2 → jJ G M_Mo_memberOf (jEnd G M_Mo_memberOf (some (ai res)) (S, V)) 0 0 28 [] [] (S, V) := by
    intro q2 hq2
    subst hq2
    refine j_iconst (dt_Mo_memberOf 16 (28, .iconst (-1), 1) rfl) ic_m1 ?_
    cases hf
    exact j_iret (dt_Mo_memberOf 17 (29, .ireturn, 1) rfl) rfl
  have hR2 : ∀ v : Int32, t2 = .inr v → v = res := by
    intro v hv
    subst hv
    cases hf
    rfl
  refine j_sub (ls' := [(0, ar v0), (1, ai v1), (2, ai 0)]) rfl ?_
  refine jloop_J (C := fun s2 => jJ G M_Mo_memberOf (jEnd G M_Mo_memberOf (some (ai res)) (S, V)) 0 0 2 [(0, ar v0), (1, ai v1), (2, ai s2)] [] (S, V)) (fun s2 z2_ hy2 hin2 hout2 => ?_) _ _ ht2
  unfold Mo_memberOf_L2 at hy2
  refine j_iload_n (dt_Mo_memberOf 2 (2, .iload_n 2, 1) rfl) rfl ?_
  refine j_aload_n (dt_Mo_memberOf 3 (3, .aload_n 0, 1) rfl) rfl ?_
  obtain ⟨x1, hx1, hy2⟩ := jbind hy2
  refine j_getI (dt_Mo_memberOf 4 (4, .getfield 382, 3) rfl) fl_X12_382 hx1 (fun _ _ => rfl) ?_
  refine jite hy2 (fun hc hy2 => ?_) (fun hc hy2 => ?_)
  · refine j_icmp_ge (dt_Mo_memberOf 5 (7, .if_icmp .ge 21, 3) rfl) rfl (fun _ => ?_) (fun q => absurd hc q)
    cases hy2
    have hz := hX2 _ (hout2 _ rfl).symm
    exact j_sub rfl hz
  · refine j_icmp_ge (dt_Mo_memberOf 5 (7, .if_icmp .ge 21, 3) rfl) rfl (fun q => absurd q hc) (fun _ => ?_)
    refine j_aload_n (dt_Mo_memberOf 6 (10, .aload_n 0, 1) rfl) rfl ?_
    obtain ⟨x2, hx2, hy2⟩ := jbind hy2
    refine j_getR (dt_Mo_memberOf 7 (11, .getfield 136, 3) rfl) fl_X12_136 hx2 (fun _ _ => rfl) ?_
    refine j_iload_n (dt_Mo_memberOf 8 (14, .iload_n 2, 1) rfl) rfl ?_
    obtain ⟨x3, hx3, hy2⟩ := jbind hy2
    refine j_aldI (dt_Mo_memberOf 9 (15, .iaload, 1) rfl) hx3 ?_
    refine j_iload_n (dt_Mo_memberOf 10 (16, .iload_n 1, 1) rfl) rfl ?_
    refine jite hy2 (fun hc hy2 => ?_) (fun hc hy2 => ?_)
    · refine j_icmp_ne (dt_Mo_memberOf 11 (17, .if_icmp .ne 5, 3) rfl) rfl (fun q => absurd hc q) (fun _ => ?_)
      refine j_iload_n (dt_Mo_memberOf 12 (20, .iload_n 2, 1) rfl) rfl ?_
      cases hy2
      obtain rfl := hR2 _ (hout2 _ rfl).symm
      exact j_iret (dt_Mo_memberOf 13 (21, .ireturn, 1) rfl) rfl
    · refine j_icmp_ne (dt_Mo_memberOf 11 (17, .if_icmp .ne 5, 3) rfl) rfl (fun _ => ?_) (fun q => absurd q hc)
      refine j_iinc (dt_Mo_memberOf 14 (22, .iinc 2 1, 3) rfl) rfl (nlt rfl) (ii_1 _) ?_
      refine j_goto (dt_Mo_memberOf 15 (25, .goto (-23), 3) rfl) rfl ?_
      cases hy2
      have hz := hin2 _ rfl
      exact j_sub rfl hz
theorem r_Mo_memberOf {S : hS} {V : hV} {v0 : Option Nat} {v1 : Int32} {res : Int32} (hf : Mo_memberOf S v0 v1 V = some res) : ∃ b, rc S 12 v0 = some b := by
  unfold Mo_memberOf at hf
  obtain ⟨b, hb, _⟩ := jbind hf
  exact ⟨b, hb⟩
def tb_Mo_least : List (Nat × Instr × Nat) := [(0, .iload_n 2, 1), (1, .i2l, 1), (2, .lconst 0, 1), (3, .ldc2_w 338, 3), (6, .invokestatic 183, 3), (9, .ifCond .eq 12, 3), (12, .aload_n 0, 1), (13, .iload_n 1, 1), (14, .iconst 0, 1), (15, .invokevirtual 443, 3), (18, .ifCond .ne 5, 3), (21, .iconst (-1), 1), (22, .ireturn, 1), (23, .iload_n 2, 1), (24, .ifCond .ne 10, 3), (27, .aload_n 0, 1), (28, .getfield 424, 3), (31, .goto 31, 3), (34, .iload_n 2, 1), (35, .iconst 1, 1), (36, .if_icmp .ne 10, 3), (39, .aload_n 0, 1), (40, .getfield 427, 3), (43, .goto 19, 3), (46, .iload_n 2, 1), (47, .iconst 2, 1), (48, .if_icmp .ne 10, 3), (51, .aload_n 0, 1), (52, .getfield 421, 3), (55, .goto 7, 3), (58, .aload_n 0, 1), (59, .getfield 418, 3), (62, .ireturn, 1)]
theorem dt_Mo_least (i : Nat) (q : Nat × Instr × Nat) (h : tb_Mo_least[i]? = some q) : decode prog_14_method_78_code q.1 = .ok q.2 := jdt (by decide +kernel : tb_Mo_least.all (fun q => decide (decode prog_14_method_78_code q.1 = .ok q.2)) = true) h
theorem ok_Mo_least : jOKV M_Mo_least 2 := ⟨⟨gt8 26 rfl rfl, gt1 17 rfl rfl, (by decide : "FirstInModel" ≠ "java/lang/invoke/MethodHandle"), (by decide : "FirstInModel" ≠ "java/lang/invoke/VarHandle"), (by decide +kernel : (parseMethodDescriptor "(II)I").map (fun d => d.parameters.length) = some 2)⟩, gt8 24 rfl rfl, gt8 25 rfl rfl, rfl, nlt rfl⟩
set_option maxRecDepth 100000 in
set_option maxHeartbeats 4000000 in
theorem c_Mo_least {G : jG} {S : hS} {V : hV} {v0 : Option Nat} {v1 : Int32} {v2 : Int32} {res : Int32 × hV} (hf : Mo_least S v0 v1 v2 V = some res) : jC G M_Mo_least [ar v0, ai v1, ai v2] (S, V) (some (ai res.1)) (S, res.2) := by
  unfold Mo_least at hf
  obtain ⟨_, _, hf⟩ := jbind hf
  refine jC_of (pf_X12 _ _) rfl (nle rfl) ?_
  show jJ G M_Mo_least (jEnd G M_Mo_least (some (ai res.1)) (S, res.2)) 0 0 0 [(0, ar v0), (1, ai v1), (2, ai v2)] [] (S, V)
  refine j_iload_n (dt_Mo_least 0 (0, .iload_n 2, 1) rfl) rfl ?_
  refine j_i2l (dt_Mo_least 1 (1, .i2l, 1) rfl) ?_
  refine j_lconst (dt_Mo_least 2 (2, .lconst 0, 1) rfl) lc_0 ?_
  refine j_ldc2 3 (dt_Mo_least 3 (3, .ldc2_w 338, 3) rfl) (gt7 172 rfl rfl) ?_
  refine j_callS M_Mo_in 3 [al ((v2 : Int32).toInt64), al 0, al 3] (rest := []) (dt_Mo_least 4 (6, .invokestatic 183, 3) rfl) ml_X12_183 ok_Mo_in (jfit rfl rfl ⟨rfl, rfl⟩ (nle rfl) (nlt rfl)) rfl rfl (nle rfl) ⟨rfl, rfl⟩ (c_Mo_in rfl) ?_
  refine jite hf (fun hc hf => ?_) (fun hc hf => ?_)
  · refine j_if_eq (dt_Mo_least 5 (9, .ifCond .eq 12, 3) rfl) rfl (fun _ => ?_) (fun q => absurd hc q)
    refine j_iconst (dt_Mo_least 11 (21, .iconst (-1), 1) rfl) ic_m1 ?_
    cases hf
    exact j_iret (dt_Mo_least 12 (22, .ireturn, 1) rfl) rfl
  · refine j_if_eq (dt_Mo_least 5 (9, .ifCond .eq 12, 3) rfl) rfl (fun q => absurd q hc) (fun _ => ?_)
    refine j_aload_n (dt_Mo_least 6 (12, .aload_n 0, 1) rfl) rfl ?_
    refine j_iload_n (dt_Mo_least 7 (13, .iload_n 1, 1) rfl) rfl ?_
    refine j_iconst (dt_Mo_least 8 (14, .iconst 0, 1) rfl) ic_0 ?_
    obtain ⟨w1, hw1, hf⟩ := jbind hf
    obtain ⟨b2, hb2⟩ := r_Mo_goesThrough hw1
    refine j_callV M_Mo_goesThrough 2 [ai v1, ai 0] (rest := []) (dt_Mo_least 9 (15, .invokevirtual 443, 3) rfl) ml_X12_443 ok_Mo_goesThrough (jfit rfl rfl ⟨rfl, rfl⟩ (nle rfl) (nlt rfl)) rfl rfl (nle rfl) ⟨rfl, rfl⟩ hb2 ((c_Mo_goesThrough hw1)) ?_
    refine jite hf (fun hc hf => ?_) (fun hc hf => ?_)
    · refine j_if_ne (dt_Mo_least 10 (18, .ifCond .ne 5, 3) rfl) rfl (fun q => absurd hc q) (fun _ => ?_)
      refine j_iconst (dt_Mo_least 11 (21, .iconst (-1), 1) rfl) ic_m1 ?_
      cases hf
      exact j_iret (dt_Mo_least 12 (22, .ireturn, 1) rfl) rfl
    · refine j_if_ne (dt_Mo_least 10 (18, .ifCond .ne 5, 3) rfl) rfl (fun _ => ?_) (fun q => absurd q hc)
      refine j_iload_n (dt_Mo_least 13 (23, .iload_n 2, 1) rfl) rfl ?_
      refine jite hf (fun hc hf => ?_) (fun hc hf => ?_)
      · refine j_if_ne (dt_Mo_least 14 (24, .ifCond .ne 10, 3) rfl) rfl (fun q => absurd hc q) (fun _ => ?_)
        refine j_aload_n (dt_Mo_least 15 (27, .aload_n 0, 1) rfl) rfl ?_
        obtain ⟨x6, hx6, hf⟩ := jbind hf
        refine j_getI (dt_Mo_least 16 (28, .getfield 424, 3) rfl) fl_X12_424 hx6 (fun _ _ => rfl) ?_
        refine j_goto (dt_Mo_least 17 (31, .goto 31, 3) rfl) rfl ?_
        cases hf
        exact j_iret (dt_Mo_least 32 (62, .ireturn, 1) rfl) rfl
      · refine j_if_ne (dt_Mo_least 14 (24, .ifCond .ne 10, 3) rfl) rfl (fun _ => ?_) (fun q => absurd q hc)
        refine j_iload_n (dt_Mo_least 18 (34, .iload_n 2, 1) rfl) rfl ?_
        refine j_iconst (dt_Mo_least 19 (35, .iconst 1, 1) rfl) ic_1 ?_
        refine jite hf (fun hc hf => ?_) (fun hc hf => ?_)
        · refine j_icmp_ne (dt_Mo_least 20 (36, .if_icmp .ne 10, 3) rfl) rfl (fun q => absurd hc q) (fun _ => ?_)
          refine j_aload_n (dt_Mo_least 21 (39, .aload_n 0, 1) rfl) rfl ?_
          obtain ⟨x5, hx5, hf⟩ := jbind hf
          refine j_getI (dt_Mo_least 22 (40, .getfield 427, 3) rfl) fl_X12_427 hx5 (fun _ _ => rfl) ?_
          refine j_goto (dt_Mo_least 23 (43, .goto 19, 3) rfl) rfl ?_
          cases hf
          exact j_iret (dt_Mo_least 32 (62, .ireturn, 1) rfl) rfl
        · refine j_icmp_ne (dt_Mo_least 20 (36, .if_icmp .ne 10, 3) rfl) rfl (fun _ => ?_) (fun q => absurd q hc)
          refine j_iload_n (dt_Mo_least 24 (46, .iload_n 2, 1) rfl) rfl ?_
          refine j_iconst (dt_Mo_least 25 (47, .iconst 2, 1) rfl) ic_2 ?_
          refine jite hf (fun hc hf => ?_) (fun hc hf => ?_)
          · refine j_icmp_ne (dt_Mo_least 26 (48, .if_icmp .ne 10, 3) rfl) rfl (fun q => absurd hc q) (fun _ => ?_)
            refine j_aload_n (dt_Mo_least 27 (51, .aload_n 0, 1) rfl) rfl ?_
            obtain ⟨x4, hx4, hf⟩ := jbind hf
            refine j_getI (dt_Mo_least 28 (52, .getfield 421, 3) rfl) fl_X12_421 hx4 (fun _ _ => rfl) ?_
            refine j_goto (dt_Mo_least 29 (55, .goto 7, 3) rfl) rfl ?_
            cases hf
            exact j_iret (dt_Mo_least 32 (62, .ireturn, 1) rfl) rfl
          · refine j_icmp_ne (dt_Mo_least 26 (48, .if_icmp .ne 10, 3) rfl) rfl (fun _ => ?_) (fun q => absurd q hc)
            refine j_aload_n (dt_Mo_least 30 (58, .aload_n 0, 1) rfl) rfl ?_
            obtain ⟨x3, hx3, hf⟩ := jbind hf
            refine j_getI (dt_Mo_least 31 (59, .getfield 418, 3) rfl) fl_X12_418 hx3 (fun _ _ => rfl) ?_
            cases hf
            exact j_iret (dt_Mo_least 32 (62, .ireturn, 1) rfl) rfl
theorem r_Mo_least {S : hS} {V : hV} {v0 : Option Nat} {v1 : Int32} {v2 : Int32} {res : Int32 × hV} (hf : Mo_least S v0 v1 v2 V = some res) : ∃ b, rc S 12 v0 = some b := by
  unfold Mo_least at hf
  obtain ⟨b, hb, _⟩ := jbind hf
  exact ⟨b, hb⟩
def tb_Mo_best : List (Nat × Instr × Nat) := [(0, .aload_n 0, 1), (1, .iload_n 2, 1), (2, .invokevirtual 275, 3), (5, .ifCond .eq 21, 3), (8, .aload_n 0, 1), (9, .getfield 81, 3), (12, .iload_n 2, 1), (13, .baload, 1), (14, .ifCond .eq 12, 3), (17, .aload_n 0, 1), (18, .iload_n 1, 1), (19, .iconst 0, 1), (20, .invokevirtual 443, 3), (23, .ifCond .ne 5, 3), (26, .iconst (-1), 1), (27, .ireturn, 1), (28, .iload_n 3, 1), (29, .ifCond .eq 16, 3), (32, .aload_n 0, 1), (33, .getfield 154, 3), (36, .aload_n 0, 1), (37, .iload_n 2, 1), (38, .invokevirtual 447, 3), (41, .iaload, 1), (42, .goto 13, 3), (45, .aload_n 0, 1), (46, .getfield 151, 3), (49, .aload_n 0, 1), (50, .iload_n 2, 1), (51, .invokevirtual 447, 3), (54, .iaload, 1), (55, .ireturn, 1)]
theorem dt_Mo_best (i : Nat) (q : Nat × Instr × Nat) (h : tb_Mo_best[i]? = some q) : decode prog_14_method_79_code q.1 = .ok q.2 := jdt (by decide +kernel : tb_Mo_best.all (fun q => decide (decode prog_14_method_79_code q.1 = .ok q.2)) = true) h
theorem ok_Mo_best : jOKV M_Mo_best 3 := ⟨⟨gt8 58 rfl rfl, gt1 17 rfl rfl, (by decide : "FirstInModel" ≠ "java/lang/invoke/MethodHandle"), (by decide : "FirstInModel" ≠ "java/lang/invoke/VarHandle"), (by decide +kernel : (parseMethodDescriptor "(IIZ)I").map (fun d => d.parameters.length) = some 3)⟩, gt8 56 rfl rfl, gt8 57 rfl rfl, rfl, nlt rfl⟩
set_option maxRecDepth 100000 in
set_option maxHeartbeats 4000000 in
theorem c_Mo_best {G : jG} {S : hS} {V : hV} {v0 : Option Nat} {v1 : Int32} {v2 : Int32} {v3 : Int32} {res : Int32 × hV} (hf : Mo_best S v0 v1 v2 v3 V = some res) : jC G M_Mo_best [ar v0, ai v1, ai v2, ai v3] (S, V) (some (ai res.1)) (S, res.2) := by
  unfold Mo_best at hf
  obtain ⟨_, _, hf⟩ := jbind hf
  refine jC_of (pf_X12 _ _) rfl (nle rfl) ?_
  show jJ G M_Mo_best (jEnd G M_Mo_best (some (ai res.1)) (S, res.2)) 0 0 0 [(0, ar v0), (1, ai v1), (2, ai v2), (3, ai v3)] [] (S, V)
  refine j_aload_n (dt_Mo_best 0 (0, .aload_n 0, 1) rfl) rfl ?_
  refine j_iload_n (dt_Mo_best 1 (1, .iload_n 2, 1) rfl) rfl ?_
  obtain ⟨x1, hx1, hf⟩ := jbind hf
  obtain ⟨b2, hb2⟩ := r_Mo_isGuest hx1
  refine j_callV M_Mo_isGuest 1 [ai v2] (rest := []) (dt_Mo_best 2 (2, .invokevirtual 275, 3) rfl) ml_X12_275 ok_Mo_isGuest (jfit rfl rfl ⟨rfl, rfl⟩ (nle rfl) (nlt rfl)) rfl rfl (nle rfl) ⟨rfl, rfl⟩ hb2 ((c_Mo_isGuest hx1)) ?_
  refine jite hf (fun hc hf => ?_) (fun hc hf => ?_)
  · refine j_if_eq (dt_Mo_best 3 (5, .ifCond .eq 21, 3) rfl) rfl (fun _ => ?_) (fun q => absurd hc q)
    refine j_iconst (dt_Mo_best 14 (26, .iconst (-1), 1) rfl) ic_m1 ?_
    cases hf
    exact j_iret (dt_Mo_best 15 (27, .ireturn, 1) rfl) rfl
  · refine j_if_eq (dt_Mo_best 3 (5, .ifCond .eq 21, 3) rfl) rfl (fun q => absurd q hc) (fun _ => ?_)
    refine j_aload_n (dt_Mo_best 4 (8, .aload_n 0, 1) rfl) rfl ?_
    obtain ⟨x3, hx3, hf⟩ := jbind hf
    refine j_getR (dt_Mo_best 5 (9, .getfield 81, 3) rfl) fl_X12_81 hx3 (fun _ _ => rfl) ?_
    refine j_iload_n (dt_Mo_best 6 (12, .iload_n 2, 1) rfl) rfl ?_
    obtain ⟨x4, hx4, hf⟩ := jbind hf
    refine j_aldZ (dt_Mo_best 7 (13, .baload, 1) rfl) hx4 ?_
    refine jite hf (fun hc hf => ?_) (fun hc hf => ?_)
    · refine j_if_eq (dt_Mo_best 8 (14, .ifCond .eq 12, 3) rfl) rfl (fun _ => ?_) (fun q => absurd hc q)
      refine j_iconst (dt_Mo_best 14 (26, .iconst (-1), 1) rfl) ic_m1 ?_
      cases hf
      exact j_iret (dt_Mo_best 15 (27, .ireturn, 1) rfl) rfl
    · refine j_if_eq (dt_Mo_best 8 (14, .ifCond .eq 12, 3) rfl) rfl (fun q => absurd q hc) (fun _ => ?_)
      refine j_aload_n (dt_Mo_best 9 (17, .aload_n 0, 1) rfl) rfl ?_
      refine j_iload_n (dt_Mo_best 10 (18, .iload_n 1, 1) rfl) rfl ?_
      refine j_iconst (dt_Mo_best 11 (19, .iconst 0, 1) rfl) ic_0 ?_
      obtain ⟨w5, hw5, hf⟩ := jbind hf
      obtain ⟨b6, hb6⟩ := r_Mo_goesThrough hw5
      refine j_callV M_Mo_goesThrough 2 [ai v1, ai 0] (rest := []) (dt_Mo_best 12 (20, .invokevirtual 443, 3) rfl) ml_X12_443 ok_Mo_goesThrough (jfit rfl rfl ⟨rfl, rfl⟩ (nle rfl) (nlt rfl)) rfl rfl (nle rfl) ⟨rfl, rfl⟩ hb6 ((c_Mo_goesThrough hw5)) ?_
      refine jite hf (fun hc hf => ?_) (fun hc hf => ?_)
      · refine j_if_ne (dt_Mo_best 13 (23, .ifCond .ne 5, 3) rfl) rfl (fun q => absurd hc q) (fun _ => ?_)
        refine j_iconst (dt_Mo_best 14 (26, .iconst (-1), 1) rfl) ic_m1 ?_
        cases hf
        exact j_iret (dt_Mo_best 15 (27, .ireturn, 1) rfl) rfl
      · refine j_if_ne (dt_Mo_best 13 (23, .ifCond .ne 5, 3) rfl) rfl (fun _ => ?_) (fun q => absurd q hc)
        refine j_iload_n (dt_Mo_best 16 (28, .iload_n 3, 1) rfl) rfl ?_
        refine jite hf (fun hc hf => ?_) (fun hc hf => ?_)
        · refine j_if_eq (dt_Mo_best 17 (29, .ifCond .eq 16, 3) rfl) rfl (fun _ => ?_) (fun q => absurd hc q)
          refine j_aload_n (dt_Mo_best 25 (45, .aload_n 0, 1) rfl) rfl ?_
          obtain ⟨x7, hx7, hf⟩ := jbind hf
          refine j_getR (dt_Mo_best 26 (46, .getfield 151, 3) rfl) fl_X12_151 hx7 (fun _ _ => rfl) ?_
          refine j_aload_n (dt_Mo_best 27 (49, .aload_n 0, 1) rfl) rfl ?_
          refine j_iload_n (dt_Mo_best 28 (50, .iload_n 2, 1) rfl) rfl ?_
          obtain ⟨x8, hx8, hf⟩ := jbind hf
          obtain ⟨b9, hb9⟩ := r_Mo_memberOf hx8
          refine j_callV M_Mo_memberOf 1 [ai v2] (rest := [ar x7]) (dt_Mo_best 29 (51, .invokevirtual 447, 3) rfl) ml_X12_447 ok_Mo_memberOf (jfit rfl rfl ⟨rfl, rfl⟩ (nle rfl) (nlt rfl)) rfl rfl (nle rfl) ⟨rfl, rfl⟩ hb9 ((c_Mo_memberOf hx8)) ?_
          obtain ⟨x10, hx10, hf⟩ := jbind hf
          refine j_aldI (dt_Mo_best 30 (54, .iaload, 1) rfl) hx10 ?_
          cases hf
          exact j_iret (dt_Mo_best 31 (55, .ireturn, 1) rfl) rfl
        · refine j_if_eq (dt_Mo_best 17 (29, .ifCond .eq 16, 3) rfl) rfl (fun q => absurd q hc) (fun _ => ?_)
          refine j_aload_n (dt_Mo_best 18 (32, .aload_n 0, 1) rfl) rfl ?_
          obtain ⟨x11, hx11, hf⟩ := jbind hf
          refine j_getR (dt_Mo_best 19 (33, .getfield 154, 3) rfl) fl_X12_154 hx11 (fun _ _ => rfl) ?_
          refine j_aload_n (dt_Mo_best 20 (36, .aload_n 0, 1) rfl) rfl ?_
          refine j_iload_n (dt_Mo_best 21 (37, .iload_n 2, 1) rfl) rfl ?_
          obtain ⟨x12, hx12, hf⟩ := jbind hf
          obtain ⟨b13, hb13⟩ := r_Mo_memberOf hx12
          refine j_callV M_Mo_memberOf 1 [ai v2] (rest := [ar x11]) (dt_Mo_best 22 (38, .invokevirtual 447, 3) rfl) ml_X12_447 ok_Mo_memberOf (jfit rfl rfl ⟨rfl, rfl⟩ (nle rfl) (nlt rfl)) rfl rfl (nle rfl) ⟨rfl, rfl⟩ hb13 ((c_Mo_memberOf hx12)) ?_
          obtain ⟨x14, hx14, hf⟩ := jbind hf
          refine j_aldI (dt_Mo_best 23 (41, .iaload, 1) rfl) hx14 ?_
          refine j_goto (dt_Mo_best 24 (42, .goto 13, 3) rfl) rfl ?_
          cases hf
          exact j_iret (dt_Mo_best 31 (55, .ireturn, 1) rfl) rfl
theorem r_Mo_best {S : hS} {V : hV} {v0 : Option Nat} {v1 : Int32} {v2 : Int32} {v3 : Int32} {res : Int32 × hV} (hf : Mo_best S v0 v1 v2 v3 V = some res) : ∃ b, rc S 12 v0 = some b := by
  unfold Mo_best at hf
  obtain ⟨b, hb, _⟩ := jbind hf
  exact ⟨b, hb⟩
def tb_Mo_must : List (Nat × Instr × Nat) := [(0, .aload_n 0, 1), (1, .iload_n 2, 1), (2, .invokevirtual 275, 3), (5, .ifCond .eq 34, 3), (8, .aload_n 0, 1), (9, .getfield 81, 3), (12, .iload_n 2, 1), (13, .baload, 1), (14, .ifCond .eq 25, 3), (17, .aload_n 0, 1), (18, .iload_n 1, 1), (19, .iconst 0, 1), (20, .invokevirtual 443, 3), (23, .ifCond .eq 16, 3), (26, .aload_n 0, 1), (27, .getfield 160, 3), (30, .aload_n 0, 1), (31, .iload_n 2, 1), (32, .invokevirtual 447, 3), (35, .iaload, 1), (36, .goto 4, 3), (39, .iconst (-1), 1), (40, .ireturn, 1)]
theorem dt_Mo_must (i : Nat) (q : Nat × Instr × Nat) (h : tb_Mo_must[i]? = some q) : decode prog_14_method_80_code q.1 = .ok q.2 := jdt (by decide +kernel : tb_Mo_must.all (fun q => decide (decode prog_14_method_80_code q.1 = .ok q.2)) = true) h
theorem ok_Mo_must : jOKV M_Mo_must 2 := ⟨⟨gt8 66 rfl rfl, gt1 17 rfl rfl, (by decide : "FirstInModel" ≠ "java/lang/invoke/MethodHandle"), (by decide : "FirstInModel" ≠ "java/lang/invoke/VarHandle"), (by decide +kernel : (parseMethodDescriptor "(II)I").map (fun d => d.parameters.length) = some 2)⟩, gt8 64 rfl rfl, gt8 65 rfl rfl, rfl, nlt rfl⟩
set_option maxRecDepth 100000 in
set_option maxHeartbeats 4000000 in
theorem c_Mo_must {G : jG} {S : hS} {V : hV} {v0 : Option Nat} {v1 : Int32} {v2 : Int32} {res : Int32 × hV} (hf : Mo_must S v0 v1 v2 V = some res) : jC G M_Mo_must [ar v0, ai v1, ai v2] (S, V) (some (ai res.1)) (S, res.2) := by
  unfold Mo_must at hf
  obtain ⟨_, _, hf⟩ := jbind hf
  refine jC_of (pf_X12 _ _) rfl (nle rfl) ?_
  show jJ G M_Mo_must (jEnd G M_Mo_must (some (ai res.1)) (S, res.2)) 0 0 0 [(0, ar v0), (1, ai v1), (2, ai v2)] [] (S, V)
  refine j_aload_n (dt_Mo_must 0 (0, .aload_n 0, 1) rfl) rfl ?_
  refine j_iload_n (dt_Mo_must 1 (1, .iload_n 2, 1) rfl) rfl ?_
  obtain ⟨x1, hx1, hf⟩ := jbind hf
  obtain ⟨b2, hb2⟩ := r_Mo_isGuest hx1
  refine j_callV M_Mo_isGuest 1 [ai v2] (rest := []) (dt_Mo_must 2 (2, .invokevirtual 275, 3) rfl) ml_X12_275 ok_Mo_isGuest (jfit rfl rfl ⟨rfl, rfl⟩ (nle rfl) (nlt rfl)) rfl rfl (nle rfl) ⟨rfl, rfl⟩ hb2 ((c_Mo_isGuest hx1)) ?_
  refine jite hf (fun hc hf => ?_) (fun hc hf => ?_)
  · refine j_if_eq (dt_Mo_must 3 (5, .ifCond .eq 34, 3) rfl) rfl (fun _ => ?_) (fun q => absurd hc q)
    refine j_iconst (dt_Mo_must 21 (39, .iconst (-1), 1) rfl) ic_m1 ?_
    cases hf
    exact j_iret (dt_Mo_must 22 (40, .ireturn, 1) rfl) rfl
  · refine j_if_eq (dt_Mo_must 3 (5, .ifCond .eq 34, 3) rfl) rfl (fun q => absurd q hc) (fun _ => ?_)
    refine j_aload_n (dt_Mo_must 4 (8, .aload_n 0, 1) rfl) rfl ?_
    obtain ⟨x3, hx3, hf⟩ := jbind hf
    refine j_getR (dt_Mo_must 5 (9, .getfield 81, 3) rfl) fl_X12_81 hx3 (fun _ _ => rfl) ?_
    refine j_iload_n (dt_Mo_must 6 (12, .iload_n 2, 1) rfl) rfl ?_
    obtain ⟨x4, hx4, hf⟩ := jbind hf
    refine j_aldZ (dt_Mo_must 7 (13, .baload, 1) rfl) hx4 ?_
    refine jite hf (fun hc hf => ?_) (fun hc hf => ?_)
    · refine j_if_eq (dt_Mo_must 8 (14, .ifCond .eq 25, 3) rfl) rfl (fun _ => ?_) (fun q => absurd hc q)
      refine j_iconst (dt_Mo_must 21 (39, .iconst (-1), 1) rfl) ic_m1 ?_
      cases hf
      exact j_iret (dt_Mo_must 22 (40, .ireturn, 1) rfl) rfl
    · refine j_if_eq (dt_Mo_must 8 (14, .ifCond .eq 25, 3) rfl) rfl (fun q => absurd q hc) (fun _ => ?_)
      refine j_aload_n (dt_Mo_must 9 (17, .aload_n 0, 1) rfl) rfl ?_
      refine j_iload_n (dt_Mo_must 10 (18, .iload_n 1, 1) rfl) rfl ?_
      refine j_iconst (dt_Mo_must 11 (19, .iconst 0, 1) rfl) ic_0 ?_
      obtain ⟨w5, hw5, hf⟩ := jbind hf
      obtain ⟨b6, hb6⟩ := r_Mo_goesThrough hw5
      refine j_callV M_Mo_goesThrough 2 [ai v1, ai 0] (rest := []) (dt_Mo_must 12 (20, .invokevirtual 443, 3) rfl) ml_X12_443 ok_Mo_goesThrough (jfit rfl rfl ⟨rfl, rfl⟩ (nle rfl) (nlt rfl)) rfl rfl (nle rfl) ⟨rfl, rfl⟩ hb6 ((c_Mo_goesThrough hw5)) ?_
      refine jite hf (fun hc hf => ?_) (fun hc hf => ?_)
      · refine j_if_eq (dt_Mo_must 13 (23, .ifCond .eq 16, 3) rfl) rfl (fun _ => ?_) (fun q => absurd hc q)
        refine j_iconst (dt_Mo_must 21 (39, .iconst (-1), 1) rfl) ic_m1 ?_
        cases hf
        exact j_iret (dt_Mo_must 22 (40, .ireturn, 1) rfl) rfl
      · refine j_if_eq (dt_Mo_must 13 (23, .ifCond .eq 16, 3) rfl) rfl (fun q => absurd q hc) (fun _ => ?_)
        refine j_aload_n (dt_Mo_must 14 (26, .aload_n 0, 1) rfl) rfl ?_
        obtain ⟨x7, hx7, hf⟩ := jbind hf
        refine j_getR (dt_Mo_must 15 (27, .getfield 160, 3) rfl) fl_X12_160 hx7 (fun _ _ => rfl) ?_
        refine j_aload_n (dt_Mo_must 16 (30, .aload_n 0, 1) rfl) rfl ?_
        refine j_iload_n (dt_Mo_must 17 (31, .iload_n 2, 1) rfl) rfl ?_
        obtain ⟨x8, hx8, hf⟩ := jbind hf
        obtain ⟨b9, hb9⟩ := r_Mo_memberOf hx8
        refine j_callV M_Mo_memberOf 1 [ai v2] (rest := [ar x7]) (dt_Mo_must 18 (32, .invokevirtual 447, 3) rfl) ml_X12_447 ok_Mo_memberOf (jfit rfl rfl ⟨rfl, rfl⟩ (nle rfl) (nlt rfl)) rfl rfl (nle rfl) ⟨rfl, rfl⟩ hb9 ((c_Mo_memberOf hx8)) ?_
        obtain ⟨x10, hx10, hf⟩ := jbind hf
        refine j_aldI (dt_Mo_must 19 (35, .iaload, 1) rfl) hx10 ?_
        refine j_goto (dt_Mo_must 20 (36, .goto 4, 3) rfl) rfl ?_
        cases hf
        exact j_iret (dt_Mo_must 22 (40, .ireturn, 1) rfl) rfl
theorem r_Mo_must {S : hS} {V : hV} {v0 : Option Nat} {v1 : Int32} {v2 : Int32} {res : Int32 × hV} (hf : Mo_must S v0 v1 v2 V = some res) : ∃ b, rc S 12 v0 = some b := by
  unfold Mo_must at hf
  obtain ⟨b, hb, _⟩ := jbind hf
  exact ⟨b, hb⟩
def tb_Mo_free : List (Nat × Instr × Nat) := [(0, .aload_n 0, 1), (1, .iload_n 1, 1), (2, .iconst 0, 1), (3, .invokevirtual 443, 3), (6, .ifCond .eq 31, 3), (9, .iload_n 2, 1), (10, .i2l, 1), (11, .lconst 0, 1), (12, .aload_n 0, 1), (13, .getfield 394, 3), (16, .iconst 1, 1), (17, .isub, 1), (18, .i2l, 1), (19, .invokestatic 183, 3), (22, .ifCond .eq 15, 3), (25, .aload_n 0, 1), (26, .getfield 163, 3), (29, .iload_n 2, 1), (30, .iaload, 1), (31, .invokestatic 356, 3), (34, .goto 4, 3), (37, .iconst (-1), 1), (38, .ireturn, 1)]
theorem dt_Mo_free (i : Nat) (q : Nat × Instr × Nat) (h : tb_Mo_free[i]? = some q) : decode prog_14_method_81_code q.1 = .ok q.2 := jdt (by decide +kernel : tb_Mo_free.all (fun q => decide (decode prog_14_method_81_code q.1 = .ok q.2)) = true) h
theorem ok_Mo_free : jOKV M_Mo_free 2 := ⟨⟨gt8 70 rfl rfl, gt1 17 rfl rfl, (by decide : "FirstInModel" ≠ "java/lang/invoke/MethodHandle"), (by decide : "FirstInModel" ≠ "java/lang/invoke/VarHandle"), (by decide +kernel : (parseMethodDescriptor "(II)I").map (fun d => d.parameters.length) = some 2)⟩, gt8 68 rfl rfl, gt8 69 rfl rfl, rfl, nlt rfl⟩
set_option maxRecDepth 100000 in
set_option maxHeartbeats 4000000 in
theorem c_Mo_free {G : jG} {S : hS} {V : hV} {v0 : Option Nat} {v1 : Int32} {v2 : Int32} {res : Int32 × hV} (hf : Mo_free S v0 v1 v2 V = some res) : jC G M_Mo_free [ar v0, ai v1, ai v2] (S, V) (some (ai res.1)) (S, res.2) := by
  unfold Mo_free at hf
  obtain ⟨_, _, hf⟩ := jbind hf
  refine jC_of (pf_X12 _ _) rfl (nle rfl) ?_
  show jJ G M_Mo_free (jEnd G M_Mo_free (some (ai res.1)) (S, res.2)) 0 0 0 [(0, ar v0), (1, ai v1), (2, ai v2)] [] (S, V)
  refine j_aload_n (dt_Mo_free 0 (0, .aload_n 0, 1) rfl) rfl ?_
  refine j_iload_n (dt_Mo_free 1 (1, .iload_n 1, 1) rfl) rfl ?_
  refine j_iconst (dt_Mo_free 2 (2, .iconst 0, 1) rfl) ic_0 ?_
  obtain ⟨w1, hw1, hf⟩ := jbind hf
  obtain ⟨b2, hb2⟩ := r_Mo_goesThrough hw1
  refine j_callV M_Mo_goesThrough 2 [ai v1, ai 0] (rest := []) (dt_Mo_free 3 (3, .invokevirtual 443, 3) rfl) ml_X12_443 ok_Mo_goesThrough (jfit rfl rfl ⟨rfl, rfl⟩ (nle rfl) (nlt rfl)) rfl rfl (nle rfl) ⟨rfl, rfl⟩ hb2 ((c_Mo_goesThrough hw1)) ?_
  refine jite hf (fun hc hf => ?_) (fun hc hf => ?_)
  · refine j_if_eq (dt_Mo_free 4 (6, .ifCond .eq 31, 3) rfl) rfl (fun _ => ?_) (fun q => absurd hc q)
    refine j_iconst (dt_Mo_free 21 (37, .iconst (-1), 1) rfl) ic_m1 ?_
    cases hf
    exact j_iret (dt_Mo_free 22 (38, .ireturn, 1) rfl) rfl
  · refine j_if_eq (dt_Mo_free 4 (6, .ifCond .eq 31, 3) rfl) rfl (fun q => absurd q hc) (fun _ => ?_)
    refine j_iload_n (dt_Mo_free 5 (9, .iload_n 2, 1) rfl) rfl ?_
    refine j_i2l (dt_Mo_free 6 (10, .i2l, 1) rfl) ?_
    refine j_lconst (dt_Mo_free 7 (11, .lconst 0, 1) rfl) lc_0 ?_
    refine j_aload_n (dt_Mo_free 8 (12, .aload_n 0, 1) rfl) rfl ?_
    obtain ⟨x3, hx3, hf⟩ := jbind hf
    refine j_getI (dt_Mo_free 9 (13, .getfield 394, 3) rfl) fl_X12_394 hx3 (fun _ _ => rfl) ?_
    refine j_iconst (dt_Mo_free 10 (16, .iconst 1, 1) rfl) ic_1 ?_
    refine j_isub (dt_Mo_free 11 (17, .isub, 1) rfl) ?_
    refine j_i2l (dt_Mo_free 12 (18, .i2l, 1) rfl) ?_
    refine j_callS M_Mo_in 3 [al ((v2 : Int32).toInt64), al 0, al ((x3 - 1 : Int32).toInt64)] (rest := []) (dt_Mo_free 13 (19, .invokestatic 183, 3) rfl) ml_X12_183 ok_Mo_in (jfit rfl rfl ⟨rfl, rfl⟩ (nle rfl) (nlt rfl)) rfl rfl (nle rfl) ⟨rfl, rfl⟩ (c_Mo_in rfl) ?_
    refine jite hf (fun hc hf => ?_) (fun hc hf => ?_)
    · refine j_if_eq (dt_Mo_free 14 (22, .ifCond .eq 15, 3) rfl) rfl (fun _ => ?_) (fun q => absurd hc q)
      refine j_iconst (dt_Mo_free 21 (37, .iconst (-1), 1) rfl) ic_m1 ?_
      cases hf
      exact j_iret (dt_Mo_free 22 (38, .ireturn, 1) rfl) rfl
    · refine j_if_eq (dt_Mo_free 14 (22, .ifCond .eq 15, 3) rfl) rfl (fun q => absurd q hc) (fun _ => ?_)
      refine j_aload_n (dt_Mo_free 15 (25, .aload_n 0, 1) rfl) rfl ?_
      obtain ⟨x4, hx4, hf⟩ := jbind hf
      refine j_getR (dt_Mo_free 16 (26, .getfield 163, 3) rfl) fl_X12_163 hx4 (fun _ _ => rfl) ?_
      refine j_iload_n (dt_Mo_free 17 (29, .iload_n 2, 1) rfl) rfl ?_
      obtain ⟨x5, hx5, hf⟩ := jbind hf
      refine j_aldI (dt_Mo_free 18 (30, .iaload, 1) rfl) hx5 ?_
      refine j_callS M_Jd_bitCount 1 [ai x5] (rest := []) (dt_Mo_free 19 (31, .invokestatic 356, 3) rfl) ml_X12_356 ok_Jd_bitCount (jfit rfl rfl ⟨rfl, rfl⟩ (nle rfl) (nlt rfl)) rfl rfl (nle rfl) ⟨rfl, rfl⟩ (c_Jd_bitCount rfl) ?_
      refine j_goto (dt_Mo_free 20 (34, .goto 4, 3) rfl) rfl ?_
      cases hf
      exact j_iret (dt_Mo_free 22 (38, .ireturn, 1) rfl) rfl
theorem r_Mo_free {S : hS} {V : hV} {v0 : Option Nat} {v1 : Int32} {v2 : Int32} {res : Int32 × hV} (hf : Mo_free S v0 v1 v2 V = some res) : ∃ b, rc S 12 v0 = some b := by
  unfold Mo_free at hf
  obtain ⟨b, hb, _⟩ := jbind hf
  exact ⟨b, hb⟩
def tb_Mo_mended : List (Nat × Instr × Nat) := [(0, .iload_n 3, 1), (1, .iconst (-1), 1), (2, .if_icmp .eq 22, 3), (5, .aload_n 0, 1), (6, .iload_n 3, 1), (7, .invokevirtual 275, 3), (10, .ifCond .eq 12, 3), (13, .aload_n 0, 1), (14, .getfield 81, 3), (17, .iload_n 3, 1), (18, .baload, 1), (19, .ifCond .ne 5, 3), (22, .iconst (-1), 1), (23, .ireturn, 1), (24, .aload_n 0, 1), (25, .iload_n 2, 1), (26, .putfield 408, 3), (29, .aload_n 0, 1), (30, .iload_n 1, 1), (31, .iconst 1, 1), (32, .invokevirtual 443, 3), (35, .ifCond .eq 11, 3), (38, .aload_n 0, 1), (39, .getfield 411, 3), (42, .iconst (-1), 1), (43, .if_icmp .ne 5, 3), (46, .iconst (-1), 1), (47, .ireturn, 1), (48, .iload_n 3, 1), (49, .iconst (-1), 1), (50, .if_icmp .ne 10, 3), (53, .aload_n 0, 1), (54, .getfield 411, 3), (57, .goto 13, 3), (60, .aload_n 0, 1), (61, .getfield 157, 3), (64, .aload_n 0, 1), (65, .iload_n 3, 1), (66, .invokevirtual 447, 3), (69, .iaload, 1), (70, .ireturn, 1)]
theorem dt_Mo_mended (i : Nat) (q : Nat × Instr × Nat) (h : tb_Mo_mended[i]? = some q) : decode prog_14_method_82_code q.1 = .ok q.2 := jdt (by decide +kernel : tb_Mo_mended.all (fun q => decide (decode prog_14_method_82_code q.1 = .ok q.2)) = true) h
theorem ok_Mo_mended : jOKV M_Mo_mended 3 := ⟨⟨gt8 74 rfl rfl, gt1 17 rfl rfl, (by decide : "FirstInModel" ≠ "java/lang/invoke/MethodHandle"), (by decide : "FirstInModel" ≠ "java/lang/invoke/VarHandle"), (by decide +kernel : (parseMethodDescriptor "(III)I").map (fun d => d.parameters.length) = some 3)⟩, gt8 72 rfl rfl, gt8 73 rfl rfl, rfl, nlt rfl⟩
set_option maxRecDepth 100000 in
set_option maxHeartbeats 4000000 in
theorem c_Mo_mended {G : jG} {S : hS} {V : hV} {v0 : Option Nat} {v1 : Int32} {v2 : Int32} {v3 : Int32} {res : Int32 × hV} (hf : Mo_mended S v0 v1 v2 v3 V = some res) : jC G M_Mo_mended [ar v0, ai v1, ai v2, ai v3] (S, V) (some (ai res.1)) (S, res.2) := by
  unfold Mo_mended at hf
  obtain ⟨_, _, hf⟩ := jbind hf
  refine jC_of (pf_X12 _ _) rfl (nle rfl) ?_
  show jJ G M_Mo_mended (jEnd G M_Mo_mended (some (ai res.1)) (S, res.2)) 0 0 0 [(0, ar v0), (1, ai v1), (2, ai v2), (3, ai v3)] [] (S, V)
  refine j_iload_n (dt_Mo_mended 0 (0, .iload_n 3, 1) rfl) rfl ?_
  refine j_iconst (dt_Mo_mended 1 (1, .iconst (-1), 1) rfl) ic_m1 ?_
  obtain ⟨k2, hk2, hf⟩ := jbind hf
  have hE2 : ∀ e2 : Unit, k2 = .inl e2 → jJ G M_Mo_mended (jEnd G M_Mo_mended (some (ai res.1)) (S, res.2)) 0 0 24 [(0, ar v0), (1, ai v1), (2, ai v2), (3, ai v3)] [] (S, V) := by
    intro e2 he2
    subst he2
    refine j_aload_n (dt_Mo_mended 14 (24, .aload_n 0, 1) rfl) rfl ?_
    refine j_iload_n (dt_Mo_mended 15 (25, .iload_n 2, 1) rfl) rfl ?_
    obtain ⟨V1, hV1, hf⟩ := jbind hf
    refine j_putI (dt_Mo_mended 16 (26, .putfield 408, 3) rfl) fl_X12_408 hV1 rfl (Or.inl rfl) ?_
    refine j_aload_n (dt_Mo_mended 17 (29, .aload_n 0, 1) rfl) rfl ?_
    refine j_iload_n (dt_Mo_mended 18 (30, .iload_n 1, 1) rfl) rfl ?_
    refine j_iconst (dt_Mo_mended 19 (31, .iconst 1, 1) rfl) ic_1 ?_
    obtain ⟨w2, hw2, hf⟩ := jbind hf
    obtain ⟨b3, hb3⟩ := r_Mo_goesThrough hw2
    refine j_callV M_Mo_goesThrough 2 [ai v1, ai 1] (rest := []) (dt_Mo_mended 20 (32, .invokevirtual 443, 3) rfl) ml_X12_443 ok_Mo_goesThrough (jfit rfl rfl ⟨rfl, rfl⟩ (nle rfl) (nlt rfl)) rfl rfl (nle rfl) ⟨rfl, rfl⟩ hb3 ((c_Mo_goesThrough hw2)) ?_
    refine jite hf (fun hc hf => ?_) (fun hc hf => ?_)
    · refine j_if_eq (dt_Mo_mended 21 (35, .ifCond .eq 11, 3) rfl) rfl (fun _ => ?_) (fun q => absurd hc q)
      refine j_iconst (dt_Mo_mended 26 (46, .iconst (-1), 1) rfl) ic_m1 ?_
      cases hf
      exact j_iret (dt_Mo_mended 27 (47, .ireturn, 1) rfl) rfl
    · refine j_if_eq (dt_Mo_mended 21 (35, .ifCond .eq 11, 3) rfl) rfl (fun q => absurd q hc) (fun _ => ?_)
      refine j_aload_n (dt_Mo_mended 22 (38, .aload_n 0, 1) rfl) rfl ?_
      obtain ⟨x4, hx4, hf⟩ := jbind hf
      refine j_getI (dt_Mo_mended 23 (39, .getfield 411, 3) rfl) fl_X12_411 hx4 (fun _ _ => rfl) ?_
      refine j_iconst (dt_Mo_mended 24 (42, .iconst (-1), 1) rfl) ic_m1 ?_
      refine jite hf (fun hc hf => ?_) (fun hc hf => ?_)
      · refine j_icmp_ne (dt_Mo_mended 25 (43, .if_icmp .ne 5, 3) rfl) rfl (fun q => absurd hc q) (fun _ => ?_)
        refine j_iconst (dt_Mo_mended 26 (46, .iconst (-1), 1) rfl) ic_m1 ?_
        cases hf
        exact j_iret (dt_Mo_mended 27 (47, .ireturn, 1) rfl) rfl
      · refine j_icmp_ne (dt_Mo_mended 25 (43, .if_icmp .ne 5, 3) rfl) rfl (fun _ => ?_) (fun q => absurd q hc)
        refine j_iload_n (dt_Mo_mended 28 (48, .iload_n 3, 1) rfl) rfl ?_
        refine j_iconst (dt_Mo_mended 29 (49, .iconst (-1), 1) rfl) ic_m1 ?_
        refine jite hf (fun hc hf => ?_) (fun hc hf => ?_)
        · refine j_icmp_ne (dt_Mo_mended 30 (50, .if_icmp .ne 10, 3) rfl) rfl (fun q => absurd hc q) (fun _ => ?_)
          refine j_aload_n (dt_Mo_mended 31 (53, .aload_n 0, 1) rfl) rfl ?_
          obtain ⟨x9, hx9, hf⟩ := jbind hf
          refine j_getI (dt_Mo_mended 32 (54, .getfield 411, 3) rfl) fl_X12_411 hx9 (fun _ _ => rfl) ?_
          refine j_goto (dt_Mo_mended 33 (57, .goto 13, 3) rfl) rfl ?_
          cases hf
          exact j_iret (dt_Mo_mended 40 (70, .ireturn, 1) rfl) rfl
        · refine j_icmp_ne (dt_Mo_mended 30 (50, .if_icmp .ne 10, 3) rfl) rfl (fun _ => ?_) (fun q => absurd q hc)
          refine j_aload_n (dt_Mo_mended 34 (60, .aload_n 0, 1) rfl) rfl ?_
          obtain ⟨x5, hx5, hf⟩ := jbind hf
          refine j_getR (dt_Mo_mended 35 (61, .getfield 157, 3) rfl) fl_X12_157 hx5 (fun _ _ => rfl) ?_
          refine j_aload_n (dt_Mo_mended 36 (64, .aload_n 0, 1) rfl) rfl ?_
          refine j_iload_n (dt_Mo_mended 37 (65, .iload_n 3, 1) rfl) rfl ?_
          obtain ⟨x6, hx6, hf⟩ := jbind hf
          obtain ⟨b7, hb7⟩ := r_Mo_memberOf hx6
          refine j_callV M_Mo_memberOf 1 [ai v3] (rest := [ar x5]) (dt_Mo_mended 38 (66, .invokevirtual 447, 3) rfl) ml_X12_447 ok_Mo_memberOf (jfit rfl rfl ⟨rfl, rfl⟩ (nle rfl) (nlt rfl)) rfl rfl (nle rfl) ⟨rfl, rfl⟩ hb7 ((c_Mo_memberOf hx6)) ?_
          obtain ⟨x8, hx8, hf⟩ := jbind hf
          refine j_aldI (dt_Mo_mended 39 (69, .iaload, 1) rfl) hx8 ?_
          cases hf
          exact j_iret (dt_Mo_mended 40 (70, .ireturn, 1) rfl) rfl
  refine jite hk2 (fun hc hk2 => ?_) (fun hc hk2 => ?_)
  · refine j_icmp_eq (dt_Mo_mended 2 (2, .if_icmp .eq 22, 3) rfl) rfl (fun _ => ?_) (fun q => absurd hc q)
    cases hk2
    have hz := hE2 _ rfl
    exact j_sub rfl hz
  · refine j_icmp_eq (dt_Mo_mended 2 (2, .if_icmp .eq 22, 3) rfl) rfl (fun q => absurd q hc) (fun _ => ?_)
    refine j_aload_n (dt_Mo_mended 3 (5, .aload_n 0, 1) rfl) rfl ?_
    refine j_iload_n (dt_Mo_mended 4 (6, .iload_n 3, 1) rfl) rfl ?_
    obtain ⟨x10, hx10, hk2⟩ := jbind hk2
    obtain ⟨b11, hb11⟩ := r_Mo_isGuest hx10
    refine j_callV M_Mo_isGuest 1 [ai v3] (rest := []) (dt_Mo_mended 5 (7, .invokevirtual 275, 3) rfl) ml_X12_275 ok_Mo_isGuest (jfit rfl rfl ⟨rfl, rfl⟩ (nle rfl) (nlt rfl)) rfl rfl (nle rfl) ⟨rfl, rfl⟩ hb11 ((c_Mo_isGuest hx10)) ?_
    refine jite hk2 (fun hc hk2 => ?_) (fun hc hk2 => ?_)
    · refine j_if_eq (dt_Mo_mended 6 (10, .ifCond .eq 12, 3) rfl) rfl (fun _ => ?_) (fun q => absurd hc q)
      refine j_iconst (dt_Mo_mended 12 (22, .iconst (-1), 1) rfl) ic_m1 ?_
      cases hk2
      cases hf
      exact j_iret (dt_Mo_mended 13 (23, .ireturn, 1) rfl) rfl
    · refine j_if_eq (dt_Mo_mended 6 (10, .ifCond .eq 12, 3) rfl) rfl (fun q => absurd q hc) (fun _ => ?_)
      refine j_aload_n (dt_Mo_mended 7 (13, .aload_n 0, 1) rfl) rfl ?_
      obtain ⟨x12, hx12, hk2⟩ := jbind hk2
      refine j_getR (dt_Mo_mended 8 (14, .getfield 81, 3) rfl) fl_X12_81 hx12 (fun _ _ => rfl) ?_
      refine j_iload_n (dt_Mo_mended 9 (17, .iload_n 3, 1) rfl) rfl ?_
      obtain ⟨x13, hx13, hk2⟩ := jbind hk2
      refine j_aldZ (dt_Mo_mended 10 (18, .baload, 1) rfl) hx13 ?_
      refine jite hk2 (fun hc hk2 => ?_) (fun hc hk2 => ?_)
      · refine j_if_ne (dt_Mo_mended 11 (19, .ifCond .ne 5, 3) rfl) rfl (fun q => absurd hc q) (fun _ => ?_)
        refine j_iconst (dt_Mo_mended 12 (22, .iconst (-1), 1) rfl) ic_m1 ?_
        cases hk2
        cases hf
        exact j_iret (dt_Mo_mended 13 (23, .ireturn, 1) rfl) rfl
      · refine j_if_ne (dt_Mo_mended 11 (19, .ifCond .ne 5, 3) rfl) rfl (fun _ => ?_) (fun q => absurd q hc)
        cases hk2
        have hz := hE2 _ rfl
        exact j_sub rfl hz
theorem r_Mo_mended {S : hS} {V : hV} {v0 : Option Nat} {v1 : Int32} {v2 : Int32} {v3 : Int32} {res : Int32 × hV} (hf : Mo_mended S v0 v1 v2 v3 V = some res) : ∃ b, rc S 12 v0 = some b := by
  unfold Mo_mended at hf
  obtain ⟨b, hb, _⟩ := jbind hf
  exact ⟨b, hb⟩
def tb_Mo_evened : List (Nat × Instr × Nat) := [(0, .aload_n 0, 1), (1, .iload_n 1, 1), (2, .invokevirtual 297, 3), (5, .ifCond .eq 51, 3), (8, .aload_n 0, 1), (9, .getfield 93, 3), (12, .iload_n 1, 1), (13, .iaload, 1), (14, .iconst 4, 1), (15, .if_icmp .ne 41, 3), (18, .aload_n 0, 1), (19, .getfield 96, 3), (22, .iload_n 1, 1), (23, .iaload, 1), (24, .bipush 8, 2), (26, .if_icmp .gt 30, 3), (29, .iload_n 2, 1), (30, .i2l, 1), (31, .lconst 1, 1), (32, .ldc2_w 338, 3), (35, .invokestatic 183, 3), (38, .ifCond .eq 18, 3), (41, .iload_n 3, 1), (42, .i2l, 1), (43, .ldc2_w 217, 3), (46, .iload_n 2, 1), (47, .iconst 1, 1), (48, .isub, 1), (49, .i2l, 1), (50, .invokestatic 183, 3), (53, .ifCond .ne 5, 3), (56, .iconst (-1), 1), (57, .ireturn, 1), (58, .aload_n 0, 1), (59, .getfield 96, 3), (62, .iload_n 1, 1), (63, .iaload, 1), (64, .istore 4, 2), (66, .iconst 0, 1), (67, .istore 5, 2), (69, .iload 5, 2), (71, .iload 4, 2), (73, .if_icmp .ge 53, 3), (76, .aload_n 0, 1), (77, .iload_n 1, 1), (78, .iconst 0, 1), (79, .iload 5, 2), (81, .invokevirtual 330, 3), (84, .iconst 0, 1), (85, .istore 6, 2), (87, .iload 6, 2), (89, .bipush 10, 2), (91, .if_icmp .ge 29, 3), (94, .aload_n 0, 1), (95, .getfield 166, 3), (98, .bipush 10, 2), (100, .iload 5, 2), (102, .imul, 1), (103, .iload 6, 2), (105, .iadd, 1), (106, .aload_n 0, 1), (107, .getfield 108, 3), (110, .iload 6, 2), (112, .iaload, 1), (113, .iastore, 1), (114, .iinc 6 1, 3), (117, .goto (-30), 3), (120, .iinc 5 1, 3), (123, .goto (-54), 3), (126, .iconst 1, 1), (127, .istore 5, 2), (129, .iconst 0, 1), (130, .istore 6, 2), (132, .iload 6, 2), (134, .iload_n 2, 1), (135, .if_icmp .ge 16, 3), (138, .iload 5, 2), (140, .iload 4, 2), (142, .imul, 1), (143, .istore 5, 2), (145, .iinc 6 1, 3), (148, .goto (-16), 3), (151, .iconst (-1), 1), (152, .istore 6, 2), (154, .iconst 0, 1), (155, .istore 7, 2), (157, .iload 7, 2), (159, .iload 5, 2), (161, .if_icmp .ge 170, 3), (164, .iload 7, 2), (166, .istore 8, 2), (168, .iload_n 2, 1), (169, .iconst 1, 1), (170, .isub, 1), (171, .istore 9, 2), (173, .iload 9, 2), (175, .ifCond .lt 28, 3), (178, .aload_n 0, 1), (179, .getfield 169, 3), (182, .iload 9, 2), (184, .iload 8, 2), (186, .iload 4, 2), (188, .irem, 1), (189, .iastore, 1), (190, .iload 8, 2), (192, .iload 4, 2), (194, .idiv, 1), (195, .istore 8, 2), (197, .iinc 9 (-1), 3), (200, .goto (-27), 3), (203, .iconst 0, 1), (204, .istore 9, 2), (206, .iconst 0, 1), (207, .istore 10, 2), (209, .iload 10, 2), (211, .aload_n 0, 1), (212, .getfield 44, 3), (215, .iconst 0, 1), (216, .iaload, 1), (217, .if_icmp .ge 59, 3), (220, .iconst 0, 1), (221, .istore 11, 2), (223, .iconst 0, 1), (224, .istore 12, 2), (226, .iload 12, 2), (228, .iload_n 2, 1), (229, .if_icmp .ge 32, 3), (232, .iload 11, 2), (234, .aload_n 0, 1), (235, .getfield 166, 3), (238, .bipush 10, 2), (240, .aload_n 0, 1), (241, .getfield 169, 3), (244, .iload 12, 2), (246, .iaload, 1), (247, .imul, 1), (248, .iload 10, 2), (250, .iadd, 1), (251, .iaload, 1), (252, .iadd, 1), (253, .istore 11, 2), (255, .iinc 12 1, 3), (258, .goto (-32), 3), (261, .iload 9, 2), (263, .iload 11, 2), (265, .invokestatic 334, 3), (268, .istore 9, 2), (270, .iinc 10 1, 3), (273, .goto (-64), 3), (276, .iload 6, 2), (278, .iconst (-1), 1), (279, .if_icmp .eq 13, 3), (282, .iload 9, 2), (284, .iload 6, 2), (286, .if_icmp .lt 6, 3), (289, .goto 36, 3), (292, .iload 9, 2), (294, .istore 6, 2), (296, .iconst 0, 1), (297, .istore 10, 2), (299, .iload 10, 2), (301, .iload_n 2, 1), (302, .if_icmp .ge 23, 3), (305, .aload_n 0, 1), (306, .getfield 172, 3), (309, .iload 10, 2), (311, .aload_n 0, 1), (312, .getfield 169, 3), (315, .iload 10, 2), (317, .iaload, 1), (318, .iastore, 1), (319, .iinc 10 1, 3), (322, .goto (-23), 3), (325, .iinc 7 1, 3), (328, .goto (-171), 3), (331, .iload_n 3, 1), (332, .iconst (-1), 1), (333, .if_icmp .ne 8, 3), (336, .iload 6, 2), (338, .goto 9, 3), (341, .aload_n 0, 1), (342, .getfield 172, 3), (345, .iload_n 3, 1), (346, .iaload, 1), (347, .ireturn, 1)]
theorem dt_Mo_evened (i : Nat) (q : Nat × Instr × Nat) (h : tb_Mo_evened[i]? = some q) : decode prog_14_method_83_code q.1 = .ok q.2 := jdt (by decide +kernel : tb_Mo_evened.all (fun q => decide (decode prog_14_method_83_code q.1 = .ok q.2)) = true) h
theorem ok_Mo_evened : jOKV M_Mo_evened 3 := ⟨⟨gt8 78 rfl rfl, gt1 17 rfl rfl, (by decide : "FirstInModel" ≠ "java/lang/invoke/MethodHandle"), (by decide : "FirstInModel" ≠ "java/lang/invoke/VarHandle"), (by decide +kernel : (parseMethodDescriptor "(III)I").map (fun d => d.parameters.length) = some 3)⟩, gt8 76 rfl rfl, gt8 77 rfl rfl, rfl, nlt rfl⟩
set_option maxRecDepth 100000 in
set_option maxHeartbeats 4000000 in
theorem c_Mo_evened {G : jG} {S : hS} {V : hV} {v0 : Option Nat} {v1 : Int32} {v2 : Int32} {v3 : Int32} {res : Int32 × hV} (hf : Mo_evened S v0 v1 v2 v3 V = some res) : jC G M_Mo_evened [ar v0, ai v1, ai v2, ai v3] (S, V) (some (ai res.1)) (S, res.2) := by
  unfold Mo_evened at hf
  obtain ⟨_, _, hf⟩ := jbind hf
  refine jC_of (pf_X12 _ _) rfl (nle rfl) ?_
  show jJ G M_Mo_evened (jEnd G M_Mo_evened (some (ai res.1)) (S, res.2)) 0 0 0 [(0, ar v0), (1, ai v1), (2, ai v2), (3, ai v3)] [] (S, V)
  refine j_aload_n (dt_Mo_evened 0 (0, .aload_n 0, 1) rfl) rfl ?_
  refine j_iload_n (dt_Mo_evened 1 (1, .iload_n 1, 1) rfl) rfl ?_
  obtain ⟨x1, hx1, hf⟩ := jbind hf
  obtain ⟨b2, hb2⟩ := r_Mo_isRoom hx1
  refine j_callV M_Mo_isRoom 1 [ai v1] (rest := []) (dt_Mo_evened 2 (2, .invokevirtual 297, 3) rfl) ml_X12_297 ok_Mo_isRoom (jfit rfl rfl ⟨rfl, rfl⟩ (nle rfl) (nlt rfl)) rfl rfl (nle rfl) ⟨rfl, rfl⟩ hb2 ((c_Mo_isRoom hx1)) ?_
  refine jite hf (fun hc hf => ?_) (fun hc hf => ?_)
  · refine j_if_eq (dt_Mo_evened 3 (5, .ifCond .eq 51, 3) rfl) rfl (fun _ => ?_) (fun q => absurd hc q)
    refine j_iconst (dt_Mo_evened 31 (56, .iconst (-1), 1) rfl) ic_m1 ?_
    cases hf
    exact j_iret (dt_Mo_evened 32 (57, .ireturn, 1) rfl) rfl
  · refine j_if_eq (dt_Mo_evened 3 (5, .ifCond .eq 51, 3) rfl) rfl (fun q => absurd q hc) (fun _ => ?_)
    refine j_aload_n (dt_Mo_evened 4 (8, .aload_n 0, 1) rfl) rfl ?_
    obtain ⟨x3, hx3, hf⟩ := jbind hf
    refine j_getR (dt_Mo_evened 5 (9, .getfield 93, 3) rfl) fl_X12_93 hx3 (fun _ _ => rfl) ?_
    refine j_iload_n (dt_Mo_evened 6 (12, .iload_n 1, 1) rfl) rfl ?_
    obtain ⟨x4, hx4, hf⟩ := jbind hf
    refine j_aldI (dt_Mo_evened 7 (13, .iaload, 1) rfl) hx4 ?_
    refine j_iconst (dt_Mo_evened 8 (14, .iconst 4, 1) rfl) ic_4 ?_
    refine jite hf (fun hc hf => ?_) (fun hc hf => ?_)
    · refine j_icmp_ne (dt_Mo_evened 9 (15, .if_icmp .ne 41, 3) rfl) rfl (fun q => absurd hc q) (fun _ => ?_)
      refine j_aload_n (dt_Mo_evened 10 (18, .aload_n 0, 1) rfl) rfl ?_
      obtain ⟨x5, hx5, hf⟩ := jbind hf
      refine j_getR (dt_Mo_evened 11 (19, .getfield 96, 3) rfl) fl_X12_96 hx5 (fun _ _ => rfl) ?_
      refine j_iload_n (dt_Mo_evened 12 (22, .iload_n 1, 1) rfl) rfl ?_
      obtain ⟨x6, hx6, hf⟩ := jbind hf
      refine j_aldI (dt_Mo_evened 13 (23, .iaload, 1) rfl) hx6 ?_
      refine j_bipush (dt_Mo_evened 14 (24, .bipush 8, 2) rfl) bp_8 ?_
      refine jite hf (fun hc hf => ?_) (fun hc hf => ?_)
      · refine j_icmp_gt (dt_Mo_evened 15 (26, .if_icmp .gt 30, 3) rfl) rfl (fun _ => ?_) (fun q => absurd hc q)
        refine j_iconst (dt_Mo_evened 31 (56, .iconst (-1), 1) rfl) ic_m1 ?_
        cases hf
        exact j_iret (dt_Mo_evened 32 (57, .ireturn, 1) rfl) rfl
      · refine j_icmp_gt (dt_Mo_evened 15 (26, .if_icmp .gt 30, 3) rfl) rfl (fun q => absurd q hc) (fun _ => ?_)
        refine j_iload_n (dt_Mo_evened 16 (29, .iload_n 2, 1) rfl) rfl ?_
        refine j_i2l (dt_Mo_evened 17 (30, .i2l, 1) rfl) ?_
        refine j_lconst (dt_Mo_evened 18 (31, .lconst 1, 1) rfl) lc_1 ?_
        refine j_ldc2 3 (dt_Mo_evened 19 (32, .ldc2_w 338, 3) rfl) (gt7 172 rfl rfl) ?_
        refine j_callS M_Mo_in 3 [al ((v2 : Int32).toInt64), al 1, al 3] (rest := []) (dt_Mo_evened 20 (35, .invokestatic 183, 3) rfl) ml_X12_183 ok_Mo_in (jfit rfl rfl ⟨rfl, rfl⟩ (nle rfl) (nlt rfl)) rfl rfl (nle rfl) ⟨rfl, rfl⟩ (c_Mo_in rfl) ?_
        refine jite hf (fun hc hf => ?_) (fun hc hf => ?_)
        · refine j_if_eq (dt_Mo_evened 21 (38, .ifCond .eq 18, 3) rfl) rfl (fun _ => ?_) (fun q => absurd hc q)
          refine j_iconst (dt_Mo_evened 31 (56, .iconst (-1), 1) rfl) ic_m1 ?_
          cases hf
          exact j_iret (dt_Mo_evened 32 (57, .ireturn, 1) rfl) rfl
        · refine j_if_eq (dt_Mo_evened 21 (38, .ifCond .eq 18, 3) rfl) rfl (fun q => absurd q hc) (fun _ => ?_)
          refine j_iload_n (dt_Mo_evened 22 (41, .iload_n 3, 1) rfl) rfl ?_
          refine j_i2l (dt_Mo_evened 23 (42, .i2l, 1) rfl) ?_
          refine j_ldc2 (-1) (dt_Mo_evened 24 (43, .ldc2_w 217, 3) rfl) (gt7 27 rfl rfl) ?_
          refine j_iload_n (dt_Mo_evened 25 (46, .iload_n 2, 1) rfl) rfl ?_
          refine j_iconst (dt_Mo_evened 26 (47, .iconst 1, 1) rfl) ic_1 ?_
          refine j_isub (dt_Mo_evened 27 (48, .isub, 1) rfl) ?_
          refine j_i2l (dt_Mo_evened 28 (49, .i2l, 1) rfl) ?_
          refine j_callS M_Mo_in 3 [al ((v3 : Int32).toInt64), al (-1), al ((v2 - 1 : Int32).toInt64)] (rest := []) (dt_Mo_evened 29 (50, .invokestatic 183, 3) rfl) ml_X12_183 ok_Mo_in (jfit rfl rfl ⟨rfl, rfl⟩ (nle rfl) (nlt rfl)) rfl rfl (nle rfl) ⟨rfl, rfl⟩ (c_Mo_in rfl) ?_
          refine jite hf (fun hc hf => ?_) (fun hc hf => ?_)
          · refine j_if_ne (dt_Mo_evened 30 (53, .ifCond .ne 5, 3) rfl) rfl (fun q => absurd hc q) (fun _ => ?_)
            refine j_iconst (dt_Mo_evened 31 (56, .iconst (-1), 1) rfl) ic_m1 ?_
            cases hf
            exact j_iret (dt_Mo_evened 32 (57, .ireturn, 1) rfl) rfl
          · refine j_if_ne (dt_Mo_evened 30 (53, .ifCond .ne 5, 3) rfl) rfl (fun _ => ?_) (fun q => absurd q hc)
            refine j_aload_n (dt_Mo_evened 33 (58, .aload_n 0, 1) rfl) rfl ?_
            obtain ⟨x7, hx7, hf⟩ := jbind hf
            refine j_getR (dt_Mo_evened 34 (59, .getfield 96, 3) rfl) fl_X12_96 hx7 (fun _ _ => rfl) ?_
            refine j_iload_n (dt_Mo_evened 35 (62, .iload_n 1, 1) rfl) rfl ?_
            obtain ⟨x8, hx8, hf⟩ := jbind hf
            refine j_aldI (dt_Mo_evened 36 (63, .iaload, 1) rfl) hx8 ?_
            refine j_istore (dt_Mo_evened 37 (64, .istore 4, 2) rfl) (nlt rfl) ?_
            refine j_iconst (dt_Mo_evened 38 (66, .iconst 0, 1) rfl) ic_0 ?_
            refine j_istore (dt_Mo_evened 39 (67, .istore 5, 2) rfl) (nlt rfl) ?_
            obtain ⟨t69, ht69, hf⟩ := jbind hf
            have hX69 : ∀ q69 : hV, q69 = t69 → jJ G M_Mo_evened (jEnd G M_Mo_evened (some (ai res.1)) (S, res.2)) 0 0 126 [(0, ar v0), (2, ai v2), (3, ai v3), (4, ai x8)] [] (S, q69) := by
              intro q69 hq69
              subst hq69
              refine j_iconst (dt_Mo_evened 69 (126, .iconst 1, 1) rfl) ic_1 ?_
              refine j_istore (dt_Mo_evened 70 (127, .istore 5, 2) rfl) (nlt rfl) ?_
              refine j_iconst (dt_Mo_evened 71 (129, .iconst 0, 1) rfl) ic_0 ?_
              refine j_istore (dt_Mo_evened 72 (130, .istore 6, 2) rfl) (nlt rfl) ?_
              obtain ⟨t132, ht132, hf⟩ := jbind hf
              have hX132 : ∀ q132 : Int32, q132 = t132 → jJ G M_Mo_evened (jEnd G M_Mo_evened (some (ai res.1)) (S, res.2)) 0 0 151 [(0, ar v0), (2, ai v2), (3, ai v3), (4, ai x8), (5, ai q132)] [] (S, q69) := by
                intro q132 hq132
                subst hq132
                refine j_iconst (dt_Mo_evened 82 (151, .iconst (-1), 1) rfl) ic_m1 ?_
                refine j_istore (dt_Mo_evened 83 (152, .istore 6, 2) rfl) (nlt rfl) ?_
                refine j_iconst (dt_Mo_evened 84 (154, .iconst 0, 1) rfl) ic_0 ?_
                refine j_istore (dt_Mo_evened 85 (155, .istore 7, 2) rfl) (nlt rfl) ?_
                obtain ⟨t157, ht157, hf⟩ := jbind hf
                have hX157 : ∀ q157 : Int32 × hV, q157 = t157 → jJ G M_Mo_evened (jEnd G M_Mo_evened (some (ai res.1)) (S, res.2)) 0 0 331 [(0, ar v0), (3, ai v3), (6, ai q157.1)] [] (S, q157.2) := by
                  intro q157 hq157
                  subst hq157
                  refine j_iload_n (dt_Mo_evened 175 (331, .iload_n 3, 1) rfl) rfl ?_
                  refine j_iconst (dt_Mo_evened 176 (332, .iconst (-1), 1) rfl) ic_m1 ?_
                  refine jite hf (fun hc hf => ?_) (fun hc hf => ?_)
                  · refine j_icmp_ne (dt_Mo_evened 177 (333, .if_icmp .ne 8, 3) rfl) rfl (fun q => absurd hc q) (fun _ => ?_)
                    refine j_iload (dt_Mo_evened 178 (336, .iload 6, 2) rfl) rfl ?_
                    refine j_goto (dt_Mo_evened 179 (338, .goto 9, 3) rfl) rfl ?_
                    cases hf
                    exact j_iret (dt_Mo_evened 184 (347, .ireturn, 1) rfl) rfl
                  · refine j_icmp_ne (dt_Mo_evened 177 (333, .if_icmp .ne 8, 3) rfl) rfl (fun _ => ?_) (fun q => absurd q hc)
                    refine j_aload_n (dt_Mo_evened 180 (341, .aload_n 0, 1) rfl) rfl ?_
                    obtain ⟨x27, hx27, hf⟩ := jbind hf
                    refine j_getR (dt_Mo_evened 181 (342, .getfield 172, 3) rfl) fl_X12_172 hx27 (fun _ _ => rfl) ?_
                    refine j_iload_n (dt_Mo_evened 182 (345, .iload_n 3, 1) rfl) rfl ?_
                    obtain ⟨x28, hx28, hf⟩ := jbind hf
                    refine j_aldI (dt_Mo_evened 183 (346, .iaload, 1) rfl) hx28 ?_
                    cases hf
                    exact j_iret (dt_Mo_evened 184 (347, .ireturn, 1) rfl) rfl
                refine j_sub (ls' := [(0, ar v0), (2, ai v2), (3, ai v3), (4, ai x8), (5, ai q132), (6, ai (-1)), (7, ai 0)]) rfl ?_
                refine jloop_J (C := fun s157 => jJ G M_Mo_evened (jEnd G M_Mo_evened (some (ai res.1)) (S, res.2)) 0 0 157 [(0, ar v0), (2, ai v2), (3, ai v3), (4, ai x8), (5, ai q132), (6, ai s157.1), (7, ai s157.2.1)] [] (S, s157.2.2)) (fun s157 z157_ hy157 hin157 hout157 => ?_) _ _ ht157
                unfold Mo_evened_L157 at hy157
                refine j_iload (dt_Mo_evened 86 (157, .iload 7, 2) rfl) rfl ?_
                refine j_iload (dt_Mo_evened 87 (159, .iload 5, 2) rfl) rfl ?_
                refine jite hy157 (fun hc hy157 => ?_) (fun hc hy157 => ?_)
                · refine j_icmp_ge (dt_Mo_evened 88 (161, .if_icmp .ge 170, 3) rfl) rfl (fun _ => ?_) (fun q => absurd hc q)
                  cases hy157
                  have hz := hX157 _ (hout157 _ rfl)
                  exact j_sub rfl hz
                · refine j_icmp_ge (dt_Mo_evened 88 (161, .if_icmp .ge 170, 3) rfl) rfl (fun q => absurd q hc) (fun _ => ?_)
                  refine j_iload (dt_Mo_evened 89 (164, .iload 7, 2) rfl) rfl ?_
                  refine j_istore (dt_Mo_evened 90 (166, .istore 8, 2) rfl) (nlt rfl) ?_
                  refine j_iload_n (dt_Mo_evened 91 (168, .iload_n 2, 1) rfl) rfl ?_
                  refine j_iconst (dt_Mo_evened 92 (169, .iconst 1, 1) rfl) ic_1 ?_
                  refine j_isub (dt_Mo_evened 93 (170, .isub, 1) rfl) ?_
                  refine j_istore (dt_Mo_evened 94 (171, .istore 9, 2) rfl) (nlt rfl) ?_
                  obtain ⟨t173, ht173, hy157⟩ := jbind hy157
                  have hX173 : ∀ q173 : hV, q173 = t173 → jJ G M_Mo_evened (jEnd G M_Mo_evened (some (ai res.1)) (S, res.2)) 0 0 203 [(0, ar v0), (2, ai v2), (3, ai v3), (4, ai x8), (5, ai q132), (6, ai s157.1), (7, ai s157.2.1)] [] (S, q173) := by
                    intro q173 hq173
                    subst hq173
                    refine j_iconst (dt_Mo_evened 110 (203, .iconst 0, 1) rfl) ic_0 ?_
                    refine j_istore (dt_Mo_evened 111 (204, .istore 9, 2) rfl) (nlt rfl) ?_
                    refine j_iconst (dt_Mo_evened 112 (206, .iconst 0, 1) rfl) ic_0 ?_
                    refine j_istore (dt_Mo_evened 113 (207, .istore 10, 2) rfl) (nlt rfl) ?_
                    obtain ⟨t209, ht209, hy157⟩ := jbind hy157
                    have hX209 : ∀ q209 : Int32, q209 = t209 → jJ G M_Mo_evened (jEnd G M_Mo_evened (some (ai res.1)) (S, res.2)) 0 0 276 [(0, ar v0), (2, ai v2), (3, ai v3), (4, ai x8), (5, ai q132), (6, ai s157.1), (7, ai s157.2.1), (9, ai q209)] [] (S, q173) := by
                      intro q209 hq209
                      subst hq209
                      refine j_iload (dt_Mo_evened 149 (276, .iload 6, 2) rfl) rfl ?_
                      refine j_iconst (dt_Mo_evened 150 (278, .iconst (-1), 1) rfl) ic_m1 ?_
                      obtain ⟨k279, hk279, hy157⟩ := jbind hy157
                      have hE279 : ∀ e279 : Unit, k279 = .inl e279 → jJ G M_Mo_evened (jEnd G M_Mo_evened (some (ai res.1)) (S, res.2)) 0 0 292 [(0, ar v0), (2, ai v2), (3, ai v3), (4, ai x8), (5, ai q132), (7, ai s157.2.1), (9, ai q209)] [] (S, q173) := by
                        intro e279 he279
                        subst he279
                        refine j_iload (dt_Mo_evened 156 (292, .iload 9, 2) rfl) rfl ?_
                        refine j_istore (dt_Mo_evened 157 (294, .istore 6, 2) rfl) (nlt rfl) ?_
                        refine j_iconst (dt_Mo_evened 158 (296, .iconst 0, 1) rfl) ic_0 ?_
                        refine j_istore (dt_Mo_evened 159 (297, .istore 10, 2) rfl) (nlt rfl) ?_
                        obtain ⟨t299, ht299, hy157⟩ := jbind hy157
                        have hX299 : ∀ q299 : hV, q299 = t299 → jJ G M_Mo_evened (jEnd G M_Mo_evened (some (ai res.1)) (S, res.2)) 0 0 325 [(0, ar v0), (2, ai v2), (3, ai v3), (4, ai x8), (5, ai q132), (6, ai q209), (7, ai s157.2.1)] [] (S, q299) := by
                          intro q299 hq299
                          subst hq299
                          refine j_iinc (dt_Mo_evened 173 (325, .iinc 7 1, 3) rfl) rfl (nlt rfl) (ii_1 _) ?_
                          refine j_goto (dt_Mo_evened 174 (328, .goto (-171), 3) rfl) rfl ?_
                          cases hy157
                          have hz := hin157 _ rfl
                          exact j_sub rfl hz
                        refine j_sub (ls' := [(0, ar v0), (2, ai v2), (3, ai v3), (4, ai x8), (5, ai q132), (6, ai q209), (7, ai s157.2.1), (10, ai 0)]) rfl ?_
                        refine jloop_J (C := fun s299 => jJ G M_Mo_evened (jEnd G M_Mo_evened (some (ai res.1)) (S, res.2)) 0 0 299 [(0, ar v0), (2, ai v2), (3, ai v3), (4, ai x8), (5, ai q132), (6, ai q209), (7, ai s157.2.1), (10, ai s299.1)] [] (S, s299.2)) (fun s299 z299_ hy299 hin299 hout299 => ?_) _ _ ht299
                        unfold Mo_evened_L299 at hy299
                        refine j_iload (dt_Mo_evened 160 (299, .iload 10, 2) rfl) rfl ?_
                        refine j_iload_n (dt_Mo_evened 161 (301, .iload_n 2, 1) rfl) rfl ?_
                        refine jite hy299 (fun hc hy299 => ?_) (fun hc hy299 => ?_)
                        · refine j_icmp_ge (dt_Mo_evened 162 (302, .if_icmp .ge 23, 3) rfl) rfl (fun _ => ?_) (fun q => absurd hc q)
                          cases hy299
                          have hz := hX299 _ (hout299 _ rfl)
                          exact j_sub rfl hz
                        · refine j_icmp_ge (dt_Mo_evened 162 (302, .if_icmp .ge 23, 3) rfl) rfl (fun q => absurd q hc) (fun _ => ?_)
                          refine j_aload_n (dt_Mo_evened 163 (305, .aload_n 0, 1) rfl) rfl ?_
                          obtain ⟨x23, hx23, hy299⟩ := jbind hy299
                          refine j_getR (dt_Mo_evened 164 (306, .getfield 172, 3) rfl) fl_X12_172 hx23 (fun _ _ => rfl) ?_
                          refine j_iload (dt_Mo_evened 165 (309, .iload 10, 2) rfl) rfl ?_
                          refine j_aload_n (dt_Mo_evened 166 (311, .aload_n 0, 1) rfl) rfl ?_
                          obtain ⟨x24, hx24, hy299⟩ := jbind hy299
                          refine j_getR (dt_Mo_evened 167 (312, .getfield 169, 3) rfl) fl_X12_169 hx24 (fun _ _ => rfl) ?_
                          refine j_iload (dt_Mo_evened 168 (315, .iload 10, 2) rfl) rfl ?_
                          obtain ⟨x25, hx25, hy299⟩ := jbind hy299
                          refine j_aldI (dt_Mo_evened 169 (317, .iaload, 1) rfl) hx25 ?_
                          obtain ⟨V26, hV26, hy299⟩ := jbind hy299
                          refine j_astI (dt_Mo_evened 170 (318, .iastore, 1) rfl) hV26 ?_
                          refine j_iinc (dt_Mo_evened 171 (319, .iinc 10 1, 3) rfl) rfl (nlt rfl) (ii_1 _) ?_
                          refine j_goto (dt_Mo_evened 172 (322, .goto (-23), 3) rfl) rfl ?_
                          cases hy299
                          have hz := hin299 _ rfl
                          exact j_sub rfl hz
                      refine jite hk279 (fun hc hk279 => ?_) (fun hc hk279 => ?_)
                      · refine j_icmp_eq (dt_Mo_evened 151 (279, .if_icmp .eq 13, 3) rfl) rfl (fun _ => ?_) (fun q => absurd hc q)
                        cases hk279
                        have hz := hE279 _ rfl
                        exact j_sub rfl hz
                      · refine j_icmp_eq (dt_Mo_evened 151 (279, .if_icmp .eq 13, 3) rfl) rfl (fun q => absurd q hc) (fun _ => ?_)
                        refine j_iload (dt_Mo_evened 152 (282, .iload 9, 2) rfl) rfl ?_
                        refine j_iload (dt_Mo_evened 153 (284, .iload 6, 2) rfl) rfl ?_
                        refine jite hk279 (fun hc hk279 => ?_) (fun hc hk279 => ?_)
                        · refine j_icmp_lt (dt_Mo_evened 154 (286, .if_icmp .lt 6, 3) rfl) rfl (fun _ => ?_) (fun q => absurd hc q)
                          cases hk279
                          have hz := hE279 _ rfl
                          exact j_sub rfl hz
                        · refine j_icmp_lt (dt_Mo_evened 154 (286, .if_icmp .lt 6, 3) rfl) rfl (fun q => absurd q hc) (fun _ => ?_)
                          refine j_goto (dt_Mo_evened 155 (289, .goto 36, 3) rfl) rfl ?_
                          refine j_iinc (dt_Mo_evened 173 (325, .iinc 7 1, 3) rfl) rfl (nlt rfl) (ii_1 _) ?_
                          refine j_goto (dt_Mo_evened 174 (328, .goto (-171), 3) rfl) rfl ?_
                          cases hk279
                          cases hy157
                          have hz := hin157 _ rfl
                          exact j_sub rfl hz
                    refine j_sub (ls' := [(0, ar v0), (2, ai v2), (3, ai v3), (4, ai x8), (5, ai q132), (6, ai s157.1), (7, ai s157.2.1), (9, ai 0), (10, ai 0)]) rfl ?_
                    refine jloop_J (C := fun s209 => jJ G M_Mo_evened (jEnd G M_Mo_evened (some (ai res.1)) (S, res.2)) 0 0 209 [(0, ar v0), (2, ai v2), (3, ai v3), (4, ai x8), (5, ai q132), (6, ai s157.1), (7, ai s157.2.1), (9, ai s209.1), (10, ai s209.2)] [] (S, q173)) (fun s209 z209_ hy209 hin209 hout209 => ?_) _ _ ht209
                    unfold Mo_evened_L209 at hy209
                    refine j_iload (dt_Mo_evened 114 (209, .iload 10, 2) rfl) rfl ?_
                    refine j_aload_n (dt_Mo_evened 115 (211, .aload_n 0, 1) rfl) rfl ?_
                    obtain ⟨x17, hx17, hy209⟩ := jbind hy209
                    refine j_getR (dt_Mo_evened 116 (212, .getfield 44, 3) rfl) fl_X12_44 hx17 (fun _ _ => rfl) ?_
                    refine j_iconst (dt_Mo_evened 117 (215, .iconst 0, 1) rfl) ic_0 ?_
                    obtain ⟨x18, hx18, hy209⟩ := jbind hy209
                    refine j_aldI (dt_Mo_evened 118 (216, .iaload, 1) rfl) hx18 ?_
                    refine jite hy209 (fun hc hy209 => ?_) (fun hc hy209 => ?_)
                    · refine j_icmp_ge (dt_Mo_evened 119 (217, .if_icmp .ge 59, 3) rfl) rfl (fun _ => ?_) (fun q => absurd hc q)
                      cases hy209
                      have hz := hX209 _ (hout209 _ rfl)
                      exact j_sub rfl hz
                    · refine j_icmp_ge (dt_Mo_evened 119 (217, .if_icmp .ge 59, 3) rfl) rfl (fun q => absurd q hc) (fun _ => ?_)
                      refine j_iconst (dt_Mo_evened 120 (220, .iconst 0, 1) rfl) ic_0 ?_
                      refine j_istore (dt_Mo_evened 121 (221, .istore 11, 2) rfl) (nlt rfl) ?_
                      refine j_iconst (dt_Mo_evened 122 (223, .iconst 0, 1) rfl) ic_0 ?_
                      refine j_istore (dt_Mo_evened 123 (224, .istore 12, 2) rfl) (nlt rfl) ?_
                      obtain ⟨t226, ht226, hy209⟩ := jbind hy209
                      have hX226 : ∀ q226 : Int32, q226 = t226 → jJ G M_Mo_evened (jEnd G M_Mo_evened (some (ai res.1)) (S, res.2)) 0 0 261 [(0, ar v0), (2, ai v2), (3, ai v3), (4, ai x8), (5, ai q132), (6, ai s157.1), (7, ai s157.2.1), (9, ai s209.1), (10, ai s209.2), (11, ai q226)] [] (S, q173) := by
                        intro q226 hq226
                        subst hq226
                        refine j_iload (dt_Mo_evened 143 (261, .iload 9, 2) rfl) rfl ?_
                        refine j_iload (dt_Mo_evened 144 (263, .iload 11, 2) rfl) rfl ?_
                        refine j_callS M_Jd_max 2 [ai s209.1, ai q226] (rest := []) (dt_Mo_evened 145 (265, .invokestatic 334, 3) rfl) ml_X12_334 ok_Jd_max (jfit rfl rfl ⟨rfl, rfl⟩ (nle rfl) (nlt rfl)) rfl rfl (nle rfl) ⟨rfl, rfl⟩ (c_Jd_max rfl) ?_
                        refine j_istore (dt_Mo_evened 146 (268, .istore 9, 2) rfl) (nlt rfl) ?_
                        refine j_iinc (dt_Mo_evened 147 (270, .iinc 10 1, 3) rfl) rfl (nlt rfl) (ii_1 _) ?_
                        refine j_goto (dt_Mo_evened 148 (273, .goto (-64), 3) rfl) rfl ?_
                        cases hy209
                        have hz := hin209 _ rfl
                        exact j_sub rfl hz
                      refine j_sub (ls' := [(0, ar v0), (2, ai v2), (3, ai v3), (4, ai x8), (5, ai q132), (6, ai s157.1), (7, ai s157.2.1), (9, ai s209.1), (10, ai s209.2), (11, ai 0), (12, ai 0)]) rfl ?_
                      refine jloop_J (C := fun s226 => jJ G M_Mo_evened (jEnd G M_Mo_evened (some (ai res.1)) (S, res.2)) 0 0 226 [(0, ar v0), (2, ai v2), (3, ai v3), (4, ai x8), (5, ai q132), (6, ai s157.1), (7, ai s157.2.1), (9, ai s209.1), (10, ai s209.2), (11, ai s226.1), (12, ai s226.2)] [] (S, q173)) (fun s226 z226_ hy226 hin226 hout226 => ?_) _ _ ht226
                      unfold Mo_evened_L226 at hy226
                      refine j_iload (dt_Mo_evened 124 (226, .iload 12, 2) rfl) rfl ?_
                      refine j_iload_n (dt_Mo_evened 125 (228, .iload_n 2, 1) rfl) rfl ?_
                      refine jite hy226 (fun hc hy226 => ?_) (fun hc hy226 => ?_)
                      · refine j_icmp_ge (dt_Mo_evened 126 (229, .if_icmp .ge 32, 3) rfl) rfl (fun _ => ?_) (fun q => absurd hc q)
                        cases hy226
                        have hz := hX226 _ (hout226 _ rfl)
                        exact j_sub rfl hz
                      · refine j_icmp_ge (dt_Mo_evened 126 (229, .if_icmp .ge 32, 3) rfl) rfl (fun q => absurd q hc) (fun _ => ?_)
                        refine j_iload (dt_Mo_evened 127 (232, .iload 11, 2) rfl) rfl ?_
                        refine j_aload_n (dt_Mo_evened 128 (234, .aload_n 0, 1) rfl) rfl ?_
                        obtain ⟨x19, hx19, hy226⟩ := jbind hy226
                        refine j_getR (dt_Mo_evened 129 (235, .getfield 166, 3) rfl) fl_X12_166 hx19 (fun _ _ => rfl) ?_
                        refine j_bipush (dt_Mo_evened 130 (238, .bipush 10, 2) rfl) bp_10 ?_
                        refine j_aload_n (dt_Mo_evened 131 (240, .aload_n 0, 1) rfl) rfl ?_
                        obtain ⟨x20, hx20, hy226⟩ := jbind hy226
                        refine j_getR (dt_Mo_evened 132 (241, .getfield 169, 3) rfl) fl_X12_169 hx20 (fun _ _ => rfl) ?_
                        refine j_iload (dt_Mo_evened 133 (244, .iload 12, 2) rfl) rfl ?_
                        obtain ⟨x21, hx21, hy226⟩ := jbind hy226
                        refine j_aldI (dt_Mo_evened 134 (246, .iaload, 1) rfl) hx21 ?_
                        refine j_imul (dt_Mo_evened 135 (247, .imul, 1) rfl) ?_
                        refine j_iload (dt_Mo_evened 136 (248, .iload 10, 2) rfl) rfl ?_
                        refine j_iadd (dt_Mo_evened 137 (250, .iadd, 1) rfl) ?_
                        obtain ⟨x22, hx22, hy226⟩ := jbind hy226
                        refine j_aldI (dt_Mo_evened 138 (251, .iaload, 1) rfl) hx22 ?_
                        refine j_iadd (dt_Mo_evened 139 (252, .iadd, 1) rfl) ?_
                        refine j_istore (dt_Mo_evened 140 (253, .istore 11, 2) rfl) (nlt rfl) ?_
                        refine j_iinc (dt_Mo_evened 141 (255, .iinc 12 1, 3) rfl) rfl (nlt rfl) (ii_1 _) ?_
                        refine j_goto (dt_Mo_evened 142 (258, .goto (-32), 3) rfl) rfl ?_
                        cases hy226
                        have hz := hin226 _ rfl
                        exact j_sub rfl hz
                  refine j_sub (ls' := [(0, ar v0), (2, ai v2), (3, ai v3), (4, ai x8), (5, ai q132), (6, ai s157.1), (7, ai s157.2.1), (8, ai s157.2.1), (9, ai (v2 - 1))]) rfl ?_
                  refine jloop_J (C := fun s173 => jJ G M_Mo_evened (jEnd G M_Mo_evened (some (ai res.1)) (S, res.2)) 0 0 173 [(0, ar v0), (2, ai v2), (3, ai v3), (4, ai x8), (5, ai q132), (6, ai s157.1), (7, ai s157.2.1), (8, ai s173.1), (9, ai s173.2.1)] [] (S, s173.2.2)) (fun s173 z173_ hy173 hin173 hout173 => ?_) _ _ ht173
                  unfold Mo_evened_L173 at hy173
                  refine j_iload (dt_Mo_evened 95 (173, .iload 9, 2) rfl) rfl ?_
                  refine jite hy173 (fun hc hy173 => ?_) (fun hc hy173 => ?_)
                  · refine j_if_lt (dt_Mo_evened 96 (175, .ifCond .lt 28, 3) rfl) rfl (fun _ => ?_) (fun q => absurd hc q)
                    cases hy173
                    have hz := hX173 _ (hout173 _ rfl)
                    exact j_sub rfl hz
                  · refine j_if_lt (dt_Mo_evened 96 (175, .ifCond .lt 28, 3) rfl) rfl (fun q => absurd q hc) (fun _ => ?_)
                    refine j_aload_n (dt_Mo_evened 97 (178, .aload_n 0, 1) rfl) rfl ?_
                    obtain ⟨x15, hx15, hy173⟩ := jbind hy173
                    refine j_getR (dt_Mo_evened 98 (179, .getfield 169, 3) rfl) fl_X12_169 hx15 (fun _ _ => rfl) ?_
                    refine j_iload (dt_Mo_evened 99 (182, .iload 9, 2) rfl) rfl ?_
                    refine j_iload (dt_Mo_evened 100 (184, .iload 8, 2) rfl) rfl ?_
                    refine j_iload (dt_Mo_evened 101 (186, .iload 4, 2) rfl) rfl ?_
                    obtain ⟨_, hz, hy173⟩ := jbind hy173
                    refine j_irem (dt_Mo_evened 102 (188, .irem, 1) rfl) (jnz_ne hz) ?_
                    obtain ⟨V16, hV16, hy173⟩ := jbind hy173
                    refine j_astI (dt_Mo_evened 103 (189, .iastore, 1) rfl) hV16 ?_
                    refine j_iload (dt_Mo_evened 104 (190, .iload 8, 2) rfl) rfl ?_
                    refine j_iload (dt_Mo_evened 105 (192, .iload 4, 2) rfl) rfl ?_
                    obtain ⟨_, hz, hy173⟩ := jbind hy173
                    refine j_idiv (dt_Mo_evened 106 (194, .idiv, 1) rfl) (jnz_ne hz) ?_
                    refine j_istore (dt_Mo_evened 107 (195, .istore 8, 2) rfl) (nlt rfl) ?_
                    refine j_iinc (dt_Mo_evened 108 (197, .iinc 9 (-1), 3) rfl) rfl (nlt rfl) (ii_m1 _) ?_
                    refine j_goto (dt_Mo_evened 109 (200, .goto (-27), 3) rfl) rfl ?_
                    cases hy173
                    have hz := hin173 _ rfl
                    exact j_sub rfl hz
              refine j_sub (ls' := [(0, ar v0), (2, ai v2), (3, ai v3), (4, ai x8), (5, ai 1), (6, ai 0)]) rfl ?_
              refine jloop_J (C := fun s132 => jJ G M_Mo_evened (jEnd G M_Mo_evened (some (ai res.1)) (S, res.2)) 0 0 132 [(0, ar v0), (2, ai v2), (3, ai v3), (4, ai x8), (5, ai s132.1), (6, ai s132.2)] [] (S, q69)) (fun s132 z132_ hy132 hin132 hout132 => ?_) _ _ ht132
              unfold Mo_evened_L132 at hy132
              refine j_iload (dt_Mo_evened 73 (132, .iload 6, 2) rfl) rfl ?_
              refine j_iload_n (dt_Mo_evened 74 (134, .iload_n 2, 1) rfl) rfl ?_
              refine jite hy132 (fun hc hy132 => ?_) (fun hc hy132 => ?_)
              · refine j_icmp_ge (dt_Mo_evened 75 (135, .if_icmp .ge 16, 3) rfl) rfl (fun _ => ?_) (fun q => absurd hc q)
                cases hy132
                have hz := hX132 _ (hout132 _ rfl)
                exact j_sub rfl hz
              · refine j_icmp_ge (dt_Mo_evened 75 (135, .if_icmp .ge 16, 3) rfl) rfl (fun q => absurd q hc) (fun _ => ?_)
                refine j_iload (dt_Mo_evened 76 (138, .iload 5, 2) rfl) rfl ?_
                refine j_iload (dt_Mo_evened 77 (140, .iload 4, 2) rfl) rfl ?_
                refine j_imul (dt_Mo_evened 78 (142, .imul, 1) rfl) ?_
                refine j_istore (dt_Mo_evened 79 (143, .istore 5, 2) rfl) (nlt rfl) ?_
                refine j_iinc (dt_Mo_evened 80 (145, .iinc 6 1, 3) rfl) rfl (nlt rfl) (ii_1 _) ?_
                refine j_goto (dt_Mo_evened 81 (148, .goto (-16), 3) rfl) rfl ?_
                cases hy132
                have hz := hin132 _ rfl
                exact j_sub rfl hz
            refine j_sub (ls' := [(0, ar v0), (1, ai v1), (2, ai v2), (3, ai v3), (4, ai x8), (5, ai 0)]) rfl ?_
            refine jloop_J (C := fun s69 => jJ G M_Mo_evened (jEnd G M_Mo_evened (some (ai res.1)) (S, res.2)) 0 0 69 [(0, ar v0), (1, ai v1), (2, ai v2), (3, ai v3), (4, ai x8), (5, ai s69.1)] [] (S, s69.2)) (fun s69 z69_ hy69 hin69 hout69 => ?_) _ _ ht69
            unfold Mo_evened_L69 at hy69
            refine j_iload (dt_Mo_evened 40 (69, .iload 5, 2) rfl) rfl ?_
            refine j_iload (dt_Mo_evened 41 (71, .iload 4, 2) rfl) rfl ?_
            refine jite hy69 (fun hc hy69 => ?_) (fun hc hy69 => ?_)
            · refine j_icmp_ge (dt_Mo_evened 42 (73, .if_icmp .ge 53, 3) rfl) rfl (fun _ => ?_) (fun q => absurd hc q)
              cases hy69
              have hz := hX69 _ (hout69 _ rfl)
              exact j_sub rfl hz
            · refine j_icmp_ge (dt_Mo_evened 42 (73, .if_icmp .ge 53, 3) rfl) rfl (fun q => absurd q hc) (fun _ => ?_)
              refine j_aload_n (dt_Mo_evened 43 (76, .aload_n 0, 1) rfl) rfl ?_
              refine j_iload_n (dt_Mo_evened 44 (77, .iload_n 1, 1) rfl) rfl ?_
              refine j_iconst (dt_Mo_evened 45 (78, .iconst 0, 1) rfl) ic_0 ?_
              refine j_iload (dt_Mo_evened 46 (79, .iload 5, 2) rfl) rfl ?_
              obtain ⟨V9, hV9, hy69⟩ := jbind hy69
              obtain ⟨b10, hb10⟩ := r_Mo_finds hV9
              refine j_callV M_Mo_finds 3 [ai v1, ai 0, ai s69.1] (rest := []) (dt_Mo_evened 47 (81, .invokevirtual 330, 3) rfl) ml_X12_330 ok_Mo_finds (jfit rfl rfl ⟨rfl, rfl⟩ (nle rfl) (nlt rfl)) rfl rfl (nle rfl) ⟨rfl, rfl⟩ hb10 ((c_Mo_finds hV9)) ?_
              refine j_iconst (dt_Mo_evened 48 (84, .iconst 0, 1) rfl) ic_0 ?_
              refine j_istore (dt_Mo_evened 49 (85, .istore 6, 2) rfl) (nlt rfl) ?_
              obtain ⟨t87, ht87, hy69⟩ := jbind hy69
              have hX87 : ∀ q87 : hV, q87 = t87 → jJ G M_Mo_evened (jEnd G M_Mo_evened (some (ai res.1)) (S, res.2)) 0 0 120 [(0, ar v0), (1, ai v1), (2, ai v2), (3, ai v3), (4, ai x8), (5, ai s69.1)] [] (S, q87) := by
                intro q87 hq87
                subst hq87
                refine j_iinc (dt_Mo_evened 67 (120, .iinc 5 1, 3) rfl) rfl (nlt rfl) (ii_1 _) ?_
                refine j_goto (dt_Mo_evened 68 (123, .goto (-54), 3) rfl) rfl ?_
                cases hy69
                have hz := hin69 _ rfl
                exact j_sub rfl hz
              refine j_sub (ls' := [(0, ar v0), (1, ai v1), (2, ai v2), (3, ai v3), (4, ai x8), (5, ai s69.1), (6, ai 0)]) rfl ?_
              refine jloop_J (C := fun s87 => jJ G M_Mo_evened (jEnd G M_Mo_evened (some (ai res.1)) (S, res.2)) 0 0 87 [(0, ar v0), (1, ai v1), (2, ai v2), (3, ai v3), (4, ai x8), (5, ai s69.1), (6, ai s87.1)] [] (S, s87.2)) (fun s87 z87_ hy87 hin87 hout87 => ?_) _ _ ht87
              unfold Mo_evened_L87 at hy87
              refine j_iload (dt_Mo_evened 50 (87, .iload 6, 2) rfl) rfl ?_
              refine j_bipush (dt_Mo_evened 51 (89, .bipush 10, 2) rfl) bp_10 ?_
              refine jite hy87 (fun hc hy87 => ?_) (fun hc hy87 => ?_)
              · refine j_icmp_ge (dt_Mo_evened 52 (91, .if_icmp .ge 29, 3) rfl) rfl (fun _ => ?_) (fun q => absurd hc q)
                cases hy87
                have hz := hX87 _ (hout87 _ rfl)
                exact j_sub rfl hz
              · refine j_icmp_ge (dt_Mo_evened 52 (91, .if_icmp .ge 29, 3) rfl) rfl (fun q => absurd q hc) (fun _ => ?_)
                refine j_aload_n (dt_Mo_evened 53 (94, .aload_n 0, 1) rfl) rfl ?_
                obtain ⟨x11, hx11, hy87⟩ := jbind hy87
                refine j_getR (dt_Mo_evened 54 (95, .getfield 166, 3) rfl) fl_X12_166 hx11 (fun _ _ => rfl) ?_
                refine j_bipush (dt_Mo_evened 55 (98, .bipush 10, 2) rfl) bp_10 ?_
                refine j_iload (dt_Mo_evened 56 (100, .iload 5, 2) rfl) rfl ?_
                refine j_imul (dt_Mo_evened 57 (102, .imul, 1) rfl) ?_
                refine j_iload (dt_Mo_evened 58 (103, .iload 6, 2) rfl) rfl ?_
                refine j_iadd (dt_Mo_evened 59 (105, .iadd, 1) rfl) ?_
                refine j_aload_n (dt_Mo_evened 60 (106, .aload_n 0, 1) rfl) rfl ?_
                obtain ⟨x12, hx12, hy87⟩ := jbind hy87
                refine j_getR (dt_Mo_evened 61 (107, .getfield 108, 3) rfl) fl_X12_108 hx12 (fun _ _ => rfl) ?_
                refine j_iload (dt_Mo_evened 62 (110, .iload 6, 2) rfl) rfl ?_
                obtain ⟨x13, hx13, hy87⟩ := jbind hy87
                refine j_aldI (dt_Mo_evened 63 (112, .iaload, 1) rfl) hx13 ?_
                obtain ⟨V14, hV14, hy87⟩ := jbind hy87
                refine j_astI (dt_Mo_evened 64 (113, .iastore, 1) rfl) hV14 ?_
                refine j_iinc (dt_Mo_evened 65 (114, .iinc 6 1, 3) rfl) rfl (nlt rfl) (ii_1 _) ?_
                refine j_goto (dt_Mo_evened 66 (117, .goto (-30), 3) rfl) rfl ?_
                cases hy87
                have hz := hin87 _ rfl
                exact j_sub rfl hz
    · refine j_icmp_ne (dt_Mo_evened 9 (15, .if_icmp .ne 41, 3) rfl) rfl (fun _ => ?_) (fun q => absurd q hc)
      refine j_iconst (dt_Mo_evened 31 (56, .iconst (-1), 1) rfl) ic_m1 ?_
      cases hf
      exact j_iret (dt_Mo_evened 32 (57, .ireturn, 1) rfl) rfl
theorem r_Mo_evened {S : hS} {V : hV} {v0 : Option Nat} {v1 : Int32} {v2 : Int32} {v3 : Int32} {res : Int32 × hV} (hf : Mo_evened S v0 v1 v2 v3 V = some res) : ∃ b, rc S 12 v0 = some b := by
  unfold Mo_evened at hf
  obtain ⟨b, hb, _⟩ := jbind hf
  exact ⟨b, hb⟩
def tb_Mo_count : List (Nat × Instr × Nat) := [(0, .iconst 0, 1), (1, .istore_n 2, 1), (2, .iload_n 1, 1), (3, .tableswitch 229 0 8 #[49, 56, 63, 70, 75, 80, 117, 155, 192], 49), (52, .aload_n 0, 1), (53, .getfield 44, 3), (56, .iconst 0, 1), (57, .iaload, 1), (58, .ireturn, 1), (59, .aload_n 0, 1), (60, .getfield 48, 3), (63, .iconst 0, 1), (64, .iaload, 1), (65, .ireturn, 1), (66, .aload_n 0, 1), (67, .getfield 51, 3), (70, .iconst 0, 1), (71, .iaload, 1), (72, .ireturn, 1), (73, .aload_n 0, 1), (74, .getfield 268, 3), (77, .ireturn, 1), (78, .aload_n 0, 1), (79, .getfield 175, 3), (82, .ireturn, 1), (83, .iconst 0, 1), (84, .istore_n 3, 1), (85, .iload_n 3, 1), (86, .aload_n 0, 1), (87, .getfield 44, 3), (90, .iconst 0, 1), (91, .iaload, 1), (92, .if_icmp .ge 26, 3), (95, .iload_n 2, 1), (96, .aload_n 0, 1), (97, .getfield 81, 3), (100, .iload_n 3, 1), (101, .baload, 1), (102, .ifCond .eq 7, 3), (105, .iconst 1, 1), (106, .goto 4, 3), (109, .iconst 0, 1), (110, .iadd, 1), (111, .istore_n 2, 1), (112, .iinc 3 1, 3), (115, .goto (-30), 3), (118, .iload_n 2, 1), (119, .ireturn, 1), (120, .iconst 0, 1), (121, .istore_n 3, 1), (122, .iload_n 3, 1), (123, .aload_n 0, 1), (124, .getfield 44, 3), (127, .iconst 0, 1), (128, .iaload, 1), (129, .if_icmp .ge 27, 3), (132, .iload_n 2, 1), (133, .aload_n 0, 1), (134, .getfield 87, 3), (137, .iload_n 3, 1), (138, .iaload, 1), (139, .iconst (-1), 1), (140, .if_icmp .eq 7, 3), (143, .iconst 1, 1), (144, .goto 4, 3), (147, .iconst 0, 1), (148, .iadd, 1), (149, .istore_n 2, 1), (150, .iinc 3 1, 3), (153, .goto (-31), 3), (156, .iload_n 2, 1), (157, .ireturn, 1), (158, .iconst 0, 1), (159, .istore_n 3, 1), (160, .iload_n 3, 1), (161, .aload_n 0, 1), (162, .getfield 44, 3), (165, .iconst 0, 1), (166, .iaload, 1), (167, .if_icmp .ge 26, 3), (170, .iload_n 2, 1), (171, .aload_n 0, 1), (172, .getfield 84, 3), (175, .iload_n 3, 1), (176, .baload, 1), (177, .ifCond .eq 7, 3), (180, .iconst 1, 1), (181, .goto 4, 3), (184, .iconst 0, 1), (185, .iadd, 1), (186, .istore_n 2, 1), (187, .iinc 3 1, 3), (190, .goto (-30), 3), (193, .iload_n 2, 1), (194, .ireturn, 1), (195, .iconst 0, 1), (196, .istore_n 3, 1), (197, .iload_n 3, 1), (198, .aload_n 0, 1), (199, .getfield 51, 3), (202, .iconst 0, 1), (203, .iaload, 1), (204, .if_icmp .ge 26, 3), (207, .iload_n 2, 1), (208, .aload_n 0, 1), (209, .getfield 77, 3), (212, .iload_n 3, 1), (213, .baload, 1), (214, .ifCond .eq 7, 3), (217, .iconst 1, 1), (218, .goto 4, 3), (221, .iconst 0, 1), (222, .iadd, 1), (223, .istore_n 2, 1), (224, .iinc 3 1, 3), (227, .goto (-30), 3), (230, .iload_n 2, 1), (231, .ireturn, 1), (232, .iconst (-1), 1), (233, .ireturn, 1)]
theorem dt_Mo_count (i : Nat) (q : Nat × Instr × Nat) (h : tb_Mo_count[i]? = some q) : decode prog_14_method_84_code q.1 = .ok q.2 := jdt (by decide +kernel : tb_Mo_count.all (fun q => decide (decode prog_14_method_84_code q.1 = .ok q.2)) = true) h
theorem ok_Mo_count : jOKV M_Mo_count 1 := ⟨⟨gt8 82 rfl rfl, gt1 17 rfl rfl, (by decide : "FirstInModel" ≠ "java/lang/invoke/MethodHandle"), (by decide : "FirstInModel" ≠ "java/lang/invoke/VarHandle"), (by decide +kernel : (parseMethodDescriptor "(I)I").map (fun d => d.parameters.length) = some 1)⟩, gt8 80 rfl rfl, gt8 81 rfl rfl, rfl, nlt rfl⟩
set_option maxRecDepth 100000 in
set_option maxHeartbeats 4000000 in
theorem c_Mo_count {G : jG} {S : hS} {V : hV} {v0 : Option Nat} {v1 : Int32} {res : Int32} (hf : Mo_count S v0 v1 V = some res) : jC G M_Mo_count [ar v0, ai v1] (S, V) (some (ai res)) (S, V) := by
  unfold Mo_count at hf
  obtain ⟨_, _, hf⟩ := jbind hf
  refine jC_of (pf_X12 _ _) rfl (nle rfl) ?_
  show jJ G M_Mo_count (jEnd G M_Mo_count (some (ai res)) (S, V)) 0 0 0 [(0, ar v0), (1, ai v1)] [] (S, V)
  refine j_iconst (dt_Mo_count 0 (0, .iconst 0, 1) rfl) ic_0 ?_
  refine j_istore_n (dt_Mo_count 1 (1, .istore_n 2, 1) rfl) (nlt rfl) ?_
  refine j_iload_n (dt_Mo_count 2 (2, .iload_n 1, 1) rfl) rfl ?_
  refine jite hf (fun hc0 hf => ?_) (fun hc0 hf => ?_)
  · refine j_swIn (off := 49) (tgt := 52) 0 hc0 (dt_Mo_count 3 (3, .tableswitch 229 0 8 #[49, 56, 63, 70, 75, 80, 117, 155, 192], 49) rfl) (by decide) ?_
    refine j_aload_n (dt_Mo_count 4 (52, .aload_n 0, 1) rfl) rfl ?_
    obtain ⟨x1, hx1, hf⟩ := jbind hf
    refine j_getR (dt_Mo_count 5 (53, .getfield 44, 3) rfl) fl_X12_44 hx1 (fun _ _ => rfl) ?_
    refine j_iconst (dt_Mo_count 6 (56, .iconst 0, 1) rfl) ic_0 ?_
    obtain ⟨x2, hx2, hf⟩ := jbind hf
    refine j_aldI (dt_Mo_count 7 (57, .iaload, 1) rfl) hx2 ?_
    cases hf
    exact j_iret (dt_Mo_count 8 (58, .ireturn, 1) rfl) rfl
  · refine jite hf (fun hc1 hf => ?_) (fun hc1 hf => ?_)
    · refine j_swIn (off := 56) (tgt := 59) 1 hc1 (dt_Mo_count 3 (3, .tableswitch 229 0 8 #[49, 56, 63, 70, 75, 80, 117, 155, 192], 49) rfl) (by decide) ?_
      refine j_aload_n (dt_Mo_count 9 (59, .aload_n 0, 1) rfl) rfl ?_
      obtain ⟨x3, hx3, hf⟩ := jbind hf
      refine j_getR (dt_Mo_count 10 (60, .getfield 48, 3) rfl) fl_X12_48 hx3 (fun _ _ => rfl) ?_
      refine j_iconst (dt_Mo_count 11 (63, .iconst 0, 1) rfl) ic_0 ?_
      obtain ⟨x4, hx4, hf⟩ := jbind hf
      refine j_aldI (dt_Mo_count 12 (64, .iaload, 1) rfl) hx4 ?_
      cases hf
      exact j_iret (dt_Mo_count 13 (65, .ireturn, 1) rfl) rfl
    · refine jite hf (fun hc2 hf => ?_) (fun hc2 hf => ?_)
      · refine j_swIn (off := 63) (tgt := 66) 2 hc2 (dt_Mo_count 3 (3, .tableswitch 229 0 8 #[49, 56, 63, 70, 75, 80, 117, 155, 192], 49) rfl) (by decide) ?_
        refine j_aload_n (dt_Mo_count 14 (66, .aload_n 0, 1) rfl) rfl ?_
        obtain ⟨x5, hx5, hf⟩ := jbind hf
        refine j_getR (dt_Mo_count 15 (67, .getfield 51, 3) rfl) fl_X12_51 hx5 (fun _ _ => rfl) ?_
        refine j_iconst (dt_Mo_count 16 (70, .iconst 0, 1) rfl) ic_0 ?_
        obtain ⟨x6, hx6, hf⟩ := jbind hf
        refine j_aldI (dt_Mo_count 17 (71, .iaload, 1) rfl) hx6 ?_
        cases hf
        exact j_iret (dt_Mo_count 18 (72, .ireturn, 1) rfl) rfl
      · refine jite hf (fun hc3 hf => ?_) (fun hc3 hf => ?_)
        · refine j_swIn (off := 70) (tgt := 73) 3 hc3 (dt_Mo_count 3 (3, .tableswitch 229 0 8 #[49, 56, 63, 70, 75, 80, 117, 155, 192], 49) rfl) (by decide) ?_
          refine j_aload_n (dt_Mo_count 19 (73, .aload_n 0, 1) rfl) rfl ?_
          obtain ⟨x7, hx7, hf⟩ := jbind hf
          refine j_getI (dt_Mo_count 20 (74, .getfield 268, 3) rfl) fl_X12_268 hx7 (fun _ _ => rfl) ?_
          cases hf
          exact j_iret (dt_Mo_count 21 (77, .ireturn, 1) rfl) rfl
        · refine jite hf (fun hc4 hf => ?_) (fun hc4 hf => ?_)
          · refine j_swIn (off := 75) (tgt := 78) 4 hc4 (dt_Mo_count 3 (3, .tableswitch 229 0 8 #[49, 56, 63, 70, 75, 80, 117, 155, 192], 49) rfl) (by decide) ?_
            refine j_aload_n (dt_Mo_count 22 (78, .aload_n 0, 1) rfl) rfl ?_
            obtain ⟨x8, hx8, hf⟩ := jbind hf
            refine j_getI (dt_Mo_count 23 (79, .getfield 175, 3) rfl) fl_X12_175 hx8 (fun _ _ => rfl) ?_
            cases hf
            exact j_iret (dt_Mo_count 24 (82, .ireturn, 1) rfl) rfl
          · refine jite hf (fun hc5 hf => ?_) (fun hc5 hf => ?_)
            · refine j_swIn (off := 80) (tgt := 83) 5 hc5 (dt_Mo_count 3 (3, .tableswitch 229 0 8 #[49, 56, 63, 70, 75, 80, 117, 155, 192], 49) rfl) (by decide) ?_
              refine j_iconst (dt_Mo_count 25 (83, .iconst 0, 1) rfl) ic_0 ?_
              refine j_istore_n (dt_Mo_count 26 (84, .istore_n 3, 1) rfl) (nlt rfl) ?_
              obtain ⟨t85, ht85, hf⟩ := jbind hf
              have hX85 : ∀ q85 : Int32, q85 = t85 → jJ G M_Mo_count (jEnd G M_Mo_count (some (ai res)) (S, V)) 0 0 118 [(2, ai q85)] [] (S, V) := by
                intro q85 hq85
                subst hq85
                refine j_iload_n (dt_Mo_count 46 (118, .iload_n 2, 1) rfl) rfl ?_
                cases hf
                exact j_iret (dt_Mo_count 47 (119, .ireturn, 1) rfl) rfl
              refine j_sub (ls' := [(0, ar v0), (2, ai 0), (3, ai 0)]) rfl ?_
              refine jloop_J (C := fun s85 => jJ G M_Mo_count (jEnd G M_Mo_count (some (ai res)) (S, V)) 0 0 85 [(0, ar v0), (2, ai s85.1), (3, ai s85.2)] [] (S, V)) (fun s85 z85_ hy85 hin85 hout85 => ?_) _ _ ht85
              unfold Mo_count_L85 at hy85
              refine j_iload_n (dt_Mo_count 27 (85, .iload_n 3, 1) rfl) rfl ?_
              refine j_aload_n (dt_Mo_count 28 (86, .aload_n 0, 1) rfl) rfl ?_
              obtain ⟨x9, hx9, hy85⟩ := jbind hy85
              refine j_getR (dt_Mo_count 29 (87, .getfield 44, 3) rfl) fl_X12_44 hx9 (fun _ _ => rfl) ?_
              refine j_iconst (dt_Mo_count 30 (90, .iconst 0, 1) rfl) ic_0 ?_
              obtain ⟨x10, hx10, hy85⟩ := jbind hy85
              refine j_aldI (dt_Mo_count 31 (91, .iaload, 1) rfl) hx10 ?_
              refine jite hy85 (fun hc hy85 => ?_) (fun hc hy85 => ?_)
              · refine j_icmp_ge (dt_Mo_count 32 (92, .if_icmp .ge 26, 3) rfl) rfl (fun _ => ?_) (fun q => absurd hc q)
                cases hy85
                have hz := hX85 _ (hout85 _ rfl)
                exact j_sub rfl hz
              · refine j_icmp_ge (dt_Mo_count 32 (92, .if_icmp .ge 26, 3) rfl) rfl (fun q => absurd q hc) (fun _ => ?_)
                refine j_iload_n (dt_Mo_count 33 (95, .iload_n 2, 1) rfl) rfl ?_
                refine j_aload_n (dt_Mo_count 34 (96, .aload_n 0, 1) rfl) rfl ?_
                obtain ⟨x11, hx11, hy85⟩ := jbind hy85
                refine j_getR (dt_Mo_count 35 (97, .getfield 81, 3) rfl) fl_X12_81 hx11 (fun _ _ => rfl) ?_
                refine j_iload_n (dt_Mo_count 36 (100, .iload_n 3, 1) rfl) rfl ?_
                obtain ⟨x12, hx12, hy85⟩ := jbind hy85
                refine j_aldZ (dt_Mo_count 37 (101, .baload, 1) rfl) hx12 ?_
                refine jite hy85 (fun hc hy85 => ?_) (fun hc hy85 => ?_)
                · refine j_if_eq (dt_Mo_count 38 (102, .ifCond .eq 7, 3) rfl) rfl (fun _ => ?_) (fun q => absurd hc q)
                  refine j_iconst (dt_Mo_count 41 (109, .iconst 0, 1) rfl) ic_0 ?_
                  refine j_iadd (dt_Mo_count 42 (110, .iadd, 1) rfl) ?_
                  refine j_istore_n (dt_Mo_count 43 (111, .istore_n 2, 1) rfl) (nlt rfl) ?_
                  refine j_iinc (dt_Mo_count 44 (112, .iinc 3 1, 3) rfl) rfl (nlt rfl) (ii_1 _) ?_
                  refine j_goto (dt_Mo_count 45 (115, .goto (-30), 3) rfl) rfl ?_
                  cases hy85
                  have hz := hin85 _ rfl
                  exact j_sub rfl hz
                · refine j_if_eq (dt_Mo_count 38 (102, .ifCond .eq 7, 3) rfl) rfl (fun q => absurd q hc) (fun _ => ?_)
                  refine j_iconst (dt_Mo_count 39 (105, .iconst 1, 1) rfl) ic_1 ?_
                  refine j_goto (dt_Mo_count 40 (106, .goto 4, 3) rfl) rfl ?_
                  refine j_iadd (dt_Mo_count 42 (110, .iadd, 1) rfl) ?_
                  refine j_istore_n (dt_Mo_count 43 (111, .istore_n 2, 1) rfl) (nlt rfl) ?_
                  refine j_iinc (dt_Mo_count 44 (112, .iinc 3 1, 3) rfl) rfl (nlt rfl) (ii_1 _) ?_
                  refine j_goto (dt_Mo_count 45 (115, .goto (-30), 3) rfl) rfl ?_
                  cases hy85
                  have hz := hin85 _ rfl
                  exact j_sub rfl hz
            · refine jite hf (fun hc6 hf => ?_) (fun hc6 hf => ?_)
              · refine j_swIn (off := 117) (tgt := 120) 6 hc6 (dt_Mo_count 3 (3, .tableswitch 229 0 8 #[49, 56, 63, 70, 75, 80, 117, 155, 192], 49) rfl) (by decide) ?_
                refine j_iconst (dt_Mo_count 48 (120, .iconst 0, 1) rfl) ic_0 ?_
                refine j_istore_n (dt_Mo_count 49 (121, .istore_n 3, 1) rfl) (nlt rfl) ?_
                obtain ⟨t122, ht122, hf⟩ := jbind hf
                have hX122 : ∀ q122 : Int32, q122 = t122 → jJ G M_Mo_count (jEnd G M_Mo_count (some (ai res)) (S, V)) 0 0 156 [(2, ai q122)] [] (S, V) := by
                  intro q122 hq122
                  subst hq122
                  refine j_iload_n (dt_Mo_count 70 (156, .iload_n 2, 1) rfl) rfl ?_
                  cases hf
                  exact j_iret (dt_Mo_count 71 (157, .ireturn, 1) rfl) rfl
                refine j_sub (ls' := [(0, ar v0), (2, ai 0), (3, ai 0)]) rfl ?_
                refine jloop_J (C := fun s122 => jJ G M_Mo_count (jEnd G M_Mo_count (some (ai res)) (S, V)) 0 0 122 [(0, ar v0), (2, ai s122.1), (3, ai s122.2)] [] (S, V)) (fun s122 z122_ hy122 hin122 hout122 => ?_) _ _ ht122
                unfold Mo_count_L122 at hy122
                refine j_iload_n (dt_Mo_count 50 (122, .iload_n 3, 1) rfl) rfl ?_
                refine j_aload_n (dt_Mo_count 51 (123, .aload_n 0, 1) rfl) rfl ?_
                obtain ⟨x13, hx13, hy122⟩ := jbind hy122
                refine j_getR (dt_Mo_count 52 (124, .getfield 44, 3) rfl) fl_X12_44 hx13 (fun _ _ => rfl) ?_
                refine j_iconst (dt_Mo_count 53 (127, .iconst 0, 1) rfl) ic_0 ?_
                obtain ⟨x14, hx14, hy122⟩ := jbind hy122
                refine j_aldI (dt_Mo_count 54 (128, .iaload, 1) rfl) hx14 ?_
                refine jite hy122 (fun hc hy122 => ?_) (fun hc hy122 => ?_)
                · refine j_icmp_ge (dt_Mo_count 55 (129, .if_icmp .ge 27, 3) rfl) rfl (fun _ => ?_) (fun q => absurd hc q)
                  cases hy122
                  have hz := hX122 _ (hout122 _ rfl)
                  exact j_sub rfl hz
                · refine j_icmp_ge (dt_Mo_count 55 (129, .if_icmp .ge 27, 3) rfl) rfl (fun q => absurd q hc) (fun _ => ?_)
                  refine j_iload_n (dt_Mo_count 56 (132, .iload_n 2, 1) rfl) rfl ?_
                  refine j_aload_n (dt_Mo_count 57 (133, .aload_n 0, 1) rfl) rfl ?_
                  obtain ⟨x15, hx15, hy122⟩ := jbind hy122
                  refine j_getR (dt_Mo_count 58 (134, .getfield 87, 3) rfl) fl_X12_87 hx15 (fun _ _ => rfl) ?_
                  refine j_iload_n (dt_Mo_count 59 (137, .iload_n 3, 1) rfl) rfl ?_
                  obtain ⟨x16, hx16, hy122⟩ := jbind hy122
                  refine j_aldI (dt_Mo_count 60 (138, .iaload, 1) rfl) hx16 ?_
                  refine j_iconst (dt_Mo_count 61 (139, .iconst (-1), 1) rfl) ic_m1 ?_
                  refine jite hy122 (fun hc hy122 => ?_) (fun hc hy122 => ?_)
                  · refine j_icmp_eq (dt_Mo_count 62 (140, .if_icmp .eq 7, 3) rfl) rfl (fun _ => ?_) (fun q => absurd hc q)
                    refine j_iconst (dt_Mo_count 65 (147, .iconst 0, 1) rfl) ic_0 ?_
                    refine j_iadd (dt_Mo_count 66 (148, .iadd, 1) rfl) ?_
                    refine j_istore_n (dt_Mo_count 67 (149, .istore_n 2, 1) rfl) (nlt rfl) ?_
                    refine j_iinc (dt_Mo_count 68 (150, .iinc 3 1, 3) rfl) rfl (nlt rfl) (ii_1 _) ?_
                    refine j_goto (dt_Mo_count 69 (153, .goto (-31), 3) rfl) rfl ?_
                    cases hy122
                    have hz := hin122 _ rfl
                    exact j_sub rfl hz
                  · refine j_icmp_eq (dt_Mo_count 62 (140, .if_icmp .eq 7, 3) rfl) rfl (fun q => absurd q hc) (fun _ => ?_)
                    refine j_iconst (dt_Mo_count 63 (143, .iconst 1, 1) rfl) ic_1 ?_
                    refine j_goto (dt_Mo_count 64 (144, .goto 4, 3) rfl) rfl ?_
                    refine j_iadd (dt_Mo_count 66 (148, .iadd, 1) rfl) ?_
                    refine j_istore_n (dt_Mo_count 67 (149, .istore_n 2, 1) rfl) (nlt rfl) ?_
                    refine j_iinc (dt_Mo_count 68 (150, .iinc 3 1, 3) rfl) rfl (nlt rfl) (ii_1 _) ?_
                    refine j_goto (dt_Mo_count 69 (153, .goto (-31), 3) rfl) rfl ?_
                    cases hy122
                    have hz := hin122 _ rfl
                    exact j_sub rfl hz
              · refine jite hf (fun hc7 hf => ?_) (fun hc7 hf => ?_)
                · refine j_swIn (off := 155) (tgt := 158) 7 hc7 (dt_Mo_count 3 (3, .tableswitch 229 0 8 #[49, 56, 63, 70, 75, 80, 117, 155, 192], 49) rfl) (by decide) ?_
                  refine j_iconst (dt_Mo_count 72 (158, .iconst 0, 1) rfl) ic_0 ?_
                  refine j_istore_n (dt_Mo_count 73 (159, .istore_n 3, 1) rfl) (nlt rfl) ?_
                  obtain ⟨t160, ht160, hf⟩ := jbind hf
                  have hX160 : ∀ q160 : Int32, q160 = t160 → jJ G M_Mo_count (jEnd G M_Mo_count (some (ai res)) (S, V)) 0 0 193 [(2, ai q160)] [] (S, V) := by
                    intro q160 hq160
                    subst hq160
                    refine j_iload_n (dt_Mo_count 93 (193, .iload_n 2, 1) rfl) rfl ?_
                    cases hf
                    exact j_iret (dt_Mo_count 94 (194, .ireturn, 1) rfl) rfl
                  refine j_sub (ls' := [(0, ar v0), (2, ai 0), (3, ai 0)]) rfl ?_
                  refine jloop_J (C := fun s160 => jJ G M_Mo_count (jEnd G M_Mo_count (some (ai res)) (S, V)) 0 0 160 [(0, ar v0), (2, ai s160.1), (3, ai s160.2)] [] (S, V)) (fun s160 z160_ hy160 hin160 hout160 => ?_) _ _ ht160
                  unfold Mo_count_L160 at hy160
                  refine j_iload_n (dt_Mo_count 74 (160, .iload_n 3, 1) rfl) rfl ?_
                  refine j_aload_n (dt_Mo_count 75 (161, .aload_n 0, 1) rfl) rfl ?_
                  obtain ⟨x17, hx17, hy160⟩ := jbind hy160
                  refine j_getR (dt_Mo_count 76 (162, .getfield 44, 3) rfl) fl_X12_44 hx17 (fun _ _ => rfl) ?_
                  refine j_iconst (dt_Mo_count 77 (165, .iconst 0, 1) rfl) ic_0 ?_
                  obtain ⟨x18, hx18, hy160⟩ := jbind hy160
                  refine j_aldI (dt_Mo_count 78 (166, .iaload, 1) rfl) hx18 ?_
                  refine jite hy160 (fun hc hy160 => ?_) (fun hc hy160 => ?_)
                  · refine j_icmp_ge (dt_Mo_count 79 (167, .if_icmp .ge 26, 3) rfl) rfl (fun _ => ?_) (fun q => absurd hc q)
                    cases hy160
                    have hz := hX160 _ (hout160 _ rfl)
                    exact j_sub rfl hz
                  · refine j_icmp_ge (dt_Mo_count 79 (167, .if_icmp .ge 26, 3) rfl) rfl (fun q => absurd q hc) (fun _ => ?_)
                    refine j_iload_n (dt_Mo_count 80 (170, .iload_n 2, 1) rfl) rfl ?_
                    refine j_aload_n (dt_Mo_count 81 (171, .aload_n 0, 1) rfl) rfl ?_
                    obtain ⟨x19, hx19, hy160⟩ := jbind hy160
                    refine j_getR (dt_Mo_count 82 (172, .getfield 84, 3) rfl) fl_X12_84 hx19 (fun _ _ => rfl) ?_
                    refine j_iload_n (dt_Mo_count 83 (175, .iload_n 3, 1) rfl) rfl ?_
                    obtain ⟨x20, hx20, hy160⟩ := jbind hy160
                    refine j_aldZ (dt_Mo_count 84 (176, .baload, 1) rfl) hx20 ?_
                    refine jite hy160 (fun hc hy160 => ?_) (fun hc hy160 => ?_)
                    · refine j_if_eq (dt_Mo_count 85 (177, .ifCond .eq 7, 3) rfl) rfl (fun _ => ?_) (fun q => absurd hc q)
                      refine j_iconst (dt_Mo_count 88 (184, .iconst 0, 1) rfl) ic_0 ?_
                      refine j_iadd (dt_Mo_count 89 (185, .iadd, 1) rfl) ?_
                      refine j_istore_n (dt_Mo_count 90 (186, .istore_n 2, 1) rfl) (nlt rfl) ?_
                      refine j_iinc (dt_Mo_count 91 (187, .iinc 3 1, 3) rfl) rfl (nlt rfl) (ii_1 _) ?_
                      refine j_goto (dt_Mo_count 92 (190, .goto (-30), 3) rfl) rfl ?_
                      cases hy160
                      have hz := hin160 _ rfl
                      exact j_sub rfl hz
                    · refine j_if_eq (dt_Mo_count 85 (177, .ifCond .eq 7, 3) rfl) rfl (fun q => absurd q hc) (fun _ => ?_)
                      refine j_iconst (dt_Mo_count 86 (180, .iconst 1, 1) rfl) ic_1 ?_
                      refine j_goto (dt_Mo_count 87 (181, .goto 4, 3) rfl) rfl ?_
                      refine j_iadd (dt_Mo_count 89 (185, .iadd, 1) rfl) ?_
                      refine j_istore_n (dt_Mo_count 90 (186, .istore_n 2, 1) rfl) (nlt rfl) ?_
                      refine j_iinc (dt_Mo_count 91 (187, .iinc 3 1, 3) rfl) rfl (nlt rfl) (ii_1 _) ?_
                      refine j_goto (dt_Mo_count 92 (190, .goto (-30), 3) rfl) rfl ?_
                      cases hy160
                      have hz := hin160 _ rfl
                      exact j_sub rfl hz
                · refine jite hf (fun hc8 hf => ?_) (fun hc8 hf => ?_)
                  · refine j_swIn (off := 192) (tgt := 195) 8 hc8 (dt_Mo_count 3 (3, .tableswitch 229 0 8 #[49, 56, 63, 70, 75, 80, 117, 155, 192], 49) rfl) (by decide) ?_
                    refine j_iconst (dt_Mo_count 95 (195, .iconst 0, 1) rfl) ic_0 ?_
                    refine j_istore_n (dt_Mo_count 96 (196, .istore_n 3, 1) rfl) (nlt rfl) ?_
                    obtain ⟨t197, ht197, hf⟩ := jbind hf
                    have hX197 : ∀ q197 : Int32, q197 = t197 → jJ G M_Mo_count (jEnd G M_Mo_count (some (ai res)) (S, V)) 0 0 230 [(2, ai q197)] [] (S, V) := by
                      intro q197 hq197
                      subst hq197
                      refine j_iload_n (dt_Mo_count 116 (230, .iload_n 2, 1) rfl) rfl ?_
                      cases hf
                      exact j_iret (dt_Mo_count 117 (231, .ireturn, 1) rfl) rfl
                    refine j_sub (ls' := [(0, ar v0), (2, ai 0), (3, ai 0)]) rfl ?_
                    refine jloop_J (C := fun s197 => jJ G M_Mo_count (jEnd G M_Mo_count (some (ai res)) (S, V)) 0 0 197 [(0, ar v0), (2, ai s197.1), (3, ai s197.2)] [] (S, V)) (fun s197 z197_ hy197 hin197 hout197 => ?_) _ _ ht197
                    unfold Mo_count_L197 at hy197
                    refine j_iload_n (dt_Mo_count 97 (197, .iload_n 3, 1) rfl) rfl ?_
                    refine j_aload_n (dt_Mo_count 98 (198, .aload_n 0, 1) rfl) rfl ?_
                    obtain ⟨x21, hx21, hy197⟩ := jbind hy197
                    refine j_getR (dt_Mo_count 99 (199, .getfield 51, 3) rfl) fl_X12_51 hx21 (fun _ _ => rfl) ?_
                    refine j_iconst (dt_Mo_count 100 (202, .iconst 0, 1) rfl) ic_0 ?_
                    obtain ⟨x22, hx22, hy197⟩ := jbind hy197
                    refine j_aldI (dt_Mo_count 101 (203, .iaload, 1) rfl) hx22 ?_
                    refine jite hy197 (fun hc hy197 => ?_) (fun hc hy197 => ?_)
                    · refine j_icmp_ge (dt_Mo_count 102 (204, .if_icmp .ge 26, 3) rfl) rfl (fun _ => ?_) (fun q => absurd hc q)
                      cases hy197
                      have hz := hX197 _ (hout197 _ rfl)
                      exact j_sub rfl hz
                    · refine j_icmp_ge (dt_Mo_count 102 (204, .if_icmp .ge 26, 3) rfl) rfl (fun q => absurd q hc) (fun _ => ?_)
                      refine j_iload_n (dt_Mo_count 103 (207, .iload_n 2, 1) rfl) rfl ?_
                      refine j_aload_n (dt_Mo_count 104 (208, .aload_n 0, 1) rfl) rfl ?_
                      obtain ⟨x23, hx23, hy197⟩ := jbind hy197
                      refine j_getR (dt_Mo_count 105 (209, .getfield 77, 3) rfl) fl_X12_77 hx23 (fun _ _ => rfl) ?_
                      refine j_iload_n (dt_Mo_count 106 (212, .iload_n 3, 1) rfl) rfl ?_
                      obtain ⟨x24, hx24, hy197⟩ := jbind hy197
                      refine j_aldZ (dt_Mo_count 107 (213, .baload, 1) rfl) hx24 ?_
                      refine jite hy197 (fun hc hy197 => ?_) (fun hc hy197 => ?_)
                      · refine j_if_eq (dt_Mo_count 108 (214, .ifCond .eq 7, 3) rfl) rfl (fun _ => ?_) (fun q => absurd hc q)
                        refine j_iconst (dt_Mo_count 111 (221, .iconst 0, 1) rfl) ic_0 ?_
                        refine j_iadd (dt_Mo_count 112 (222, .iadd, 1) rfl) ?_
                        refine j_istore_n (dt_Mo_count 113 (223, .istore_n 2, 1) rfl) (nlt rfl) ?_
                        refine j_iinc (dt_Mo_count 114 (224, .iinc 3 1, 3) rfl) rfl (nlt rfl) (ii_1 _) ?_
                        refine j_goto (dt_Mo_count 115 (227, .goto (-30), 3) rfl) rfl ?_
                        cases hy197
                        have hz := hin197 _ rfl
                        exact j_sub rfl hz
                      · refine j_if_eq (dt_Mo_count 108 (214, .ifCond .eq 7, 3) rfl) rfl (fun q => absurd q hc) (fun _ => ?_)
                        refine j_iconst (dt_Mo_count 109 (217, .iconst 1, 1) rfl) ic_1 ?_
                        refine j_goto (dt_Mo_count 110 (218, .goto 4, 3) rfl) rfl ?_
                        refine j_iadd (dt_Mo_count 112 (222, .iadd, 1) rfl) ?_
                        refine j_istore_n (dt_Mo_count 113 (223, .istore_n 2, 1) rfl) (nlt rfl) ?_
                        refine j_iinc (dt_Mo_count 114 (224, .iinc 3 1, 3) rfl) rfl (nlt rfl) (ii_1 _) ?_
                        refine j_goto (dt_Mo_count 115 (227, .goto (-30), 3) rfl) rfl ?_
                        cases hy197
                        have hz := hin197 _ rfl
                        exact j_sub rfl hz
                  · refine j_swOut (dt_Mo_count 3 (3, .tableswitch 229 0 8 #[49, 56, 63, 70, 75, 80, 117, 155, 192], 49) rfl) (jsw_out (lo := 0) 9 (fun k hk => ?_) (by decide) (by decide)) rfl ?_
                    · match k, hk with
                      | 0, _ => exact hc0
                      | 1, _ => exact hc1
                      | 2, _ => exact hc2
                      | 3, _ => exact hc3
                      | 4, _ => exact hc4
                      | 5, _ => exact hc5
                      | 6, _ => exact hc6
                      | 7, _ => exact hc7
                      | 8, _ => exact hc8
                      | k + 9, hk => omega
                    · refine j_iconst (dt_Mo_count 118 (232, .iconst (-1), 1) rfl) ic_m1 ?_
                      cases hf
                      exact j_iret (dt_Mo_count 119 (233, .ireturn, 1) rfl) rfl
theorem r_Mo_count {S : hS} {V : hV} {v0 : Option Nat} {v1 : Int32} {res : Int32} (hf : Mo_count S v0 v1 V = some res) : ∃ b, rc S 12 v0 = some b := by
  unfold Mo_count at hf
  obtain ⟨b, hb, _⟩ := jbind hf
  exact ⟨b, hb⟩
def tb_Jd_fill : List (Nat × Instr × Nat) := [(0, .iconst 0, 1), (1, .istore_n 2, 1), (2, .aload_n 0, 1), (3, .arraylength, 1), (4, .istore_n 3, 1), (5, .iload_n 2, 1), (6, .iload_n 3, 1), (7, .if_icmp .ge 13, 3), (10, .aload_n 0, 1), (11, .iload_n 2, 1), (12, .iload_n 1, 1), (13, .iastore, 1), (14, .iinc 2 1, 3), (17, .goto (-12), 3), (20, .return_, 1)]
theorem dt_Jd_fill (i : Nat) (q : Nat × Instr × Nat) (h : tb_Jd_fill[i]? = some q) : decode prog_21_method_103_code q.1 = .ok q.2 := jdt (by decide +kernel : tb_Jd_fill.all (fun q => decide (decode prog_21_method_103_code q.1 = .ok q.2)) = true) h
theorem ok_Jd_fill : jOKS M_Jd_fill 2 := ⟨⟨gt3 213 rfl rfl, gt1 18 rfl rfl, (by decide : "java/util/Arrays" ≠ "java/lang/invoke/MethodHandle"), (by decide : "java/util/Arrays" ≠ "java/lang/invoke/VarHandle"), (by decide +kernel : (parseMethodDescriptor "([II)V").map (fun d => d.parameters.length) = some 2)⟩, gt3 212 rfl rfl⟩
set_option maxRecDepth 100000 in
set_option maxHeartbeats 4000000 in
theorem c_Jd_fill {G : jG} {S : hS} {V : hV} {v0 : Option Nat} {v1 : Int32} {res : hV} (hf : Jd_fill S v0 v1 V = some res) : jC G M_Jd_fill [ar v0, ai v1] (S, V) none (S, res) := by
  unfold Jd_fill at hf
  refine jC_of (by decide +kernel) rfl (nle rfl) ?_
  show jJ G M_Jd_fill (jEnd G M_Jd_fill none (S, res)) 0 0 0 [(0, ar v0), (1, ai v1)] [] (S, V)
  refine j_iconst (dt_Jd_fill 0 (0, .iconst 0, 1) rfl) ic_0 ?_
  refine j_istore_n (dt_Jd_fill 1 (1, .istore_n 2, 1) rfl) (nlt rfl) ?_
  refine j_aload_n (dt_Jd_fill 2 (2, .aload_n 0, 1) rfl) rfl ?_
  obtain ⟨x1, hx1, hf⟩ := jbind hf
  refine j_alen (dt_Jd_fill 3 (3, .arraylength, 1) rfl) hx1 ?_
  refine j_istore_n (dt_Jd_fill 4 (4, .istore_n 3, 1) rfl) (nlt rfl) ?_
  obtain ⟨t5, ht5, hf⟩ := jbind hf
  have hX5 : ∀ q5 : hV, q5 = t5 → jJ G M_Jd_fill (jEnd G M_Jd_fill none (S, res)) 0 0 20 [] [] (S, q5) := by
    intro q5 hq5
    subst hq5
    cases hf
    exact j_vret (dt_Jd_fill 14 (20, .return_, 1) rfl) rfl
  refine j_sub (ls' := [(0, ar v0), (1, ai v1), (2, ai 0), (3, ai x1)]) rfl ?_
  refine jloop_J (C := fun s5 => jJ G M_Jd_fill (jEnd G M_Jd_fill none (S, res)) 0 0 5 [(0, ar v0), (1, ai v1), (2, ai s5.1), (3, ai x1)] [] (S, s5.2)) (fun s5 z5_ hy5 hin5 hout5 => ?_) _ _ ht5
  unfold Jd_fill_L5 at hy5
  refine j_iload_n (dt_Jd_fill 5 (5, .iload_n 2, 1) rfl) rfl ?_
  refine j_iload_n (dt_Jd_fill 6 (6, .iload_n 3, 1) rfl) rfl ?_
  refine jite hy5 (fun hc hy5 => ?_) (fun hc hy5 => ?_)
  · refine j_icmp_ge (dt_Jd_fill 7 (7, .if_icmp .ge 13, 3) rfl) rfl (fun _ => ?_) (fun q => absurd hc q)
    cases hy5
    have hz := hX5 _ (hout5 _ rfl)
    exact j_sub rfl hz
  · refine j_icmp_ge (dt_Jd_fill 7 (7, .if_icmp .ge 13, 3) rfl) rfl (fun q => absurd q hc) (fun _ => ?_)
    refine j_aload_n (dt_Jd_fill 8 (10, .aload_n 0, 1) rfl) rfl ?_
    refine j_iload_n (dt_Jd_fill 9 (11, .iload_n 2, 1) rfl) rfl ?_
    refine j_iload_n (dt_Jd_fill 10 (12, .iload_n 1, 1) rfl) rfl ?_
    obtain ⟨V2, hV2, hy5⟩ := jbind hy5
    refine j_astI (dt_Jd_fill 11 (13, .iastore, 1) rfl) hV2 ?_
    refine j_iinc (dt_Jd_fill 12 (14, .iinc 2 1, 3) rfl) rfl (nlt rfl) (ii_1 _) ?_
    refine j_goto (dt_Jd_fill 13 (17, .goto (-12), 3) rfl) rfl ?_
    cases hy5
    have hz := hin5 _ rfl
    exact j_sub rfl hz
def tb_Court_empty : List (Nat × Instr × Nat) := [(0, .aload_n 0, 1), (1, .iconst 0, 1), (2, .putfield 27, 3), (5, .aload_n 0, 1), (6, .iconst 0, 1), (7, .putfield 31, 3), (10, .aload_n 0, 1), (11, .iconst 0, 1), (12, .putfield 34, 3), (15, .return_, 1)]
theorem dt_Court_empty (i : Nat) (q : Nat × Instr × Nat) (h : tb_Court_empty[i]? = some q) : decode prog_2_method_2_code q.1 = .ok q.2 := jdt (by decide +kernel : tb_Court_empty.all (fun q => decide (decode prog_2_method_2_code q.1 = .ok q.2)) = true) h
theorem ok_Court_empty : jOKV M_Court_empty 0 := ⟨⟨gt3 124 rfl rfl, gt1 15 rfl rfl, (by decide : "FirstIn$Court" ≠ "java/lang/invoke/MethodHandle"), (by decide : "FirstIn$Court" ≠ "java/lang/invoke/VarHandle"), (by decide +kernel : (parseMethodDescriptor "()V").map (fun d => d.parameters.length) = some 0)⟩, gt3 122 rfl rfl, gt3 123 rfl rfl, rfl, nlt rfl⟩
set_option maxRecDepth 100000 in
set_option maxHeartbeats 4000000 in
theorem c_Court_empty {G : jG} {S : hS} {V : hV} {v0 : Option Nat} {res : hV} (hf : Court_empty S v0 V = some res) : jC G M_Court_empty [ar v0] (S, V) none (S, res) := by
  unfold Court_empty at hf
  obtain ⟨_, _, hf⟩ := jbind hf
  refine jC_of (pf_X0 _ _) rfl (nle rfl) ?_
  show jJ G M_Court_empty (jEnd G M_Court_empty none (S, res)) 0 0 0 [(0, ar v0)] [] (S, V)
  refine j_aload_n (dt_Court_empty 0 (0, .aload_n 0, 1) rfl) rfl ?_
  refine j_iconst (dt_Court_empty 1 (1, .iconst 0, 1) rfl) ic_0 ?_
  obtain ⟨V1, hV1, hf⟩ := jbind hf
  refine j_putI (dt_Court_empty 2 (2, .putfield 27, 3) rfl) fl_X0_27 hV1 rfl (Or.inl rfl) ?_
  refine j_aload_n (dt_Court_empty 3 (5, .aload_n 0, 1) rfl) rfl ?_
  refine j_iconst (dt_Court_empty 4 (6, .iconst 0, 1) rfl) ic_0 ?_
  obtain ⟨V2, hV2, hf⟩ := jbind hf
  refine j_putI (dt_Court_empty 5 (7, .putfield 31, 3) rfl) fl_X0_31 hV2 rfl (Or.inl rfl) ?_
  refine j_aload_n (dt_Court_empty 6 (10, .aload_n 0, 1) rfl) rfl ?_
  refine j_iconst (dt_Court_empty 7 (11, .iconst 0, 1) rfl) ic_0 ?_
  obtain ⟨V3, hV3, hf⟩ := jbind hf
  refine j_putI (dt_Court_empty 8 (12, .putfield 34, 3) rfl) fl_X0_34 hV3 rfl (Or.inl rfl) ?_
  cases hf
  exact j_vret (dt_Court_empty 9 (15, .return_, 1) rfl) rfl
theorem r_Court_empty {S : hS} {V : hV} {v0 : Option Nat} {res : hV} (hf : Court_empty S v0 V = some res) : ∃ b, rc S 0 v0 = some b := by
  unfold Court_empty at hf
  obtain ⟨b, hb, _⟩ := jbind hf
  exact ⟨b, hb⟩
def tb_Court_open : List (Nat × Instr × Nat) := [(0, .aload_n 0, 1), (1, .iconst 1, 1), (2, .aload_n 0, 1), (3, .getfield 27, 3), (6, .ishl, 1), (7, .iconst 1, 1), (8, .isub, 1), (9, .putfield 37, 3), (12, .aload_n 0, 1), (13, .iconst 0, 1), (14, .putfield 40, 3), (17, .aload_n 0, 1), (18, .getfield 21, 3), (21, .iconst (-1), 1), (22, .invokestatic 50, 3), (25, .aload_n 0, 1), (26, .getfield 24, 3), (29, .iconst (-1), 1), (30, .invokestatic 50, 3), (33, .iconst 0, 1), (34, .istore_n 2, 1), (35, .iload_n 2, 1), (36, .aload_n 0, 1), (37, .getfield 17, 3), (40, .arraylength, 1), (41, .if_icmp .ge 19, 3), (44, .aload_n 0, 1), (45, .getfield 17, 3), (48, .iload_n 2, 1), (49, .aaload, 1), (50, .iconst 0, 1), (51, .putfield 56, 3), (54, .iinc 2 1, 3), (57, .goto (-22), 3), (60, .aload_n 0, 1), (61, .aload_n 1, 1), (62, .getfield 43, 3), (65, .iconst 1, 1), (66, .iadd, 1), (67, .putfield 43, 3), (70, .aload_n 0, 1), (71, .aload_n 1, 1), (72, .getfield 46, 3), (75, .iconst 1, 1), (76, .iadd, 1), (77, .putfield 46, 3), (80, .return_, 1)]
theorem dt_Court_open (i : Nat) (q : Nat × Instr × Nat) (h : tb_Court_open[i]? = some q) : decode prog_2_method_3_code q.1 = .ok q.2 := jdt (by decide +kernel : tb_Court_open.all (fun q => decide (decode prog_2_method_3_code q.1 = .ok q.2)) = true) h
theorem ok_Court_open : jOKV M_Court_open 1 := ⟨⟨gt3 222 rfl rfl, gt1 15 rfl rfl, (by decide : "FirstIn$Court" ≠ "java/lang/invoke/MethodHandle"), (by decide : "FirstIn$Court" ≠ "java/lang/invoke/VarHandle"), (by decide +kernel : (parseMethodDescriptor "(LFirstIn$Court;)V").map (fun d => d.parameters.length) = some 1)⟩, gt3 220 rfl rfl, gt3 221 rfl rfl, rfl, nlt rfl⟩
set_option maxRecDepth 100000 in
set_option maxHeartbeats 4000000 in
theorem c_Court_open {G : jG} {S : hS} {V : hV} {v0 : Option Nat} {v1 : Option Nat} {res : hV} (hf : Court_open S v0 v1 V = some res) : jC G M_Court_open [ar v0, ar v1] (S, V) none (S, res) := by
  unfold Court_open at hf
  obtain ⟨_, _, hf⟩ := jbind hf
  refine jC_of (pf_X0 _ _) rfl (nle rfl) ?_
  show jJ G M_Court_open (jEnd G M_Court_open none (S, res)) 0 0 0 [(0, ar v0), (1, ar v1)] [] (S, V)
  refine j_aload_n (dt_Court_open 0 (0, .aload_n 0, 1) rfl) rfl ?_
  refine j_iconst (dt_Court_open 1 (1, .iconst 1, 1) rfl) ic_1 ?_
  refine j_aload_n (dt_Court_open 2 (2, .aload_n 0, 1) rfl) rfl ?_
  obtain ⟨x1, hx1, hf⟩ := jbind hf
  refine j_getI (dt_Court_open 3 (3, .getfield 27, 3) rfl) fl_X0_27 hx1 (fun _ _ => rfl) ?_
  refine j_ishl (dt_Court_open 4 (6, .ishl, 1) rfl) ?_
  refine j_iconst (dt_Court_open 5 (7, .iconst 1, 1) rfl) ic_1 ?_
  refine j_isub (dt_Court_open 6 (8, .isub, 1) rfl) ?_
  obtain ⟨V2, hV2, hf⟩ := jbind hf
  refine j_putI (dt_Court_open 7 (9, .putfield 37, 3) rfl) fl_X0_37 hV2 rfl (Or.inl rfl) ?_
  refine j_aload_n (dt_Court_open 8 (12, .aload_n 0, 1) rfl) rfl ?_
  refine j_iconst (dt_Court_open 9 (13, .iconst 0, 1) rfl) ic_0 ?_
  obtain ⟨V3, hV3, hf⟩ := jbind hf
  refine j_putI (dt_Court_open 10 (14, .putfield 40, 3) rfl) fl_X0_40 hV3 rfl (Or.inl rfl) ?_
  refine j_aload_n (dt_Court_open 11 (17, .aload_n 0, 1) rfl) rfl ?_
  obtain ⟨x4, hx4, hf⟩ := jbind hf
  refine j_getR (dt_Court_open 12 (18, .getfield 21, 3) rfl) fl_X0_21 hx4 (fun _ _ => rfl) ?_
  refine j_iconst (dt_Court_open 13 (21, .iconst (-1), 1) rfl) ic_m1 ?_
  obtain ⟨V5, hV5, hf⟩ := jbind hf
  refine j_callS M_Jd_fill 2 [ar x4, ai (-1)] (rest := []) (dt_Court_open 14 (22, .invokestatic 50, 3) rfl) ml_X0_50 ok_Jd_fill (jfit rfl rfl ⟨rfl, rfl⟩ (nle rfl) (nlt rfl)) rfl rfl (nle rfl) ⟨rfl, rfl⟩ ((c_Jd_fill hV5)) ?_
  refine j_aload_n (dt_Court_open 15 (25, .aload_n 0, 1) rfl) rfl ?_
  obtain ⟨x6, hx6, hf⟩ := jbind hf
  refine j_getR (dt_Court_open 16 (26, .getfield 24, 3) rfl) fl_X0_24 hx6 (fun _ _ => rfl) ?_
  refine j_iconst (dt_Court_open 17 (29, .iconst (-1), 1) rfl) ic_m1 ?_
  obtain ⟨V7, hV7, hf⟩ := jbind hf
  refine j_callS M_Jd_fill 2 [ar x6, ai (-1)] (rest := []) (dt_Court_open 18 (30, .invokestatic 50, 3) rfl) ml_X0_50 ok_Jd_fill (jfit rfl rfl ⟨rfl, rfl⟩ (nle rfl) (nlt rfl)) rfl rfl (nle rfl) ⟨rfl, rfl⟩ ((c_Jd_fill hV7)) ?_
  refine j_iconst (dt_Court_open 19 (33, .iconst 0, 1) rfl) ic_0 ?_
  refine j_istore_n (dt_Court_open 20 (34, .istore_n 2, 1) rfl) (nlt rfl) ?_
  obtain ⟨t35, ht35, hf⟩ := jbind hf
  have hX35 : ∀ q35 : hV, q35 = t35 → jJ G M_Court_open (jEnd G M_Court_open none (S, res)) 0 0 60 [(0, ar v0), (1, ar v1)] [] (S, q35) := by
    intro q35 hq35
    subst hq35
    refine j_aload_n (dt_Court_open 34 (60, .aload_n 0, 1) rfl) rfl ?_
    refine j_aload_n (dt_Court_open 35 (61, .aload_n 1, 1) rfl) rfl ?_
    obtain ⟨x13, hx13, hf⟩ := jbind hf
    refine j_getI (dt_Court_open 36 (62, .getfield 43, 3) rfl) fl_X0_43 hx13 (fun _ _ => rfl) ?_
    refine j_iconst (dt_Court_open 37 (65, .iconst 1, 1) rfl) ic_1 ?_
    refine j_iadd (dt_Court_open 38 (66, .iadd, 1) rfl) ?_
    obtain ⟨V14, hV14, hf⟩ := jbind hf
    refine j_putI (dt_Court_open 39 (67, .putfield 43, 3) rfl) fl_X0_43 hV14 rfl (Or.inl rfl) ?_
    refine j_aload_n (dt_Court_open 40 (70, .aload_n 0, 1) rfl) rfl ?_
    refine j_aload_n (dt_Court_open 41 (71, .aload_n 1, 1) rfl) rfl ?_
    obtain ⟨x15, hx15, hf⟩ := jbind hf
    refine j_getI (dt_Court_open 42 (72, .getfield 46, 3) rfl) fl_X0_46 hx15 (fun _ _ => rfl) ?_
    refine j_iconst (dt_Court_open 43 (75, .iconst 1, 1) rfl) ic_1 ?_
    refine j_iadd (dt_Court_open 44 (76, .iadd, 1) rfl) ?_
    obtain ⟨V16, hV16, hf⟩ := jbind hf
    refine j_putI (dt_Court_open 45 (77, .putfield 46, 3) rfl) fl_X0_46 hV16 rfl (Or.inl rfl) ?_
    cases hf
    exact j_vret (dt_Court_open 46 (80, .return_, 1) rfl) rfl
  refine j_sub (ls' := [(0, ar v0), (1, ar v1), (2, ai 0)]) rfl ?_
  refine jloop_J (C := fun s35 => jJ G M_Court_open (jEnd G M_Court_open none (S, res)) 0 0 35 [(0, ar v0), (1, ar v1), (2, ai s35.1)] [] (S, s35.2)) (fun s35 z35_ hy35 hin35 hout35 => ?_) _ _ ht35
  unfold Court_open_L35 at hy35
  refine j_iload_n (dt_Court_open 21 (35, .iload_n 2, 1) rfl) rfl ?_
  refine j_aload_n (dt_Court_open 22 (36, .aload_n 0, 1) rfl) rfl ?_
  obtain ⟨x8, hx8, hy35⟩ := jbind hy35
  refine j_getR (dt_Court_open 23 (37, .getfield 17, 3) rfl) fl_X0_17 hx8 (fun _ _ => rfl) ?_
  obtain ⟨x9, hx9, hy35⟩ := jbind hy35
  refine j_alen (dt_Court_open 24 (40, .arraylength, 1) rfl) hx9 ?_
  refine jite hy35 (fun hc hy35 => ?_) (fun hc hy35 => ?_)
  · refine j_icmp_ge (dt_Court_open 25 (41, .if_icmp .ge 19, 3) rfl) rfl (fun _ => ?_) (fun q => absurd hc q)
    cases hy35
    have hz := hX35 _ (hout35 _ rfl)
    exact j_sub rfl hz
  · refine j_icmp_ge (dt_Court_open 25 (41, .if_icmp .ge 19, 3) rfl) rfl (fun q => absurd q hc) (fun _ => ?_)
    refine j_aload_n (dt_Court_open 26 (44, .aload_n 0, 1) rfl) rfl ?_
    obtain ⟨x10, hx10, hy35⟩ := jbind hy35
    refine j_getR (dt_Court_open 27 (45, .getfield 17, 3) rfl) fl_X0_17 hx10 (fun _ _ => rfl) ?_
    refine j_iload_n (dt_Court_open 28 (48, .iload_n 2, 1) rfl) rfl ?_
    obtain ⟨x11, hx11, hy35⟩ := jbind hy35
    refine j_aldR 105 (dt_Court_open 29 (49, .aaload, 1) rfl) (by decide) hx11 ?_
    refine j_iconst (dt_Court_open 30 (50, .iconst 0, 1) rfl) ic_0 ?_
    obtain ⟨V12, hV12, hy35⟩ := jbind hy35
    refine j_putZ (dt_Court_open 31 (51, .putfield 56, 3) rfl) fl_X0_56 hV12 rfl (Or.inl rfl) ?_
    refine j_iinc (dt_Court_open 32 (54, .iinc 2 1, 3) rfl) rfl (nlt rfl) (ii_1 _) ?_
    refine j_goto (dt_Court_open 33 (57, .goto (-22), 3) rfl) rfl ?_
    cases hy35
    have hz := hin35 _ rfl
    exact j_sub rfl hz
theorem r_Court_open {S : hS} {V : hV} {v0 : Option Nat} {v1 : Option Nat} {res : hV} (hf : Court_open S v0 v1 V = some res) : ∃ b, rc S 0 v0 = some b := by
  unfold Court_open at hf
  obtain ⟨b, hb, _⟩ := jbind hf
  exact ⟨b, hb⟩
def tb_Court_hasGuest : List (Nat × Instr × Nat) := [(0, .iload_n 1, 1), (1, .ifCond .lt 21, 3), (4, .iload_n 1, 1), (5, .aload_n 0, 1), (6, .getfield 27, 3), (9, .if_icmp .ge 13, 3), (12, .iload_n 1, 1), (13, .bipush 10, 2), (15, .if_icmp .ge 7, 3), (18, .iconst 1, 1), (19, .goto 4, 3), (22, .iconst 0, 1), (23, .ireturn, 1)]
theorem dt_Court_hasGuest (i : Nat) (q : Nat × Instr × Nat) (h : tb_Court_hasGuest[i]? = some q) : decode prog_2_method_4_code q.1 = .ok q.2 := jdt (by decide +kernel : tb_Court_hasGuest.all (fun q => decide (decode prog_2_method_4_code q.1 = .ok q.2)) = true) h
theorem ok_Court_hasGuest : jOKV M_Court_hasGuest 1 := ⟨⟨gt3 206 rfl rfl, gt1 15 rfl rfl, (by decide : "FirstIn$Court" ≠ "java/lang/invoke/MethodHandle"), (by decide : "FirstIn$Court" ≠ "java/lang/invoke/VarHandle"), (by decide +kernel : (parseMethodDescriptor "(I)Z").map (fun d => d.parameters.length) = some 1)⟩, gt3 204 rfl rfl, gt3 205 rfl rfl, rfl, nlt rfl⟩
set_option maxRecDepth 100000 in
set_option maxHeartbeats 4000000 in
theorem c_Court_hasGuest {G : jG} {S : hS} {V : hV} {v0 : Option Nat} {v1 : Int32} {res : Int32} (hf : Court_hasGuest S v0 v1 V = some res) : jC G M_Court_hasGuest [ar v0, ai v1] (S, V) (some (ai res)) (S, V) := by
  unfold Court_hasGuest at hf
  obtain ⟨_, _, hf⟩ := jbind hf
  refine jC_of (pf_X0 _ _) rfl (nle rfl) ?_
  show jJ G M_Court_hasGuest (jEnd G M_Court_hasGuest (some (ai res)) (S, V)) 0 0 0 [(0, ar v0), (1, ai v1)] [] (S, V)
  refine j_iload_n (dt_Court_hasGuest 0 (0, .iload_n 1, 1) rfl) rfl ?_
  refine jite hf (fun hc hf => ?_) (fun hc hf => ?_)
  · refine j_if_lt (dt_Court_hasGuest 1 (1, .ifCond .lt 21, 3) rfl) rfl (fun _ => ?_) (fun q => absurd hc q)
    refine j_iconst (dt_Court_hasGuest 11 (22, .iconst 0, 1) rfl) ic_0 ?_
    cases hf
    exact j_zret (x := 0) (dt_Court_hasGuest 12 (23, .ireturn, 1) rfl) rfl rfl
  · refine j_if_lt (dt_Court_hasGuest 1 (1, .ifCond .lt 21, 3) rfl) rfl (fun q => absurd q hc) (fun _ => ?_)
    refine j_iload_n (dt_Court_hasGuest 2 (4, .iload_n 1, 1) rfl) rfl ?_
    refine j_aload_n (dt_Court_hasGuest 3 (5, .aload_n 0, 1) rfl) rfl ?_
    obtain ⟨x1, hx1, hf⟩ := jbind hf
    refine j_getI (dt_Court_hasGuest 4 (6, .getfield 27, 3) rfl) fl_X0_27 hx1 (fun _ _ => rfl) ?_
    refine jite hf (fun hc hf => ?_) (fun hc hf => ?_)
    · refine j_icmp_ge (dt_Court_hasGuest 5 (9, .if_icmp .ge 13, 3) rfl) rfl (fun _ => ?_) (fun q => absurd hc q)
      refine j_iconst (dt_Court_hasGuest 11 (22, .iconst 0, 1) rfl) ic_0 ?_
      cases hf
      exact j_zret (x := 0) (dt_Court_hasGuest 12 (23, .ireturn, 1) rfl) rfl rfl
    · refine j_icmp_ge (dt_Court_hasGuest 5 (9, .if_icmp .ge 13, 3) rfl) rfl (fun q => absurd q hc) (fun _ => ?_)
      refine j_iload_n (dt_Court_hasGuest 6 (12, .iload_n 1, 1) rfl) rfl ?_
      refine j_bipush (dt_Court_hasGuest 7 (13, .bipush 10, 2) rfl) bp_10 ?_
      refine jite hf (fun hc hf => ?_) (fun hc hf => ?_)
      · refine j_icmp_ge (dt_Court_hasGuest 8 (15, .if_icmp .ge 7, 3) rfl) rfl (fun _ => ?_) (fun q => absurd hc q)
        refine j_iconst (dt_Court_hasGuest 11 (22, .iconst 0, 1) rfl) ic_0 ?_
        cases hf
        exact j_zret (x := 0) (dt_Court_hasGuest 12 (23, .ireturn, 1) rfl) rfl rfl
      · refine j_icmp_ge (dt_Court_hasGuest 8 (15, .if_icmp .ge 7, 3) rfl) rfl (fun q => absurd q hc) (fun _ => ?_)
        refine j_iconst (dt_Court_hasGuest 9 (18, .iconst 1, 1) rfl) ic_1 ?_
        refine j_goto (dt_Court_hasGuest 10 (19, .goto 4, 3) rfl) rfl ?_
        cases hf
        exact j_zret (x := 1) (dt_Court_hasGuest 12 (23, .ireturn, 1) rfl) rfl rfl
theorem r_Court_hasGuest {S : hS} {V : hV} {v0 : Option Nat} {v1 : Int32} {res : Int32} (hf : Court_hasGuest S v0 v1 V = some res) : ∃ b, rc S 0 v0 = some b := by
  unfold Court_hasGuest at hf
  obtain ⟨b, hb, _⟩ := jbind hf
  exact ⟨b, hb⟩
def tb_Fi_has : List (Nat × Instr × Nat) := [(0, .iload_n 0, 1), (1, .iload_n 1, 1), (2, .ishr, 1), (3, .iconst 1, 1), (4, .iand, 1), (5, .ifCond .eq 7, 3), (8, .iconst 1, 1), (9, .goto 4, 3), (12, .iconst 0, 1), (13, .ireturn, 1)]
theorem dt_Fi_has (i : Nat) (q : Nat × Instr × Nat) (h : tb_Fi_has[i]? = some q) : decode prog_1_method_37_code q.1 = .ok q.2 := jdt (by decide +kernel : tb_Fi_has.all (fun q => decide (decode prog_1_method_37_code q.1 = .ok q.2)) = true) h
theorem ok_Fi_has : jOKS M_Fi_has 2 := ⟨⟨gt3 182 rfl rfl, gt1 1 rfl rfl, (by decide : "FirstIn" ≠ "java/lang/invoke/MethodHandle"), (by decide : "FirstIn" ≠ "java/lang/invoke/VarHandle"), (by decide +kernel : (parseMethodDescriptor "(II)Z").map (fun d => d.parameters.length) = some 2)⟩, gt3 181 rfl rfl⟩
set_option maxRecDepth 100000 in
set_option maxHeartbeats 4000000 in
theorem c_Fi_has {G : jG} {S : hS} {V : hV} {v0 : Int32} {v1 : Int32} {res : Int32} (hf : Fi_has v0 v1 = res) : jC G M_Fi_has [ai v0, ai v1] (S, V) (some (ai res)) (S, V) := by
  unfold Fi_has at hf
  refine jC_of (pf_X11 _ _) rfl (nle rfl) ?_
  show jJ G M_Fi_has (jEnd G M_Fi_has (some (ai res)) (S, V)) 0 0 0 [(0, ai v0), (1, ai v1)] [] (S, V)
  refine j_iload_n (dt_Fi_has 0 (0, .iload_n 0, 1) rfl) rfl ?_
  refine j_iload_n (dt_Fi_has 1 (1, .iload_n 1, 1) rfl) rfl ?_
  refine j_ishr (dt_Fi_has 2 (2, .ishr, 1) rfl) ?_
  refine j_iconst (dt_Fi_has 3 (3, .iconst 1, 1) rfl) ic_1 ?_
  refine j_iand (dt_Fi_has 4 (4, .iand, 1) rfl) ?_
  refine jite hf (fun hc hf => ?_) (fun hc hf => ?_)
  · refine j_if_eq (dt_Fi_has 5 (5, .ifCond .eq 7, 3) rfl) rfl (fun _ => ?_) (fun q => absurd hc q)
    refine j_iconst (dt_Fi_has 8 (12, .iconst 0, 1) rfl) ic_0 ?_
    cases hf
    exact j_zret (x := 0) (dt_Fi_has 9 (13, .ireturn, 1) rfl) rfl rfl
  · refine j_if_eq (dt_Fi_has 5 (5, .ifCond .eq 7, 3) rfl) rfl (fun q => absurd q hc) (fun _ => ?_)
    refine j_iconst (dt_Fi_has 6 (8, .iconst 1, 1) rfl) ic_1 ?_
    refine j_goto (dt_Fi_has 7 (9, .goto 4, 3) rfl) rfl ?_
    cases hf
    exact j_zret (x := 1) (dt_Fi_has 9 (13, .ireturn, 1) rfl) rfl rfl
def tb_Court_isComing : List (Nat × Instr × Nat) := [(0, .aload_n 0, 1), (1, .iload_n 1, 1), (2, .invokevirtual 60, 3), (5, .ifCond .eq 18, 3), (8, .aload_n 0, 1), (9, .getfield 37, 3), (12, .iload_n 1, 1), (13, .invokestatic 64, 3), (16, .ifCond .eq 7, 3), (19, .iconst 1, 1), (20, .goto 4, 3), (23, .iconst 0, 1), (24, .ireturn, 1)]
theorem dt_Court_isComing (i : Nat) (q : Nat × Instr × Nat) (h : tb_Court_isComing[i]? = some q) : decode prog_2_method_5_code q.1 = .ok q.2 := jdt (by decide +kernel : tb_Court_isComing.all (fun q => decide (decode prog_2_method_5_code q.1 = .ok q.2)) = true) h
theorem ok_Court_isComing : jOKV M_Court_isComing 1 := ⟨⟨gt4 63 rfl rfl, gt1 15 rfl rfl, (by decide : "FirstIn$Court" ≠ "java/lang/invoke/MethodHandle"), (by decide : "FirstIn$Court" ≠ "java/lang/invoke/VarHandle"), (by decide +kernel : (parseMethodDescriptor "(I)Z").map (fun d => d.parameters.length) = some 1)⟩, gt4 61 rfl rfl, gt4 62 rfl rfl, rfl, nlt rfl⟩
set_option maxRecDepth 100000 in
set_option maxHeartbeats 4000000 in
theorem c_Court_isComing {G : jG} {S : hS} {V : hV} {v0 : Option Nat} {v1 : Int32} {res : Int32} (hf : Court_isComing S v0 v1 V = some res) : jC G M_Court_isComing [ar v0, ai v1] (S, V) (some (ai res)) (S, V) := by
  unfold Court_isComing at hf
  obtain ⟨_, _, hf⟩ := jbind hf
  refine jC_of (pf_X0 _ _) rfl (nle rfl) ?_
  show jJ G M_Court_isComing (jEnd G M_Court_isComing (some (ai res)) (S, V)) 0 0 0 [(0, ar v0), (1, ai v1)] [] (S, V)
  refine j_aload_n (dt_Court_isComing 0 (0, .aload_n 0, 1) rfl) rfl ?_
  refine j_iload_n (dt_Court_isComing 1 (1, .iload_n 1, 1) rfl) rfl ?_
  obtain ⟨x1, hx1, hf⟩ := jbind hf
  obtain ⟨b2, hb2⟩ := r_Court_hasGuest hx1
  refine j_callV M_Court_hasGuest 1 [ai v1] (rest := []) (dt_Court_isComing 2 (2, .invokevirtual 60, 3) rfl) ml_X0_60 ok_Court_hasGuest (jfit rfl rfl ⟨rfl, rfl⟩ (nle rfl) (nlt rfl)) rfl rfl (nle rfl) ⟨rfl, rfl⟩ hb2 ((c_Court_hasGuest hx1)) ?_
  refine jite hf (fun hc hf => ?_) (fun hc hf => ?_)
  · refine j_if_eq (dt_Court_isComing 3 (5, .ifCond .eq 18, 3) rfl) rfl (fun _ => ?_) (fun q => absurd hc q)
    refine j_iconst (dt_Court_isComing 11 (23, .iconst 0, 1) rfl) ic_0 ?_
    cases hf
    exact j_zret (x := 0) (dt_Court_isComing 12 (24, .ireturn, 1) rfl) rfl rfl
  · refine j_if_eq (dt_Court_isComing 3 (5, .ifCond .eq 18, 3) rfl) rfl (fun q => absurd q hc) (fun _ => ?_)
    refine j_aload_n (dt_Court_isComing 4 (8, .aload_n 0, 1) rfl) rfl ?_
    obtain ⟨x3, hx3, hf⟩ := jbind hf
    refine j_getI (dt_Court_isComing 5 (9, .getfield 37, 3) rfl) fl_X0_37 hx3 (fun _ _ => rfl) ?_
    refine j_iload_n (dt_Court_isComing 6 (12, .iload_n 1, 1) rfl) rfl ?_
    refine j_callSN M_Fi_has 2 [ai x3, ai v1] (rest := []) (dt_Court_isComing 7 (13, .invokestatic 64, 3) rfl) ml_X0_64 ok_Fi_has (jfit rfl rfl ⟨rfl, rfl⟩ (nle rfl) (nlt rfl)) rfl rfl (nle rfl) ⟨rfl, rfl⟩ (c_Fi_has rfl) ?_
    refine jite hf (fun hc hf => ?_) (fun hc hf => ?_)
    · refine j_if_eq (dt_Court_isComing 8 (16, .ifCond .eq 7, 3) rfl) rfl (fun _ => ?_) (fun q => absurd hc q)
      refine j_iconst (dt_Court_isComing 11 (23, .iconst 0, 1) rfl) ic_0 ?_
      cases hf
      exact j_zret (x := 0) (dt_Court_isComing 12 (24, .ireturn, 1) rfl) rfl rfl
    · refine j_if_eq (dt_Court_isComing 8 (16, .ifCond .eq 7, 3) rfl) rfl (fun q => absurd q hc) (fun _ => ?_)
      refine j_iconst (dt_Court_isComing 9 (19, .iconst 1, 1) rfl) ic_1 ?_
      refine j_goto (dt_Court_isComing 10 (20, .goto 4, 3) rfl) rfl ?_
      cases hf
      exact j_zret (x := 1) (dt_Court_isComing 12 (24, .ireturn, 1) rfl) rfl rfl
theorem r_Court_isComing {S : hS} {V : hV} {v0 : Option Nat} {v1 : Int32} {res : Int32} (hf : Court_isComing S v0 v1 V = some res) : ∃ b, rc S 0 v0 = some b := by
  unfold Court_isComing at hf
  obtain ⟨b, hb, _⟩ := jbind hf
  exact ⟨b, hb⟩
def tb_Court_isSeated : List (Nat × Instr × Nat) := [(0, .aload_n 0, 1), (1, .iload_n 1, 1), (2, .invokevirtual 60, 3), (5, .ifCond .eq 17, 3), (8, .aload_n 0, 1), (9, .getfield 21, 3), (12, .iload_n 1, 1), (13, .iaload, 1), (14, .iconst (-1), 1), (15, .if_icmp .eq 7, 3), (18, .iconst 1, 1), (19, .goto 4, 3), (22, .iconst 0, 1), (23, .ireturn, 1)]
theorem dt_Court_isSeated (i : Nat) (q : Nat × Instr × Nat) (h : tb_Court_isSeated[i]? = some q) : decode prog_2_method_6_code q.1 = .ok q.2 := jdt (by decide +kernel : tb_Court_isSeated.all (fun q => decide (decode prog_2_method_6_code q.1 = .ok q.2)) = true) h
theorem ok_Court_isSeated : jOKV M_Court_isSeated 1 := ⟨⟨gt4 77 rfl rfl, gt1 15 rfl rfl, (by decide : "FirstIn$Court" ≠ "java/lang/invoke/MethodHandle"), (by decide : "FirstIn$Court" ≠ "java/lang/invoke/VarHandle"), (by decide +kernel : (parseMethodDescriptor "(I)Z").map (fun d => d.parameters.length) = some 1)⟩, gt4 75 rfl rfl, gt4 76 rfl rfl, rfl, nlt rfl⟩
set_option maxRecDepth 100000 in
set_option maxHeartbeats 4000000 in
theorem c_Court_isSeated {G : jG} {S : hS} {V : hV} {v0 : Option Nat} {v1 : Int32} {res : Int32} (hf : Court_isSeated S v0 v1 V = some res) : jC G M_Court_isSeated [ar v0, ai v1] (S, V) (some (ai res)) (S, V) := by
  unfold Court_isSeated at hf
  obtain ⟨_, _, hf⟩ := jbind hf
  refine jC_of (pf_X0 _ _) rfl (nle rfl) ?_
  show jJ G M_Court_isSeated (jEnd G M_Court_isSeated (some (ai res)) (S, V)) 0 0 0 [(0, ar v0), (1, ai v1)] [] (S, V)
  refine j_aload_n (dt_Court_isSeated 0 (0, .aload_n 0, 1) rfl) rfl ?_
  refine j_iload_n (dt_Court_isSeated 1 (1, .iload_n 1, 1) rfl) rfl ?_
  obtain ⟨x1, hx1, hf⟩ := jbind hf
  obtain ⟨b2, hb2⟩ := r_Court_hasGuest hx1
  refine j_callV M_Court_hasGuest 1 [ai v1] (rest := []) (dt_Court_isSeated 2 (2, .invokevirtual 60, 3) rfl) ml_X0_60 ok_Court_hasGuest (jfit rfl rfl ⟨rfl, rfl⟩ (nle rfl) (nlt rfl)) rfl rfl (nle rfl) ⟨rfl, rfl⟩ hb2 ((c_Court_hasGuest hx1)) ?_
  refine jite hf (fun hc hf => ?_) (fun hc hf => ?_)
  · refine j_if_eq (dt_Court_isSeated 3 (5, .ifCond .eq 17, 3) rfl) rfl (fun _ => ?_) (fun q => absurd hc q)
    refine j_iconst (dt_Court_isSeated 12 (22, .iconst 0, 1) rfl) ic_0 ?_
    cases hf
    exact j_zret (x := 0) (dt_Court_isSeated 13 (23, .ireturn, 1) rfl) rfl rfl
  · refine j_if_eq (dt_Court_isSeated 3 (5, .ifCond .eq 17, 3) rfl) rfl (fun q => absurd q hc) (fun _ => ?_)
    refine j_aload_n (dt_Court_isSeated 4 (8, .aload_n 0, 1) rfl) rfl ?_
    obtain ⟨x3, hx3, hf⟩ := jbind hf
    refine j_getR (dt_Court_isSeated 5 (9, .getfield 21, 3) rfl) fl_X0_21 hx3 (fun _ _ => rfl) ?_
    refine j_iload_n (dt_Court_isSeated 6 (12, .iload_n 1, 1) rfl) rfl ?_
    obtain ⟨x4, hx4, hf⟩ := jbind hf
    refine j_aldI (dt_Court_isSeated 7 (13, .iaload, 1) rfl) hx4 ?_
    refine j_iconst (dt_Court_isSeated 8 (14, .iconst (-1), 1) rfl) ic_m1 ?_
    refine jite hf (fun hc hf => ?_) (fun hc hf => ?_)
    · refine j_icmp_eq (dt_Court_isSeated 9 (15, .if_icmp .eq 7, 3) rfl) rfl (fun _ => ?_) (fun q => absurd hc q)
      refine j_iconst (dt_Court_isSeated 12 (22, .iconst 0, 1) rfl) ic_0 ?_
      cases hf
      exact j_zret (x := 0) (dt_Court_isSeated 13 (23, .ireturn, 1) rfl) rfl rfl
    · refine j_icmp_eq (dt_Court_isSeated 9 (15, .if_icmp .eq 7, 3) rfl) rfl (fun q => absurd q hc) (fun _ => ?_)
      refine j_iconst (dt_Court_isSeated 10 (18, .iconst 1, 1) rfl) ic_1 ?_
      refine j_goto (dt_Court_isSeated 11 (19, .goto 4, 3) rfl) rfl ?_
      cases hf
      exact j_zret (x := 1) (dt_Court_isSeated 13 (23, .ireturn, 1) rfl) rfl rfl
theorem r_Court_isSeated {S : hS} {V : hV} {v0 : Option Nat} {v1 : Int32} {res : Int32} (hf : Court_isSeated S v0 v1 V = some res) : ∃ b, rc S 0 v0 = some b := by
  unfold Court_isSeated at hf
  obtain ⟨b, hb, _⟩ := jbind hf
  exact ⟨b, hb⟩
def tb_Court_hasRule : List (Nat × Instr × Nat) := [(0, .iload_n 1, 1), (1, .ifCond .lt 21, 3), (4, .iload_n 1, 1), (5, .aload_n 0, 1), (6, .getfield 34, 3), (9, .if_icmp .ge 13, 3), (12, .iload_n 1, 1), (13, .bipush 12, 2), (15, .if_icmp .ge 7, 3), (18, .iconst 1, 1), (19, .goto 4, 3), (22, .iconst 0, 1), (23, .ireturn, 1)]
theorem dt_Court_hasRule (i : Nat) (q : Nat × Instr × Nat) (h : tb_Court_hasRule[i]? = some q) : decode prog_2_method_7_code q.1 = .ok q.2 := jdt (by decide +kernel : tb_Court_hasRule.all (fun q => decide (decode prog_2_method_7_code q.1 = .ok q.2)) = true) h
theorem ok_Court_hasRule : jOKV M_Court_hasRule 1 := ⟨⟨gt4 12 rfl rfl, gt1 15 rfl rfl, (by decide : "FirstIn$Court" ≠ "java/lang/invoke/MethodHandle"), (by decide : "FirstIn$Court" ≠ "java/lang/invoke/VarHandle"), (by decide +kernel : (parseMethodDescriptor "(I)Z").map (fun d => d.parameters.length) = some 1)⟩, gt4 10 rfl rfl, gt4 11 rfl rfl, rfl, nlt rfl⟩
set_option maxRecDepth 100000 in
set_option maxHeartbeats 4000000 in
theorem c_Court_hasRule {G : jG} {S : hS} {V : hV} {v0 : Option Nat} {v1 : Int32} {res : Int32} (hf : Court_hasRule S v0 v1 V = some res) : jC G M_Court_hasRule [ar v0, ai v1] (S, V) (some (ai res)) (S, V) := by
  unfold Court_hasRule at hf
  obtain ⟨_, _, hf⟩ := jbind hf
  refine jC_of (pf_X0 _ _) rfl (nle rfl) ?_
  show jJ G M_Court_hasRule (jEnd G M_Court_hasRule (some (ai res)) (S, V)) 0 0 0 [(0, ar v0), (1, ai v1)] [] (S, V)
  refine j_iload_n (dt_Court_hasRule 0 (0, .iload_n 1, 1) rfl) rfl ?_
  refine jite hf (fun hc hf => ?_) (fun hc hf => ?_)
  · refine j_if_lt (dt_Court_hasRule 1 (1, .ifCond .lt 21, 3) rfl) rfl (fun _ => ?_) (fun q => absurd hc q)
    refine j_iconst (dt_Court_hasRule 11 (22, .iconst 0, 1) rfl) ic_0 ?_
    cases hf
    exact j_zret (x := 0) (dt_Court_hasRule 12 (23, .ireturn, 1) rfl) rfl rfl
  · refine j_if_lt (dt_Court_hasRule 1 (1, .ifCond .lt 21, 3) rfl) rfl (fun q => absurd q hc) (fun _ => ?_)
    refine j_iload_n (dt_Court_hasRule 2 (4, .iload_n 1, 1) rfl) rfl ?_
    refine j_aload_n (dt_Court_hasRule 3 (5, .aload_n 0, 1) rfl) rfl ?_
    obtain ⟨x1, hx1, hf⟩ := jbind hf
    refine j_getI (dt_Court_hasRule 4 (6, .getfield 34, 3) rfl) fl_X0_34 hx1 (fun _ _ => rfl) ?_
    refine jite hf (fun hc hf => ?_) (fun hc hf => ?_)
    · refine j_icmp_ge (dt_Court_hasRule 5 (9, .if_icmp .ge 13, 3) rfl) rfl (fun _ => ?_) (fun q => absurd hc q)
      refine j_iconst (dt_Court_hasRule 11 (22, .iconst 0, 1) rfl) ic_0 ?_
      cases hf
      exact j_zret (x := 0) (dt_Court_hasRule 12 (23, .ireturn, 1) rfl) rfl rfl
    · refine j_icmp_ge (dt_Court_hasRule 5 (9, .if_icmp .ge 13, 3) rfl) rfl (fun q => absurd q hc) (fun _ => ?_)
      refine j_iload_n (dt_Court_hasRule 6 (12, .iload_n 1, 1) rfl) rfl ?_
      refine j_bipush (dt_Court_hasRule 7 (13, .bipush 12, 2) rfl) bp_12 ?_
      refine jite hf (fun hc hf => ?_) (fun hc hf => ?_)
      · refine j_icmp_ge (dt_Court_hasRule 8 (15, .if_icmp .ge 7, 3) rfl) rfl (fun _ => ?_) (fun q => absurd hc q)
        refine j_iconst (dt_Court_hasRule 11 (22, .iconst 0, 1) rfl) ic_0 ?_
        cases hf
        exact j_zret (x := 0) (dt_Court_hasRule 12 (23, .ireturn, 1) rfl) rfl rfl
      · refine j_icmp_ge (dt_Court_hasRule 8 (15, .if_icmp .ge 7, 3) rfl) rfl (fun q => absurd q hc) (fun _ => ?_)
        refine j_iconst (dt_Court_hasRule 9 (18, .iconst 1, 1) rfl) ic_1 ?_
        refine j_goto (dt_Court_hasRule 10 (19, .goto 4, 3) rfl) rfl ?_
        cases hf
        exact j_zret (x := 1) (dt_Court_hasRule 12 (23, .ireturn, 1) rfl) rfl rfl
theorem r_Court_hasRule {S : hS} {V : hV} {v0 : Option Nat} {v1 : Int32} {res : Int32} (hf : Court_hasRule S v0 v1 V = some res) : ∃ b, rc S 0 v0 = some b := by
  unfold Court_hasRule at hf
  obtain ⟨b, hb, _⟩ := jbind hf
  exact ⟨b, hb⟩
def tb_Court_guestsOf : List (Nat × Instr × Nat) := [(0, .iload_n 1, 1), (1, .bipush 100, 2), (3, .isub, 1), (4, .istore_n 2, 1), (5, .iload_n 2, 1), (6, .ifCond .lt 27, 3), (9, .iload_n 2, 1), (10, .aload_n 0, 1), (11, .getfield 31, 3), (14, .if_icmp .ge 17, 3), (17, .iload_n 2, 1), (18, .iconst 5, 1), (19, .if_icmp .ge 12, 3), (22, .aload_n 0, 1), (23, .getfield 9, 3), (26, .iload_n 2, 1), (27, .iaload, 1), (28, .goto 4, 3), (31, .iconst 0, 1), (32, .ireturn, 1), (33, .aload_n 0, 1), (34, .iload_n 1, 1), (35, .invokevirtual 60, 3), (38, .ifCond .eq 9, 3), (41, .iconst 1, 1), (42, .iload_n 1, 1), (43, .ishl, 1), (44, .goto 4, 3), (47, .iconst 0, 1), (48, .ireturn, 1)]
theorem dt_Court_guestsOf (i : Nat) (q : Nat × Instr × Nat) (h : tb_Court_guestsOf[i]? = some q) : decode prog_2_method_8_code q.1 = .ok q.2 := jdt (by decide +kernel : tb_Court_guestsOf.all (fun q => decide (decode prog_2_method_8_code q.1 = .ok q.2)) = true) h
theorem ok_Court_guestsOf : jOKV M_Court_guestsOf 1 := ⟨⟨gt3 202 rfl rfl, gt1 15 rfl rfl, (by decide : "FirstIn$Court" ≠ "java/lang/invoke/MethodHandle"), (by decide : "FirstIn$Court" ≠ "java/lang/invoke/VarHandle"), (by decide +kernel : (parseMethodDescriptor "(I)I").map (fun d => d.parameters.length) = some 1)⟩, gt3 200 rfl rfl, gt3 201 rfl rfl, rfl, nlt rfl⟩
set_option maxRecDepth 100000 in
set_option maxHeartbeats 4000000 in
theorem c_Court_guestsOf {G : jG} {S : hS} {V : hV} {v0 : Option Nat} {v1 : Int32} {res : Int32} (hf : Court_guestsOf S v0 v1 V = some res) : jC G M_Court_guestsOf [ar v0, ai v1] (S, V) (some (ai res)) (S, V) := by
  unfold Court_guestsOf at hf
  obtain ⟨_, _, hf⟩ := jbind hf
  refine jC_of (pf_X0 _ _) rfl (nle rfl) ?_
  show jJ G M_Court_guestsOf (jEnd G M_Court_guestsOf (some (ai res)) (S, V)) 0 0 0 [(0, ar v0), (1, ai v1)] [] (S, V)
  refine j_iload_n (dt_Court_guestsOf 0 (0, .iload_n 1, 1) rfl) rfl ?_
  refine j_bipush (dt_Court_guestsOf 1 (1, .bipush 100, 2) rfl) bp_100 ?_
  refine j_isub (dt_Court_guestsOf 2 (3, .isub, 1) rfl) ?_
  refine j_istore_n (dt_Court_guestsOf 3 (4, .istore_n 2, 1) rfl) (nlt rfl) ?_
  refine j_iload_n (dt_Court_guestsOf 4 (5, .iload_n 2, 1) rfl) rfl ?_
  refine jite hf (fun hc hf => ?_) (fun hc hf => ?_)
  · refine j_if_lt (dt_Court_guestsOf 5 (6, .ifCond .lt 27, 3) rfl) rfl (fun _ => ?_) (fun q => absurd hc q)
    refine j_aload_n (dt_Court_guestsOf 20 (33, .aload_n 0, 1) rfl) rfl ?_
    refine j_iload_n (dt_Court_guestsOf 21 (34, .iload_n 1, 1) rfl) rfl ?_
    obtain ⟨x1, hx1, hf⟩ := jbind hf
    obtain ⟨b2, hb2⟩ := r_Court_hasGuest hx1
    refine j_callV M_Court_hasGuest 1 [ai v1] (rest := []) (dt_Court_guestsOf 22 (35, .invokevirtual 60, 3) rfl) ml_X0_60 ok_Court_hasGuest (jfit rfl rfl ⟨rfl, rfl⟩ (nle rfl) (nlt rfl)) rfl rfl (nle rfl) ⟨rfl, rfl⟩ hb2 ((c_Court_hasGuest hx1)) ?_
    refine jite hf (fun hc hf => ?_) (fun hc hf => ?_)
    · refine j_if_eq (dt_Court_guestsOf 23 (38, .ifCond .eq 9, 3) rfl) rfl (fun _ => ?_) (fun q => absurd hc q)
      refine j_iconst (dt_Court_guestsOf 28 (47, .iconst 0, 1) rfl) ic_0 ?_
      cases hf
      exact j_iret (dt_Court_guestsOf 29 (48, .ireturn, 1) rfl) rfl
    · refine j_if_eq (dt_Court_guestsOf 23 (38, .ifCond .eq 9, 3) rfl) rfl (fun q => absurd q hc) (fun _ => ?_)
      refine j_iconst (dt_Court_guestsOf 24 (41, .iconst 1, 1) rfl) ic_1 ?_
      refine j_iload_n (dt_Court_guestsOf 25 (42, .iload_n 1, 1) rfl) rfl ?_
      refine j_ishl (dt_Court_guestsOf 26 (43, .ishl, 1) rfl) ?_
      refine j_goto (dt_Court_guestsOf 27 (44, .goto 4, 3) rfl) rfl ?_
      cases hf
      exact j_iret (dt_Court_guestsOf 29 (48, .ireturn, 1) rfl) rfl
  · refine j_if_lt (dt_Court_guestsOf 5 (6, .ifCond .lt 27, 3) rfl) rfl (fun q => absurd q hc) (fun _ => ?_)
    refine j_iload_n (dt_Court_guestsOf 6 (9, .iload_n 2, 1) rfl) rfl ?_
    refine j_aload_n (dt_Court_guestsOf 7 (10, .aload_n 0, 1) rfl) rfl ?_
    obtain ⟨x3, hx3, hf⟩ := jbind hf
    refine j_getI (dt_Court_guestsOf 8 (11, .getfield 31, 3) rfl) fl_X0_31 hx3 (fun _ _ => rfl) ?_
    refine jite hf (fun hc hf => ?_) (fun hc hf => ?_)
    · refine j_icmp_ge (dt_Court_guestsOf 9 (14, .if_icmp .ge 17, 3) rfl) rfl (fun _ => ?_) (fun q => absurd hc q)
      refine j_iconst (dt_Court_guestsOf 18 (31, .iconst 0, 1) rfl) ic_0 ?_
      cases hf
      exact j_iret (dt_Court_guestsOf 19 (32, .ireturn, 1) rfl) rfl
    · refine j_icmp_ge (dt_Court_guestsOf 9 (14, .if_icmp .ge 17, 3) rfl) rfl (fun q => absurd q hc) (fun _ => ?_)
      refine j_iload_n (dt_Court_guestsOf 10 (17, .iload_n 2, 1) rfl) rfl ?_
      refine j_iconst (dt_Court_guestsOf 11 (18, .iconst 5, 1) rfl) ic_5 ?_
      refine jite hf (fun hc hf => ?_) (fun hc hf => ?_)
      · refine j_icmp_ge (dt_Court_guestsOf 12 (19, .if_icmp .ge 12, 3) rfl) rfl (fun _ => ?_) (fun q => absurd hc q)
        refine j_iconst (dt_Court_guestsOf 18 (31, .iconst 0, 1) rfl) ic_0 ?_
        cases hf
        exact j_iret (dt_Court_guestsOf 19 (32, .ireturn, 1) rfl) rfl
      · refine j_icmp_ge (dt_Court_guestsOf 12 (19, .if_icmp .ge 12, 3) rfl) rfl (fun q => absurd q hc) (fun _ => ?_)
        refine j_aload_n (dt_Court_guestsOf 13 (22, .aload_n 0, 1) rfl) rfl ?_
        obtain ⟨x4, hx4, hf⟩ := jbind hf
        refine j_getR (dt_Court_guestsOf 14 (23, .getfield 9, 3) rfl) fl_X0_9 hx4 (fun _ _ => rfl) ?_
        refine j_iload_n (dt_Court_guestsOf 15 (26, .iload_n 2, 1) rfl) rfl ?_
        obtain ⟨x5, hx5, hf⟩ := jbind hf
        refine j_aldI (dt_Court_guestsOf 16 (27, .iaload, 1) rfl) hx5 ?_
        refine j_goto (dt_Court_guestsOf 17 (28, .goto 4, 3) rfl) rfl ?_
        cases hf
        exact j_iret (dt_Court_guestsOf 19 (32, .ireturn, 1) rfl) rfl
theorem r_Court_guestsOf {S : hS} {V : hV} {v0 : Option Nat} {v1 : Int32} {res : Int32} (hf : Court_guestsOf S v0 v1 V = some res) : ∃ b, rc S 0 v0 = some b := by
  unfold Court_guestsOf at hf
  obtain ⟨b, hb, _⟩ := jbind hf
  exact ⟨b, hb⟩
def tb_Court_marksOf : List (Nat × Instr × Nat) := [(0, .iconst 0, 1), (1, .istore_n 2, 1), (2, .iconst 0, 1), (3, .istore_n 3, 1), (4, .iload_n 3, 1), (5, .aload_n 0, 1), (6, .getfield 31, 3), (9, .if_icmp .ge 33, 3), (12, .iload_n 3, 1), (13, .iconst 5, 1), (14, .if_icmp .ge 28, 3), (17, .aload_n 0, 1), (18, .getfield 9, 3), (21, .iload_n 3, 1), (22, .iaload, 1), (23, .iload_n 1, 1), (24, .invokestatic 64, 3), (27, .ifCond .eq 9, 3), (30, .iload_n 2, 1), (31, .iconst 1, 1), (32, .iload_n 3, 1), (33, .ishl, 1), (34, .ior, 1), (35, .istore_n 2, 1), (36, .iinc 3 1, 3), (39, .goto (-35), 3), (42, .iload_n 2, 1), (43, .ireturn, 1)]
theorem dt_Court_marksOf (i : Nat) (q : Nat × Instr × Nat) (h : tb_Court_marksOf[i]? = some q) : decode prog_2_method_9_code q.1 = .ok q.2 := jdt (by decide +kernel : tb_Court_marksOf.all (fun q => decide (decode prog_2_method_9_code q.1 = .ok q.2)) = true) h
theorem ok_Court_marksOf : jOKV M_Court_marksOf 1 := ⟨⟨gt4 3 rfl rfl, gt1 15 rfl rfl, (by decide : "FirstIn$Court" ≠ "java/lang/invoke/MethodHandle"), (by decide : "FirstIn$Court" ≠ "java/lang/invoke/VarHandle"), (by decide +kernel : (parseMethodDescriptor "(I)I").map (fun d => d.parameters.length) = some 1)⟩, gt4 1 rfl rfl, gt4 2 rfl rfl, rfl, nlt rfl⟩
set_option maxRecDepth 100000 in
set_option maxHeartbeats 4000000 in
theorem c_Court_marksOf {G : jG} {S : hS} {V : hV} {v0 : Option Nat} {v1 : Int32} {res : Int32} (hf : Court_marksOf S v0 v1 V = some res) : jC G M_Court_marksOf [ar v0, ai v1] (S, V) (some (ai res)) (S, V) := by
  unfold Court_marksOf at hf
  obtain ⟨_, _, hf⟩ := jbind hf
  refine jC_of (pf_X0 _ _) rfl (nle rfl) ?_
  show jJ G M_Court_marksOf (jEnd G M_Court_marksOf (some (ai res)) (S, V)) 0 0 0 [(0, ar v0), (1, ai v1)] [] (S, V)
  refine j_iconst (dt_Court_marksOf 0 (0, .iconst 0, 1) rfl) ic_0 ?_
  refine j_istore_n (dt_Court_marksOf 1 (1, .istore_n 2, 1) rfl) (nlt rfl) ?_
  refine j_iconst (dt_Court_marksOf 2 (2, .iconst 0, 1) rfl) ic_0 ?_
  refine j_istore_n (dt_Court_marksOf 3 (3, .istore_n 3, 1) rfl) (nlt rfl) ?_
  obtain ⟨t4, ht4, hf⟩ := jbind hf
  have hX4 : ∀ q4 : Int32, q4 = t4 → jJ G M_Court_marksOf (jEnd G M_Court_marksOf (some (ai res)) (S, V)) 0 0 42 [(2, ai q4)] [] (S, V) := by
    intro q4 hq4
    subst hq4
    refine j_iload_n (dt_Court_marksOf 26 (42, .iload_n 2, 1) rfl) rfl ?_
    cases hf
    exact j_iret (dt_Court_marksOf 27 (43, .ireturn, 1) rfl) rfl
  refine j_sub (ls' := [(0, ar v0), (1, ai v1), (2, ai 0), (3, ai 0)]) rfl ?_
  refine jloop_J (C := fun s4 => jJ G M_Court_marksOf (jEnd G M_Court_marksOf (some (ai res)) (S, V)) 0 0 4 [(0, ar v0), (1, ai v1), (2, ai s4.1), (3, ai s4.2)] [] (S, V)) (fun s4 z4_ hy4 hin4 hout4 => ?_) _ _ ht4
  unfold Court_marksOf_L4 at hy4
  refine j_iload_n (dt_Court_marksOf 4 (4, .iload_n 3, 1) rfl) rfl ?_
  refine j_aload_n (dt_Court_marksOf 5 (5, .aload_n 0, 1) rfl) rfl ?_
  obtain ⟨x1, hx1, hy4⟩ := jbind hy4
  refine j_getI (dt_Court_marksOf 6 (6, .getfield 31, 3) rfl) fl_X0_31 hx1 (fun _ _ => rfl) ?_
  refine jite hy4 (fun hc hy4 => ?_) (fun hc hy4 => ?_)
  · refine j_icmp_ge (dt_Court_marksOf 7 (9, .if_icmp .ge 33, 3) rfl) rfl (fun _ => ?_) (fun q => absurd hc q)
    cases hy4
    have hz := hX4 _ (hout4 _ rfl)
    exact j_sub rfl hz
  · refine j_icmp_ge (dt_Court_marksOf 7 (9, .if_icmp .ge 33, 3) rfl) rfl (fun q => absurd q hc) (fun _ => ?_)
    refine j_iload_n (dt_Court_marksOf 8 (12, .iload_n 3, 1) rfl) rfl ?_
    refine j_iconst (dt_Court_marksOf 9 (13, .iconst 5, 1) rfl) ic_5 ?_
    refine jite hy4 (fun hc hy4 => ?_) (fun hc hy4 => ?_)
    · refine j_icmp_ge (dt_Court_marksOf 10 (14, .if_icmp .ge 28, 3) rfl) rfl (fun _ => ?_) (fun q => absurd hc q)
      cases hy4
      have hz := hX4 _ (hout4 _ rfl)
      exact j_sub rfl hz
    · refine j_icmp_ge (dt_Court_marksOf 10 (14, .if_icmp .ge 28, 3) rfl) rfl (fun q => absurd q hc) (fun _ => ?_)
      refine j_aload_n (dt_Court_marksOf 11 (17, .aload_n 0, 1) rfl) rfl ?_
      obtain ⟨x2, hx2, hy4⟩ := jbind hy4
      refine j_getR (dt_Court_marksOf 12 (18, .getfield 9, 3) rfl) fl_X0_9 hx2 (fun _ _ => rfl) ?_
      refine j_iload_n (dt_Court_marksOf 13 (21, .iload_n 3, 1) rfl) rfl ?_
      obtain ⟨x3, hx3, hy4⟩ := jbind hy4
      refine j_aldI (dt_Court_marksOf 14 (22, .iaload, 1) rfl) hx3 ?_
      refine j_iload_n (dt_Court_marksOf 15 (23, .iload_n 1, 1) rfl) rfl ?_
      refine j_callSN M_Fi_has 2 [ai x3, ai v1] (rest := []) (dt_Court_marksOf 16 (24, .invokestatic 64, 3) rfl) ml_X0_64 ok_Fi_has (jfit rfl rfl ⟨rfl, rfl⟩ (nle rfl) (nlt rfl)) rfl rfl (nle rfl) ⟨rfl, rfl⟩ (c_Fi_has rfl) ?_
      refine jite hy4 (fun hc hy4 => ?_) (fun hc hy4 => ?_)
      · refine j_if_eq (dt_Court_marksOf 17 (27, .ifCond .eq 9, 3) rfl) rfl (fun _ => ?_) (fun q => absurd hc q)
        refine j_iinc (dt_Court_marksOf 24 (36, .iinc 3 1, 3) rfl) rfl (nlt rfl) (ii_1 _) ?_
        refine j_goto (dt_Court_marksOf 25 (39, .goto (-35), 3) rfl) rfl ?_
        cases hy4
        have hz := hin4 _ rfl
        exact j_sub rfl hz
      · refine j_if_eq (dt_Court_marksOf 17 (27, .ifCond .eq 9, 3) rfl) rfl (fun q => absurd q hc) (fun _ => ?_)
        refine j_iload_n (dt_Court_marksOf 18 (30, .iload_n 2, 1) rfl) rfl ?_
        refine j_iconst (dt_Court_marksOf 19 (31, .iconst 1, 1) rfl) ic_1 ?_
        refine j_iload_n (dt_Court_marksOf 20 (32, .iload_n 3, 1) rfl) rfl ?_
        refine j_ishl (dt_Court_marksOf 21 (33, .ishl, 1) rfl) ?_
        refine j_ior (dt_Court_marksOf 22 (34, .ior, 1) rfl) ?_
        refine j_istore_n (dt_Court_marksOf 23 (35, .istore_n 2, 1) rfl) (nlt rfl) ?_
        refine j_iinc (dt_Court_marksOf 24 (36, .iinc 3 1, 3) rfl) rfl (nlt rfl) (ii_1 _) ?_
        refine j_goto (dt_Court_marksOf 25 (39, .goto (-35), 3) rfl) rfl ?_
        cases hy4
        have hz := hin4 _ rfl
        exact j_sub rfl hz
theorem r_Court_marksOf {S : hS} {V : hV} {v0 : Option Nat} {v1 : Int32} {res : Int32} (hf : Court_marksOf S v0 v1 V = some res) : ∃ b, rc S 0 v0 = some b := by
  unfold Court_marksOf at hf
  obtain ⟨b, hb, _⟩ := jbind hf
  exact ⟨b, hb⟩
def tb_Court_letRest : List (Nat × Instr × Nat) := [(0, .aload_n 0, 1), (1, .iload_n 1, 1), (2, .invokevirtual 68, 3), (5, .ifCond .eq 16, 3), (8, .aload_n 0, 1), (9, .getfield 17, 3), (12, .iload_n 1, 1), (13, .aaload, 1), (14, .getfield 56, 3), (17, .iload_n 2, 1), (18, .if_icmp .ne 5, 3), (21, .iconst 0, 1), (22, .ireturn, 1), (23, .aload_n 0, 1), (24, .getfield 17, 3), (27, .iload_n 1, 1), (28, .aaload, 1), (29, .iload_n 2, 1), (30, .putfield 56, 3), (33, .aload_n 0, 1), (34, .dup, 1), (35, .getfield 43, 3), (38, .iconst 1, 1), (39, .iadd, 1), (40, .putfield 43, 3), (43, .aload_n 0, 1), (44, .dup, 1), (45, .getfield 46, 3), (48, .iconst 1, 1), (49, .iadd, 1), (50, .putfield 46, 3), (53, .iconst 1, 1), (54, .ireturn, 1)]
theorem dt_Court_letRest (i : Nat) (q : Nat × Instr × Nat) (h : tb_Court_letRest[i]? = some q) : decode prog_2_method_10_code q.1 = .ok q.2 := jdt (by decide +kernel : tb_Court_letRest.all (fun q => decide (decode prog_2_method_10_code q.1 = .ok q.2)) = true) h
theorem ok_Court_letRest : jOKV M_Court_letRest 2 := ⟨⟨gt4 34 rfl rfl, gt1 15 rfl rfl, (by decide : "FirstIn$Court" ≠ "java/lang/invoke/MethodHandle"), (by decide : "FirstIn$Court" ≠ "java/lang/invoke/VarHandle"), (by decide +kernel : (parseMethodDescriptor "(IZ)Z").map (fun d => d.parameters.length) = some 2)⟩, gt4 32 rfl rfl, gt4 33 rfl rfl, rfl, nlt rfl⟩
set_option maxRecDepth 100000 in
set_option maxHeartbeats 4000000 in
theorem c_Court_letRest {G : jG} {S : hS} {V : hV} {v0 : Option Nat} {v1 : Int32} {v2 : Int32} {res : Int32 × hV} (hf : Court_letRest S v0 v1 v2 V = some res) : jC G M_Court_letRest [ar v0, ai v1, ai v2] (S, V) (some (ai res.1)) (S, res.2) := by
  unfold Court_letRest at hf
  obtain ⟨_, _, hf⟩ := jbind hf
  refine jC_of (pf_X0 _ _) rfl (nle rfl) ?_
  show jJ G M_Court_letRest (jEnd G M_Court_letRest (some (ai res.1)) (S, res.2)) 0 0 0 [(0, ar v0), (1, ai v1), (2, ai v2)] [] (S, V)
  refine j_aload_n (dt_Court_letRest 0 (0, .aload_n 0, 1) rfl) rfl ?_
  refine j_iload_n (dt_Court_letRest 1 (1, .iload_n 1, 1) rfl) rfl ?_
  obtain ⟨x1, hx1, hf⟩ := jbind hf
  obtain ⟨b2, hb2⟩ := r_Court_hasRule hx1
  refine j_callV M_Court_hasRule 1 [ai v1] (rest := []) (dt_Court_letRest 2 (2, .invokevirtual 68, 3) rfl) ml_X0_68 ok_Court_hasRule (jfit rfl rfl ⟨rfl, rfl⟩ (nle rfl) (nlt rfl)) rfl rfl (nle rfl) ⟨rfl, rfl⟩ hb2 ((c_Court_hasRule hx1)) ?_
  refine jite hf (fun hc hf => ?_) (fun hc hf => ?_)
  · refine j_if_eq (dt_Court_letRest 3 (5, .ifCond .eq 16, 3) rfl) rfl (fun _ => ?_) (fun q => absurd hc q)
    refine j_iconst (dt_Court_letRest 11 (21, .iconst 0, 1) rfl) ic_0 ?_
    cases hf
    exact j_zret (x := 0) (dt_Court_letRest 12 (22, .ireturn, 1) rfl) rfl rfl
  · refine j_if_eq (dt_Court_letRest 3 (5, .ifCond .eq 16, 3) rfl) rfl (fun q => absurd q hc) (fun _ => ?_)
    refine j_aload_n (dt_Court_letRest 4 (8, .aload_n 0, 1) rfl) rfl ?_
    obtain ⟨x3, hx3, hf⟩ := jbind hf
    refine j_getR (dt_Court_letRest 5 (9, .getfield 17, 3) rfl) fl_X0_17 hx3 (fun _ _ => rfl) ?_
    refine j_iload_n (dt_Court_letRest 6 (12, .iload_n 1, 1) rfl) rfl ?_
    obtain ⟨x4, hx4, hf⟩ := jbind hf
    refine j_aldR 105 (dt_Court_letRest 7 (13, .aaload, 1) rfl) (by decide) hx4 ?_
    obtain ⟨x5, hx5, hf⟩ := jbind hf
    refine j_getI (dt_Court_letRest 8 (14, .getfield 56, 3) rfl) fl_X0_56 hx5 (fun _ _ => rfl) ?_
    refine j_iload_n (dt_Court_letRest 9 (17, .iload_n 2, 1) rfl) rfl ?_
    refine jite hf (fun hc hf => ?_) (fun hc hf => ?_)
    · refine j_icmp_ne (dt_Court_letRest 10 (18, .if_icmp .ne 5, 3) rfl) rfl (fun q => absurd hc q) (fun _ => ?_)
      refine j_iconst (dt_Court_letRest 11 (21, .iconst 0, 1) rfl) ic_0 ?_
      cases hf
      exact j_zret (x := 0) (dt_Court_letRest 12 (22, .ireturn, 1) rfl) rfl rfl
    · refine j_icmp_ne (dt_Court_letRest 10 (18, .if_icmp .ne 5, 3) rfl) rfl (fun _ => ?_) (fun q => absurd q hc)
      refine j_aload_n (dt_Court_letRest 13 (23, .aload_n 0, 1) rfl) rfl ?_
      obtain ⟨x6, hx6, hf⟩ := jbind hf
      refine j_getR (dt_Court_letRest 14 (24, .getfield 17, 3) rfl) fl_X0_17 hx6 (fun _ _ => rfl) ?_
      refine j_iload_n (dt_Court_letRest 15 (27, .iload_n 1, 1) rfl) rfl ?_
      obtain ⟨x7, hx7, hf⟩ := jbind hf
      refine j_aldR 105 (dt_Court_letRest 16 (28, .aaload, 1) rfl) (by decide) hx7 ?_
      refine j_iload_n (dt_Court_letRest 17 (29, .iload_n 2, 1) rfl) rfl ?_
      obtain ⟨V8, hV8, hf⟩ := jbind hf
      refine j_putZ (dt_Court_letRest 18 (30, .putfield 56, 3) rfl) fl_X0_56 hV8 rfl (Or.inl rfl) ?_
      refine j_aload_n (dt_Court_letRest 19 (33, .aload_n 0, 1) rfl) rfl ?_
      refine j_dup (dt_Court_letRest 20 (34, .dup, 1) rfl) rfl ?_
      obtain ⟨x9, hx9, hf⟩ := jbind hf
      refine j_getI (dt_Court_letRest 21 (35, .getfield 43, 3) rfl) fl_X0_43 hx9 (fun _ _ => rfl) ?_
      refine j_iconst (dt_Court_letRest 22 (38, .iconst 1, 1) rfl) ic_1 ?_
      refine j_iadd (dt_Court_letRest 23 (39, .iadd, 1) rfl) ?_
      obtain ⟨V10, hV10, hf⟩ := jbind hf
      refine j_putI (dt_Court_letRest 24 (40, .putfield 43, 3) rfl) fl_X0_43 hV10 rfl (Or.inl rfl) ?_
      refine j_aload_n (dt_Court_letRest 25 (43, .aload_n 0, 1) rfl) rfl ?_
      refine j_dup (dt_Court_letRest 26 (44, .dup, 1) rfl) rfl ?_
      obtain ⟨x11, hx11, hf⟩ := jbind hf
      refine j_getI (dt_Court_letRest 27 (45, .getfield 46, 3) rfl) fl_X0_46 hx11 (fun _ _ => rfl) ?_
      refine j_iconst (dt_Court_letRest 28 (48, .iconst 1, 1) rfl) ic_1 ?_
      refine j_iadd (dt_Court_letRest 29 (49, .iadd, 1) rfl) ?_
      obtain ⟨V12, hV12, hf⟩ := jbind hf
      refine j_putI (dt_Court_letRest 30 (50, .putfield 46, 3) rfl) fl_X0_46 hV12 rfl (Or.inl rfl) ?_
      refine j_iconst (dt_Court_letRest 31 (53, .iconst 1, 1) rfl) ic_1 ?_
      cases hf
      exact j_zret (x := 1) (dt_Court_letRest 32 (54, .ireturn, 1) rfl) rfl rfl
theorem r_Court_letRest {S : hS} {V : hV} {v0 : Option Nat} {v1 : Int32} {v2 : Int32} {res : Int32 × hV} (hf : Court_letRest S v0 v1 v2 V = some res) : ∃ b, rc S 0 v0 = some b := by
  unfold Court_letRest at hf
  obtain ⟨b, hb, _⟩ := jbind hf
  exact ⟨b, hb⟩
def tb_Court_put : List (Nat × Instr × Nat) := [(0, .aload_n 0, 1), (1, .iload_n 1, 1), (2, .invokevirtual 60, 3), (5, .ifCond .eq 27, 3), (8, .aload_n 0, 1), (9, .getfield 21, 3), (12, .iload_n 1, 1), (13, .iload_n 2, 1), (14, .iastore, 1), (15, .aload_n 0, 1), (16, .getfield 24, 3), (19, .iload_n 1, 1), (20, .iload_n 3, 1), (21, .iastore, 1), (22, .aload_n 0, 1), (23, .dup, 1), (24, .getfield 46, 3), (27, .iconst 1, 1), (28, .iadd, 1), (29, .putfield 46, 3), (32, .return_, 1)]
theorem dt_Court_put (i : Nat) (q : Nat × Instr × Nat) (h : tb_Court_put[i]? = some q) : decode prog_2_method_13_code q.1 = .ok q.2 := jdt (by decide +kernel : tb_Court_put.all (fun q => decide (decode prog_2_method_13_code q.1 = .ok q.2)) = true) h
theorem ok_Court_put : jOKV M_Court_put 3 := ⟨⟨gt4 47 rfl rfl, gt1 15 rfl rfl, (by decide : "FirstIn$Court" ≠ "java/lang/invoke/MethodHandle"), (by decide : "FirstIn$Court" ≠ "java/lang/invoke/VarHandle"), (by decide +kernel : (parseMethodDescriptor "(III)V").map (fun d => d.parameters.length) = some 3)⟩, gt4 45 rfl rfl, gt4 46 rfl rfl, rfl, nlt rfl⟩
set_option maxRecDepth 100000 in
set_option maxHeartbeats 4000000 in
theorem c_Court_put {G : jG} {S : hS} {V : hV} {v0 : Option Nat} {v1 : Int32} {v2 : Int32} {v3 : Int32} {res : hV} (hf : Court_put S v0 v1 v2 v3 V = some res) : jC G M_Court_put [ar v0, ai v1, ai v2, ai v3] (S, V) none (S, res) := by
  unfold Court_put at hf
  obtain ⟨_, _, hf⟩ := jbind hf
  refine jC_of (pf_X0 _ _) rfl (nle rfl) ?_
  show jJ G M_Court_put (jEnd G M_Court_put none (S, res)) 0 0 0 [(0, ar v0), (1, ai v1), (2, ai v2), (3, ai v3)] [] (S, V)
  refine j_aload_n (dt_Court_put 0 (0, .aload_n 0, 1) rfl) rfl ?_
  refine j_iload_n (dt_Court_put 1 (1, .iload_n 1, 1) rfl) rfl ?_
  obtain ⟨x1, hx1, hf⟩ := jbind hf
  obtain ⟨b2, hb2⟩ := r_Court_hasGuest hx1
  refine j_callV M_Court_hasGuest 1 [ai v1] (rest := []) (dt_Court_put 2 (2, .invokevirtual 60, 3) rfl) ml_X0_60 ok_Court_hasGuest (jfit rfl rfl ⟨rfl, rfl⟩ (nle rfl) (nlt rfl)) rfl rfl (nle rfl) ⟨rfl, rfl⟩ hb2 ((c_Court_hasGuest hx1)) ?_
  refine jite hf (fun hc hf => ?_) (fun hc hf => ?_)
  · refine j_if_eq (dt_Court_put 3 (5, .ifCond .eq 27, 3) rfl) rfl (fun _ => ?_) (fun q => absurd hc q)
    cases hf
    exact j_vret (dt_Court_put 20 (32, .return_, 1) rfl) rfl
  · refine j_if_eq (dt_Court_put 3 (5, .ifCond .eq 27, 3) rfl) rfl (fun q => absurd q hc) (fun _ => ?_)
    refine j_aload_n (dt_Court_put 4 (8, .aload_n 0, 1) rfl) rfl ?_
    obtain ⟨x3, hx3, hf⟩ := jbind hf
    refine j_getR (dt_Court_put 5 (9, .getfield 21, 3) rfl) fl_X0_21 hx3 (fun _ _ => rfl) ?_
    refine j_iload_n (dt_Court_put 6 (12, .iload_n 1, 1) rfl) rfl ?_
    refine j_iload_n (dt_Court_put 7 (13, .iload_n 2, 1) rfl) rfl ?_
    obtain ⟨V4, hV4, hf⟩ := jbind hf
    refine j_astI (dt_Court_put 8 (14, .iastore, 1) rfl) hV4 ?_
    refine j_aload_n (dt_Court_put 9 (15, .aload_n 0, 1) rfl) rfl ?_
    obtain ⟨x5, hx5, hf⟩ := jbind hf
    refine j_getR (dt_Court_put 10 (16, .getfield 24, 3) rfl) fl_X0_24 hx5 (fun _ _ => rfl) ?_
    refine j_iload_n (dt_Court_put 11 (19, .iload_n 1, 1) rfl) rfl ?_
    refine j_iload_n (dt_Court_put 12 (20, .iload_n 3, 1) rfl) rfl ?_
    obtain ⟨V6, hV6, hf⟩ := jbind hf
    refine j_astI (dt_Court_put 13 (21, .iastore, 1) rfl) hV6 ?_
    refine j_aload_n (dt_Court_put 14 (22, .aload_n 0, 1) rfl) rfl ?_
    refine j_dup (dt_Court_put 15 (23, .dup, 1) rfl) rfl ?_
    obtain ⟨x7, hx7, hf⟩ := jbind hf
    refine j_getI (dt_Court_put 16 (24, .getfield 46, 3) rfl) fl_X0_46 hx7 (fun _ _ => rfl) ?_
    refine j_iconst (dt_Court_put 17 (27, .iconst 1, 1) rfl) ic_1 ?_
    refine j_iadd (dt_Court_put 18 (28, .iadd, 1) rfl) ?_
    obtain ⟨V8, hV8, hf⟩ := jbind hf
    refine j_putI (dt_Court_put 19 (29, .putfield 46, 3) rfl) fl_X0_46 hV8 rfl (Or.inl rfl) ?_
    cases hf
    exact j_vret (dt_Court_put 20 (32, .return_, 1) rfl) rfl
theorem r_Court_put {S : hS} {V : hV} {v0 : Option Nat} {v1 : Int32} {v2 : Int32} {v3 : Int32} {res : hV} (hf : Court_put S v0 v1 v2 v3 V = some res) : ∃ b, rc S 0 v0 = some b := by
  unfold Court_put at hf
  obtain ⟨b, hb, _⟩ := jbind hf
  exact ⟨b, hb⟩
