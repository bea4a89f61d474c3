/-! ===== walks ===== -/
def tb_Court_letCome : List (Nat × Instr × Nat) := [(0, .aload_n 0, 1), (1, .iload_n 1, 1), (2, .invokevirtual 60, 3), (5, .ifCond .eq 15, 3), (8, .aload_n 0, 1), (9, .getfield 37, 3), (12, .iload_n 1, 1), (13, .invokestatic 64, 3), (16, .iload_n 2, 1), (17, .if_icmp .ne 5, 3), (20, .iconst 0, 1), (21, .ireturn, 1), (22, .aload_n 0, 1), (23, .dup, 1), (24, .getfield 37, 3), (27, .iconst 1, 1), (28, .iload_n 1, 1), (29, .ishl, 1), (30, .ixor, 1), (31, .putfield 37, 3), (34, .aload_n 0, 1), (35, .dup, 1), (36, .getfield 40, 3), (39, .iconst 1, 1), (40, .iload_n 1, 1), (41, .ishl, 1), (42, .iconst (-1), 1), (43, .ixor, 1), (44, .iand, 1), (45, .putfield 40, 3), (48, .aload_n 0, 1), (49, .iload_n 1, 1), (50, .iconst (-1), 1), (51, .iconst (-1), 1), (52, .invokevirtual 71, 3), (55, .aload_n 0, 1), (56, .dup, 1), (57, .getfield 43, 3), (60, .iconst 1, 1), (61, .iadd, 1), (62, .putfield 43, 3), (65, .iconst 1, 1), (66, .ireturn, 1)]
theorem dt_Court_letCome (i : Nat) (q : Nat × Instr × Nat) (h : tb_Court_letCome[i]? = some q) : decode prog_2_method_11_code q.1 = .ok q.2 := jdt (by decide +kernel : tb_Court_letCome.all (fun q => decide (decode prog_2_method_11_code q.1 = .ok q.2)) = true) h
theorem ok_Court_letCome : jOKV M_Court_letCome 2 := ⟨⟨gt4 43 rfl rfl, gt1 15 rfl rfl, (by decide : "FirstIn$Court" ≠ "java/lang/invoke/MethodHandle"), (by decide : "FirstIn$Court" ≠ "java/lang/invoke/VarHandle"), (by decide +kernel : (parseMethodDescriptor "(IZ)Z").map (fun d => d.parameters.length) = some 2)⟩, gt4 41 rfl rfl, gt4 42 rfl rfl, rfl, nlt rfl⟩
set_option maxRecDepth 100000 in
set_option maxHeartbeats 4000000 in
theorem c_Court_letCome {G : jG} {S : hS} {V : hV} {v0 : Option Nat} {v1 : Int32} {v2 : Int32} {res : Int32 × hV} (hf : Court_letCome S v0 v1 v2 V = some res) : jC G M_Court_letCome [ar v0, ai v1, ai v2] (S, V) (some (ai res.1)) (S, res.2) := by
  unfold Court_letCome at hf
  obtain ⟨_, _, hf⟩ := jbind hf
  refine jC_of (pf_X0 _ _) rfl (nle rfl) ?_
  show jJ G M_Court_letCome (jEnd G M_Court_letCome (some (ai res.1)) (S, res.2)) 0 0 0 [(0, ar v0), (1, ai v1), (2, ai v2)] [] (S, V)
  refine j_aload_n (dt_Court_letCome 0 (0, .aload_n 0, 1) rfl) rfl ?_
  refine j_iload_n (dt_Court_letCome 1 (1, .iload_n 1, 1) rfl) rfl ?_
  obtain ⟨x1, hx1, hf⟩ := jbind hf
  obtain ⟨b2, hb2⟩ := r_Court_hasGuest hx1
  refine j_callV M_Court_hasGuest 1 [ai v1] (rest := []) (dt_Court_letCome 2 (2, .invokevirtual 60, 3) rfl) ml_X0_60 ok_Court_hasGuest (jfit rfl rfl ⟨rfl, rfl⟩ (nle rfl) (nlt rfl)) rfl rfl (nle rfl) ⟨rfl, rfl⟩ hb2 ((c_Court_hasGuest hx1)) ?_
  refine jite hf (fun hc hf => ?_) (fun hc hf => ?_)
  · refine j_if_eq (dt_Court_letCome 3 (5, .ifCond .eq 15, 3) rfl) rfl (fun _ => ?_) (fun q => absurd hc q)
    refine j_iconst (dt_Court_letCome 10 (20, .iconst 0, 1) rfl) ic_0 ?_
    cases hf
    exact j_zret (x := 0) (dt_Court_letCome 11 (21, .ireturn, 1) rfl) rfl rfl
  · refine j_if_eq (dt_Court_letCome 3 (5, .ifCond .eq 15, 3) rfl) rfl (fun q => absurd q hc) (fun _ => ?_)
    refine j_aload_n (dt_Court_letCome 4 (8, .aload_n 0, 1) rfl) rfl ?_
    obtain ⟨x3, hx3, hf⟩ := jbind hf
    refine j_getI (dt_Court_letCome 5 (9, .getfield 37, 3) rfl) fl_X0_37 hx3 (fun _ _ => rfl) ?_
    refine j_iload_n (dt_Court_letCome 6 (12, .iload_n 1, 1) rfl) rfl ?_
    refine j_callSN M_Fi_has 2 [ai x3, ai v1] (rest := []) (dt_Court_letCome 7 (13, .invokestatic 64, 3) rfl) ml_X0_64 ok_Fi_has (jfit rfl rfl ⟨rfl, rfl⟩ (nle rfl) (nlt rfl)) rfl rfl (nle rfl) ⟨rfl, rfl⟩ (c_Fi_has rfl) ?_
    refine j_iload_n (dt_Court_letCome 8 (16, .iload_n 2, 1) rfl) rfl ?_
    refine jite hf (fun hc hf => ?_) (fun hc hf => ?_)
    · refine j_icmp_ne (dt_Court_letCome 9 (17, .if_icmp .ne 5, 3) rfl) rfl (fun q => absurd hc q) (fun _ => ?_)
      refine j_iconst (dt_Court_letCome 10 (20, .iconst 0, 1) rfl) ic_0 ?_
      cases hf
      exact j_zret (x := 0) (dt_Court_letCome 11 (21, .ireturn, 1) rfl) rfl rfl
    · refine j_icmp_ne (dt_Court_letCome 9 (17, .if_icmp .ne 5, 3) rfl) rfl (fun _ => ?_) (fun q => absurd q hc)
      refine j_aload_n (dt_Court_letCome 12 (22, .aload_n 0, 1) rfl) rfl ?_
      refine j_dup (dt_Court_letCome 13 (23, .dup, 1) rfl) rfl ?_
      obtain ⟨x4, hx4, hf⟩ := jbind hf
      refine j_getI (dt_Court_letCome 14 (24, .getfield 37, 3) rfl) fl_X0_37 hx4 (fun _ _ => rfl) ?_
      refine j_iconst (dt_Court_letCome 15 (27, .iconst 1, 1) rfl) ic_1 ?_
      refine j_iload_n (dt_Court_letCome 16 (28, .iload_n 1, 1) rfl) rfl ?_
      refine j_ishl (dt_Court_letCome 17 (29, .ishl, 1) rfl) ?_
      refine j_ixor (dt_Court_letCome 18 (30, .ixor, 1) rfl) ?_
      obtain ⟨V5, hV5, hf⟩ := jbind hf
      refine j_putI (dt_Court_letCome 19 (31, .putfield 37, 3) rfl) fl_X0_37 hV5 rfl (Or.inl rfl) ?_
      refine j_aload_n (dt_Court_letCome 20 (34, .aload_n 0, 1) rfl) rfl ?_
      refine j_dup (dt_Court_letCome 21 (35, .dup, 1) rfl) rfl ?_
      obtain ⟨x6, hx6, hf⟩ := jbind hf
      refine j_getI (dt_Court_letCome 22 (36, .getfield 40, 3) rfl) fl_X0_40 hx6 (fun _ _ => rfl) ?_
      refine j_iconst (dt_Court_letCome 23 (39, .iconst 1, 1) rfl) ic_1 ?_
      refine j_iload_n (dt_Court_letCome 24 (40, .iload_n 1, 1) rfl) rfl ?_
      refine j_ishl (dt_Court_letCome 25 (41, .ishl, 1) rfl) ?_
      refine j_iconst (dt_Court_letCome 26 (42, .iconst (-1), 1) rfl) ic_m1 ?_
      refine j_ixor (dt_Court_letCome 27 (43, .ixor, 1) rfl) ?_
      refine j_iand (dt_Court_letCome 28 (44, .iand, 1) rfl) ?_
      obtain ⟨V7, hV7, hf⟩ := jbind hf
      refine j_putI (dt_Court_letCome 29 (45, .putfield 40, 3) rfl) fl_X0_40 hV7 rfl (Or.inl rfl) ?_
      refine j_aload_n (dt_Court_letCome 30 (48, .aload_n 0, 1) rfl) rfl ?_
      refine j_iload_n (dt_Court_letCome 31 (49, .iload_n 1, 1) rfl) rfl ?_
      refine j_iconst (dt_Court_letCome 32 (50, .iconst (-1), 1) rfl) ic_m1 ?_
      refine j_iconst (dt_Court_letCome 33 (51, .iconst (-1), 1) rfl) ic_m1 ?_
      obtain ⟨V8, hV8, hf⟩ := jbind hf
      obtain ⟨b9, hb9⟩ := r_Court_put hV8
      refine j_callV M_Court_put 3 [ai v1, ai (-1), ai (-1)] (rest := []) (dt_Court_letCome 34 (52, .invokevirtual 71, 3) rfl) ml_X0_71 ok_Court_put (jfit rfl rfl ⟨rfl, rfl⟩ (nle rfl) (nlt rfl)) rfl rfl (nle rfl) ⟨rfl, rfl⟩ hb9 ((c_Court_put hV8)) ?_
      refine j_aload_n (dt_Court_letCome 35 (55, .aload_n 0, 1) rfl) rfl ?_
      refine j_dup (dt_Court_letCome 36 (56, .dup, 1) rfl) rfl ?_
      obtain ⟨x10, hx10, hf⟩ := jbind hf
      refine j_getI (dt_Court_letCome 37 (57, .getfield 43, 3) rfl) fl_X0_43 hx10 (fun _ _ => rfl) ?_
      refine j_iconst (dt_Court_letCome 38 (60, .iconst 1, 1) rfl) ic_1 ?_
      refine j_iadd (dt_Court_letCome 39 (61, .iadd, 1) rfl) ?_
      obtain ⟨V11, hV11, hf⟩ := jbind hf
      refine j_putI (dt_Court_letCome 40 (62, .putfield 43, 3) rfl) fl_X0_43 hV11 rfl (Or.inl rfl) ?_
      refine j_iconst (dt_Court_letCome 41 (65, .iconst 1, 1) rfl) ic_1 ?_
      cases hf
      exact j_zret (x := 1) (dt_Court_letCome 42 (66, .ireturn, 1) rfl) rfl rfl
theorem r_Court_letCome {S : hS} {V : hV} {v0 : Option Nat} {v1 : Int32} {v2 : Int32} {res : Int32 × hV} (hf : Court_letCome S v0 v1 v2 V = some res) : ∃ b, rc S 0 v0 = some b := by
  unfold Court_letCome at hf
  obtain ⟨b, hb, _⟩ := jbind hf
  exact ⟨b, hb⟩
def tb_Court_letSit : List (Nat × Instr × Nat) := [(0, .aload_n 0, 1), (1, .iload_n 1, 1), (2, .invokevirtual 75, 3), (5, .ifCond .eq 15, 3), (8, .aload_n 0, 1), (9, .getfield 40, 3), (12, .iload_n 1, 1), (13, .invokestatic 64, 3), (16, .iload_n 2, 1), (17, .if_icmp .ne 5, 3), (20, .iconst 0, 1), (21, .ireturn, 1), (22, .aload_n 0, 1), (23, .dup, 1), (24, .getfield 40, 3), (27, .iconst 1, 1), (28, .iload_n 1, 1), (29, .ishl, 1), (30, .ixor, 1), (31, .putfield 40, 3), (34, .aload_n 0, 1), (35, .dup, 1), (36, .getfield 46, 3), (39, .iconst 1, 1), (40, .iadd, 1), (41, .putfield 46, 3), (44, .iconst 1, 1), (45, .ireturn, 1)]
theorem dt_Court_letSit (i : Nat) (q : Nat × Instr × Nat) (h : tb_Court_letSit[i]? = some q) : decode prog_2_method_12_code q.1 = .ok q.2 := jdt (by decide +kernel : tb_Court_letSit.all (fun q => decide (decode prog_2_method_12_code q.1 = .ok q.2)) = true) h
theorem ok_Court_letSit : jOKV M_Court_letSit 2 := ⟨⟨gt4 85 rfl rfl, gt1 15 rfl rfl, (by decide : "FirstIn$Court" ≠ "java/lang/invoke/MethodHandle"), (by decide : "FirstIn$Court" ≠ "java/lang/invoke/VarHandle"), (by decide +kernel : (parseMethodDescriptor "(IZ)Z").map (fun d => d.parameters.length) = some 2)⟩, gt4 83 rfl rfl, gt4 84 rfl rfl, rfl, nlt rfl⟩
set_option maxRecDepth 100000 in
set_option maxHeartbeats 4000000 in
theorem c_Court_letSit {G : jG} {S : hS} {V : hV} {v0 : Option Nat} {v1 : Int32} {v2 : Int32} {res : Int32 × hV} (hf : Court_letSit S v0 v1 v2 V = some res) : jC G M_Court_letSit [ar v0, ai v1, ai v2] (S, V) (some (ai res.1)) (S, res.2) := by
  unfold Court_letSit at hf
  obtain ⟨_, _, hf⟩ := jbind hf
  refine jC_of (pf_X0 _ _) rfl (nle rfl) ?_
  show jJ G M_Court_letSit (jEnd G M_Court_letSit (some (ai res.1)) (S, res.2)) 0 0 0 [(0, ar v0), (1, ai v1), (2, ai v2)] [] (S, V)
  refine j_aload_n (dt_Court_letSit 0 (0, .aload_n 0, 1) rfl) rfl ?_
  refine j_iload_n (dt_Court_letSit 1 (1, .iload_n 1, 1) rfl) rfl ?_
  obtain ⟨x1, hx1, hf⟩ := jbind hf
  obtain ⟨b2, hb2⟩ := r_Court_isSeated hx1
  refine j_callV M_Court_isSeated 1 [ai v1] (rest := []) (dt_Court_letSit 2 (2, .invokevirtual 75, 3) rfl) ml_X0_75 ok_Court_isSeated (jfit rfl rfl ⟨rfl, rfl⟩ (nle rfl) (nlt rfl)) rfl rfl (nle rfl) ⟨rfl, rfl⟩ hb2 ((c_Court_isSeated hx1)) ?_
  refine jite hf (fun hc hf => ?_) (fun hc hf => ?_)
  · refine j_if_eq (dt_Court_letSit 3 (5, .ifCond .eq 15, 3) rfl) rfl (fun _ => ?_) (fun q => absurd hc q)
    refine j_iconst (dt_Court_letSit 10 (20, .iconst 0, 1) rfl) ic_0 ?_
    cases hf
    exact j_zret (x := 0) (dt_Court_letSit 11 (21, .ireturn, 1) rfl) rfl rfl
  · refine j_if_eq (dt_Court_letSit 3 (5, .ifCond .eq 15, 3) rfl) rfl (fun q => absurd q hc) (fun _ => ?_)
    refine j_aload_n (dt_Court_letSit 4 (8, .aload_n 0, 1) rfl) rfl ?_
    obtain ⟨x3, hx3, hf⟩ := jbind hf
    refine j_getI (dt_Court_letSit 5 (9, .getfield 40, 3) rfl) fl_X0_40 hx3 (fun _ _ => rfl) ?_
    refine j_iload_n (dt_Court_letSit 6 (12, .iload_n 1, 1) rfl) rfl ?_
    refine j_callSN M_Fi_has 2 [ai x3, ai v1] (rest := []) (dt_Court_letSit 7 (13, .invokestatic 64, 3) rfl) ml_X0_64 ok_Fi_has (jfit rfl rfl ⟨rfl, rfl⟩ (nle rfl) (nlt rfl)) rfl rfl (nle rfl) ⟨rfl, rfl⟩ (c_Fi_has rfl) ?_
    refine j_iload_n (dt_Court_letSit 8 (16, .iload_n 2, 1) rfl) rfl ?_
    refine jite hf (fun hc hf => ?_) (fun hc hf => ?_)
    · refine j_icmp_ne (dt_Court_letSit 9 (17, .if_icmp .ne 5, 3) rfl) rfl (fun q => absurd hc q) (fun _ => ?_)
      refine j_iconst (dt_Court_letSit 10 (20, .iconst 0, 1) rfl) ic_0 ?_
      cases hf
      exact j_zret (x := 0) (dt_Court_letSit 11 (21, .ireturn, 1) rfl) rfl rfl
    · refine j_icmp_ne (dt_Court_letSit 9 (17, .if_icmp .ne 5, 3) rfl) rfl (fun _ => ?_) (fun q => absurd q hc)
      refine j_aload_n (dt_Court_letSit 12 (22, .aload_n 0, 1) rfl) rfl ?_
      refine j_dup (dt_Court_letSit 13 (23, .dup, 1) rfl) rfl ?_
      obtain ⟨x4, hx4, hf⟩ := jbind hf
      refine j_getI (dt_Court_letSit 14 (24, .getfield 40, 3) rfl) fl_X0_40 hx4 (fun _ _ => rfl) ?_
      refine j_iconst (dt_Court_letSit 15 (27, .iconst 1, 1) rfl) ic_1 ?_
      refine j_iload_n (dt_Court_letSit 16 (28, .iload_n 1, 1) rfl) rfl ?_
      refine j_ishl (dt_Court_letSit 17 (29, .ishl, 1) rfl) ?_
      refine j_ixor (dt_Court_letSit 18 (30, .ixor, 1) rfl) ?_
      obtain ⟨V5, hV5, hf⟩ := jbind hf
      refine j_putI (dt_Court_letSit 19 (31, .putfield 40, 3) rfl) fl_X0_40 hV5 rfl (Or.inl rfl) ?_
      refine j_aload_n (dt_Court_letSit 20 (34, .aload_n 0, 1) rfl) rfl ?_
      refine j_dup (dt_Court_letSit 21 (35, .dup, 1) rfl) rfl ?_
      obtain ⟨x6, hx6, hf⟩ := jbind hf
      refine j_getI (dt_Court_letSit 22 (36, .getfield 46, 3) rfl) fl_X0_46 hx6 (fun _ _ => rfl) ?_
      refine j_iconst (dt_Court_letSit 23 (39, .iconst 1, 1) rfl) ic_1 ?_
      refine j_iadd (dt_Court_letSit 24 (40, .iadd, 1) rfl) ?_
      obtain ⟨V7, hV7, hf⟩ := jbind hf
      refine j_putI (dt_Court_letSit 25 (41, .putfield 46, 3) rfl) fl_X0_46 hV7 rfl (Or.inl rfl) ?_
      refine j_iconst (dt_Court_letSit 26 (44, .iconst 1, 1) rfl) ic_1 ?_
      cases hf
      exact j_zret (x := 1) (dt_Court_letSit 27 (45, .ireturn, 1) rfl) rfl rfl
theorem r_Court_letSit {S : hS} {V : hV} {v0 : Option Nat} {v1 : Int32} {v2 : Int32} {res : Int32 × hV} (hf : Court_letSit S v0 v1 v2 V = some res) : ∃ b, rc S 0 v0 = some b := by
  unfold Court_letSit at hf
  obtain ⟨b, hb, _⟩ := jbind hf
  exact ⟨b, hb⟩
def tb_Court_isTaken : List (Nat × Instr × Nat) := [(0, .iconst 0, 1), (1, .istore_n 3, 1), (2, .iload_n 3, 1), (3, .aload_n 0, 1), (4, .getfield 27, 3), (7, .if_icmp .ge 37, 3), (10, .iload_n 3, 1), (11, .bipush 10, 2), (13, .if_icmp .ge 31, 3), (16, .aload_n 0, 1), (17, .getfield 21, 3), (20, .iload_n 3, 1), (21, .iaload, 1), (22, .iload_n 1, 1), (23, .if_icmp .ne 15, 3), (26, .aload_n 0, 1), (27, .getfield 24, 3), (30, .iload_n 3, 1), (31, .iaload, 1), (32, .iload_n 2, 1), (33, .if_icmp .ne 5, 3), (36, .iconst 1, 1), (37, .ireturn, 1), (38, .iinc 3 1, 3), (41, .goto (-39), 3), (44, .iconst 0, 1), (45, .ireturn, 1)]
theorem dt_Court_isTaken (i : Nat) (q : Nat × Instr × Nat) (h : tb_Court_isTaken[i]? = some q) : decode prog_2_method_14_code q.1 = .ok q.2 := jdt (by decide +kernel : tb_Court_isTaken.all (fun q => decide (decode prog_2_method_14_code q.1 = .ok q.2)) = true) h
theorem ok_Court_isTaken : jOKV M_Court_isTaken 2 := ⟨⟨gt4 68 rfl rfl, gt1 15 rfl rfl, (by decide : "FirstIn$Court" ≠ "java/lang/invoke/MethodHandle"), (by decide : "FirstIn$Court" ≠ "java/lang/invoke/VarHandle"), (by decide +kernel : (parseMethodDescriptor "(II)Z").map (fun d => d.parameters.length) = some 2)⟩, gt4 66 rfl rfl, gt4 67 rfl rfl, rfl, nlt rfl⟩
set_option maxRecDepth 100000 in
set_option maxHeartbeats 4000000 in
theorem c_Court_isTaken {G : jG} {S : hS} {V : hV} {v0 : Option Nat} {v1 : Int32} {v2 : Int32} {res : Int32} (hf : Court_isTaken S v0 v1 v2 V = some res) : jC G M_Court_isTaken [ar v0, ai v1, ai v2] (S, V) (some (ai res)) (S, V) := by
  unfold Court_isTaken at hf
  obtain ⟨_, _, hf⟩ := jbind hf
  refine jC_of (pf_X0 _ _) rfl (nle rfl) ?_
  show jJ G M_Court_isTaken (jEnd G M_Court_isTaken (some (ai res)) (S, V)) 0 0 0 [(0, ar v0), (1, ai v1), (2, ai v2)] [] (S, V)
  refine j_iconst (dt_Court_isTaken 0 (0, .iconst 0, 1) rfl) ic_0 ?_
  refine j_istore_n (dt_Court_isTaken 1 (1, .istore_n 3, 1) rfl) (nlt rfl) ?_
  obtain ⟨t2, ht2, hf⟩ := jbind hf
  have hX2 : ∀ q2 : Unit, t2 = .inl q2 → jJ G M_Court_isTaken (jEnd G M_Court_isTaken (some (ai res)) (S, V)) 0 0 44 [] [] (S, V) := by
    intro q2 hq2
    subst hq2
    refine j_iconst (dt_Court_isTaken 25 (44, .iconst 0, 1) rfl) ic_0 ?_
    cases hf
    exact j_zret (x := 0) (dt_Court_isTaken 26 (45, .ireturn, 1) rfl) rfl rfl
  have hR2 : ∀ v : Int32, t2 = .inr v → v = res := by
    intro v hv
    subst hv
    cases hf
    rfl
  refine j_sub (ls' := [(0, ar v0), (1, ai v1), (2, ai v2), (3, ai 0)]) rfl ?_
  refine jloop_J (C := fun s2 => jJ G M_Court_isTaken (jEnd G M_Court_isTaken (some (ai res)) (S, V)) 0 0 2 [(0, ar v0), (1, ai v1), (2, ai v2), (3, ai s2)] [] (S, V)) (fun s2 z2_ hy2 hin2 hout2 => ?_) _ _ ht2
  unfold Court_isTaken_L2 at hy2
  refine j_iload_n (dt_Court_isTaken 2 (2, .iload_n 3, 1) rfl) rfl ?_
  refine j_aload_n (dt_Court_isTaken 3 (3, .aload_n 0, 1) rfl) rfl ?_
  obtain ⟨x1, hx1, hy2⟩ := jbind hy2
  refine j_getI (dt_Court_isTaken 4 (4, .getfield 27, 3) rfl) fl_X0_27 hx1 (fun _ _ => rfl) ?_
  refine jite hy2 (fun hc hy2 => ?_) (fun hc hy2 => ?_)
  · refine j_icmp_ge (dt_Court_isTaken 5 (7, .if_icmp .ge 37, 3) rfl) rfl (fun _ => ?_) (fun q => absurd hc q)
    cases hy2
    have hz := hX2 _ (hout2 _ rfl).symm
    exact j_sub rfl hz
  · refine j_icmp_ge (dt_Court_isTaken 5 (7, .if_icmp .ge 37, 3) rfl) rfl (fun q => absurd q hc) (fun _ => ?_)
    refine j_iload_n (dt_Court_isTaken 6 (10, .iload_n 3, 1) rfl) rfl ?_
    refine j_bipush (dt_Court_isTaken 7 (11, .bipush 10, 2) rfl) bp_10 ?_
    refine jite hy2 (fun hc hy2 => ?_) (fun hc hy2 => ?_)
    · refine j_icmp_ge (dt_Court_isTaken 8 (13, .if_icmp .ge 31, 3) rfl) rfl (fun _ => ?_) (fun q => absurd hc q)
      cases hy2
      have hz := hX2 _ (hout2 _ rfl).symm
      exact j_sub rfl hz
    · refine j_icmp_ge (dt_Court_isTaken 8 (13, .if_icmp .ge 31, 3) rfl) rfl (fun q => absurd q hc) (fun _ => ?_)
      refine j_aload_n (dt_Court_isTaken 9 (16, .aload_n 0, 1) rfl) rfl ?_
      obtain ⟨x2, hx2, hy2⟩ := jbind hy2
      refine j_getR (dt_Court_isTaken 10 (17, .getfield 21, 3) rfl) fl_X0_21 hx2 (fun _ _ => rfl) ?_
      refine j_iload_n (dt_Court_isTaken 11 (20, .iload_n 3, 1) rfl) rfl ?_
      obtain ⟨x3, hx3, hy2⟩ := jbind hy2
      refine j_aldI (dt_Court_isTaken 12 (21, .iaload, 1) rfl) hx3 ?_
      refine j_iload_n (dt_Court_isTaken 13 (22, .iload_n 1, 1) rfl) rfl ?_
      refine jite hy2 (fun hc hy2 => ?_) (fun hc hy2 => ?_)
      · refine j_icmp_ne (dt_Court_isTaken 14 (23, .if_icmp .ne 15, 3) rfl) rfl (fun q => absurd hc q) (fun _ => ?_)
        refine j_aload_n (dt_Court_isTaken 15 (26, .aload_n 0, 1) rfl) rfl ?_
        obtain ⟨x4, hx4, hy2⟩ := jbind hy2
        refine j_getR (dt_Court_isTaken 16 (27, .getfield 24, 3) rfl) fl_X0_24 hx4 (fun _ _ => rfl) ?_
        refine j_iload_n (dt_Court_isTaken 17 (30, .iload_n 3, 1) rfl) rfl ?_
        obtain ⟨x5, hx5, hy2⟩ := jbind hy2
        refine j_aldI (dt_Court_isTaken 18 (31, .iaload, 1) rfl) hx5 ?_
        refine j_iload_n (dt_Court_isTaken 19 (32, .iload_n 2, 1) rfl) rfl ?_
        refine jite hy2 (fun hc hy2 => ?_) (fun hc hy2 => ?_)
        · refine j_icmp_ne (dt_Court_isTaken 20 (33, .if_icmp .ne 5, 3) rfl) rfl (fun q => absurd hc q) (fun _ => ?_)
          refine j_iconst (dt_Court_isTaken 21 (36, .iconst 1, 1) rfl) ic_1 ?_
          cases hy2
          obtain rfl := hR2 _ (hout2 _ rfl).symm
          exact j_zret (x := 1) (dt_Court_isTaken 22 (37, .ireturn, 1) rfl) rfl rfl
        · refine j_icmp_ne (dt_Court_isTaken 20 (33, .if_icmp .ne 5, 3) rfl) rfl (fun _ => ?_) (fun q => absurd q hc)
          refine j_iinc (dt_Court_isTaken 23 (38, .iinc 3 1, 3) rfl) rfl (nlt rfl) (ii_1 _) ?_
          refine j_goto (dt_Court_isTaken 24 (41, .goto (-39), 3) rfl) rfl ?_
          cases hy2
          have hz := hin2 _ rfl
          exact j_sub rfl hz
      · refine j_icmp_ne (dt_Court_isTaken 14 (23, .if_icmp .ne 15, 3) rfl) rfl (fun _ => ?_) (fun q => absurd q hc)
        refine j_iinc (dt_Court_isTaken 23 (38, .iinc 3 1, 3) rfl) rfl (nlt rfl) (ii_1 _) ?_
        refine j_goto (dt_Court_isTaken 24 (41, .goto (-39), 3) rfl) rfl ?_
        cases hy2
        have hz := hin2 _ rfl
        exact j_sub rfl hz
theorem r_Court_isTaken {S : hS} {V : hV} {v0 : Option Nat} {v1 : Int32} {v2 : Int32} {res : Int32} (hf : Court_isTaken S v0 v1 v2 V = some res) : ∃ b, rc S 0 v0 = some b := by
  unfold Court_isTaken at hf
  obtain ⟨b, hb, _⟩ := jbind hf
  exact ⟨b, hb⟩
def tb_Court_seatedAnywhere : List (Nat × Instr × Nat) := [(0, .iconst 0, 1), (1, .istore_n 1, 1), (2, .iconst 0, 1), (3, .istore_n 2, 1), (4, .iload_n 2, 1), (5, .aload_n 0, 1), (6, .getfield 27, 3), (9, .if_icmp .ge 33, 3), (12, .iload_n 2, 1), (13, .bipush 10, 2), (15, .if_icmp .ge 27, 3), (18, .iload_n 1, 1), (19, .aload_n 0, 1), (20, .getfield 21, 3), (23, .iload_n 2, 1), (24, .iaload, 1), (25, .iconst (-1), 1), (26, .if_icmp .ne 7, 3), (29, .iconst 0, 1), (30, .goto 4, 3), (33, .iconst 1, 1), (34, .iadd, 1), (35, .istore_n 1, 1), (36, .iinc 2 1, 3), (39, .goto (-35), 3), (42, .iload_n 1, 1), (43, .ireturn, 1)]
theorem dt_Court_seatedAnywhere (i : Nat) (q : Nat × Instr × Nat) (h : tb_Court_seatedAnywhere[i]? = some q) : decode prog_2_method_15_code q.1 = .ok q.2 := jdt (by decide +kernel : tb_Court_seatedAnywhere.all (fun q => decide (decode prog_2_method_15_code q.1 = .ok q.2)) = true) h
theorem ok_Court_seatedAnywhere : jOKV M_Court_seatedAnywhere 0 := ⟨⟨gt5 234 rfl rfl, gt1 15 rfl rfl, (by decide : "FirstIn$Court" ≠ "java/lang/invoke/MethodHandle"), (by decide : "FirstIn$Court" ≠ "java/lang/invoke/VarHandle"), (by decide +kernel : (parseMethodDescriptor "()I").map (fun d => d.parameters.length) = some 0)⟩, gt5 232 rfl rfl, gt5 233 rfl rfl, rfl, nlt rfl⟩
set_option maxRecDepth 100000 in
set_option maxHeartbeats 4000000 in
theorem c_Court_seatedAnywhere {G : jG} {S : hS} {V : hV} {v0 : Option Nat} {res : Int32} (hf : Court_seatedAnywhere S v0 V = some res) : jC G M_Court_seatedAnywhere [ar v0] (S, V) (some (ai res)) (S, V) := by
  unfold Court_seatedAnywhere at hf
  obtain ⟨_, _, hf⟩ := jbind hf
  refine jC_of (pf_X0 _ _) rfl (nle rfl) ?_
  show jJ G M_Court_seatedAnywhere (jEnd G M_Court_seatedAnywhere (some (ai res)) (S, V)) 0 0 0 [(0, ar v0)] [] (S, V)
  refine j_iconst (dt_Court_seatedAnywhere 0 (0, .iconst 0, 1) rfl) ic_0 ?_
  refine j_istore_n (dt_Court_seatedAnywhere 1 (1, .istore_n 1, 1) rfl) (nlt rfl) ?_
  refine j_iconst (dt_Court_seatedAnywhere 2 (2, .iconst 0, 1) rfl) ic_0 ?_
  refine j_istore_n (dt_Court_seatedAnywhere 3 (3, .istore_n 2, 1) rfl) (nlt rfl) ?_
  obtain ⟨t4, ht4, hf⟩ := jbind hf
  have hX4 : ∀ q4 : Int32, q4 = t4 → jJ G M_Court_seatedAnywhere (jEnd G M_Court_seatedAnywhere (some (ai res)) (S, V)) 0 0 42 [(1, ai q4)] [] (S, V) := by
    intro q4 hq4
    subst hq4
    refine j_iload_n (dt_Court_seatedAnywhere 25 (42, .iload_n 1, 1) rfl) rfl ?_
    cases hf
    exact j_iret (dt_Court_seatedAnywhere 26 (43, .ireturn, 1) rfl) rfl
  refine j_sub (ls' := [(0, ar v0), (1, ai 0), (2, ai 0)]) rfl ?_
  refine jloop_J (C := fun s4 => jJ G M_Court_seatedAnywhere (jEnd G M_Court_seatedAnywhere (some (ai res)) (S, V)) 0 0 4 [(0, ar v0), (1, ai s4.1), (2, ai s4.2)] [] (S, V)) (fun s4 z4_ hy4 hin4 hout4 => ?_) _ _ ht4
  unfold Court_seatedAnywhere_L4 at hy4
  refine j_iload_n (dt_Court_seatedAnywhere 4 (4, .iload_n 2, 1) rfl) rfl ?_
  refine j_aload_n (dt_Court_seatedAnywhere 5 (5, .aload_n 0, 1) rfl) rfl ?_
  obtain ⟨x1, hx1, hy4⟩ := jbind hy4
  refine j_getI (dt_Court_seatedAnywhere 6 (6, .getfield 27, 3) rfl) fl_X0_27 hx1 (fun _ _ => rfl) ?_
  refine jite hy4 (fun hc hy4 => ?_) (fun hc hy4 => ?_)
  · refine j_icmp_ge (dt_Court_seatedAnywhere 7 (9, .if_icmp .ge 33, 3) rfl) rfl (fun _ => ?_) (fun q => absurd hc q)
    cases hy4
    have hz := hX4 _ (hout4 _ rfl)
    exact j_sub rfl hz
  · refine j_icmp_ge (dt_Court_seatedAnywhere 7 (9, .if_icmp .ge 33, 3) rfl) rfl (fun q => absurd q hc) (fun _ => ?_)
    refine j_iload_n (dt_Court_seatedAnywhere 8 (12, .iload_n 2, 1) rfl) rfl ?_
    refine j_bipush (dt_Court_seatedAnywhere 9 (13, .bipush 10, 2) rfl) bp_10 ?_
    refine jite hy4 (fun hc hy4 => ?_) (fun hc hy4 => ?_)
    · refine j_icmp_ge (dt_Court_seatedAnywhere 10 (15, .if_icmp .ge 27, 3) rfl) rfl (fun _ => ?_) (fun q => absurd hc q)
      cases hy4
      have hz := hX4 _ (hout4 _ rfl)
      exact j_sub rfl hz
    · refine j_icmp_ge (dt_Court_seatedAnywhere 10 (15, .if_icmp .ge 27, 3) rfl) rfl (fun q => absurd q hc) (fun _ => ?_)
      refine j_iload_n (dt_Court_seatedAnywhere 11 (18, .iload_n 1, 1) rfl) rfl ?_
      refine j_aload_n (dt_Court_seatedAnywhere 12 (19, .aload_n 0, 1) rfl) rfl ?_
      obtain ⟨x2, hx2, hy4⟩ := jbind hy4
      refine j_getR (dt_Court_seatedAnywhere 13 (20, .getfield 21, 3) rfl) fl_X0_21 hx2 (fun _ _ => rfl) ?_
      refine j_iload_n (dt_Court_seatedAnywhere 14 (23, .iload_n 2, 1) rfl) rfl ?_
      obtain ⟨x3, hx3, hy4⟩ := jbind hy4
      refine j_aldI (dt_Court_seatedAnywhere 15 (24, .iaload, 1) rfl) hx3 ?_
      refine j_iconst (dt_Court_seatedAnywhere 16 (25, .iconst (-1), 1) rfl) ic_m1 ?_
      refine jite hy4 (fun hc hy4 => ?_) (fun hc hy4 => ?_)
      · refine j_icmp_ne (dt_Court_seatedAnywhere 17 (26, .if_icmp .ne 7, 3) rfl) rfl (fun q => absurd hc q) (fun _ => ?_)
        refine j_iconst (dt_Court_seatedAnywhere 18 (29, .iconst 0, 1) rfl) ic_0 ?_
        refine j_goto (dt_Court_seatedAnywhere 19 (30, .goto 4, 3) rfl) rfl ?_
        refine j_iadd (dt_Court_seatedAnywhere 21 (34, .iadd, 1) rfl) ?_
        refine j_istore_n (dt_Court_seatedAnywhere 22 (35, .istore_n 1, 1) rfl) (nlt rfl) ?_
        refine j_iinc (dt_Court_seatedAnywhere 23 (36, .iinc 2 1, 3) rfl) rfl (nlt rfl) (ii_1 _) ?_
        refine j_goto (dt_Court_seatedAnywhere 24 (39, .goto (-35), 3) rfl) rfl ?_
        cases hy4
        have hz := hin4 _ rfl
        exact j_sub rfl hz
      · refine j_icmp_ne (dt_Court_seatedAnywhere 17 (26, .if_icmp .ne 7, 3) rfl) rfl (fun _ => ?_) (fun q => absurd q hc)
        refine j_iconst (dt_Court_seatedAnywhere 20 (33, .iconst 1, 1) rfl) ic_1 ?_
        refine j_iadd (dt_Court_seatedAnywhere 21 (34, .iadd, 1) rfl) ?_
        refine j_istore_n (dt_Court_seatedAnywhere 22 (35, .istore_n 1, 1) rfl) (nlt rfl) ?_
        refine j_iinc (dt_Court_seatedAnywhere 23 (36, .iinc 2 1, 3) rfl) rfl (nlt rfl) (ii_1 _) ?_
        refine j_goto (dt_Court_seatedAnywhere 24 (39, .goto (-35), 3) rfl) rfl ?_
        cases hy4
        have hz := hin4 _ rfl
        exact j_sub rfl hz
theorem r_Court_seatedAnywhere {S : hS} {V : hV} {v0 : Option Nat} {res : Int32} (hf : Court_seatedAnywhere S v0 V = some res) : ∃ b, rc S 0 v0 = some b := by
  unfold Court_seatedAnywhere at hf
  obtain ⟨b, hb, _⟩ := jbind hf
  exact ⟨b, hb⟩
def tb_Court_resting : List (Nat × Instr × Nat) := [(0, .iconst 0, 1), (1, .istore_n 1, 1), (2, .iconst 0, 1), (3, .istore_n 2, 1), (4, .iload_n 2, 1), (5, .aload_n 0, 1), (6, .getfield 34, 3), (9, .if_icmp .ge 35, 3), (12, .iload_n 2, 1), (13, .bipush 12, 2), (15, .if_icmp .ge 29, 3), (18, .iload_n 1, 1), (19, .aload_n 0, 1), (20, .getfield 17, 3), (23, .iload_n 2, 1), (24, .aaload, 1), (25, .getfield 56, 3), (28, .ifCond .eq 7, 3), (31, .iconst 1, 1), (32, .goto 4, 3), (35, .iconst 0, 1), (36, .iadd, 1), (37, .istore_n 1, 1), (38, .iinc 2 1, 3), (41, .goto (-37), 3), (44, .iload_n 1, 1), (45, .ireturn, 1)]
theorem dt_Court_resting (i : Nat) (q : Nat × Instr × Nat) (h : tb_Court_resting[i]? = some q) : decode prog_2_method_16_code q.1 = .ok q.2 := jdt (by decide +kernel : tb_Court_resting.all (fun q => decide (decode prog_2_method_16_code q.1 = .ok q.2)) = true) h
theorem ok_Court_resting : jOKV M_Court_resting 0 := ⟨⟨gt5 238 rfl rfl, gt1 15 rfl rfl, (by decide : "FirstIn$Court" ≠ "java/lang/invoke/MethodHandle"), (by decide : "FirstIn$Court" ≠ "java/lang/invoke/VarHandle"), (by decide +kernel : (parseMethodDescriptor "()I").map (fun d => d.parameters.length) = some 0)⟩, gt5 236 rfl rfl, gt5 237 rfl rfl, rfl, nlt rfl⟩
set_option maxRecDepth 100000 in
set_option maxHeartbeats 4000000 in
theorem c_Court_resting {G : jG} {S : hS} {V : hV} {v0 : Option Nat} {res : Int32} (hf : Court_resting S v0 V = some res) : jC G M_Court_resting [ar v0] (S, V) (some (ai res)) (S, V) := by
  unfold Court_resting at hf
  obtain ⟨_, _, hf⟩ := jbind hf
  refine jC_of (pf_X0 _ _) rfl (nle rfl) ?_
  show jJ G M_Court_resting (jEnd G M_Court_resting (some (ai res)) (S, V)) 0 0 0 [(0, ar v0)] [] (S, V)
  refine j_iconst (dt_Court_resting 0 (0, .iconst 0, 1) rfl) ic_0 ?_
  refine j_istore_n (dt_Court_resting 1 (1, .istore_n 1, 1) rfl) (nlt rfl) ?_
  refine j_iconst (dt_Court_resting 2 (2, .iconst 0, 1) rfl) ic_0 ?_
  refine j_istore_n (dt_Court_resting 3 (3, .istore_n 2, 1) rfl) (nlt rfl) ?_
  obtain ⟨t4, ht4, hf⟩ := jbind hf
  have hX4 : ∀ q4 : Int32, q4 = t4 → jJ G M_Court_resting (jEnd G M_Court_resting (some (ai res)) (S, V)) 0 0 44 [(1, ai q4)] [] (S, V) := by
    intro q4 hq4
    subst hq4
    refine j_iload_n (dt_Court_resting 25 (44, .iload_n 1, 1) rfl) rfl ?_
    cases hf
    exact j_iret (dt_Court_resting 26 (45, .ireturn, 1) rfl) rfl
  refine j_sub (ls' := [(0, ar v0), (1, ai 0), (2, ai 0)]) rfl ?_
  refine jloop_J (C := fun s4 => jJ G M_Court_resting (jEnd G M_Court_resting (some (ai res)) (S, V)) 0 0 4 [(0, ar v0), (1, ai s4.1), (2, ai s4.2)] [] (S, V)) (fun s4 z4_ hy4 hin4 hout4 => ?_) _ _ ht4
  unfold Court_resting_L4 at hy4
  refine j_iload_n (dt_Court_resting 4 (4, .iload_n 2, 1) rfl) rfl ?_
  refine j_aload_n (dt_Court_resting 5 (5, .aload_n 0, 1) rfl) rfl ?_
  obtain ⟨x1, hx1, hy4⟩ := jbind hy4
  refine j_getI (dt_Court_resting 6 (6, .getfield 34, 3) rfl) fl_X0_34 hx1 (fun _ _ => rfl) ?_
  refine jite hy4 (fun hc hy4 => ?_) (fun hc hy4 => ?_)
  · refine j_icmp_ge (dt_Court_resting 7 (9, .if_icmp .ge 35, 3) rfl) rfl (fun _ => ?_) (fun q => absurd hc q)
    cases hy4
    have hz := hX4 _ (hout4 _ rfl)
    exact j_sub rfl hz
  · refine j_icmp_ge (dt_Court_resting 7 (9, .if_icmp .ge 35, 3) rfl) rfl (fun q => absurd q hc) (fun _ => ?_)
    refine j_iload_n (dt_Court_resting 8 (12, .iload_n 2, 1) rfl) rfl ?_
    refine j_bipush (dt_Court_resting 9 (13, .bipush 12, 2) rfl) bp_12 ?_
    refine jite hy4 (fun hc hy4 => ?_) (fun hc hy4 => ?_)
    · refine j_icmp_ge (dt_Court_resting 10 (15, .if_icmp .ge 29, 3) rfl) rfl (fun _ => ?_) (fun q => absurd hc q)
      cases hy4
      have hz := hX4 _ (hout4 _ rfl)
      exact j_sub rfl hz
    · refine j_icmp_ge (dt_Court_resting 10 (15, .if_icmp .ge 29, 3) rfl) rfl (fun q => absurd q hc) (fun _ => ?_)
      refine j_iload_n (dt_Court_resting 11 (18, .iload_n 1, 1) rfl) rfl ?_
      refine j_aload_n (dt_Court_resting 12 (19, .aload_n 0, 1) rfl) rfl ?_
      obtain ⟨x2, hx2, hy4⟩ := jbind hy4
      refine j_getR (dt_Court_resting 13 (20, .getfield 17, 3) rfl) fl_X0_17 hx2 (fun _ _ => rfl) ?_
      refine j_iload_n (dt_Court_resting 14 (23, .iload_n 2, 1) rfl) rfl ?_
      obtain ⟨x3, hx3, hy4⟩ := jbind hy4
      refine j_aldR 105 (dt_Court_resting 15 (24, .aaload, 1) rfl) (by decide) hx3 ?_
      obtain ⟨x4, hx4, hy4⟩ := jbind hy4
      refine j_getI (dt_Court_resting 16 (25, .getfield 56, 3) rfl) fl_X0_56 hx4 (fun _ _ => rfl) ?_
      refine jite hy4 (fun hc hy4 => ?_) (fun hc hy4 => ?_)
      · refine j_if_eq (dt_Court_resting 17 (28, .ifCond .eq 7, 3) rfl) rfl (fun _ => ?_) (fun q => absurd hc q)
        refine j_iconst (dt_Court_resting 20 (35, .iconst 0, 1) rfl) ic_0 ?_
        refine j_iadd (dt_Court_resting 21 (36, .iadd, 1) rfl) ?_
        refine j_istore_n (dt_Court_resting 22 (37, .istore_n 1, 1) rfl) (nlt rfl) ?_
        refine j_iinc (dt_Court_resting 23 (38, .iinc 2 1, 3) rfl) rfl (nlt rfl) (ii_1 _) ?_
        refine j_goto (dt_Court_resting 24 (41, .goto (-37), 3) rfl) rfl ?_
        cases hy4
        have hz := hin4 _ rfl
        exact j_sub rfl hz
      · refine j_if_eq (dt_Court_resting 17 (28, .ifCond .eq 7, 3) rfl) rfl (fun q => absurd q hc) (fun _ => ?_)
        refine j_iconst (dt_Court_resting 18 (31, .iconst 1, 1) rfl) ic_1 ?_
        refine j_goto (dt_Court_resting 19 (32, .goto 4, 3) rfl) rfl ?_
        refine j_iadd (dt_Court_resting 21 (36, .iadd, 1) rfl) ?_
        refine j_istore_n (dt_Court_resting 22 (37, .istore_n 1, 1) rfl) (nlt rfl) ?_
        refine j_iinc (dt_Court_resting 23 (38, .iinc 2 1, 3) rfl) rfl (nlt rfl) (ii_1 _) ?_
        refine j_goto (dt_Court_resting 24 (41, .goto (-37), 3) rfl) rfl ?_
        cases hy4
        have hz := hin4 _ rfl
        exact j_sub rfl hz
theorem r_Court_resting {S : hS} {V : hV} {v0 : Option Nat} {res : Int32} (hf : Court_resting S v0 V = some res) : ∃ b, rc S 0 v0 = some b := by
  unfold Court_resting at hf
  obtain ⟨b, hb, _⟩ := jbind hf
  exact ⟨b, hb⟩
def tb_Court_weightOf : List (Nat × Instr × Nat) := [(0, .iconst 0, 1), (1, .istore_n 2, 1), (2, .iconst 0, 1), (3, .istore_n 3, 1), (4, .iload_n 3, 1), (5, .aload_n 0, 1), (6, .getfield 34, 3), (9, .if_icmp .ge 39, 3), (12, .iload_n 3, 1), (13, .bipush 12, 2), (15, .if_icmp .ge 33, 3), (18, .iload_n 2, 1), (19, .iload_n 1, 1), (20, .iload_n 3, 1), (21, .invokestatic 64, 3), (24, .ifCond .eq 15, 3), (27, .aload_n 0, 1), (28, .getfield 17, 3), (31, .iload_n 3, 1), (32, .aaload, 1), (33, .getfield 78, 3), (36, .goto 4, 3), (39, .iconst 0, 1), (40, .iadd, 1), (41, .istore_n 2, 1), (42, .iinc 3 1, 3), (45, .goto (-41), 3), (48, .iload_n 2, 1), (49, .ireturn, 1)]
theorem dt_Court_weightOf (i : Nat) (q : Nat × Instr × Nat) (h : tb_Court_weightOf[i]? = some q) : decode prog_2_method_17_code q.1 = .ok q.2 := jdt (by decide +kernel : tb_Court_weightOf.all (fun q => decide (decode prog_2_method_17_code q.1 = .ok q.2)) = true) h
theorem ok_Court_weightOf : jOKV M_Court_weightOf 1 := ⟨⟨gt5 17 rfl rfl, gt1 15 rfl rfl, (by decide : "FirstIn$Court" ≠ "java/lang/invoke/MethodHandle"), (by decide : "FirstIn$Court" ≠ "java/lang/invoke/VarHandle"), (by decide +kernel : (parseMethodDescriptor "(I)I").map (fun d => d.parameters.length) = some 1)⟩, gt5 15 rfl rfl, gt5 16 rfl rfl, rfl, nlt rfl⟩
set_option maxRecDepth 100000 in
set_option maxHeartbeats 4000000 in
theorem c_Court_weightOf {G : jG} {S : hS} {V : hV} {v0 : Option Nat} {v1 : Int32} {res : Int32} (hf : Court_weightOf S v0 v1 V = some res) : jC G M_Court_weightOf [ar v0, ai v1] (S, V) (some (ai res)) (S, V) := by
  unfold Court_weightOf at hf
  obtain ⟨_, _, hf⟩ := jbind hf
  refine jC_of (pf_X0 _ _) rfl (nle rfl) ?_
  show jJ G M_Court_weightOf (jEnd G M_Court_weightOf (some (ai res)) (S, V)) 0 0 0 [(0, ar v0), (1, ai v1)] [] (S, V)
  refine j_iconst (dt_Court_weightOf 0 (0, .iconst 0, 1) rfl) ic_0 ?_
  refine j_istore_n (dt_Court_weightOf 1 (1, .istore_n 2, 1) rfl) (nlt rfl) ?_
  refine j_iconst (dt_Court_weightOf 2 (2, .iconst 0, 1) rfl) ic_0 ?_
  refine j_istore_n (dt_Court_weightOf 3 (3, .istore_n 3, 1) rfl) (nlt rfl) ?_
  obtain ⟨t4, ht4, hf⟩ := jbind hf
  have hX4 : ∀ q4 : Int32, q4 = t4 → jJ G M_Court_weightOf (jEnd G M_Court_weightOf (some (ai res)) (S, V)) 0 0 48 [(2, ai q4)] [] (S, V) := by
    intro q4 hq4
    subst hq4
    refine j_iload_n (dt_Court_weightOf 27 (48, .iload_n 2, 1) rfl) rfl ?_
    cases hf
    exact j_iret (dt_Court_weightOf 28 (49, .ireturn, 1) rfl) rfl
  refine j_sub (ls' := [(0, ar v0), (1, ai v1), (2, ai 0), (3, ai 0)]) rfl ?_
  refine jloop_J (C := fun s4 => jJ G M_Court_weightOf (jEnd G M_Court_weightOf (some (ai res)) (S, V)) 0 0 4 [(0, ar v0), (1, ai v1), (2, ai s4.1), (3, ai s4.2)] [] (S, V)) (fun s4 z4_ hy4 hin4 hout4 => ?_) _ _ ht4
  unfold Court_weightOf_L4 at hy4
  refine j_iload_n (dt_Court_weightOf 4 (4, .iload_n 3, 1) rfl) rfl ?_
  refine j_aload_n (dt_Court_weightOf 5 (5, .aload_n 0, 1) rfl) rfl ?_
  obtain ⟨x1, hx1, hy4⟩ := jbind hy4
  refine j_getI (dt_Court_weightOf 6 (6, .getfield 34, 3) rfl) fl_X0_34 hx1 (fun _ _ => rfl) ?_
  refine jite hy4 (fun hc hy4 => ?_) (fun hc hy4 => ?_)
  · refine j_icmp_ge (dt_Court_weightOf 7 (9, .if_icmp .ge 39, 3) rfl) rfl (fun _ => ?_) (fun q => absurd hc q)
    cases hy4
    have hz := hX4 _ (hout4 _ rfl)
    exact j_sub rfl hz
  · refine j_icmp_ge (dt_Court_weightOf 7 (9, .if_icmp .ge 39, 3) rfl) rfl (fun q => absurd q hc) (fun _ => ?_)
    refine j_iload_n (dt_Court_weightOf 8 (12, .iload_n 3, 1) rfl) rfl ?_
    refine j_bipush (dt_Court_weightOf 9 (13, .bipush 12, 2) rfl) bp_12 ?_
    refine jite hy4 (fun hc hy4 => ?_) (fun hc hy4 => ?_)
    · refine j_icmp_ge (dt_Court_weightOf 10 (15, .if_icmp .ge 33, 3) rfl) rfl (fun _ => ?_) (fun q => absurd hc q)
      cases hy4
      have hz := hX4 _ (hout4 _ rfl)
      exact j_sub rfl hz
    · refine j_icmp_ge (dt_Court_weightOf 10 (15, .if_icmp .ge 33, 3) rfl) rfl (fun q => absurd q hc) (fun _ => ?_)
      refine j_iload_n (dt_Court_weightOf 11 (18, .iload_n 2, 1) rfl) rfl ?_
      refine j_iload_n (dt_Court_weightOf 12 (19, .iload_n 1, 1) rfl) rfl ?_
      refine j_iload_n (dt_Court_weightOf 13 (20, .iload_n 3, 1) rfl) rfl ?_
      refine j_callSN M_Fi_has 2 [ai v1, ai s4.2] (rest := [ai s4.1]) (dt_Court_weightOf 14 (21, .invokestatic 64, 3) rfl) ml_X0_64 ok_Fi_has (jfit rfl rfl ⟨rfl, rfl⟩ (nle rfl) (nlt rfl)) rfl rfl (nle rfl) ⟨rfl, rfl⟩ (c_Fi_has rfl) ?_
      refine jite hy4 (fun hc hy4 => ?_) (fun hc hy4 => ?_)
      · refine j_if_eq (dt_Court_weightOf 15 (24, .ifCond .eq 15, 3) rfl) rfl (fun _ => ?_) (fun q => absurd hc q)
        refine j_iconst (dt_Court_weightOf 22 (39, .iconst 0, 1) rfl) ic_0 ?_
        refine j_iadd (dt_Court_weightOf 23 (40, .iadd, 1) rfl) ?_
        refine j_istore_n (dt_Court_weightOf 24 (41, .istore_n 2, 1) rfl) (nlt rfl) ?_
        refine j_iinc (dt_Court_weightOf 25 (42, .iinc 3 1, 3) rfl) rfl (nlt rfl) (ii_1 _) ?_
        refine j_goto (dt_Court_weightOf 26 (45, .goto (-41), 3) rfl) rfl ?_
        cases hy4
        have hz := hin4 _ rfl
        exact j_sub rfl hz
      · refine j_if_eq (dt_Court_weightOf 15 (24, .ifCond .eq 15, 3) rfl) rfl (fun q => absurd q hc) (fun _ => ?_)
        refine j_aload_n (dt_Court_weightOf 16 (27, .aload_n 0, 1) rfl) rfl ?_
        obtain ⟨x2, hx2, hy4⟩ := jbind hy4
        refine j_getR (dt_Court_weightOf 17 (28, .getfield 17, 3) rfl) fl_X0_17 hx2 (fun _ _ => rfl) ?_
        refine j_iload_n (dt_Court_weightOf 18 (31, .iload_n 3, 1) rfl) rfl ?_
        obtain ⟨x3, hx3, hy4⟩ := jbind hy4
        refine j_aldR 105 (dt_Court_weightOf 19 (32, .aaload, 1) rfl) (by decide) hx3 ?_
        obtain ⟨x4, hx4, hy4⟩ := jbind hy4
        refine j_getI (dt_Court_weightOf 20 (33, .getfield 78, 3) rfl) fl_X0_78 hx4 (fun _ _ => rfl) ?_
        refine j_goto (dt_Court_weightOf 21 (36, .goto 4, 3) rfl) rfl ?_
        refine j_iadd (dt_Court_weightOf 23 (40, .iadd, 1) rfl) ?_
        refine j_istore_n (dt_Court_weightOf 24 (41, .istore_n 2, 1) rfl) (nlt rfl) ?_
        refine j_iinc (dt_Court_weightOf 25 (42, .iinc 3 1, 3) rfl) rfl (nlt rfl) (ii_1 _) ?_
        refine j_goto (dt_Court_weightOf 26 (45, .goto (-41), 3) rfl) rfl ?_
        cases hy4
        have hz := hin4 _ rfl
        exact j_sub rfl hz
theorem r_Court_weightOf {S : hS} {V : hV} {v0 : Option Nat} {v1 : Int32} {res : Int32} (hf : Court_weightOf S v0 v1 V = some res) : ∃ b, rc S 0 v0 = some b := by
  unfold Court_weightOf at hf
  obtain ⟨b, hb, _⟩ := jbind hf
  exact ⟨b, hb⟩
def tb_Rule_countsIn : List (Nat × Instr × Nat) := [(0, .aload_n 0, 1), (1, .getfield 30, 3), (4, .ifCond .ne 23, 3), (7, .aload_n 0, 1), (8, .getfield 24, 3), (11, .iconst (-1), 1), (12, .if_icmp .eq 11, 3), (15, .aload_n 0, 1), (16, .getfield 24, 3), (19, .iload_n 1, 1), (20, .if_icmp .ne 7, 3), (23, .iconst 1, 1), (24, .goto 4, 3), (27, .iconst 0, 1), (28, .ireturn, 1)]
theorem dt_Rule_countsIn (i : Nat) (q : Nat × Instr × Nat) (h : tb_Rule_countsIn[i]? = some q) : decode prog_9_method_5_code q.1 = .ok q.2 := jdt (by decide +kernel : tb_Rule_countsIn.all (fun q => decide (decode prog_9_method_5_code q.1 = .ok q.2)) = true) h
theorem ok_Rule_countsIn : jOKV M_Rule_countsIn 1 := ⟨⟨gt4 118 rfl rfl, gt1 16 rfl rfl, (by decide : "FirstIn$Rule" ≠ "java/lang/invoke/MethodHandle"), (by decide : "FirstIn$Rule" ≠ "java/lang/invoke/VarHandle"), (by decide +kernel : (parseMethodDescriptor "(I)Z").map (fun d => d.parameters.length) = some 1)⟩, gt4 116 rfl rfl, gt4 117 rfl rfl, rfl, nlt rfl⟩
set_option maxRecDepth 100000 in
set_option maxHeartbeats 4000000 in
theorem c_Rule_countsIn {G : jG} {S : hS} {V : hV} {v0 : Option Nat} {v1 : Int32} {res : Int32} (hf : Rule_countsIn S v0 v1 V = some res) : jC G M_Rule_countsIn [ar v0, ai v1] (S, V) (some (ai res)) (S, V) := by
  unfold Rule_countsIn at hf
  obtain ⟨_, _, hf⟩ := jbind hf
  refine jC_of (pf_X7 _ _) rfl (nle rfl) ?_
  show jJ G M_Rule_countsIn (jEnd G M_Rule_countsIn (some (ai res)) (S, V)) 0 0 0 [(0, ar v0), (1, ai v1)] [] (S, V)
  refine j_aload_n (dt_Rule_countsIn 0 (0, .aload_n 0, 1) rfl) rfl ?_
  obtain ⟨x1, hx1, hf⟩ := jbind hf
  refine j_getI (dt_Rule_countsIn 1 (1, .getfield 30, 3) rfl) fl_X7_30 hx1 (fun _ _ => rfl) ?_
  refine jite hf (fun hc hf => ?_) (fun hc hf => ?_)
  · refine j_if_ne (dt_Rule_countsIn 2 (4, .ifCond .ne 23, 3) rfl) rfl (fun q => absurd hc q) (fun _ => ?_)
    refine j_aload_n (dt_Rule_countsIn 3 (7, .aload_n 0, 1) rfl) rfl ?_
    obtain ⟨x2, hx2, hf⟩ := jbind hf
    refine j_getI (dt_Rule_countsIn 4 (8, .getfield 24, 3) rfl) fl_X7_24 hx2 (fun _ _ => rfl) ?_
    refine j_iconst (dt_Rule_countsIn 5 (11, .iconst (-1), 1) rfl) ic_m1 ?_
    refine jite hf (fun hc hf => ?_) (fun hc hf => ?_)
    · refine j_icmp_eq (dt_Rule_countsIn 6 (12, .if_icmp .eq 11, 3) rfl) rfl (fun _ => ?_) (fun q => absurd hc q)
      refine j_iconst (dt_Rule_countsIn 11 (23, .iconst 1, 1) rfl) ic_1 ?_
      refine j_goto (dt_Rule_countsIn 12 (24, .goto 4, 3) rfl) rfl ?_
      cases hf
      exact j_zret (x := 1) (dt_Rule_countsIn 14 (28, .ireturn, 1) rfl) rfl rfl
    · refine j_icmp_eq (dt_Rule_countsIn 6 (12, .if_icmp .eq 11, 3) rfl) rfl (fun q => absurd q hc) (fun _ => ?_)
      refine j_aload_n (dt_Rule_countsIn 7 (15, .aload_n 0, 1) rfl) rfl ?_
      obtain ⟨x3, hx3, hf⟩ := jbind hf
      refine j_getI (dt_Rule_countsIn 8 (16, .getfield 24, 3) rfl) fl_X7_24 hx3 (fun _ _ => rfl) ?_
      refine j_iload_n (dt_Rule_countsIn 9 (19, .iload_n 1, 1) rfl) rfl ?_
      refine jite hf (fun hc hf => ?_) (fun hc hf => ?_)
      · refine j_icmp_ne (dt_Rule_countsIn 10 (20, .if_icmp .ne 7, 3) rfl) rfl (fun q => absurd hc q) (fun _ => ?_)
        refine j_iconst (dt_Rule_countsIn 11 (23, .iconst 1, 1) rfl) ic_1 ?_
        refine j_goto (dt_Rule_countsIn 12 (24, .goto 4, 3) rfl) rfl ?_
        cases hf
        exact j_zret (x := 1) (dt_Rule_countsIn 14 (28, .ireturn, 1) rfl) rfl rfl
      · refine j_icmp_ne (dt_Rule_countsIn 10 (20, .if_icmp .ne 7, 3) rfl) rfl (fun _ => ?_) (fun q => absurd q hc)
        refine j_iconst (dt_Rule_countsIn 13 (27, .iconst 0, 1) rfl) ic_0 ?_
        cases hf
        exact j_zret (x := 0) (dt_Rule_countsIn 14 (28, .ireturn, 1) rfl) rfl rfl
  · refine j_if_ne (dt_Rule_countsIn 2 (4, .ifCond .ne 23, 3) rfl) rfl (fun _ => ?_) (fun q => absurd q hc)
    refine j_iconst (dt_Rule_countsIn 13 (27, .iconst 0, 1) rfl) ic_0 ?_
    cases hf
    exact j_zret (x := 0) (dt_Rule_countsIn 14 (28, .ireturn, 1) rfl) rfl rfl
theorem r_Rule_countsIn {S : hS} {V : hV} {v0 : Option Nat} {v1 : Int32} {res : Int32} (hf : Rule_countsIn S v0 v1 V = some res) : ∃ b, rc S 7 v0 = some b := by
  unfold Rule_countsIn at hf
  obtain ⟨b, hb, _⟩ := jbind hf
  exact ⟨b, hb⟩
def tb_Rule_hasCoupleOf : List (Nat × Instr × Nat) := [(0, .iconst 0, 1), (1, .istore_n 2, 1), (2, .iload_n 2, 1), (3, .bipush 10, 2), (5, .if_icmp .ge 30, 3), (8, .iload_n 1, 1), (9, .iload_n 2, 1), (10, .invokestatic 44, 3), (13, .ifCond .eq 16, 3), (16, .aload_n 0, 1), (17, .getfield 34, 3), (20, .iload_n 2, 1), (21, .iaload, 1), (22, .iload_n 1, 1), (23, .iand, 1), (24, .ifCond .eq 5, 3), (27, .iconst 1, 1), (28, .ireturn, 1), (29, .iinc 2 1, 3), (32, .goto (-30), 3), (35, .iconst 0, 1), (36, .ireturn, 1)]
theorem dt_Rule_hasCoupleOf (i : Nat) (q : Nat × Instr × Nat) (h : tb_Rule_hasCoupleOf[i]? = some q) : decode prog_9_method_4_code q.1 = .ok q.2 := jdt (by decide +kernel : tb_Rule_hasCoupleOf.all (fun q => decide (decode prog_9_method_4_code q.1 = .ok q.2)) = true) h
theorem ok_Rule_hasCoupleOf : jOKV M_Rule_hasCoupleOf 1 := ⟨⟨gt5 13 rfl rfl, gt1 16 rfl rfl, (by decide : "FirstIn$Rule" ≠ "java/lang/invoke/MethodHandle"), (by decide : "FirstIn$Rule" ≠ "java/lang/invoke/VarHandle"), (by decide +kernel : (parseMethodDescriptor "(I)Z").map (fun d => d.parameters.length) = some 1)⟩, gt5 11 rfl rfl, gt5 12 rfl rfl, rfl, nlt rfl⟩
set_option maxRecDepth 100000 in
set_option maxHeartbeats 4000000 in
theorem c_Rule_hasCoupleOf {G : jG} {S : hS} {V : hV} {v0 : Option Nat} {v1 : Int32} {res : Int32} (hf : Rule_hasCoupleOf S v0 v1 V = some res) : jC G M_Rule_hasCoupleOf [ar v0, ai v1] (S, V) (some (ai res)) (S, V) := by
  unfold Rule_hasCoupleOf at hf
  obtain ⟨_, _, hf⟩ := jbind hf
  refine jC_of (pf_X7 _ _) rfl (nle rfl) ?_
  show jJ G M_Rule_hasCoupleOf (jEnd G M_Rule_hasCoupleOf (some (ai res)) (S, V)) 0 0 0 [(0, ar v0), (1, ai v1)] [] (S, V)
  refine j_iconst (dt_Rule_hasCoupleOf 0 (0, .iconst 0, 1) rfl) ic_0 ?_
  refine j_istore_n (dt_Rule_hasCoupleOf 1 (1, .istore_n 2, 1) rfl) (nlt rfl) ?_
  obtain ⟨t2, ht2, hf⟩ := jbind hf
  have hX2 : ∀ q2 : Unit, t2 = .inl q2 → jJ G M_Rule_hasCoupleOf (jEnd G M_Rule_hasCoupleOf (some (ai res)) (S, V)) 0 0 35 [] [] (S, V) := by
    intro q2 hq2
    subst hq2
    refine j_iconst (dt_Rule_hasCoupleOf 20 (35, .iconst 0, 1) rfl) ic_0 ?_
    cases hf
    exact j_zret (x := 0) (dt_Rule_hasCoupleOf 21 (36, .ireturn, 1) rfl) rfl rfl
  have hR2 : ∀ v : Int32, t2 = .inr v → v = res := by
    intro v hv
    subst hv
    cases hf
    rfl
  refine j_sub (ls' := [(0, ar v0), (1, ai v1), (2, ai 0)]) rfl ?_
  refine jloop_J (C := fun s2 => jJ G M_Rule_hasCoupleOf (jEnd G M_Rule_hasCoupleOf (some (ai res)) (S, V)) 0 0 2 [(0, ar v0), (1, ai v1), (2, ai s2)] [] (S, V)) (fun s2 z2_ hy2 hin2 hout2 => ?_) _ _ ht2
  unfold Rule_hasCoupleOf_L2 at hy2
  refine j_iload_n (dt_Rule_hasCoupleOf 2 (2, .iload_n 2, 1) rfl) rfl ?_
  refine j_bipush (dt_Rule_hasCoupleOf 3 (3, .bipush 10, 2) rfl) bp_10 ?_
  refine jite hy2 (fun hc hy2 => ?_) (fun hc hy2 => ?_)
  · refine j_icmp_ge (dt_Rule_hasCoupleOf 4 (5, .if_icmp .ge 30, 3) rfl) rfl (fun _ => ?_) (fun q => absurd hc q)
    cases hy2
    have hz := hX2 _ (hout2 _ rfl).symm
    exact j_sub rfl hz
  · refine j_icmp_ge (dt_Rule_hasCoupleOf 4 (5, .if_icmp .ge 30, 3) rfl) rfl (fun q => absurd q hc) (fun _ => ?_)
    refine j_iload_n (dt_Rule_hasCoupleOf 5 (8, .iload_n 1, 1) rfl) rfl ?_
    refine j_iload_n (dt_Rule_hasCoupleOf 6 (9, .iload_n 2, 1) rfl) rfl ?_
    refine j_callSN M_Fi_has 2 [ai v1, ai s2] (rest := []) (dt_Rule_hasCoupleOf 7 (10, .invokestatic 44, 3) rfl) ml_X7_44 ok_Fi_has (jfit rfl rfl ⟨rfl, rfl⟩ (nle rfl) (nlt rfl)) rfl rfl (nle rfl) ⟨rfl, rfl⟩ (c_Fi_has rfl) ?_
    refine jite hy2 (fun hc hy2 => ?_) (fun hc hy2 => ?_)
    · refine j_if_eq (dt_Rule_hasCoupleOf 8 (13, .ifCond .eq 16, 3) rfl) rfl (fun _ => ?_) (fun q => absurd hc q)
      refine j_iinc (dt_Rule_hasCoupleOf 18 (29, .iinc 2 1, 3) rfl) rfl (nlt rfl) (ii_1 _) ?_
      refine j_goto (dt_Rule_hasCoupleOf 19 (32, .goto (-30), 3) rfl) rfl ?_
      cases hy2
      have hz := hin2 _ rfl
      exact j_sub rfl hz
    · refine j_if_eq (dt_Rule_hasCoupleOf 8 (13, .ifCond .eq 16, 3) rfl) rfl (fun q => absurd q hc) (fun _ => ?_)
      refine j_aload_n (dt_Rule_hasCoupleOf 9 (16, .aload_n 0, 1) rfl) rfl ?_
      obtain ⟨x1, hx1, hy2⟩ := jbind hy2
      refine j_getR (dt_Rule_hasCoupleOf 10 (17, .getfield 34, 3) rfl) fl_X7_34 hx1 (fun _ _ => rfl) ?_
      refine j_iload_n (dt_Rule_hasCoupleOf 11 (20, .iload_n 2, 1) rfl) rfl ?_
      obtain ⟨x2, hx2, hy2⟩ := jbind hy2
      refine j_aldI (dt_Rule_hasCoupleOf 12 (21, .iaload, 1) rfl) hx2 ?_
      refine j_iload_n (dt_Rule_hasCoupleOf 13 (22, .iload_n 1, 1) rfl) rfl ?_
      refine j_iand (dt_Rule_hasCoupleOf 14 (23, .iand, 1) rfl) ?_
      refine jite hy2 (fun hc hy2 => ?_) (fun hc hy2 => ?_)
      · refine j_if_eq (dt_Rule_hasCoupleOf 15 (24, .ifCond .eq 5, 3) rfl) rfl (fun _ => ?_) (fun q => absurd hc q)
        refine j_iinc (dt_Rule_hasCoupleOf 18 (29, .iinc 2 1, 3) rfl) rfl (nlt rfl) (ii_1 _) ?_
        refine j_goto (dt_Rule_hasCoupleOf 19 (32, .goto (-30), 3) rfl) rfl ?_
        cases hy2
        have hz := hin2 _ rfl
        exact j_sub rfl hz
      · refine j_if_eq (dt_Rule_hasCoupleOf 15 (24, .ifCond .eq 5, 3) rfl) rfl (fun q => absurd q hc) (fun _ => ?_)
        refine j_iconst (dt_Rule_hasCoupleOf 16 (27, .iconst 1, 1) rfl) ic_1 ?_
        cases hy2
        obtain rfl := hR2 _ (hout2 _ rfl).symm
        exact j_zret (x := 1) (dt_Rule_hasCoupleOf 17 (28, .ireturn, 1) rfl) rfl rfl
theorem r_Rule_hasCoupleOf {S : hS} {V : hV} {v0 : Option Nat} {v1 : Int32} {res : Int32} (hf : Rule_hasCoupleOf S v0 v1 V = some res) : ∃ b, rc S 7 v0 = some b := by
  unfold Rule_hasCoupleOf at hf
  obtain ⟨b, hb, _⟩ := jbind hf
  exact ⟨b, hb⟩
def tb_Court_rankingRules : List (Nat × Instr × Nat) := [(0, .iconst 0, 1), (1, .istore_n 2, 1), (2, .iconst 0, 1), (3, .istore_n 3, 1), (4, .iload_n 3, 1), (5, .aload_n 0, 1), (6, .getfield 34, 3), (9, .if_icmp .ge 58, 3), (12, .iload_n 3, 1), (13, .bipush 12, 2), (15, .if_icmp .ge 52, 3), (18, .aload_n 0, 1), (19, .getfield 17, 3), (22, .iload_n 3, 1), (23, .aaload, 1), (24, .astore 4, 2), (26, .aload 4, 2), (28, .getfield 81, 3), (31, .ifCond .ne 30, 3), (34, .aload 4, 2), (36, .iload_n 1, 1), (37, .invokevirtual 84, 3), (40, .ifCond .eq 21, 3), (43, .aload 4, 2), (45, .aload_n 0, 1), (46, .getfield 37, 3), (49, .invokevirtual 87, 3), (52, .ifCond .eq 9, 3), (55, .iload_n 2, 1), (56, .iconst 1, 1), (57, .iload_n 3, 1), (58, .ishl, 1), (59, .ior, 1), (60, .istore_n 2, 1), (61, .iinc 3 1, 3), (64, .goto (-60), 3), (67, .iload_n 2, 1), (68, .ireturn, 1)]
theorem dt_Court_rankingRules (i : Nat) (q : Nat × Instr × Nat) (h : tb_Court_rankingRules[i]? = some q) : decode prog_2_method_18_code q.1 = .ok q.2 := jdt (by decide +kernel : tb_Court_rankingRules.all (fun q => decide (decode prog_2_method_18_code q.1 = .ok q.2)) = true) h
theorem ok_Court_rankingRules : jOKV M_Court_rankingRules 1 := ⟨⟨gt5 9 rfl rfl, gt1 15 rfl rfl, (by decide : "FirstIn$Court" ≠ "java/lang/invoke/MethodHandle"), (by decide : "FirstIn$Court" ≠ "java/lang/invoke/VarHandle"), (by decide +kernel : (parseMethodDescriptor "(I)I").map (fun d => d.parameters.length) = some 1)⟩, gt5 7 rfl rfl, gt5 8 rfl rfl, rfl, nlt rfl⟩
set_option maxRecDepth 100000 in
set_option maxHeartbeats 4000000 in
theorem c_Court_rankingRules {G : jG} {S : hS} {V : hV} {v0 : Option Nat} {v1 : Int32} {res : Int32} (hf : Court_rankingRules S v0 v1 V = some res) : jC G M_Court_rankingRules [ar v0, ai v1] (S, V) (some (ai res)) (S, V) := by
  unfold Court_rankingRules at hf
  obtain ⟨_, _, hf⟩ := jbind hf
  refine jC_of (pf_X0 _ _) rfl (nle rfl) ?_
  show jJ G M_Court_rankingRules (jEnd G M_Court_rankingRules (some (ai res)) (S, V)) 0 0 0 [(0, ar v0), (1, ai v1)] [] (S, V)
  refine j_iconst (dt_Court_rankingRules 0 (0, .iconst 0, 1) rfl) ic_0 ?_
  refine j_istore_n (dt_Court_rankingRules 1 (1, .istore_n 2, 1) rfl) (nlt rfl) ?_
  refine j_iconst (dt_Court_rankingRules 2 (2, .iconst 0, 1) rfl) ic_0 ?_
  refine j_istore_n (dt_Court_rankingRules 3 (3, .istore_n 3, 1) rfl) (nlt rfl) ?_
  obtain ⟨t4, ht4, hf⟩ := jbind hf
  have hX4 : ∀ q4 : Int32, q4 = t4 → jJ G M_Court_rankingRules (jEnd G M_Court_rankingRules (some (ai res)) (S, V)) 0 0 67 [(2, ai q4)] [] (S, V) := by
    intro q4 hq4
    subst hq4
    refine j_iload_n (dt_Court_rankingRules 36 (67, .iload_n 2, 1) rfl) rfl ?_
    cases hf
    exact j_iret (dt_Court_rankingRules 37 (68, .ireturn, 1) rfl) rfl
  refine j_sub (ls' := [(0, ar v0), (1, ai v1), (2, ai 0), (3, ai 0)]) rfl ?_
  refine jloop_J (C := fun s4 => jJ G M_Court_rankingRules (jEnd G M_Court_rankingRules (some (ai res)) (S, V)) 0 0 4 [(0, ar v0), (1, ai v1), (2, ai s4.1), (3, ai s4.2)] [] (S, V)) (fun s4 z4_ hy4 hin4 hout4 => ?_) _ _ ht4
  unfold Court_rankingRules_L4 at hy4
  refine j_iload_n (dt_Court_rankingRules 4 (4, .iload_n 3, 1) rfl) rfl ?_
  refine j_aload_n (dt_Court_rankingRules 5 (5, .aload_n 0, 1) rfl) rfl ?_
  obtain ⟨x1, hx1, hy4⟩ := jbind hy4
  refine j_getI (dt_Court_rankingRules 6 (6, .getfield 34, 3) rfl) fl_X0_34 hx1 (fun _ _ => rfl) ?_
  refine jite hy4 (fun hc hy4 => ?_) (fun hc hy4 => ?_)
  · refine j_icmp_ge (dt_Court_rankingRules 7 (9, .if_icmp .ge 58, 3) rfl) rfl (fun _ => ?_) (fun q => absurd hc q)
    cases hy4
    have hz := hX4 _ (hout4 _ rfl)
    exact j_sub rfl hz
  · refine j_icmp_ge (dt_Court_rankingRules 7 (9, .if_icmp .ge 58, 3) rfl) rfl (fun q => absurd q hc) (fun _ => ?_)
    refine j_iload_n (dt_Court_rankingRules 8 (12, .iload_n 3, 1) rfl) rfl ?_
    refine j_bipush (dt_Court_rankingRules 9 (13, .bipush 12, 2) rfl) bp_12 ?_
    refine jite hy4 (fun hc hy4 => ?_) (fun hc hy4 => ?_)
    · refine j_icmp_ge (dt_Court_rankingRules 10 (15, .if_icmp .ge 52, 3) rfl) rfl (fun _ => ?_) (fun q => absurd hc q)
      cases hy4
      have hz := hX4 _ (hout4 _ rfl)
      exact j_sub rfl hz
    · refine j_icmp_ge (dt_Court_rankingRules 10 (15, .if_icmp .ge 52, 3) rfl) rfl (fun q => absurd q hc) (fun _ => ?_)
      refine j_aload_n (dt_Court_rankingRules 11 (18, .aload_n 0, 1) rfl) rfl ?_
      obtain ⟨x2, hx2, hy4⟩ := jbind hy4
      refine j_getR (dt_Court_rankingRules 12 (19, .getfield 17, 3) rfl) fl_X0_17 hx2 (fun _ _ => rfl) ?_
      refine j_iload_n (dt_Court_rankingRules 13 (22, .iload_n 3, 1) rfl) rfl ?_
      obtain ⟨x3, hx3, hy4⟩ := jbind hy4
      refine j_aldR 105 (dt_Court_rankingRules 14 (23, .aaload, 1) rfl) (by decide) hx3 ?_
      refine j_astore (dt_Court_rankingRules 15 (24, .astore 4, 2) rfl) (nlt rfl) ?_
      refine j_aload (dt_Court_rankingRules 16 (26, .aload 4, 2) rfl) rfl ?_
      obtain ⟨x4, hx4, hy4⟩ := jbind hy4
      refine j_getI (dt_Court_rankingRules 17 (28, .getfield 81, 3) rfl) fl_X0_81 hx4 (fun _ _ => rfl) ?_
      refine jite hy4 (fun hc hy4 => ?_) (fun hc hy4 => ?_)
      · refine j_if_ne (dt_Court_rankingRules 18 (31, .ifCond .ne 30, 3) rfl) rfl (fun q => absurd hc q) (fun _ => ?_)
        refine j_aload (dt_Court_rankingRules 19 (34, .aload 4, 2) rfl) rfl ?_
        refine j_iload_n (dt_Court_rankingRules 20 (36, .iload_n 1, 1) rfl) rfl ?_
        obtain ⟨x5, hx5, hy4⟩ := jbind hy4
        obtain ⟨b6, hb6⟩ := r_Rule_countsIn hx5
        refine j_callV M_Rule_countsIn 1 [ai v1] (rest := []) (dt_Court_rankingRules 21 (37, .invokevirtual 84, 3) rfl) ml_X0_84 ok_Rule_countsIn (jfit rfl rfl ⟨rfl, rfl⟩ (nle rfl) (nlt rfl)) rfl rfl (nle rfl) ⟨rfl, rfl⟩ hb6 ((c_Rule_countsIn hx5)) ?_
        refine jite hy4 (fun hc hy4 => ?_) (fun hc hy4 => ?_)
        · refine j_if_eq (dt_Court_rankingRules 22 (40, .ifCond .eq 21, 3) rfl) rfl (fun _ => ?_) (fun q => absurd hc q)
          refine j_iinc (dt_Court_rankingRules 34 (61, .iinc 3 1, 3) rfl) rfl (nlt rfl) (ii_1 _) ?_
          refine j_goto (dt_Court_rankingRules 35 (64, .goto (-60), 3) rfl) rfl ?_
          cases hy4
          have hz := hin4 _ rfl
          exact j_sub rfl hz
        · refine j_if_eq (dt_Court_rankingRules 22 (40, .ifCond .eq 21, 3) rfl) rfl (fun q => absurd q hc) (fun _ => ?_)
          refine j_aload (dt_Court_rankingRules 23 (43, .aload 4, 2) rfl) rfl ?_
          refine j_aload_n (dt_Court_rankingRules 24 (45, .aload_n 0, 1) rfl) rfl ?_
          obtain ⟨x7, hx7, hy4⟩ := jbind hy4
          refine j_getI (dt_Court_rankingRules 25 (46, .getfield 37, 3) rfl) fl_X0_37 hx7 (fun _ _ => rfl) ?_
          obtain ⟨x8, hx8, hy4⟩ := jbind hy4
          obtain ⟨b9, hb9⟩ := r_Rule_hasCoupleOf hx8
          refine j_callV M_Rule_hasCoupleOf 1 [ai x7] (rest := []) (dt_Court_rankingRules 26 (49, .invokevirtual 87, 3) rfl) ml_X0_87 ok_Rule_hasCoupleOf (jfit rfl rfl ⟨rfl, rfl⟩ (nle rfl) (nlt rfl)) rfl rfl (nle rfl) ⟨rfl, rfl⟩ hb9 ((c_Rule_hasCoupleOf hx8)) ?_
          refine jite hy4 (fun hc hy4 => ?_) (fun hc hy4 => ?_)
          · refine j_if_eq (dt_Court_rankingRules 27 (52, .ifCond .eq 9, 3) rfl) rfl (fun _ => ?_) (fun q => absurd hc q)
            refine j_iinc (dt_Court_rankingRules 34 (61, .iinc 3 1, 3) rfl) rfl (nlt rfl) (ii_1 _) ?_
            refine j_goto (dt_Court_rankingRules 35 (64, .goto (-60), 3) rfl) rfl ?_
            cases hy4
            have hz := hin4 _ rfl
            exact j_sub rfl hz
          · refine j_if_eq (dt_Court_rankingRules 27 (52, .ifCond .eq 9, 3) rfl) rfl (fun q => absurd q hc) (fun _ => ?_)
            refine j_iload_n (dt_Court_rankingRules 28 (55, .iload_n 2, 1) rfl) rfl ?_
            refine j_iconst (dt_Court_rankingRules 29 (56, .iconst 1, 1) rfl) ic_1 ?_
            refine j_iload_n (dt_Court_rankingRules 30 (57, .iload_n 3, 1) rfl) rfl ?_
            refine j_ishl (dt_Court_rankingRules 31 (58, .ishl, 1) rfl) ?_
            refine j_ior (dt_Court_rankingRules 32 (59, .ior, 1) rfl) ?_
            refine j_istore_n (dt_Court_rankingRules 33 (60, .istore_n 2, 1) rfl) (nlt rfl) ?_
            refine j_iinc (dt_Court_rankingRules 34 (61, .iinc 3 1, 3) rfl) rfl (nlt rfl) (ii_1 _) ?_
            refine j_goto (dt_Court_rankingRules 35 (64, .goto (-60), 3) rfl) rfl ?_
            cases hy4
            have hz := hin4 _ rfl
            exact j_sub rfl hz
      · refine j_if_ne (dt_Court_rankingRules 18 (31, .ifCond .ne 30, 3) rfl) rfl (fun _ => ?_) (fun q => absurd q hc)
        refine j_iinc (dt_Court_rankingRules 34 (61, .iinc 3 1, 3) rfl) rfl (nlt rfl) (ii_1 _) ?_
        refine j_goto (dt_Court_rankingRules 35 (64, .goto (-60), 3) rfl) rfl ?_
        cases hy4
        have hz := hin4 _ rfl
        exact j_sub rfl hz
theorem r_Court_rankingRules {S : hS} {V : hV} {v0 : Option Nat} {v1 : Int32} {res : Int32} (hf : Court_rankingRules S v0 v1 V = some res) : ∃ b, rc S 0 v0 = some b := by
  unfold Court_rankingRules at hf
  obtain ⟨b, hb, _⟩ := jbind hf
  exact ⟨b, hb⟩
def tb_Court_sourceOf : List (Nat × Instr × Nat) := [(0, .aload_n 0, 1), (1, .iload_n 2, 1), (2, .invokevirtual 90, 3), (5, .ifCond .eq 11, 3), (8, .aload_n 0, 1), (9, .iload_n 3, 1), (10, .invokevirtual 90, 3), (13, .ifCond .ne 5, 3), (16, .iconst (-1), 1), (17, .ireturn, 1), (18, .iconst (-1), 1), (19, .istore 4, 2), (21, .iconst 0, 1), (22, .istore 5, 2), (24, .iconst 0, 1), (25, .istore 6, 2), (27, .iload 6, 2), (29, .aload_n 0, 1), (30, .getfield 34, 3), (33, .if_icmp .ge 89, 3), (36, .iload 6, 2), (38, .bipush 12, 2), (40, .if_icmp .ge 82, 3), (43, .aload_n 0, 1), (44, .getfield 17, 3), (47, .iload 6, 2), (49, .aaload, 1), (50, .astore 7, 2), (52, .aload 7, 2), (54, .getfield 81, 3), (57, .ifCond .ne 30, 3), (60, .aload 7, 2), (62, .iload_n 1, 1), (63, .invokevirtual 84, 3), (66, .ifCond .eq 21, 3), (69, .aload 7, 2), (71, .getfield 93, 3), (74, .iload_n 2, 1), (75, .iaload, 1), (76, .iload_n 3, 1), (77, .invokestatic 64, 3), (80, .ifCond .eq 7, 3), (83, .iconst 1, 1), (84, .goto 4, 3), (87, .iconst 0, 1), (88, .istore 8, 2), (90, .iload 8, 2), (92, .ifCond .eq 24, 3), (95, .aload 7, 2), (97, .getfield 78, 3), (100, .iload 5, 2), (102, .if_icmp .le 14, 3), (105, .iload 6, 2), (107, .istore 4, 2), (109, .aload 7, 2), (111, .getfield 78, 3), (114, .istore 5, 2), (116, .iinc 6 1, 3), (119, .goto (-92), 3), (122, .iload 4, 2), (124, .ireturn, 1)]
theorem dt_Court_sourceOf (i : Nat) (q : Nat × Instr × Nat) (h : tb_Court_sourceOf[i]? = some q) : decode prog_2_method_19_code q.1 = .ok q.2 := jdt (by decide +kernel : tb_Court_sourceOf.all (fun q => decide (decode prog_2_method_19_code q.1 = .ok q.2)) = true) h
theorem ok_Court_sourceOf : jOKV M_Court_sourceOf 3 := ⟨⟨gt4 113 rfl rfl, gt1 15 rfl rfl, (by decide : "FirstIn$Court" ≠ "java/lang/invoke/MethodHandle"), (by decide : "FirstIn$Court" ≠ "java/lang/invoke/VarHandle"), (by decide +kernel : (parseMethodDescriptor "(III)I").map (fun d => d.parameters.length) = some 3)⟩, gt4 111 rfl rfl, gt4 112 rfl rfl, rfl, nlt rfl⟩
set_option maxRecDepth 100000 in
set_option maxHeartbeats 4000000 in
theorem c_Court_sourceOf {G : jG} {S : hS} {V : hV} {v0 : Option Nat} {v1 : Int32} {v2 : Int32} {v3 : Int32} {res : Int32} (hf : Court_sourceOf S v0 v1 v2 v3 V = some res) : jC G M_Court_sourceOf [ar v0, ai v1, ai v2, ai v3] (S, V) (some (ai res)) (S, V) := by
  unfold Court_sourceOf at hf
  obtain ⟨_, _, hf⟩ := jbind hf
  refine jC_of (pf_X0 _ _) rfl (nle rfl) ?_
  show jJ G M_Court_sourceOf (jEnd G M_Court_sourceOf (some (ai res)) (S, V)) 0 0 0 [(0, ar v0), (1, ai v1), (2, ai v2), (3, ai v3)] [] (S, V)
  refine j_aload_n (dt_Court_sourceOf 0 (0, .aload_n 0, 1) rfl) rfl ?_
  refine j_iload_n (dt_Court_sourceOf 1 (1, .iload_n 2, 1) rfl) rfl ?_
  obtain ⟨x1, hx1, hf⟩ := jbind hf
  obtain ⟨b2, hb2⟩ := r_Court_isComing hx1
  refine j_callV M_Court_isComing 1 [ai v2] (rest := []) (dt_Court_sourceOf 2 (2, .invokevirtual 90, 3) rfl) ml_X0_90 ok_Court_isComing (jfit rfl rfl ⟨rfl, rfl⟩ (nle rfl) (nlt rfl)) rfl rfl (nle rfl) ⟨rfl, rfl⟩ hb2 ((c_Court_isComing hx1)) ?_
  refine jite hf (fun hc hf => ?_) (fun hc hf => ?_)
  · refine j_if_eq (dt_Court_sourceOf 3 (5, .ifCond .eq 11, 3) rfl) rfl (fun _ => ?_) (fun q => absurd hc q)
    refine j_iconst (dt_Court_sourceOf 8 (16, .iconst (-1), 1) rfl) ic_m1 ?_
    cases hf
    exact j_iret (dt_Court_sourceOf 9 (17, .ireturn, 1) rfl) rfl
  · refine j_if_eq (dt_Court_sourceOf 3 (5, .ifCond .eq 11, 3) rfl) rfl (fun q => absurd q hc) (fun _ => ?_)
    refine j_aload_n (dt_Court_sourceOf 4 (8, .aload_n 0, 1) rfl) rfl ?_
    refine j_iload_n (dt_Court_sourceOf 5 (9, .iload_n 3, 1) rfl) rfl ?_
    obtain ⟨x3, hx3, hf⟩ := jbind hf
    obtain ⟨b4, hb4⟩ := r_Court_isComing hx3
    refine j_callV M_Court_isComing 1 [ai v3] (rest := []) (dt_Court_sourceOf 6 (10, .invokevirtual 90, 3) rfl) ml_X0_90 ok_Court_isComing (jfit rfl rfl ⟨rfl, rfl⟩ (nle rfl) (nlt rfl)) rfl rfl (nle rfl) ⟨rfl, rfl⟩ hb4 ((c_Court_isComing hx3)) ?_
    refine jite hf (fun hc hf => ?_) (fun hc hf => ?_)
    · refine j_if_ne (dt_Court_sourceOf 7 (13, .ifCond .ne 5, 3) rfl) rfl (fun q => absurd hc q) (fun _ => ?_)
      refine j_iconst (dt_Court_sourceOf 8 (16, .iconst (-1), 1) rfl) ic_m1 ?_
      cases hf
      exact j_iret (dt_Court_sourceOf 9 (17, .ireturn, 1) rfl) rfl
    · refine j_if_ne (dt_Court_sourceOf 7 (13, .ifCond .ne 5, 3) rfl) rfl (fun _ => ?_) (fun q => absurd q hc)
      refine j_iconst (dt_Court_sourceOf 10 (18, .iconst (-1), 1) rfl) ic_m1 ?_
      refine j_istore (dt_Court_sourceOf 11 (19, .istore 4, 2) rfl) (nlt rfl) ?_
      refine j_iconst (dt_Court_sourceOf 12 (21, .iconst 0, 1) rfl) ic_0 ?_
      refine j_istore (dt_Court_sourceOf 13 (22, .istore 5, 2) rfl) (nlt rfl) ?_
      refine j_iconst (dt_Court_sourceOf 14 (24, .iconst 0, 1) rfl) ic_0 ?_
      refine j_istore (dt_Court_sourceOf 15 (25, .istore 6, 2) rfl) (nlt rfl) ?_
      obtain ⟨t27, ht27, hf⟩ := jbind hf
      have hX27 : ∀ q27 : Int32, q27 = t27 → jJ G M_Court_sourceOf (jEnd G M_Court_sourceOf (some (ai res)) (S, V)) 0 0 122 [(4, ai q27)] [] (S, V) := by
        intro q27 hq27
        subst hq27
        refine j_iload (dt_Court_sourceOf 59 (122, .iload 4, 2) rfl) rfl ?_
        cases hf
        exact j_iret (dt_Court_sourceOf 60 (124, .ireturn, 1) rfl) rfl
      refine j_sub (ls' := [(0, ar v0), (1, ai v1), (2, ai v2), (3, ai v3), (4, ai (-1)), (5, ai 0), (6, ai 0)]) rfl ?_
      refine jloop_J (C := fun s27 => jJ G M_Court_sourceOf (jEnd G M_Court_sourceOf (some (ai res)) (S, V)) 0 0 27 [(0, ar v0), (1, ai v1), (2, ai v2), (3, ai v3), (4, ai s27.1), (5, ai s27.2.1), (6, ai s27.2.2)] [] (S, V)) (fun s27 z27_ hy27 hin27 hout27 => ?_) _ _ ht27
      unfold Court_sourceOf_L27 at hy27
      refine j_iload (dt_Court_sourceOf 16 (27, .iload 6, 2) rfl) rfl ?_
      refine j_aload_n (dt_Court_sourceOf 17 (29, .aload_n 0, 1) rfl) rfl ?_
      obtain ⟨x5, hx5, hy27⟩ := jbind hy27
      refine j_getI (dt_Court_sourceOf 18 (30, .getfield 34, 3) rfl) fl_X0_34 hx5 (fun _ _ => rfl) ?_
      refine jite hy27 (fun hc hy27 => ?_) (fun hc hy27 => ?_)
      · refine j_icmp_ge (dt_Court_sourceOf 19 (33, .if_icmp .ge 89, 3) rfl) rfl (fun _ => ?_) (fun q => absurd hc q)
        cases hy27
        have hz := hX27 _ (hout27 _ rfl)
        exact j_sub rfl hz
      · refine j_icmp_ge (dt_Court_sourceOf 19 (33, .if_icmp .ge 89, 3) rfl) rfl (fun q => absurd q hc) (fun _ => ?_)
        refine j_iload (dt_Court_sourceOf 20 (36, .iload 6, 2) rfl) rfl ?_
        refine j_bipush (dt_Court_sourceOf 21 (38, .bipush 12, 2) rfl) bp_12 ?_
        refine jite hy27 (fun hc hy27 => ?_) (fun hc hy27 => ?_)
        · refine j_icmp_ge (dt_Court_sourceOf 22 (40, .if_icmp .ge 82, 3) rfl) rfl (fun _ => ?_) (fun q => absurd hc q)
          cases hy27
          have hz := hX27 _ (hout27 _ rfl)
          exact j_sub rfl hz
        · refine j_icmp_ge (dt_Court_sourceOf 22 (40, .if_icmp .ge 82, 3) rfl) rfl (fun q => absurd q hc) (fun _ => ?_)
          refine j_aload_n (dt_Court_sourceOf 23 (43, .aload_n 0, 1) rfl) rfl ?_
          obtain ⟨x6, hx6, hy27⟩ := jbind hy27
          refine j_getR (dt_Court_sourceOf 24 (44, .getfield 17, 3) rfl) fl_X0_17 hx6 (fun _ _ => rfl) ?_
          refine j_iload (dt_Court_sourceOf 25 (47, .iload 6, 2) rfl) rfl ?_
          obtain ⟨x7, hx7, hy27⟩ := jbind hy27
          refine j_aldR 105 (dt_Court_sourceOf 26 (49, .aaload, 1) rfl) (by decide) hx7 ?_
          refine j_astore (dt_Court_sourceOf 27 (50, .astore 7, 2) rfl) (nlt rfl) ?_
          refine j_aload (dt_Court_sourceOf 28 (52, .aload 7, 2) rfl) rfl ?_
          obtain ⟨x8, hx8, hy27⟩ := jbind hy27
          refine j_getI (dt_Court_sourceOf 29 (54, .getfield 81, 3) rfl) fl_X0_81 hx8 (fun _ _ => rfl) ?_
          obtain ⟨j57, hj57, hy27⟩ := jbind hy27
          have hP57 : jJ G M_Court_sourceOf (jEnd G M_Court_sourceOf (some (ai res)) (S, V)) 0 0 88 [(0, ar v0), (1, ai v1), (2, ai v2), (3, ai v3), (4, ai s27.1), (5, ai s27.2.1), (6, ai s27.2.2), (7, ar x7)] [ai j57] (S, V) := by
            refine j_istore (dt_Court_sourceOf 45 (88, .istore 8, 2) rfl) (nlt rfl) ?_
            refine j_iload (dt_Court_sourceOf 46 (90, .iload 8, 2) rfl) rfl ?_
            refine jite hy27 (fun hc hy27 => ?_) (fun hc hy27 => ?_)
            · refine j_if_eq (dt_Court_sourceOf 47 (92, .ifCond .eq 24, 3) rfl) rfl (fun _ => ?_) (fun q => absurd hc q)
              refine j_iinc (dt_Court_sourceOf 57 (116, .iinc 6 1, 3) rfl) rfl (nlt rfl) (ii_1 _) ?_
              refine j_goto (dt_Court_sourceOf 58 (119, .goto (-92), 3) rfl) rfl ?_
              cases hy27
              have hz := hin27 _ rfl
              exact j_sub rfl hz
            · refine j_if_eq (dt_Court_sourceOf 47 (92, .ifCond .eq 24, 3) rfl) rfl (fun q => absurd q hc) (fun _ => ?_)
              refine j_aload (dt_Court_sourceOf 48 (95, .aload 7, 2) rfl) rfl ?_
              obtain ⟨x9, hx9, hy27⟩ := jbind hy27
              refine j_getI (dt_Court_sourceOf 49 (97, .getfield 78, 3) rfl) fl_X0_78 hx9 (fun _ _ => rfl) ?_
              refine j_iload (dt_Court_sourceOf 50 (100, .iload 5, 2) rfl) rfl ?_
              refine jite hy27 (fun hc hy27 => ?_) (fun hc hy27 => ?_)
              · refine j_icmp_le (dt_Court_sourceOf 51 (102, .if_icmp .le 14, 3) rfl) rfl (fun _ => ?_) (fun q => absurd hc q)
                refine j_iinc (dt_Court_sourceOf 57 (116, .iinc 6 1, 3) rfl) rfl (nlt rfl) (ii_1 _) ?_
                refine j_goto (dt_Court_sourceOf 58 (119, .goto (-92), 3) rfl) rfl ?_
                cases hy27
                have hz := hin27 _ rfl
                exact j_sub rfl hz
              · refine j_icmp_le (dt_Court_sourceOf 51 (102, .if_icmp .le 14, 3) rfl) rfl (fun q => absurd q hc) (fun _ => ?_)
                refine j_iload (dt_Court_sourceOf 52 (105, .iload 6, 2) rfl) rfl ?_
                refine j_istore (dt_Court_sourceOf 53 (107, .istore 4, 2) rfl) (nlt rfl) ?_
                refine j_aload (dt_Court_sourceOf 54 (109, .aload 7, 2) rfl) rfl ?_
                obtain ⟨x10, hx10, hy27⟩ := jbind hy27
                refine j_getI (dt_Court_sourceOf 55 (111, .getfield 78, 3) rfl) fl_X0_78 hx10 (fun _ _ => rfl) ?_
                refine j_istore (dt_Court_sourceOf 56 (114, .istore 5, 2) rfl) (nlt rfl) ?_
                refine j_iinc (dt_Court_sourceOf 57 (116, .iinc 6 1, 3) rfl) rfl (nlt rfl) (ii_1 _) ?_
                refine j_goto (dt_Court_sourceOf 58 (119, .goto (-92), 3) rfl) rfl ?_
                cases hy27
                have hz := hin27 _ rfl
                exact j_sub rfl hz
          refine jite hj57 (fun hc hj57 => ?_) (fun hc hj57 => ?_)
          · refine j_if_ne (dt_Court_sourceOf 30 (57, .ifCond .ne 30, 3) rfl) rfl (fun q => absurd hc q) (fun _ => ?_)
            refine j_aload (dt_Court_sourceOf 31 (60, .aload 7, 2) rfl) rfl ?_
            refine j_iload_n (dt_Court_sourceOf 32 (62, .iload_n 1, 1) rfl) rfl ?_
            obtain ⟨x11, hx11, hj57⟩ := jbind hj57
            obtain ⟨b12, hb12⟩ := r_Rule_countsIn hx11
            refine j_callV M_Rule_countsIn 1 [ai v1] (rest := []) (dt_Court_sourceOf 33 (63, .invokevirtual 84, 3) rfl) ml_X0_84 ok_Rule_countsIn (jfit rfl rfl ⟨rfl, rfl⟩ (nle rfl) (nlt rfl)) rfl rfl (nle rfl) ⟨rfl, rfl⟩ hb12 ((c_Rule_countsIn hx11)) ?_
            refine jite hj57 (fun hc hj57 => ?_) (fun hc hj57 => ?_)
            · refine j_if_eq (dt_Court_sourceOf 34 (66, .ifCond .eq 21, 3) rfl) rfl (fun _ => ?_) (fun q => absurd hc q)
              refine j_iconst (dt_Court_sourceOf 44 (87, .iconst 0, 1) rfl) ic_0 ?_
              cases hj57
              exact j_sub rfl hP57
            · refine j_if_eq (dt_Court_sourceOf 34 (66, .ifCond .eq 21, 3) rfl) rfl (fun q => absurd q hc) (fun _ => ?_)
              refine j_aload (dt_Court_sourceOf 35 (69, .aload 7, 2) rfl) rfl ?_
              obtain ⟨x13, hx13, hj57⟩ := jbind hj57
              refine j_getR (dt_Court_sourceOf 36 (71, .getfield 93, 3) rfl) fl_X0_93 hx13 (fun _ _ => rfl) ?_
              refine j_iload_n (dt_Court_sourceOf 37 (74, .iload_n 2, 1) rfl) rfl ?_
              obtain ⟨x14, hx14, hj57⟩ := jbind hj57
              refine j_aldI (dt_Court_sourceOf 38 (75, .iaload, 1) rfl) hx14 ?_
              refine j_iload_n (dt_Court_sourceOf 39 (76, .iload_n 3, 1) rfl) rfl ?_
              refine j_callSN M_Fi_has 2 [ai x14, ai v3] (rest := []) (dt_Court_sourceOf 40 (77, .invokestatic 64, 3) rfl) ml_X0_64 ok_Fi_has (jfit rfl rfl ⟨rfl, rfl⟩ (nle rfl) (nlt rfl)) rfl rfl (nle rfl) ⟨rfl, rfl⟩ (c_Fi_has rfl) ?_
              refine jite hj57 (fun hc hj57 => ?_) (fun hc hj57 => ?_)
              · refine j_if_eq (dt_Court_sourceOf 41 (80, .ifCond .eq 7, 3) rfl) rfl (fun _ => ?_) (fun q => absurd hc q)
                refine j_iconst (dt_Court_sourceOf 44 (87, .iconst 0, 1) rfl) ic_0 ?_
                cases hj57
                exact j_sub rfl hP57
              · refine j_if_eq (dt_Court_sourceOf 41 (80, .ifCond .eq 7, 3) rfl) rfl (fun q => absurd q hc) (fun _ => ?_)
                refine j_iconst (dt_Court_sourceOf 42 (83, .iconst 1, 1) rfl) ic_1 ?_
                refine j_goto (dt_Court_sourceOf 43 (84, .goto 4, 3) rfl) rfl ?_
                cases hj57
                exact j_sub rfl hP57
          · refine j_if_ne (dt_Court_sourceOf 30 (57, .ifCond .ne 30, 3) rfl) rfl (fun _ => ?_) (fun q => absurd q hc)
            refine j_iconst (dt_Court_sourceOf 44 (87, .iconst 0, 1) rfl) ic_0 ?_
            cases hj57
            exact j_sub rfl hP57
theorem r_Court_sourceOf {S : hS} {V : hV} {v0 : Option Nat} {v1 : Int32} {v2 : Int32} {v3 : Int32} {res : Int32} (hf : Court_sourceOf S v0 v1 v2 v3 V = some res) : ∃ b, rc S 0 v0 = some b := by
  unfold Court_sourceOf at hf
  obtain ⟨b, hb, _⟩ := jbind hf
  exact ⟨b, hb⟩
def tb_Court_toSay : List (Nat × Instr × Nat) := [(0, .aload_n 0, 1), (1, .iload_n 1, 1), (2, .invokevirtual 68, 3), (5, .ifCond .eq 26, 3), (8, .aload_n 0, 1), (9, .getfield 17, 3), (12, .iload_n 1, 1), (13, .aaload, 1), (14, .getfield 81, 3), (17, .ifCond .ne 14, 3), (20, .aload_n 0, 1), (21, .iload_n 2, 1), (22, .iload 4, 2), (24, .iload_n 3, 1), (25, .invokevirtual 96, 3), (28, .goto 4, 3), (31, .iconst (-1), 1), (32, .ireturn, 1)]
theorem dt_Court_toSay (i : Nat) (q : Nat × Instr × Nat) (h : tb_Court_toSay[i]? = some q) : decode prog_2_method_20_code q.1 = .ok q.2 := jdt (by decide +kernel : tb_Court_toSay.all (fun q => decide (decode prog_2_method_20_code q.1 = .ok q.2)) = true) h
theorem ok_Court_toSay : jOKV M_Court_toSay 4 := ⟨⟨gt4 173 rfl rfl, gt1 15 rfl rfl, (by decide : "FirstIn$Court" ≠ "java/lang/invoke/MethodHandle"), (by decide : "FirstIn$Court" ≠ "java/lang/invoke/VarHandle"), (by decide +kernel : (parseMethodDescriptor "(IIII)I").map (fun d => d.parameters.length) = some 4)⟩, gt4 171 rfl rfl, gt4 172 rfl rfl, rfl, nlt rfl⟩
set_option maxRecDepth 100000 in
set_option maxHeartbeats 4000000 in
theorem c_Court_toSay {G : jG} {S : hS} {V : hV} {v0 : Option Nat} {v1 : Int32} {v2 : Int32} {v3 : Int32} {v4 : Int32} {res : Int32} (hf : Court_toSay S v0 v1 v2 v3 v4 V = some res) : jC G M_Court_toSay [ar v0, ai v1, ai v2, ai v3, ai v4] (S, V) (some (ai res)) (S, V) := by
  unfold Court_toSay at hf
  obtain ⟨_, _, hf⟩ := jbind hf
  refine jC_of (pf_X0 _ _) rfl (nle rfl) ?_
  show jJ G M_Court_toSay (jEnd G M_Court_toSay (some (ai res)) (S, V)) 0 0 0 [(0, ar v0), (1, ai v1), (2, ai v2), (3, ai v3), (4, ai v4)] [] (S, V)
  refine j_aload_n (dt_Court_toSay 0 (0, .aload_n 0, 1) rfl) rfl ?_
  refine j_iload_n (dt_Court_toSay 1 (1, .iload_n 1, 1) rfl) rfl ?_
  obtain ⟨x1, hx1, hf⟩ := jbind hf
  obtain ⟨b2, hb2⟩ := r_Court_hasRule hx1
  refine j_callV M_Court_hasRule 1 [ai v1] (rest := []) (dt_Court_toSay 2 (2, .invokevirtual 68, 3) rfl) ml_X0_68 ok_Court_hasRule (jfit rfl rfl ⟨rfl, rfl⟩ (nle rfl) (nlt rfl)) rfl rfl (nle rfl) ⟨rfl, rfl⟩ hb2 ((c_Court_hasRule hx1)) ?_
  refine jite hf (fun hc hf => ?_) (fun hc hf => ?_)
  · refine j_if_eq (dt_Court_toSay 3 (5, .ifCond .eq 26, 3) rfl) rfl (fun _ => ?_) (fun q => absurd hc q)
    refine j_iconst (dt_Court_toSay 16 (31, .iconst (-1), 1) rfl) ic_m1 ?_
    cases hf
    exact j_iret (dt_Court_toSay 17 (32, .ireturn, 1) rfl) rfl
  · refine j_if_eq (dt_Court_toSay 3 (5, .ifCond .eq 26, 3) rfl) rfl (fun q => absurd q hc) (fun _ => ?_)
    refine j_aload_n (dt_Court_toSay 4 (8, .aload_n 0, 1) rfl) rfl ?_
    obtain ⟨x3, hx3, hf⟩ := jbind hf
    refine j_getR (dt_Court_toSay 5 (9, .getfield 17, 3) rfl) fl_X0_17 hx3 (fun _ _ => rfl) ?_
    refine j_iload_n (dt_Court_toSay 6 (12, .iload_n 1, 1) rfl) rfl ?_
    obtain ⟨x4, hx4, hf⟩ := jbind hf
    refine j_aldR 105 (dt_Court_toSay 7 (13, .aaload, 1) rfl) (by decide) hx4 ?_
    obtain ⟨x5, hx5, hf⟩ := jbind hf
    refine j_getI (dt_Court_toSay 8 (14, .getfield 81, 3) rfl) fl_X0_81 hx5 (fun _ _ => rfl) ?_
    refine jite hf (fun hc hf => ?_) (fun hc hf => ?_)
    · refine j_if_ne (dt_Court_toSay 9 (17, .ifCond .ne 14, 3) rfl) rfl (fun q => absurd hc q) (fun _ => ?_)
      refine j_aload_n (dt_Court_toSay 10 (20, .aload_n 0, 1) rfl) rfl ?_
      refine j_iload_n (dt_Court_toSay 11 (21, .iload_n 2, 1) rfl) rfl ?_
      refine j_iload (dt_Court_toSay 12 (22, .iload 4, 2) rfl) rfl ?_
      refine j_iload_n (dt_Court_toSay 13 (24, .iload_n 3, 1) rfl) rfl ?_
      obtain ⟨x6, hx6, hf⟩ := jbind hf
      obtain ⟨b7, hb7⟩ := r_Court_sourceOf hx6
      refine j_callV M_Court_sourceOf 3 [ai v2, ai v4, ai v3] (rest := []) (dt_Court_toSay 14 (25, .invokevirtual 96, 3) rfl) ml_X0_96 ok_Court_sourceOf (jfit rfl rfl ⟨rfl, rfl⟩ (nle rfl) (nlt rfl)) rfl rfl (nle rfl) ⟨rfl, rfl⟩ hb7 ((c_Court_sourceOf hx6)) ?_
      refine j_goto (dt_Court_toSay 15 (28, .goto 4, 3) rfl) rfl ?_
      cases hf
      exact j_iret (dt_Court_toSay 17 (32, .ireturn, 1) rfl) rfl
    · refine j_if_ne (dt_Court_toSay 9 (17, .ifCond .ne 14, 3) rfl) rfl (fun _ => ?_) (fun q => absurd q hc)
      refine j_iconst (dt_Court_toSay 16 (31, .iconst (-1), 1) rfl) ic_m1 ?_
      cases hf
      exact j_iret (dt_Court_toSay 17 (32, .ireturn, 1) rfl) rfl
theorem r_Court_toSay {S : hS} {V : hV} {v0 : Option Nat} {v1 : Int32} {v2 : Int32} {v3 : Int32} {v4 : Int32} {res : Int32} (hf : Court_toSay S v0 v1 v2 v3 v4 V = some res) : ∃ b, rc S 0 v0 = some b := by
  unfold Court_toSay at hf
  obtain ⟨b, hb, _⟩ := jbind hf
  exact ⟨b, hb⟩
def tb_Evening_greatestSum : List (Nat × Instr × Nat) := [(0, .iconst 0, 1), (1, .istore 4, 2), (3, .iconst 0, 1), (4, .istore 5, 2), (6, .iload 5, 2), (8, .bipush 10, 2), (10, .if_icmp .ge 69, 3), (13, .iconst 0, 1), (14, .istore 6, 2), (16, .iload_n 1, 1), (17, .istore 7, 2), (19, .iconst 0, 1), (20, .istore 8, 2), (22, .iload 8, 2), (24, .iload_n 3, 1), (25, .if_icmp .ge 39, 3), (28, .iload_n 2, 1), (29, .ifCond .le 35, 3), (32, .iload 6, 2), (34, .aload_n 0, 1), (35, .getfield 9, 3), (38, .iload 7, 2), (40, .iload_n 2, 1), (41, .irem, 1), (42, .bipush 10, 2), (44, .imul, 1), (45, .iload 5, 2), (47, .iadd, 1), (48, .iaload, 1), (49, .iadd, 1), (50, .istore 6, 2), (52, .iload 7, 2), (54, .iload_n 2, 1), (55, .idiv, 1), (56, .istore 7, 2), (58, .iinc 8 1, 3), (61, .goto (-39), 3), (64, .iload 4, 2), (66, .iload 6, 2), (68, .invokestatic 33, 3), (71, .istore 4, 2), (73, .iinc 5 1, 3), (76, .goto (-70), 3), (79, .iload 4, 2), (81, .ireturn, 1)]
theorem dt_Evening_greatestSum (i : Nat) (q : Nat × Instr × Nat) (h : tb_Evening_greatestSum[i]? = some q) : decode prog_3_method_3_code q.1 = .ok q.2 := jdt (by decide +kernel : tb_Evening_greatestSum.all (fun q => decide (decode prog_3_method_3_code q.1 = .ok q.2)) = true) h
theorem ok_Evening_greatestSum : jOKV M_Evening_greatestSum 3 := ⟨⟨gt5 222 rfl rfl, gt1 12 rfl rfl, (by decide : "FirstIn$Evening" ≠ "java/lang/invoke/MethodHandle"), (by decide : "FirstIn$Evening" ≠ "java/lang/invoke/VarHandle"), (by decide +kernel : (parseMethodDescriptor "(III)I").map (fun d => d.parameters.length) = some 3)⟩, gt5 220 rfl rfl, gt5 221 rfl rfl, rfl, nlt rfl⟩
set_option maxRecDepth 100000 in
set_option maxHeartbeats 4000000 in
theorem c_Evening_greatestSum {G : jG} {S : hS} {V : hV} {v0 : Option Nat} {v1 : Int32} {v2 : Int32} {v3 : Int32} {res : Int32} (hf : Evening_greatestSum S v0 v1 v2 v3 V = some res) : jC G M_Evening_greatestSum [ar v0, ai v1, ai v2, ai v3] (S, V) (some (ai res)) (S, V) := by
  unfold Evening_greatestSum at hf
  obtain ⟨_, _, hf⟩ := jbind hf
  refine jC_of (pf_X1 _ _) rfl (nle rfl) ?_
  show jJ G M_Evening_greatestSum (jEnd G M_Evening_greatestSum (some (ai res)) (S, V)) 0 0 0 [(0, ar v0), (1, ai v1), (2, ai v2), (3, ai v3)] [] (S, V)
  refine j_iconst (dt_Evening_greatestSum 0 (0, .iconst 0, 1) rfl) ic_0 ?_
  refine j_istore (dt_Evening_greatestSum 1 (1, .istore 4, 2) rfl) (nlt rfl) ?_
  refine j_iconst (dt_Evening_greatestSum 2 (3, .iconst 0, 1) rfl) ic_0 ?_
  refine j_istore (dt_Evening_greatestSum 3 (4, .istore 5, 2) rfl) (nlt rfl) ?_
  obtain ⟨t6, ht6, hf⟩ := jbind hf
  have hX6 : ∀ q6 : Int32, q6 = t6 → jJ G M_Evening_greatestSum (jEnd G M_Evening_greatestSum (some (ai res)) (S, V)) 0 0 79 [(4, ai q6)] [] (S, V) := by
    intro q6 hq6
    subst hq6
    refine j_iload (dt_Evening_greatestSum 43 (79, .iload 4, 2) rfl) rfl ?_
    cases hf
    exact j_iret (dt_Evening_greatestSum 44 (81, .ireturn, 1) rfl) rfl
  refine j_sub (ls' := [(0, ar v0), (1, ai v1), (2, ai v2), (3, ai v3), (4, ai 0), (5, ai 0)]) rfl ?_
  refine jloop_J (C := fun s6 => jJ G M_Evening_greatestSum (jEnd G M_Evening_greatestSum (some (ai res)) (S, V)) 0 0 6 [(0, ar v0), (1, ai v1), (2, ai v2), (3, ai v3), (4, ai s6.1), (5, ai s6.2)] [] (S, V)) (fun s6 z6_ hy6 hin6 hout6 => ?_) _ _ ht6
  unfold Evening_greatestSum_L6 at hy6
  refine j_iload (dt_Evening_greatestSum 4 (6, .iload 5, 2) rfl) rfl ?_
  refine j_bipush (dt_Evening_greatestSum 5 (8, .bipush 10, 2) rfl) bp_10 ?_
  refine jite hy6 (fun hc hy6 => ?_) (fun hc hy6 => ?_)
  · refine j_icmp_ge (dt_Evening_greatestSum 6 (10, .if_icmp .ge 69, 3) rfl) rfl (fun _ => ?_) (fun q => absurd hc q)
    cases hy6
    have hz := hX6 _ (hout6 _ rfl)
    exact j_sub rfl hz
  · refine j_icmp_ge (dt_Evening_greatestSum 6 (10, .if_icmp .ge 69, 3) rfl) rfl (fun q => absurd q hc) (fun _ => ?_)
    refine j_iconst (dt_Evening_greatestSum 7 (13, .iconst 0, 1) rfl) ic_0 ?_
    refine j_istore (dt_Evening_greatestSum 8 (14, .istore 6, 2) rfl) (nlt rfl) ?_
    refine j_iload_n (dt_Evening_greatestSum 9 (16, .iload_n 1, 1) rfl) rfl ?_
    refine j_istore (dt_Evening_greatestSum 10 (17, .istore 7, 2) rfl) (nlt rfl) ?_
    refine j_iconst (dt_Evening_greatestSum 11 (19, .iconst 0, 1) rfl) ic_0 ?_
    refine j_istore (dt_Evening_greatestSum 12 (20, .istore 8, 2) rfl) (nlt rfl) ?_
    obtain ⟨t22, ht22, hy6⟩ := jbind hy6
    have hX22 : ∀ q22 : Int32, q22 = t22 → jJ G M_Evening_greatestSum (jEnd G M_Evening_greatestSum (some (ai res)) (S, V)) 0 0 64 [(0, ar v0), (1, ai v1), (2, ai v2), (3, ai v3), (4, ai s6.1), (5, ai s6.2), (6, ai q22)] [] (S, V) := by
      intro q22 hq22
      subst hq22
      refine j_iload (dt_Evening_greatestSum 37 (64, .iload 4, 2) rfl) rfl ?_
      refine j_iload (dt_Evening_greatestSum 38 (66, .iload 6, 2) rfl) rfl ?_
      refine j_callS M_Jd_max 2 [ai s6.1, ai q22] (rest := []) (dt_Evening_greatestSum 39 (68, .invokestatic 33, 3) rfl) ml_X1_33 ok_Jd_max (jfit rfl rfl ⟨rfl, rfl⟩ (nle rfl) (nlt rfl)) rfl rfl (nle rfl) ⟨rfl, rfl⟩ (c_Jd_max rfl) ?_
      refine j_istore (dt_Evening_greatestSum 40 (71, .istore 4, 2) rfl) (nlt rfl) ?_
      refine j_iinc (dt_Evening_greatestSum 41 (73, .iinc 5 1, 3) rfl) rfl (nlt rfl) (ii_1 _) ?_
      refine j_goto (dt_Evening_greatestSum 42 (76, .goto (-70), 3) rfl) rfl ?_
      cases hy6
      have hz := hin6 _ rfl
      exact j_sub rfl hz
    refine j_sub (ls' := [(0, ar v0), (1, ai v1), (2, ai v2), (3, ai v3), (4, ai s6.1), (5, ai s6.2), (6, ai 0), (7, ai v1), (8, ai 0)]) rfl ?_
    refine jloop_J (C := fun s22 => jJ G M_Evening_greatestSum (jEnd G M_Evening_greatestSum (some (ai res)) (S, V)) 0 0 22 [(0, ar v0), (1, ai v1), (2, ai v2), (3, ai v3), (4, ai s6.1), (5, ai s6.2), (6, ai s22.1), (7, ai s22.2.1), (8, ai s22.2.2)] [] (S, V)) (fun s22 z22_ hy22 hin22 hout22 => ?_) _ _ ht22
    unfold Evening_greatestSum_L22 at hy22
    refine j_iload (dt_Evening_greatestSum 13 (22, .iload 8, 2) rfl) rfl ?_
    refine j_iload_n (dt_Evening_greatestSum 14 (24, .iload_n 3, 1) rfl) rfl ?_
    refine jite hy22 (fun hc hy22 => ?_) (fun hc hy22 => ?_)
    · refine j_icmp_ge (dt_Evening_greatestSum 15 (25, .if_icmp .ge 39, 3) rfl) rfl (fun _ => ?_) (fun q => absurd hc q)
      cases hy22
      have hz := hX22 _ (hout22 _ rfl)
      exact j_sub rfl hz
    · refine j_icmp_ge (dt_Evening_greatestSum 15 (25, .if_icmp .ge 39, 3) rfl) rfl (fun q => absurd q hc) (fun _ => ?_)
      refine j_iload_n (dt_Evening_greatestSum 16 (28, .iload_n 2, 1) rfl) rfl ?_
      refine jite hy22 (fun hc hy22 => ?_) (fun hc hy22 => ?_)
      · refine j_if_le (dt_Evening_greatestSum 17 (29, .ifCond .le 35, 3) rfl) rfl (fun _ => ?_) (fun q => absurd hc q)
        cases hy22
        have hz := hX22 _ (hout22 _ rfl)
        exact j_sub rfl hz
      · refine j_if_le (dt_Evening_greatestSum 17 (29, .ifCond .le 35, 3) rfl) rfl (fun q => absurd q hc) (fun _ => ?_)
        refine j_iload (dt_Evening_greatestSum 18 (32, .iload 6, 2) rfl) rfl ?_
        refine j_aload_n (dt_Evening_greatestSum 19 (34, .aload_n 0, 1) rfl) rfl ?_
        obtain ⟨x1, hx1, hy22⟩ := jbind hy22
        refine j_getR (dt_Evening_greatestSum 20 (35, .getfield 9, 3) rfl) fl_X1_9 hx1 (fun _ _ => rfl) ?_
        refine j_iload (dt_Evening_greatestSum 21 (38, .iload 7, 2) rfl) rfl ?_
        refine j_iload_n (dt_Evening_greatestSum 22 (40, .iload_n 2, 1) rfl) rfl ?_
        obtain ⟨_, hz, hy22⟩ := jbind hy22
        refine j_irem (dt_Evening_greatestSum 23 (41, .irem, 1) rfl) (jnz_ne hz) ?_
        refine j_bipush (dt_Evening_greatestSum 24 (42, .bipush 10, 2) rfl) bp_10 ?_
        refine j_imul (dt_Evening_greatestSum 25 (44, .imul, 1) rfl) ?_
        refine j_iload (dt_Evening_greatestSum 26 (45, .iload 5, 2) rfl) rfl ?_
        refine j_iadd (dt_Evening_greatestSum 27 (47, .iadd, 1) rfl) ?_
        obtain ⟨x2, hx2, hy22⟩ := jbind hy22
        refine j_aldI (dt_Evening_greatestSum 28 (48, .iaload, 1) rfl) hx2 ?_
        refine j_iadd (dt_Evening_greatestSum 29 (49, .iadd, 1) rfl) ?_
        refine j_istore (dt_Evening_greatestSum 30 (50, .istore 6, 2) rfl) (nlt rfl) ?_
        refine j_iload (dt_Evening_greatestSum 31 (52, .iload 7, 2) rfl) rfl ?_
        refine j_iload_n (dt_Evening_greatestSum 32 (54, .iload_n 2, 1) rfl) rfl ?_
        obtain ⟨_, hz, hy22⟩ := jbind hy22
        refine j_idiv (dt_Evening_greatestSum 33 (55, .idiv, 1) rfl) (jnz_ne hz) ?_
        refine j_istore (dt_Evening_greatestSum 34 (56, .istore 7, 2) rfl) (nlt rfl) ?_
        refine j_iinc (dt_Evening_greatestSum 35 (58, .iinc 8 1, 3) rfl) rfl (nlt rfl) (ii_1 _) ?_
        refine j_goto (dt_Evening_greatestSum 36 (61, .goto (-39), 3) rfl) rfl ?_
        cases hy22
        have hz := hin22 _ rfl
        exact j_sub rfl hz
theorem r_Evening_greatestSum {S : hS} {V : hV} {v0 : Option Nat} {v1 : Int32} {v2 : Int32} {v3 : Int32} {res : Int32} (hf : Evening_greatestSum S v0 v1 v2 v3 V = some res) : ∃ b, rc S 1 v0 = some b := by
  unfold Evening_greatestSum at hf
  obtain ⟨b, hb, _⟩ := jbind hf
  exact ⟨b, hb⟩
def tb_Evening_writeRow : List (Nat × Instr × Nat) := [(0, .iload_n 1, 1), (1, .istore 4, 2), (3, .iload_n 3, 1), (4, .iconst 3, 1), (5, .invokestatic 27, 3), (8, .iconst 1, 1), (9, .isub, 1), (10, .istore 5, 2), (12, .iload 5, 2), (14, .ifCond .lt 30, 3), (17, .iload_n 2, 1), (18, .ifCond .le 26, 3), (21, .aload_n 0, 1), (22, .getfield 15, 3), (25, .iload 5, 2), (27, .iload 4, 2), (29, .iload_n 2, 1), (30, .irem, 1), (31, .iastore, 1), (32, .iload 4, 2), (34, .iload_n 2, 1), (35, .idiv, 1), (36, .istore 4, 2), (38, .iinc 5 (-1), 3), (41, .goto (-29), 3), (44, .return_, 1)]
theorem dt_Evening_writeRow (i : Nat) (q : Nat × Instr × Nat) (h : tb_Evening_writeRow[i]? = some q) : decode prog_3_method_4_code q.1 = .ok q.2 := jdt (by decide +kernel : tb_Evening_writeRow.all (fun q => decide (decode prog_3_method_4_code q.1 = .ok q.2)) = true) h
theorem ok_Evening_writeRow : jOKV M_Evening_writeRow 3 := ⟨⟨gt5 226 rfl rfl, gt1 12 rfl rfl, (by decide : "FirstIn$Evening" ≠ "java/lang/invoke/MethodHandle"), (by decide : "FirstIn$Evening" ≠ "java/lang/invoke/VarHandle"), (by decide +kernel : (parseMethodDescriptor "(III)V").map (fun d => d.parameters.length) = some 3)⟩, gt5 224 rfl rfl, gt5 225 rfl rfl, rfl, nlt rfl⟩
set_option maxRecDepth 100000 in
set_option maxHeartbeats 4000000 in
theorem c_Evening_writeRow {G : jG} {S : hS} {V : hV} {v0 : Option Nat} {v1 : Int32} {v2 : Int32} {v3 : Int32} {res : hV} (hf : Evening_writeRow S v0 v1 v2 v3 V = some res) : jC G M_Evening_writeRow [ar v0, ai v1, ai v2, ai v3] (S, V) none (S, res) := by
  unfold Evening_writeRow at hf
  obtain ⟨_, _, hf⟩ := jbind hf
  refine jC_of (pf_X1 _ _) rfl (nle rfl) ?_
  show jJ G M_Evening_writeRow (jEnd G M_Evening_writeRow none (S, res)) 0 0 0 [(0, ar v0), (1, ai v1), (2, ai v2), (3, ai v3)] [] (S, V)
  refine j_iload_n (dt_Evening_writeRow 0 (0, .iload_n 1, 1) rfl) rfl ?_
  refine j_istore (dt_Evening_writeRow 1 (1, .istore 4, 2) rfl) (nlt rfl) ?_
  refine j_iload_n (dt_Evening_writeRow 2 (3, .iload_n 3, 1) rfl) rfl ?_
  refine j_iconst (dt_Evening_writeRow 3 (4, .iconst 3, 1) rfl) ic_3 ?_
  refine j_callS M_Jd_min 2 [ai v3, ai 3] (rest := []) (dt_Evening_writeRow 4 (5, .invokestatic 27, 3) rfl) ml_X1_27 ok_Jd_min (jfit rfl rfl ⟨rfl, rfl⟩ (nle rfl) (nlt rfl)) rfl rfl (nle rfl) ⟨rfl, rfl⟩ (c_Jd_min rfl) ?_
  refine j_iconst (dt_Evening_writeRow 5 (8, .iconst 1, 1) rfl) ic_1 ?_
  refine j_isub (dt_Evening_writeRow 6 (9, .isub, 1) rfl) ?_
  refine j_istore (dt_Evening_writeRow 7 (10, .istore 5, 2) rfl) (nlt rfl) ?_
  obtain ⟨t12, ht12, hf⟩ := jbind hf
  have hX12 : ∀ q12 : hV, q12 = t12 → jJ G M_Evening_writeRow (jEnd G M_Evening_writeRow none (S, res)) 0 0 44 [] [] (S, q12) := by
    intro q12 hq12
    subst hq12
    cases hf
    exact j_vret (dt_Evening_writeRow 25 (44, .return_, 1) rfl) rfl
  refine j_sub (ls' := [(0, ar v0), (2, ai v2), (4, ai v1), (5, ai ((Jd_min v3 3) - 1))]) rfl ?_
  refine jloop_J (C := fun s12 => jJ G M_Evening_writeRow (jEnd G M_Evening_writeRow none (S, res)) 0 0 12 [(0, ar v0), (2, ai v2), (4, ai s12.1), (5, ai s12.2.1)] [] (S, s12.2.2)) (fun s12 z12_ hy12 hin12 hout12 => ?_) _ _ ht12
  unfold Evening_writeRow_L12 at hy12
  refine j_iload (dt_Evening_writeRow 8 (12, .iload 5, 2) rfl) rfl ?_
  refine jite hy12 (fun hc hy12 => ?_) (fun hc hy12 => ?_)
  · refine j_if_lt (dt_Evening_writeRow 9 (14, .ifCond .lt 30, 3) rfl) rfl (fun _ => ?_) (fun q => absurd hc q)
    cases hy12
    have hz := hX12 _ (hout12 _ rfl)
    exact j_sub rfl hz
  · refine j_if_lt (dt_Evening_writeRow 9 (14, .ifCond .lt 30, 3) rfl) rfl (fun q => absurd q hc) (fun _ => ?_)
    refine j_iload_n (dt_Evening_writeRow 10 (17, .iload_n 2, 1) rfl) rfl ?_
    refine jite hy12 (fun hc hy12 => ?_) (fun hc hy12 => ?_)
    · refine j_if_le (dt_Evening_writeRow 11 (18, .ifCond .le 26, 3) rfl) rfl (fun _ => ?_) (fun q => absurd hc q)
      cases hy12
      have hz := hX12 _ (hout12 _ rfl)
      exact j_sub rfl hz
    · refine j_if_le (dt_Evening_writeRow 11 (18, .ifCond .le 26, 3) rfl) rfl (fun q => absurd q hc) (fun _ => ?_)
      refine j_aload_n (dt_Evening_writeRow 12 (21, .aload_n 0, 1) rfl) rfl ?_
      obtain ⟨x1, hx1, hy12⟩ := jbind hy12
      refine j_getR (dt_Evening_writeRow 13 (22, .getfield 15, 3) rfl) fl_X1_15 hx1 (fun _ _ => rfl) ?_
      refine j_iload (dt_Evening_writeRow 14 (25, .iload 5, 2) rfl) rfl ?_
      refine j_iload (dt_Evening_writeRow 15 (27, .iload 4, 2) rfl) rfl ?_
      refine j_iload_n (dt_Evening_writeRow 16 (29, .iload_n 2, 1) rfl) rfl ?_
      obtain ⟨_, hz, hy12⟩ := jbind hy12
      refine j_irem (dt_Evening_writeRow 17 (30, .irem, 1) rfl) (jnz_ne hz) ?_
      obtain ⟨V2, hV2, hy12⟩ := jbind hy12
      refine j_astI (dt_Evening_writeRow 18 (31, .iastore, 1) rfl) hV2 ?_
      refine j_iload (dt_Evening_writeRow 19 (32, .iload 4, 2) rfl) rfl ?_
      refine j_iload_n (dt_Evening_writeRow 20 (34, .iload_n 2, 1) rfl) rfl ?_
      obtain ⟨_, hz, hy12⟩ := jbind hy12
      refine j_idiv (dt_Evening_writeRow 21 (35, .idiv, 1) rfl) (jnz_ne hz) ?_
      refine j_istore (dt_Evening_writeRow 22 (36, .istore 4, 2) rfl) (nlt rfl) ?_
      refine j_iinc (dt_Evening_writeRow 23 (38, .iinc 5 (-1), 3) rfl) rfl (nlt rfl) (ii_m1 _) ?_
      refine j_goto (dt_Evening_writeRow 24 (41, .goto (-29), 3) rfl) rfl ?_
      cases hy12
      have hz := hin12 _ rfl
      exact j_sub rfl hz
theorem r_Evening_writeRow {S : hS} {V : hV} {v0 : Option Nat} {v1 : Int32} {v2 : Int32} {v3 : Int32} {res : hV} (hf : Evening_writeRow S v0 v1 v2 v3 V = some res) : ∃ b, rc S 1 v0 = some b := by
  unfold Evening_writeRow at hf
  obtain ⟨b, hb, _⟩ := jbind hf
  exact ⟨b, hb⟩
def tb_Room_onward : List (Nat × Instr × Nat) := [(0, .aload_n 0, 1), (1, .getfield 28, 3), (4, .ifCond .le 14, 3), (7, .iload_n 1, 1), (8, .iload_n 2, 1), (9, .iadd, 1), (10, .aload_n 0, 1), (11, .getfield 28, 3), (14, .irem, 1), (15, .goto 4, 3), (18, .iload_n 1, 1), (19, .ireturn, 1)]
theorem dt_Room_onward (i : Nat) (q : Nat × Instr × Nat) (h : tb_Room_onward[i]? = some q) : decode prog_8_method_6_code q.1 = .ok q.2 := jdt (by decide +kernel : tb_Room_onward.all (fun q => decide (decode prog_8_method_6_code q.1 = .ok q.2)) = true) h
theorem ok_Room_onward : jOKV M_Room_onward 2 := ⟨⟨gt4 105 rfl rfl, gt1 8 rfl rfl, (by decide : "FirstIn$Room" ≠ "java/lang/invoke/MethodHandle"), (by decide : "FirstIn$Room" ≠ "java/lang/invoke/VarHandle"), (by decide +kernel : (parseMethodDescriptor "(II)I").map (fun d => d.parameters.length) = some 2)⟩, gt4 103 rfl rfl, gt4 104 rfl rfl, rfl, nlt rfl⟩
set_option maxRecDepth 100000 in
set_option maxHeartbeats 4000000 in
theorem c_Room_onward {G : jG} {S : hS} {V : hV} {v0 : Option Nat} {v1 : Int32} {v2 : Int32} {res : Int32} (hf : Room_onward S v0 v1 v2 V = some res) : jC G M_Room_onward [ar v0, ai v1, ai v2] (S, V) (some (ai res)) (S, V) := by
  unfold Room_onward at hf
  obtain ⟨_, _, hf⟩ := jbind hf
  refine jC_of (pf_X6 _ _) rfl (nle rfl) ?_
  show jJ G M_Room_onward (jEnd G M_Room_onward (some (ai res)) (S, V)) 0 0 0 [(0, ar v0), (1, ai v1), (2, ai v2)] [] (S, V)
  refine j_aload_n (dt_Room_onward 0 (0, .aload_n 0, 1) rfl) rfl ?_
  obtain ⟨x1, hx1, hf⟩ := jbind hf
  refine j_getI (dt_Room_onward 1 (1, .getfield 28, 3) rfl) fl_X6_28 hx1 (fun _ _ => rfl) ?_
  refine jite hf (fun hc hf => ?_) (fun hc hf => ?_)
  · refine j_if_le (dt_Room_onward 2 (4, .ifCond .le 14, 3) rfl) rfl (fun _ => ?_) (fun q => absurd hc q)
    refine j_iload_n (dt_Room_onward 10 (18, .iload_n 1, 1) rfl) rfl ?_
    cases hf
    exact j_iret (dt_Room_onward 11 (19, .ireturn, 1) rfl) rfl
  · refine j_if_le (dt_Room_onward 2 (4, .ifCond .le 14, 3) rfl) rfl (fun q => absurd q hc) (fun _ => ?_)
    refine j_iload_n (dt_Room_onward 3 (7, .iload_n 1, 1) rfl) rfl ?_
    refine j_iload_n (dt_Room_onward 4 (8, .iload_n 2, 1) rfl) rfl ?_
    refine j_iadd (dt_Room_onward 5 (9, .iadd, 1) rfl) ?_
    refine j_aload_n (dt_Room_onward 6 (10, .aload_n 0, 1) rfl) rfl ?_
    obtain ⟨x2, hx2, hf⟩ := jbind hf
    refine j_getI (dt_Room_onward 7 (11, .getfield 28, 3) rfl) fl_X6_28 hx2 (fun _ _ => rfl) ?_
    obtain ⟨_, hz, hf⟩ := jbind hf
    refine j_irem (dt_Room_onward 8 (14, .irem, 1) rfl) (jnz_ne hz) ?_
    refine j_goto (dt_Room_onward 9 (15, .goto 4, 3) rfl) rfl ?_
    cases hf
    exact j_iret (dt_Room_onward 11 (19, .ireturn, 1) rfl) rfl
theorem r_Room_onward {S : hS} {V : hV} {v0 : Option Nat} {v1 : Int32} {v2 : Int32} {res : Int32} (hf : Room_onward S v0 v1 v2 V = some res) : ∃ b, rc S 6 v0 = some b := by
  unfold Room_onward at hf
  obtain ⟨b, hb, _⟩ := jbind hf
  exact ⟨b, hb⟩
def tb_Slights_seatByHand : List (Nat × Instr × Nat) := [(0, .iconst 0, 1), (1, .istore 4, 2), (3, .iload 4, 2), (5, .bipush 10, 2), (7, .if_icmp .ge 67, 3), (10, .aload_n 1, 1), (11, .iload 4, 2), (13, .invokevirtual 40, 3), (16, .ifCond .eq 21, 3), (19, .aload_n 1, 1), (20, .getfield 46, 3), (23, .iload 4, 2), (25, .iaload, 1), (26, .aload_n 2, 1), (27, .getfield 49, 3), (30, .if_icmp .ne 7, 3), (33, .iconst 1, 1), (34, .goto 4, 3), (37, .iconst 0, 1), (38, .istore 5, 2), (40, .aload_n 0, 1), (41, .getfield 9, 3), (44, .iload 4, 2), (46, .iload 5, 2), (48, .ifCond .eq 18, 3), (51, .aload_n 2, 1), (52, .aload_n 1, 1), (53, .getfield 52, 3), (56, .iload 4, 2), (58, .iaload, 1), (59, .iload_n 3, 1), (60, .invokevirtual 55, 3), (63, .goto 4, 3), (66, .iconst (-1), 1), (67, .iastore, 1), (68, .iinc 4 1, 3), (71, .goto (-68), 3), (74, .return_, 1)]
theorem dt_Slights_seatByHand (i : Nat) (q : Nat × Instr × Nat) (h : tb_Slights_seatByHand[i]? = some q) : decode prog_11_method_2_code q.1 = .ok q.2 := jdt (by decide +kernel : tb_Slights_seatByHand.all (fun q => decide (decode prog_11_method_2_code q.1 = .ok q.2)) = true) h
theorem ok_Slights_seatByHand : jOKV M_Slights_seatByHand 3 := ⟨⟨gt4 130 rfl rfl, gt1 11 rfl rfl, (by decide : "FirstIn$Slights" ≠ "java/lang/invoke/MethodHandle"), (by decide : "FirstIn$Slights" ≠ "java/lang/invoke/VarHandle"), (by decide +kernel : (parseMethodDescriptor "(LFirstIn$Court;LFirstIn$Room;I)V").map (fun d => d.parameters.length) = some 3)⟩, gt4 128 rfl rfl, gt4 129 rfl rfl, rfl, nlt rfl⟩
set_option maxRecDepth 100000 in
set_option maxHeartbeats 4000000 in
theorem c_Slights_seatByHand {G : jG} {S : hS} {V : hV} {v0 : Option Nat} {v1 : Option Nat} {v2 : Option Nat} {v3 : Int32} {res : hV} (hf : Slights_seatByHand S v0 v1 v2 v3 V = some res) : jC G M_Slights_seatByHand [ar v0, ar v1, ar v2, ai v3] (S, V) none (S, res) := by
  unfold Slights_seatByHand at hf
  obtain ⟨_, _, hf⟩ := jbind hf
  refine jC_of (pf_X9 _ _) rfl (nle rfl) ?_
  show jJ G M_Slights_seatByHand (jEnd G M_Slights_seatByHand none (S, res)) 0 0 0 [(0, ar v0), (1, ar v1), (2, ar v2), (3, ai v3)] [] (S, V)
  refine j_iconst (dt_Slights_seatByHand 0 (0, .iconst 0, 1) rfl) ic_0 ?_
  refine j_istore (dt_Slights_seatByHand 1 (1, .istore 4, 2) rfl) (nlt rfl) ?_
  obtain ⟨t3, ht3, hf⟩ := jbind hf
  have hX3 : ∀ q3 : hV, q3 = t3 → jJ G M_Slights_seatByHand (jEnd G M_Slights_seatByHand none (S, res)) 0 0 74 [] [] (S, q3) := by
    intro q3 hq3
    subst hq3
    cases hf
    exact j_vret (dt_Slights_seatByHand 37 (74, .return_, 1) rfl) rfl
  refine j_sub (ls' := [(0, ar v0), (1, ar v1), (2, ar v2), (3, ai v3), (4, ai 0)]) rfl ?_
  refine jloop_J (C := fun s3 => jJ G M_Slights_seatByHand (jEnd G M_Slights_seatByHand none (S, res)) 0 0 3 [(0, ar v0), (1, ar v1), (2, ar v2), (3, ai v3), (4, ai s3.1)] [] (S, s3.2)) (fun s3 z3_ hy3 hin3 hout3 => ?_) _ _ ht3
  unfold Slights_seatByHand_L3 at hy3
  refine j_iload (dt_Slights_seatByHand 2 (3, .iload 4, 2) rfl) rfl ?_
  refine j_bipush (dt_Slights_seatByHand 3 (5, .bipush 10, 2) rfl) bp_10 ?_
  refine jite hy3 (fun hc hy3 => ?_) (fun hc hy3 => ?_)
  · refine j_icmp_ge (dt_Slights_seatByHand 4 (7, .if_icmp .ge 67, 3) rfl) rfl (fun _ => ?_) (fun q => absurd hc q)
    cases hy3
    have hz := hX3 _ (hout3 _ rfl)
    exact j_sub rfl hz
  · refine j_icmp_ge (dt_Slights_seatByHand 4 (7, .if_icmp .ge 67, 3) rfl) rfl (fun q => absurd q hc) (fun _ => ?_)
    refine j_aload_n (dt_Slights_seatByHand 5 (10, .aload_n 1, 1) rfl) rfl ?_
    refine j_iload (dt_Slights_seatByHand 6 (11, .iload 4, 2) rfl) rfl ?_
    obtain ⟨x1, hx1, hy3⟩ := jbind hy3
    obtain ⟨b2, hb2⟩ := r_Court_isSeated hx1
    refine j_callV M_Court_isSeated 1 [ai s3.1] (rest := []) (dt_Slights_seatByHand 7 (13, .invokevirtual 40, 3) rfl) ml_X9_40 ok_Court_isSeated (jfit rfl rfl ⟨rfl, rfl⟩ (nle rfl) (nlt rfl)) rfl rfl (nle rfl) ⟨rfl, rfl⟩ hb2 ((c_Court_isSeated hx1)) ?_
    obtain ⟨j16, hj16, hy3⟩ := jbind hy3
    have hP16 : jJ G M_Slights_seatByHand (jEnd G M_Slights_seatByHand none (S, res)) 0 0 38 [(0, ar v0), (1, ar v1), (2, ar v2), (3, ai v3), (4, ai s3.1)] [ai j16] (S, s3.2) := by
      refine j_istore (dt_Slights_seatByHand 19 (38, .istore 5, 2) rfl) (nlt rfl) ?_
      refine j_aload_n (dt_Slights_seatByHand 20 (40, .aload_n 0, 1) rfl) rfl ?_
      obtain ⟨x3, hx3, hy3⟩ := jbind hy3
      refine j_getR (dt_Slights_seatByHand 21 (41, .getfield 9, 3) rfl) fl_X9_9 hx3 (fun _ _ => rfl) ?_
      refine j_iload (dt_Slights_seatByHand 22 (44, .iload 4, 2) rfl) rfl ?_
      refine j_iload (dt_Slights_seatByHand 23 (46, .iload 5, 2) rfl) rfl ?_
      obtain ⟨j48, hj48, hy3⟩ := jbind hy3
      have hP48 : jJ G M_Slights_seatByHand (jEnd G M_Slights_seatByHand none (S, res)) 0 0 67 [(0, ar v0), (1, ar v1), (2, ar v2), (3, ai v3), (4, ai s3.1)] [ai j48, ai s3.1, ar x3] (S, s3.2) := by
        obtain ⟨V4, hV4, hy3⟩ := jbind hy3
        refine j_astI (dt_Slights_seatByHand 34 (67, .iastore, 1) rfl) hV4 ?_
        refine j_iinc (dt_Slights_seatByHand 35 (68, .iinc 4 1, 3) rfl) rfl (nlt rfl) (ii_1 _) ?_
        refine j_goto (dt_Slights_seatByHand 36 (71, .goto (-68), 3) rfl) rfl ?_
        cases hy3
        have hz := hin3 _ rfl
        exact j_sub rfl hz
      refine jite hj48 (fun hc hj48 => ?_) (fun hc hj48 => ?_)
      · refine j_if_eq (dt_Slights_seatByHand 24 (48, .ifCond .eq 18, 3) rfl) rfl (fun _ => ?_) (fun q => absurd hc q)
        refine j_iconst (dt_Slights_seatByHand 33 (66, .iconst (-1), 1) rfl) ic_m1 ?_
        cases hj48
        exact j_sub rfl hP48
      · refine j_if_eq (dt_Slights_seatByHand 24 (48, .ifCond .eq 18, 3) rfl) rfl (fun q => absurd q hc) (fun _ => ?_)
        refine j_aload_n (dt_Slights_seatByHand 25 (51, .aload_n 2, 1) rfl) rfl ?_
        refine j_aload_n (dt_Slights_seatByHand 26 (52, .aload_n 1, 1) rfl) rfl ?_
        obtain ⟨x5, hx5, hj48⟩ := jbind hj48
        refine j_getR (dt_Slights_seatByHand 27 (53, .getfield 52, 3) rfl) fl_X9_52 hx5 (fun _ _ => rfl) ?_
        refine j_iload (dt_Slights_seatByHand 28 (56, .iload 4, 2) rfl) rfl ?_
        obtain ⟨x6, hx6, hj48⟩ := jbind hj48
        refine j_aldI (dt_Slights_seatByHand 29 (58, .iaload, 1) rfl) hx6 ?_
        refine j_iload_n (dt_Slights_seatByHand 30 (59, .iload_n 3, 1) rfl) rfl ?_
        obtain ⟨x7, hx7, hj48⟩ := jbind hj48
        obtain ⟨b8, hb8⟩ := r_Room_onward hx7
        refine j_callV M_Room_onward 2 [ai x6, ai v3] (rest := [ai s3.1, ar x3]) (dt_Slights_seatByHand 31 (60, .invokevirtual 55, 3) rfl) ml_X9_55 ok_Room_onward (jfit rfl rfl ⟨rfl, rfl⟩ (nle rfl) (nlt rfl)) rfl rfl (nle rfl) ⟨rfl, rfl⟩ hb8 ((c_Room_onward hx7)) ?_
        refine j_goto (dt_Slights_seatByHand 32 (63, .goto 4, 3) rfl) rfl ?_
        cases hj48
        exact j_sub rfl hP48
    refine jite hj16 (fun hc hj16 => ?_) (fun hc hj16 => ?_)
    · refine j_if_eq (dt_Slights_seatByHand 8 (16, .ifCond .eq 21, 3) rfl) rfl (fun _ => ?_) (fun q => absurd hc q)
      refine j_iconst (dt_Slights_seatByHand 18 (37, .iconst 0, 1) rfl) ic_0 ?_
      cases hj16
      exact j_sub rfl hP16
    · refine j_if_eq (dt_Slights_seatByHand 8 (16, .ifCond .eq 21, 3) rfl) rfl (fun q => absurd q hc) (fun _ => ?_)
      refine j_aload_n (dt_Slights_seatByHand 9 (19, .aload_n 1, 1) rfl) rfl ?_
      obtain ⟨x9, hx9, hj16⟩ := jbind hj16
      refine j_getR (dt_Slights_seatByHand 10 (20, .getfield 46, 3) rfl) fl_X9_46 hx9 (fun _ _ => rfl) ?_
      refine j_iload (dt_Slights_seatByHand 11 (23, .iload 4, 2) rfl) rfl ?_
      obtain ⟨x10, hx10, hj16⟩ := jbind hj16
      refine j_aldI (dt_Slights_seatByHand 12 (25, .iaload, 1) rfl) hx10 ?_
      refine j_aload_n (dt_Slights_seatByHand 13 (26, .aload_n 2, 1) rfl) rfl ?_
      obtain ⟨x11, hx11, hj16⟩ := jbind hj16
      refine j_getI (dt_Slights_seatByHand 14 (27, .getfield 49, 3) rfl) fl_X9_49 hx11 (fun _ _ => rfl) ?_
      refine jite hj16 (fun hc hj16 => ?_) (fun hc hj16 => ?_)
      · refine j_icmp_ne (dt_Slights_seatByHand 15 (30, .if_icmp .ne 7, 3) rfl) rfl (fun q => absurd hc q) (fun _ => ?_)
        refine j_iconst (dt_Slights_seatByHand 16 (33, .iconst 1, 1) rfl) ic_1 ?_
        refine j_goto (dt_Slights_seatByHand 17 (34, .goto 4, 3) rfl) rfl ?_
        cases hj16
        exact j_sub rfl hP16
      · refine j_icmp_ne (dt_Slights_seatByHand 15 (30, .if_icmp .ne 7, 3) rfl) rfl (fun _ => ?_) (fun q => absurd q hc)
        refine j_iconst (dt_Slights_seatByHand 18 (37, .iconst 0, 1) rfl) ic_0 ?_
        cases hj16
        exact j_sub rfl hP16
theorem r_Slights_seatByHand {S : hS} {V : hV} {v0 : Option Nat} {v1 : Option Nat} {v2 : Option Nat} {v3 : Int32} {res : hV} (hf : Slights_seatByHand S v0 v1 v2 v3 V = some res) : ∃ b, rc S 9 v0 = some b := by
  unfold Slights_seatByHand at hf
  obtain ⟨b, hb, _⟩ := jbind hf
  exact ⟨b, hb⟩
def tb_Fi_isSlight : List (Nat × Instr × Nat) := [(0, .iload_n 0, 1), (1, .tableswitch 60 0 2 #[27, 42, 58], 27), (28, .iload_n 1, 1), (29, .iconst 2, 1), (30, .if_icmp .eq 7, 3), (33, .iload_n 1, 1), (34, .ifCond .ne 7, 3), (37, .iconst 1, 1), (38, .goto 4, 3), (41, .iconst 0, 1), (42, .ireturn, 1), (43, .iload_n 1, 1), (44, .iconst 1, 1), (45, .if_icmp .eq 8, 3), (48, .iload_n 1, 1), (49, .iconst 2, 1), (50, .if_icmp .ne 7, 3), (53, .iconst 1, 1), (54, .goto 4, 3), (57, .iconst 0, 1), (58, .ireturn, 1), (59, .iload_n 2, 1), (60, .ireturn, 1), (61, .iconst 0, 1), (62, .ireturn, 1)]
theorem dt_Fi_isSlight (i : Nat) (q : Nat × Instr × Nat) (h : tb_Fi_isSlight[i]? = some q) : decode prog_1_method_40_code q.1 = .ok q.2 := jdt (by decide +kernel : tb_Fi_isSlight.all (fun q => decide (decode prog_1_method_40_code q.1 = .ok q.2)) = true) h
theorem ok_Fi_isSlight : jOKS M_Fi_isSlight 3 := ⟨⟨gt4 154 rfl rfl, gt1 1 rfl rfl, (by decide : "FirstIn" ≠ "java/lang/invoke/MethodHandle"), (by decide : "FirstIn" ≠ "java/lang/invoke/VarHandle"), (by decide +kernel : (parseMethodDescriptor "(IIZ)Z").map (fun d => d.parameters.length) = some 3)⟩, gt4 153 rfl rfl⟩
set_option maxRecDepth 100000 in
set_option maxHeartbeats 4000000 in
theorem c_Fi_isSlight {G : jG} {S : hS} {V : hV} {v0 : Int32} {v1 : Int32} {v2 : Int32} {res : Int32} (hf : Fi_isSlight v0 v1 v2 = res) : jC G M_Fi_isSlight [ai v0, ai v1, ai v2] (S, V) (some (ai res)) (S, V) := by
  unfold Fi_isSlight at hf
  refine jC_of (pf_X11 _ _) rfl (nle rfl) ?_
  show jJ G M_Fi_isSlight (jEnd G M_Fi_isSlight (some (ai res)) (S, V)) 0 0 0 [(0, ai v0), (1, ai v1), (2, ai v2)] [] (S, V)
  refine j_iload_n (dt_Fi_isSlight 0 (0, .iload_n 0, 1) rfl) rfl ?_
  refine jite hf (fun hc0 hf => ?_) (fun hc0 hf => ?_)
  · refine j_swIn (off := 27) (tgt := 28) 0 hc0 (dt_Fi_isSlight 1 (1, .tableswitch 60 0 2 #[27, 42, 58], 27) rfl) (by decide) ?_
    refine j_iload_n (dt_Fi_isSlight 2 (28, .iload_n 1, 1) rfl) rfl ?_
    refine j_iconst (dt_Fi_isSlight 3 (29, .iconst 2, 1) rfl) ic_2 ?_
    refine jite hf (fun hc hf => ?_) (fun hc hf => ?_)
    · refine j_icmp_eq (dt_Fi_isSlight 4 (30, .if_icmp .eq 7, 3) rfl) rfl (fun _ => ?_) (fun q => absurd hc q)
      refine j_iconst (dt_Fi_isSlight 7 (37, .iconst 1, 1) rfl) ic_1 ?_
      refine j_goto (dt_Fi_isSlight 8 (38, .goto 4, 3) rfl) rfl ?_
      cases hf
      exact j_zret (x := 1) (dt_Fi_isSlight 10 (42, .ireturn, 1) rfl) rfl rfl
    · refine j_icmp_eq (dt_Fi_isSlight 4 (30, .if_icmp .eq 7, 3) rfl) rfl (fun q => absurd q hc) (fun _ => ?_)
      refine j_iload_n (dt_Fi_isSlight 5 (33, .iload_n 1, 1) rfl) rfl ?_
      refine jite hf (fun hc hf => ?_) (fun hc hf => ?_)
      · refine j_if_ne (dt_Fi_isSlight 6 (34, .ifCond .ne 7, 3) rfl) rfl (fun q => absurd hc q) (fun _ => ?_)
        refine j_iconst (dt_Fi_isSlight 7 (37, .iconst 1, 1) rfl) ic_1 ?_
        refine j_goto (dt_Fi_isSlight 8 (38, .goto 4, 3) rfl) rfl ?_
        cases hf
        exact j_zret (x := 1) (dt_Fi_isSlight 10 (42, .ireturn, 1) rfl) rfl rfl
      · refine j_if_ne (dt_Fi_isSlight 6 (34, .ifCond .ne 7, 3) rfl) rfl (fun _ => ?_) (fun q => absurd q hc)
        refine j_iconst (dt_Fi_isSlight 9 (41, .iconst 0, 1) rfl) ic_0 ?_
        cases hf
        exact j_zret (x := 0) (dt_Fi_isSlight 10 (42, .ireturn, 1) rfl) rfl rfl
  · refine jite hf (fun hc1 hf => ?_) (fun hc1 hf => ?_)
    · refine j_swIn (off := 42) (tgt := 43) 1 hc1 (dt_Fi_isSlight 1 (1, .tableswitch 60 0 2 #[27, 42, 58], 27) rfl) (by decide) ?_
      refine j_iload_n (dt_Fi_isSlight 11 (43, .iload_n 1, 1) rfl) rfl ?_
      refine j_iconst (dt_Fi_isSlight 12 (44, .iconst 1, 1) rfl) ic_1 ?_
      refine jite hf (fun hc hf => ?_) (fun hc hf => ?_)
      · refine j_icmp_eq (dt_Fi_isSlight 13 (45, .if_icmp .eq 8, 3) rfl) rfl (fun _ => ?_) (fun q => absurd hc q)
        refine j_iconst (dt_Fi_isSlight 17 (53, .iconst 1, 1) rfl) ic_1 ?_
        refine j_goto (dt_Fi_isSlight 18 (54, .goto 4, 3) rfl) rfl ?_
        cases hf
        exact j_zret (x := 1) (dt_Fi_isSlight 20 (58, .ireturn, 1) rfl) rfl rfl
      · refine j_icmp_eq (dt_Fi_isSlight 13 (45, .if_icmp .eq 8, 3) rfl) rfl (fun q => absurd q hc) (fun _ => ?_)
        refine j_iload_n (dt_Fi_isSlight 14 (48, .iload_n 1, 1) rfl) rfl ?_
        refine j_iconst (dt_Fi_isSlight 15 (49, .iconst 2, 1) rfl) ic_2 ?_
        refine jite hf (fun hc hf => ?_) (fun hc hf => ?_)
        · refine j_icmp_ne (dt_Fi_isSlight 16 (50, .if_icmp .ne 7, 3) rfl) rfl (fun q => absurd hc q) (fun _ => ?_)
          refine j_iconst (dt_Fi_isSlight 17 (53, .iconst 1, 1) rfl) ic_1 ?_
          refine j_goto (dt_Fi_isSlight 18 (54, .goto 4, 3) rfl) rfl ?_
          cases hf
          exact j_zret (x := 1) (dt_Fi_isSlight 20 (58, .ireturn, 1) rfl) rfl rfl
        · refine j_icmp_ne (dt_Fi_isSlight 16 (50, .if_icmp .ne 7, 3) rfl) rfl (fun _ => ?_) (fun q => absurd q hc)
          refine j_iconst (dt_Fi_isSlight 19 (57, .iconst 0, 1) rfl) ic_0 ?_
          cases hf
          exact j_zret (x := 0) (dt_Fi_isSlight 20 (58, .ireturn, 1) rfl) rfl rfl
    · refine jite hf (fun hc2 hf => ?_) (fun hc2 hf => ?_)
      · refine j_swIn (off := 58) (tgt := 59) 2 hc2 (dt_Fi_isSlight 1 (1, .tableswitch 60 0 2 #[27, 42, 58], 27) rfl) (by decide) ?_
        refine j_iload_n (dt_Fi_isSlight 21 (59, .iload_n 2, 1) rfl) rfl ?_
        cases hf
        exact j_zretN (dt_Fi_isSlight 22 (60, .ireturn, 1) rfl) rfl
      · refine j_swOut (dt_Fi_isSlight 1 (1, .tableswitch 60 0 2 #[27, 42, 58], 27) rfl) (jsw_out (lo := 0) 3 (fun k hk => ?_) (by decide) (by decide)) rfl ?_
        · match k, hk with
          | 0, _ => exact hc0
          | 1, _ => exact hc1
          | 2, _ => exact hc2
          | k + 3, hk => omega
        · refine j_iconst (dt_Fi_isSlight 23 (61, .iconst 0, 1) rfl) ic_0 ?_
          cases hf
          exact j_zret (x := 0) (dt_Fi_isSlight 24 (62, .ireturn, 1) rfl) rfl rfl
def tb_Room_areBeside : List (Nat × Instr × Nat) := [(0, .iload_n 1, 1), (1, .iload_n 2, 1), (2, .isub, 1), (3, .invokestatic 47, 3), (6, .istore_n 3, 1), (7, .aload_n 0, 1), (8, .getfield 24, 3), (11, .tableswitch 80 1 3 #[25, 36, 61], 25), (36, .iload_n 3, 1), (37, .iconst 2, 1), (38, .if_icmp .ne 7, 3), (41, .iconst 1, 1), (42, .goto 4, 3), (45, .iconst 0, 1), (46, .ireturn, 1), (47, .iload_n 3, 1), (48, .iconst 1, 1), (49, .if_icmp .eq 17, 3), (52, .iload_n 3, 1), (53, .ifCond .le 17, 3), (56, .iload_n 3, 1), (57, .aload_n 0, 1), (58, .getfield 28, 3), (61, .iconst 1, 1), (62, .isub, 1), (63, .if_icmp .ne 7, 3), (66, .iconst 1, 1), (67, .goto 4, 3), (70, .iconst 0, 1), (71, .ireturn, 1), (72, .iload_n 3, 1), (73, .ifCond .le 16, 3), (76, .iload_n 1, 1), (77, .iconst 2, 1), (78, .idiv, 1), (79, .iload_n 2, 1), (80, .iconst 2, 1), (81, .idiv, 1), (82, .if_icmp .ne 7, 3), (85, .iconst 1, 1), (86, .goto 4, 3), (89, .iconst 0, 1), (90, .ireturn, 1), (91, .iload_n 3, 1), (92, .iconst 1, 1), (93, .if_icmp .ne 7, 3), (96, .iconst 1, 1), (97, .goto 4, 3), (100, .iconst 0, 1), (101, .ireturn, 1)]
theorem dt_Room_areBeside (i : Nat) (q : Nat × Instr × Nat) (h : tb_Room_areBeside[i]? = some q) : decode prog_8_method_9_code q.1 = .ok q.2 := jdt (by decide +kernel : tb_Room_areBeside.all (fun q => decide (decode prog_8_method_9_code q.1 = .ok q.2)) = true) h
theorem ok_Room_areBeside : jOKV M_Room_areBeside 2 := ⟨⟨gt4 148 rfl rfl, gt1 8 rfl rfl, (by decide : "FirstIn$Room" ≠ "java/lang/invoke/MethodHandle"), (by decide : "FirstIn$Room" ≠ "java/lang/invoke/VarHandle"), (by decide +kernel : (parseMethodDescriptor "(II)Z").map (fun d => d.parameters.length) = some 2)⟩, gt4 146 rfl rfl, gt4 147 rfl rfl, rfl, nlt rfl⟩
set_option maxRecDepth 100000 in
set_option maxHeartbeats 4000000 in
theorem c_Room_areBeside {G : jG} {S : hS} {V : hV} {v0 : Option Nat} {v1 : Int32} {v2 : Int32} {res : Int32} (hf : Room_areBeside S v0 v1 v2 V = some res) : jC G M_Room_areBeside [ar v0, ai v1, ai v2] (S, V) (some (ai res)) (S, V) := by
  unfold Room_areBeside at hf
  obtain ⟨_, _, hf⟩ := jbind hf
  refine jC_of (pf_X6 _ _) rfl (nle rfl) ?_
  show jJ G M_Room_areBeside (jEnd G M_Room_areBeside (some (ai res)) (S, V)) 0 0 0 [(0, ar v0), (1, ai v1), (2, ai v2)] [] (S, V)
  refine j_iload_n (dt_Room_areBeside 0 (0, .iload_n 1, 1) rfl) rfl ?_
  refine j_iload_n (dt_Room_areBeside 1 (1, .iload_n 2, 1) rfl) rfl ?_
  refine j_isub (dt_Room_areBeside 2 (2, .isub, 1) rfl) ?_
  refine j_callS M_Jd_abs 1 [ai (v1 - v2)] (rest := []) (dt_Room_areBeside 3 (3, .invokestatic 47, 3) rfl) ml_X6_47 ok_Jd_abs (jfit rfl rfl ⟨rfl, rfl⟩ (nle rfl) (nlt rfl)) rfl rfl (nle rfl) ⟨rfl, rfl⟩ (c_Jd_abs rfl) ?_
  refine j_istore_n (dt_Room_areBeside 4 (6, .istore_n 3, 1) rfl) (nlt rfl) ?_
  refine j_aload_n (dt_Room_areBeside 5 (7, .aload_n 0, 1) rfl) rfl ?_
  obtain ⟨x1, hx1, hf⟩ := jbind hf
  refine j_getI (dt_Room_areBeside 6 (8, .getfield 24, 3) rfl) fl_X6_24 hx1 (fun _ _ => rfl) ?_
  refine jite hf (fun hc1 hf => ?_) (fun hc1 hf => ?_)
  · refine j_swIn (off := 25) (tgt := 36) 1 hc1 (dt_Room_areBeside 7 (11, .tableswitch 80 1 3 #[25, 36, 61], 25) rfl) (by decide) ?_
    refine j_iload_n (dt_Room_areBeside 8 (36, .iload_n 3, 1) rfl) rfl ?_
    refine j_iconst (dt_Room_areBeside 9 (37, .iconst 2, 1) rfl) ic_2 ?_
    refine jite hf (fun hc hf => ?_) (fun hc hf => ?_)
    · refine j_icmp_ne (dt_Room_areBeside 10 (38, .if_icmp .ne 7, 3) rfl) rfl (fun q => absurd hc q) (fun _ => ?_)
      refine j_iconst (dt_Room_areBeside 11 (41, .iconst 1, 1) rfl) ic_1 ?_
      refine j_goto (dt_Room_areBeside 12 (42, .goto 4, 3) rfl) rfl ?_
      cases hf
      exact j_zret (x := 1) (dt_Room_areBeside 14 (46, .ireturn, 1) rfl) rfl rfl
    · refine j_icmp_ne (dt_Room_areBeside 10 (38, .if_icmp .ne 7, 3) rfl) rfl (fun _ => ?_) (fun q => absurd q hc)
      refine j_iconst (dt_Room_areBeside 13 (45, .iconst 0, 1) rfl) ic_0 ?_
      cases hf
      exact j_zret (x := 0) (dt_Room_areBeside 14 (46, .ireturn, 1) rfl) rfl rfl
  · refine jite hf (fun hc2 hf => ?_) (fun hc2 hf => ?_)
    · refine j_swIn (off := 36) (tgt := 47) 2 hc2 (dt_Room_areBeside 7 (11, .tableswitch 80 1 3 #[25, 36, 61], 25) rfl) (by decide) ?_
      refine j_iload_n (dt_Room_areBeside 15 (47, .iload_n 3, 1) rfl) rfl ?_
      refine j_iconst (dt_Room_areBeside 16 (48, .iconst 1, 1) rfl) ic_1 ?_
      refine jite hf (fun hc hf => ?_) (fun hc hf => ?_)
      · refine j_icmp_eq (dt_Room_areBeside 17 (49, .if_icmp .eq 17, 3) rfl) rfl (fun _ => ?_) (fun q => absurd hc q)
        refine j_iconst (dt_Room_areBeside 26 (66, .iconst 1, 1) rfl) ic_1 ?_
        refine j_goto (dt_Room_areBeside 27 (67, .goto 4, 3) rfl) rfl ?_
        cases hf
        exact j_zret (x := 1) (dt_Room_areBeside 29 (71, .ireturn, 1) rfl) rfl rfl
      · refine j_icmp_eq (dt_Room_areBeside 17 (49, .if_icmp .eq 17, 3) rfl) rfl (fun q => absurd q hc) (fun _ => ?_)
        refine j_iload_n (dt_Room_areBeside 18 (52, .iload_n 3, 1) rfl) rfl ?_
        refine jite hf (fun hc hf => ?_) (fun hc hf => ?_)
        · refine j_if_le (dt_Room_areBeside 19 (53, .ifCond .le 17, 3) rfl) rfl (fun _ => ?_) (fun q => absurd hc q)
          refine j_iconst (dt_Room_areBeside 28 (70, .iconst 0, 1) rfl) ic_0 ?_
          cases hf
          exact j_zret (x := 0) (dt_Room_areBeside 29 (71, .ireturn, 1) rfl) rfl rfl
        · refine j_if_le (dt_Room_areBeside 19 (53, .ifCond .le 17, 3) rfl) rfl (fun q => absurd q hc) (fun _ => ?_)
          refine j_iload_n (dt_Room_areBeside 20 (56, .iload_n 3, 1) rfl) rfl ?_
          refine j_aload_n (dt_Room_areBeside 21 (57, .aload_n 0, 1) rfl) rfl ?_
          obtain ⟨x2, hx2, hf⟩ := jbind hf
          refine j_getI (dt_Room_areBeside 22 (58, .getfield 28, 3) rfl) fl_X6_28 hx2 (fun _ _ => rfl) ?_
          refine j_iconst (dt_Room_areBeside 23 (61, .iconst 1, 1) rfl) ic_1 ?_
          refine j_isub (dt_Room_areBeside 24 (62, .isub, 1) rfl) ?_
          refine jite hf (fun hc hf => ?_) (fun hc hf => ?_)
          · refine j_icmp_ne (dt_Room_areBeside 25 (63, .if_icmp .ne 7, 3) rfl) rfl (fun q => absurd hc q) (fun _ => ?_)
            refine j_iconst (dt_Room_areBeside 26 (66, .iconst 1, 1) rfl) ic_1 ?_
            refine j_goto (dt_Room_areBeside 27 (67, .goto 4, 3) rfl) rfl ?_
            cases hf
            exact j_zret (x := 1) (dt_Room_areBeside 29 (71, .ireturn, 1) rfl) rfl rfl
          · refine j_icmp_ne (dt_Room_areBeside 25 (63, .if_icmp .ne 7, 3) rfl) rfl (fun _ => ?_) (fun q => absurd q hc)
            refine j_iconst (dt_Room_areBeside 28 (70, .iconst 0, 1) rfl) ic_0 ?_
            cases hf
            exact j_zret (x := 0) (dt_Room_areBeside 29 (71, .ireturn, 1) rfl) rfl rfl
    · refine jite hf (fun hc3 hf => ?_) (fun hc3 hf => ?_)
      · refine j_swIn (off := 61) (tgt := 72) 3 hc3 (dt_Room_areBeside 7 (11, .tableswitch 80 1 3 #[25, 36, 61], 25) rfl) (by decide) ?_
        refine j_iload_n (dt_Room_areBeside 30 (72, .iload_n 3, 1) rfl) rfl ?_
        refine jite hf (fun hc hf => ?_) (fun hc hf => ?_)
        · refine j_if_le (dt_Room_areBeside 31 (73, .ifCond .le 16, 3) rfl) rfl (fun _ => ?_) (fun q => absurd hc q)
          refine j_iconst (dt_Room_areBeside 41 (89, .iconst 0, 1) rfl) ic_0 ?_
          cases hf
          exact j_zret (x := 0) (dt_Room_areBeside 42 (90, .ireturn, 1) rfl) rfl rfl
        · refine j_if_le (dt_Room_areBeside 31 (73, .ifCond .le 16, 3) rfl) rfl (fun q => absurd q hc) (fun _ => ?_)
          refine j_iload_n (dt_Room_areBeside 32 (76, .iload_n 1, 1) rfl) rfl ?_
          refine j_iconst (dt_Room_areBeside 33 (77, .iconst 2, 1) rfl) ic_2 ?_
          refine j_idiv (dt_Room_areBeside 34 (78, .idiv, 1) rfl) (by decide) ?_
          refine j_iload_n (dt_Room_areBeside 35 (79, .iload_n 2, 1) rfl) rfl ?_
          refine j_iconst (dt_Room_areBeside 36 (80, .iconst 2, 1) rfl) ic_2 ?_
          refine j_idiv (dt_Room_areBeside 37 (81, .idiv, 1) rfl) (by decide) ?_
          refine jite hf (fun hc hf => ?_) (fun hc hf => ?_)
          · refine j_icmp_ne (dt_Room_areBeside 38 (82, .if_icmp .ne 7, 3) rfl) rfl (fun q => absurd hc q) (fun _ => ?_)
            refine j_iconst (dt_Room_areBeside 39 (85, .iconst 1, 1) rfl) ic_1 ?_
            refine j_goto (dt_Room_areBeside 40 (86, .goto 4, 3) rfl) rfl ?_
            cases hf
            exact j_zret (x := 1) (dt_Room_areBeside 42 (90, .ireturn, 1) rfl) rfl rfl
          · refine j_icmp_ne (dt_Room_areBeside 38 (82, .if_icmp .ne 7, 3) rfl) rfl (fun _ => ?_) (fun q => absurd q hc)
            refine j_iconst (dt_Room_areBeside 41 (89, .iconst 0, 1) rfl) ic_0 ?_
            cases hf
            exact j_zret (x := 0) (dt_Room_areBeside 42 (90, .ireturn, 1) rfl) rfl rfl
      · refine j_swOut (dt_Room_areBeside 7 (11, .tableswitch 80 1 3 #[25, 36, 61], 25) rfl) (jsw_out (lo := 1) 3 (fun k hk => ?_) (by decide) (by decide)) rfl ?_
        · match k, hk with
          | 0, _ => exact hc1
          | 1, _ => exact hc2
          | 2, _ => exact hc3
          | k + 3, hk => omega
        · refine j_iload_n (dt_Room_areBeside 43 (91, .iload_n 3, 1) rfl) rfl ?_
          refine j_iconst (dt_Room_areBeside 44 (92, .iconst 1, 1) rfl) ic_1 ?_
          refine jite hf (fun hc hf => ?_) (fun hc hf => ?_)
          · refine j_icmp_ne (dt_Room_areBeside 45 (93, .if_icmp .ne 7, 3) rfl) rfl (fun q => absurd hc q) (fun _ => ?_)
            refine j_iconst (dt_Room_areBeside 46 (96, .iconst 1, 1) rfl) ic_1 ?_
            refine j_goto (dt_Room_areBeside 47 (97, .goto 4, 3) rfl) rfl ?_
            cases hf
            exact j_zret (x := 1) (dt_Room_areBeside 49 (101, .ireturn, 1) rfl) rfl rfl
          · refine j_icmp_ne (dt_Room_areBeside 45 (93, .if_icmp .ne 7, 3) rfl) rfl (fun _ => ?_) (fun q => absurd q hc)
            refine j_iconst (dt_Room_areBeside 48 (100, .iconst 0, 1) rfl) ic_0 ?_
            cases hf
            exact j_zret (x := 0) (dt_Room_areBeside 49 (101, .ireturn, 1) rfl) rfl rfl
theorem r_Room_areBeside {S : hS} {V : hV} {v0 : Option Nat} {v1 : Int32} {v2 : Int32} {res : Int32} (hf : Room_areBeside S v0 v1 v2 V = some res) : ∃ b, rc S 6 v0 = some b := by
  unfold Room_areBeside at hf
  obtain ⟨b, hb, _⟩ := jbind hf
  exact ⟨b, hb⟩
def tb_Room_depthOf : List (Nat × Instr × Nat) := [(0, .aload_n 0, 1), (1, .getfield 24, 3), (4, .tableswitch 53 0 4 #[36, 38, 53, 42, 46], 36), (40, .iload_n 2, 1), (41, .ireturn, 1), (42, .iload_n 2, 1), (43, .iconst 2, 1), (44, .idiv, 1), (45, .ireturn, 1), (46, .iload_n 2, 1), (47, .iconst 2, 1), (48, .idiv, 1), (49, .ireturn, 1), (50, .aload_n 0, 1), (51, .iload_n 2, 1), (52, .iload_n 1, 1), (53, .invokevirtual 40, 3), (56, .ireturn, 1), (57, .iconst 0, 1), (58, .ireturn, 1)]
theorem dt_Room_depthOf (i : Nat) (q : Nat × Instr × Nat) (h : tb_Room_depthOf[i]? = some q) : decode prog_8_method_7_code q.1 = .ok q.2 := jdt (by decide +kernel : tb_Room_depthOf.all (fun q => decide (decode prog_8_method_7_code q.1 = .ok q.2)) = true) h
theorem ok_Room_depthOf : jOKV M_Room_depthOf 2 := ⟨⟨gt4 101 rfl rfl, gt1 8 rfl rfl, (by decide : "FirstIn$Room" ≠ "java/lang/invoke/MethodHandle"), (by decide : "FirstIn$Room" ≠ "java/lang/invoke/VarHandle"), (by decide +kernel : (parseMethodDescriptor "(II)I").map (fun d => d.parameters.length) = some 2)⟩, gt4 99 rfl rfl, gt4 100 rfl rfl, rfl, nlt rfl⟩
set_option maxRecDepth 100000 in
set_option maxHeartbeats 4000000 in
theorem c_Room_depthOf {G : jG} {S : hS} {V : hV} {v0 : Option Nat} {v1 : Int32} {v2 : Int32} {res : Int32} (hf : Room_depthOf S v0 v1 v2 V = some res) : jC G M_Room_depthOf [ar v0, ai v1, ai v2] (S, V) (some (ai res)) (S, V) := by
  unfold Room_depthOf at hf
  obtain ⟨_, _, hf⟩ := jbind hf
  refine jC_of (pf_X6 _ _) rfl (nle rfl) ?_
  show jJ G M_Room_depthOf (jEnd G M_Room_depthOf (some (ai res)) (S, V)) 0 0 0 [(0, ar v0), (1, ai v1), (2, ai v2)] [] (S, V)
  refine j_aload_n (dt_Room_depthOf 0 (0, .aload_n 0, 1) rfl) rfl ?_
  obtain ⟨x1, hx1, hf⟩ := jbind hf
  refine j_getI (dt_Room_depthOf 1 (1, .getfield 24, 3) rfl) fl_X6_24 hx1 (fun _ _ => rfl) ?_
  refine jite hf (fun hc0 hf => ?_) (fun hc0 hf => ?_)
  · refine j_swIn (off := 36) (tgt := 40) 0 hc0 (dt_Room_depthOf 2 (4, .tableswitch 53 0 4 #[36, 38, 53, 42, 46], 36) rfl) (by decide) ?_
    refine j_iload_n (dt_Room_depthOf 3 (40, .iload_n 2, 1) rfl) rfl ?_
    cases hf
    exact j_iret (dt_Room_depthOf 4 (41, .ireturn, 1) rfl) rfl
  · refine jite hf (fun hc1 hf => ?_) (fun hc1 hf => ?_)
    · refine j_swIn (off := 38) (tgt := 42) 1 hc1 (dt_Room_depthOf 2 (4, .tableswitch 53 0 4 #[36, 38, 53, 42, 46], 36) rfl) (by decide) ?_
      refine j_iload_n (dt_Room_depthOf 5 (42, .iload_n 2, 1) rfl) rfl ?_
      refine j_iconst (dt_Room_depthOf 6 (43, .iconst 2, 1) rfl) ic_2 ?_
      refine j_idiv (dt_Room_depthOf 7 (44, .idiv, 1) rfl) (by decide) ?_
      cases hf
      exact j_iret (dt_Room_depthOf 8 (45, .ireturn, 1) rfl) rfl
    · refine jite hf (fun hc2 hf => ?_) (fun hc2 hf => ?_)
      · refine j_swIn (off := 53) (tgt := 57) 2 hc2 (dt_Room_depthOf 2 (4, .tableswitch 53 0 4 #[36, 38, 53, 42, 46], 36) rfl) (by decide) ?_
        refine j_iconst (dt_Room_depthOf 18 (57, .iconst 0, 1) rfl) ic_0 ?_
        cases hf
        exact j_iret (dt_Room_depthOf 19 (58, .ireturn, 1) rfl) rfl
      · refine jite hf (fun hc3 hf => ?_) (fun hc3 hf => ?_)
        · refine j_swIn (off := 42) (tgt := 46) 3 hc3 (dt_Room_depthOf 2 (4, .tableswitch 53 0 4 #[36, 38, 53, 42, 46], 36) rfl) (by decide) ?_
          refine j_iload_n (dt_Room_depthOf 9 (46, .iload_n 2, 1) rfl) rfl ?_
          refine j_iconst (dt_Room_depthOf 10 (47, .iconst 2, 1) rfl) ic_2 ?_
          refine j_idiv (dt_Room_depthOf 11 (48, .idiv, 1) rfl) (by decide) ?_
          cases hf
          exact j_iret (dt_Room_depthOf 12 (49, .ireturn, 1) rfl) rfl
        · refine jite hf (fun hc4 hf => ?_) (fun hc4 hf => ?_)
          · refine j_swIn (off := 46) (tgt := 50) 4 hc4 (dt_Room_depthOf 2 (4, .tableswitch 53 0 4 #[36, 38, 53, 42, 46], 36) rfl) (by decide) ?_
            refine j_aload_n (dt_Room_depthOf 13 (50, .aload_n 0, 1) rfl) rfl ?_
            refine j_iload_n (dt_Room_depthOf 14 (51, .iload_n 2, 1) rfl) rfl ?_
            refine j_iload_n (dt_Room_depthOf 15 (52, .iload_n 1, 1) rfl) rfl ?_
            obtain ⟨x2, hx2, hf⟩ := jbind hf
            obtain ⟨b3, hb3⟩ := r_Room_onward hx2
            refine j_callV M_Room_onward 2 [ai v2, ai v1] (rest := []) (dt_Room_depthOf 16 (53, .invokevirtual 40, 3) rfl) ml_X6_40 ok_Room_onward (jfit rfl rfl ⟨rfl, rfl⟩ (nle rfl) (nlt rfl)) rfl rfl (nle rfl) ⟨rfl, rfl⟩ hb3 ((c_Room_onward hx2)) ?_
            cases hf
            exact j_iret (dt_Room_depthOf 17 (56, .ireturn, 1) rfl) rfl
          · refine j_swOut (dt_Room_depthOf 2 (4, .tableswitch 53 0 4 #[36, 38, 53, 42, 46], 36) rfl) (jsw_out (lo := 0) 5 (fun k hk => ?_) (by decide) (by decide)) rfl ?_
            · match k, hk with
              | 0, _ => exact hc0
              | 1, _ => exact hc1
              | 2, _ => exact hc2
              | 3, _ => exact hc3
              | 4, _ => exact hc4
              | k + 5, hk => omega
            · refine j_iconst (dt_Room_depthOf 18 (57, .iconst 0, 1) rfl) ic_0 ?_
              cases hf
              exact j_iret (dt_Room_depthOf 19 (58, .ireturn, 1) rfl) rfl
theorem r_Room_depthOf {S : hS} {V : hV} {v0 : Option Nat} {v1 : Int32} {v2 : Int32} {res : Int32} (hf : Room_depthOf S v0 v1 v2 V = some res) : ∃ b, rc S 6 v0 = some b := by
  unfold Room_depthOf at hf
  obtain ⟨b, hb, _⟩ := jbind hf
  exact ⟨b, hb⟩
def tb_Room_higherOf : List (Nat × Instr × Nat) := [(0, .iload_n 2, 1), (1, .iload_n 3, 1), (2, .if_icmp .ne 5, 3), (5, .iconst 0, 1), (6, .ireturn, 1), (7, .aload_n 0, 1), (8, .iload_n 1, 1), (9, .iload_n 2, 1), (10, .invokevirtual 44, 3), (13, .istore 4, 2), (15, .aload_n 0, 1), (16, .iload_n 1, 1), (17, .iload_n 3, 1), (18, .invokevirtual 44, 3), (21, .istore 5, 2), (23, .iload 4, 2), (25, .iload 5, 2), (27, .if_icmp .eq 16, 3), (30, .iload 4, 2), (32, .iload 5, 2), (34, .if_icmp .ge 7, 3), (37, .iconst 1, 1), (38, .goto 4, 3), (41, .iconst 2, 1), (42, .ireturn, 1), (43, .aload_n 0, 1), (44, .getfield 24, 3), (47, .iconst 3, 1), (48, .if_icmp .ne 7, 3), (51, .iconst 0, 1), (52, .goto 4, 3), (55, .iconst (-1), 1), (56, .ireturn, 1)]
theorem dt_Room_higherOf (i : Nat) (q : Nat × Instr × Nat) (h : tb_Room_higherOf[i]? = some q) : decode prog_8_method_8_code q.1 = .ok q.2 := jdt (by decide +kernel : tb_Room_higherOf.all (fun q => decide (decode prog_8_method_8_code q.1 = .ok q.2)) = true) h
theorem ok_Room_higherOf : jOKV M_Room_higherOf 3 := ⟨⟨gt4 97 rfl rfl, gt1 8 rfl rfl, (by decide : "FirstIn$Room" ≠ "java/lang/invoke/MethodHandle"), (by decide : "FirstIn$Room" ≠ "java/lang/invoke/VarHandle"), (by decide +kernel : (parseMethodDescriptor "(III)I").map (fun d => d.parameters.length) = some 3)⟩, gt4 95 rfl rfl, gt4 96 rfl rfl, rfl, nlt rfl⟩
set_option maxRecDepth 100000 in
set_option maxHeartbeats 4000000 in
theorem c_Room_higherOf {G : jG} {S : hS} {V : hV} {v0 : Option Nat} {v1 : Int32} {v2 : Int32} {v3 : Int32} {res : Int32} (hf : Room_higherOf S v0 v1 v2 v3 V = some res) : jC G M_Room_higherOf [ar v0, ai v1, ai v2, ai v3] (S, V) (some (ai res)) (S, V) := by
  unfold Room_higherOf at hf
  obtain ⟨_, _, hf⟩ := jbind hf
  refine jC_of (pf_X6 _ _) rfl (nle rfl) ?_
  show jJ G M_Room_higherOf (jEnd G M_Room_higherOf (some (ai res)) (S, V)) 0 0 0 [(0, ar v0), (1, ai v1), (2, ai v2), (3, ai v3)] [] (S, V)
  refine j_iload_n (dt_Room_higherOf 0 (0, .iload_n 2, 1) rfl) rfl ?_
  refine j_iload_n (dt_Room_higherOf 1 (1, .iload_n 3, 1) rfl) rfl ?_
  refine jite hf (fun hc hf => ?_) (fun hc hf => ?_)
  · refine j_icmp_ne (dt_Room_higherOf 2 (2, .if_icmp .ne 5, 3) rfl) rfl (fun q => absurd hc q) (fun _ => ?_)
    refine j_iconst (dt_Room_higherOf 3 (5, .iconst 0, 1) rfl) ic_0 ?_
    cases hf
    exact j_iret (dt_Room_higherOf 4 (6, .ireturn, 1) rfl) rfl
  · refine j_icmp_ne (dt_Room_higherOf 2 (2, .if_icmp .ne 5, 3) rfl) rfl (fun _ => ?_) (fun q => absurd q hc)
    refine j_aload_n (dt_Room_higherOf 5 (7, .aload_n 0, 1) rfl) rfl ?_
    refine j_iload_n (dt_Room_higherOf 6 (8, .iload_n 1, 1) rfl) rfl ?_
    refine j_iload_n (dt_Room_higherOf 7 (9, .iload_n 2, 1) rfl) rfl ?_
    obtain ⟨x1, hx1, hf⟩ := jbind hf
    obtain ⟨b2, hb2⟩ := r_Room_depthOf hx1
    refine j_callV M_Room_depthOf 2 [ai v1, ai v2] (rest := []) (dt_Room_higherOf 8 (10, .invokevirtual 44, 3) rfl) ml_X6_44 ok_Room_depthOf (jfit rfl rfl ⟨rfl, rfl⟩ (nle rfl) (nlt rfl)) rfl rfl (nle rfl) ⟨rfl, rfl⟩ hb2 ((c_Room_depthOf hx1)) ?_
    refine j_istore (dt_Room_higherOf 9 (13, .istore 4, 2) rfl) (nlt rfl) ?_
    refine j_aload_n (dt_Room_higherOf 10 (15, .aload_n 0, 1) rfl) rfl ?_
    refine j_iload_n (dt_Room_higherOf 11 (16, .iload_n 1, 1) rfl) rfl ?_
    refine j_iload_n (dt_Room_higherOf 12 (17, .iload_n 3, 1) rfl) rfl ?_
    obtain ⟨x3, hx3, hf⟩ := jbind hf
    obtain ⟨b4, hb4⟩ := r_Room_depthOf hx3
    refine j_callV M_Room_depthOf 2 [ai v1, ai v3] (rest := []) (dt_Room_higherOf 13 (18, .invokevirtual 44, 3) rfl) ml_X6_44 ok_Room_depthOf (jfit rfl rfl ⟨rfl, rfl⟩ (nle rfl) (nlt rfl)) rfl rfl (nle rfl) ⟨rfl, rfl⟩ hb4 ((c_Room_depthOf hx3)) ?_
    refine j_istore (dt_Room_higherOf 14 (21, .istore 5, 2) rfl) (nlt rfl) ?_
    refine j_iload (dt_Room_higherOf 15 (23, .iload 4, 2) rfl) rfl ?_
    refine j_iload (dt_Room_higherOf 16 (25, .iload 5, 2) rfl) rfl ?_
    refine jite hf (fun hc hf => ?_) (fun hc hf => ?_)
    · refine j_icmp_eq (dt_Room_higherOf 17 (27, .if_icmp .eq 16, 3) rfl) rfl (fun _ => ?_) (fun q => absurd hc q)
      refine j_aload_n (dt_Room_higherOf 25 (43, .aload_n 0, 1) rfl) rfl ?_
      obtain ⟨x5, hx5, hf⟩ := jbind hf
      refine j_getI (dt_Room_higherOf 26 (44, .getfield 24, 3) rfl) fl_X6_24 hx5 (fun _ _ => rfl) ?_
      refine j_iconst (dt_Room_higherOf 27 (47, .iconst 3, 1) rfl) ic_3 ?_
      refine jite hf (fun hc hf => ?_) (fun hc hf => ?_)
      · refine j_icmp_ne (dt_Room_higherOf 28 (48, .if_icmp .ne 7, 3) rfl) rfl (fun q => absurd hc q) (fun _ => ?_)
        refine j_iconst (dt_Room_higherOf 29 (51, .iconst 0, 1) rfl) ic_0 ?_
        refine j_goto (dt_Room_higherOf 30 (52, .goto 4, 3) rfl) rfl ?_
        cases hf
        exact j_iret (dt_Room_higherOf 32 (56, .ireturn, 1) rfl) rfl
      · refine j_icmp_ne (dt_Room_higherOf 28 (48, .if_icmp .ne 7, 3) rfl) rfl (fun _ => ?_) (fun q => absurd q hc)
        refine j_iconst (dt_Room_higherOf 31 (55, .iconst (-1), 1) rfl) ic_m1 ?_
        cases hf
        exact j_iret (dt_Room_higherOf 32 (56, .ireturn, 1) rfl) rfl
    · refine j_icmp_eq (dt_Room_higherOf 17 (27, .if_icmp .eq 16, 3) rfl) rfl (fun q => absurd q hc) (fun _ => ?_)
      refine j_iload (dt_Room_higherOf 18 (30, .iload 4, 2) rfl) rfl ?_
      refine j_iload (dt_Room_higherOf 19 (32, .iload 5, 2) rfl) rfl ?_
      refine jite hf (fun hc hf => ?_) (fun hc hf => ?_)
      · refine j_icmp_ge (dt_Room_higherOf 20 (34, .if_icmp .ge 7, 3) rfl) rfl (fun _ => ?_) (fun q => absurd hc q)
        refine j_iconst (dt_Room_higherOf 23 (41, .iconst 2, 1) rfl) ic_2 ?_
        cases hf
        exact j_iret (dt_Room_higherOf 24 (42, .ireturn, 1) rfl) rfl
      · refine j_icmp_ge (dt_Room_higherOf 20 (34, .if_icmp .ge 7, 3) rfl) rfl (fun q => absurd q hc) (fun _ => ?_)
        refine j_iconst (dt_Room_higherOf 21 (37, .iconst 1, 1) rfl) ic_1 ?_
        refine j_goto (dt_Room_higherOf 22 (38, .goto 4, 3) rfl) rfl ?_
        cases hf
        exact j_iret (dt_Room_higherOf 24 (42, .ireturn, 1) rfl) rfl
theorem r_Room_higherOf {S : hS} {V : hV} {v0 : Option Nat} {v1 : Int32} {v2 : Int32} {v3 : Int32} {res : Int32} (hf : Room_higherOf S v0 v1 v2 v3 V = some res) : ∃ b, rc S 6 v0 = some b := by
  unfold Room_higherOf at hf
  obtain ⟨b, hb, _⟩ := jbind hf
  exact ⟨b, hb⟩
def tb_Slights_mind : List (Nat × Instr × Nat) := [(0, .aload_n 1, 1), (1, .getfield 92, 3), (4, .iconst 1, 1), (5, .if_icmp .ne 8, 3), (8, .iload_n 2, 1), (9, .iconst 2, 1), (10, .if_icmp .ne 7, 3), (13, .iconst 1, 1), (14, .goto 4, 3), (17, .iconst 0, 1), (18, .istore 5, 2), (20, .aload_n 1, 1), (21, .getfield 92, 3), (24, .iconst 2, 1), (25, .if_icmp .eq 16, 3), (28, .aload_n 1, 1), (29, .getfield 92, 3), (32, .iconst 1, 1), (33, .if_icmp .ne 12, 3), (36, .iload_n 2, 1), (37, .iconst 1, 1), (38, .if_icmp .ne 7, 3), (41, .iconst 1, 1), (42, .goto 4, 3), (45, .iconst 0, 1), (46, .istore 6, 2), (48, .aload_n 0, 1), (49, .getfield 15, 3), (52, .iload_n 3, 1), (53, .dup2, 1), (54, .iaload, 1), (55, .iload 5, 2), (57, .ifCond .eq 10, 3), (60, .aload_n 1, 1), (61, .getfield 102, 3), (64, .goto 4, 3), (67, .iconst 0, 1), (68, .iadd, 1), (69, .iastore, 1), (70, .aload_n 0, 1), (71, .getfield 15, 3), (74, .iload 4, 2), (76, .dup2, 1), (77, .iaload, 1), (78, .iload 6, 2), (80, .ifCond .eq 10, 3), (83, .aload_n 1, 1), (84, .getfield 102, 3), (87, .goto 4, 3), (90, .iconst 0, 1), (91, .iadd, 1), (92, .iastore, 1), (93, .return_, 1)]
theorem dt_Slights_mind (i : Nat) (q : Nat × Instr × Nat) (h : tb_Slights_mind[i]? = some q) : decode prog_11_method_6_code q.1 = .ok q.2 := jdt (by decide +kernel : tb_Slights_mind.all (fun q => decide (decode prog_11_method_6_code q.1 = .ok q.2)) = true) h
theorem ok_Slights_mind : jOKV M_Slights_mind 4 := ⟨⟨gt4 165 rfl rfl, gt1 11 rfl rfl, (by decide : "FirstIn$Slights" ≠ "java/lang/invoke/MethodHandle"), (by decide : "FirstIn$Slights" ≠ "java/lang/invoke/VarHandle"), (by decide +kernel : (parseMethodDescriptor "(LFirstIn$Rule;III)V").map (fun d => d.parameters.length) = some 4)⟩, gt4 163 rfl rfl, gt4 164 rfl rfl, rfl, nlt rfl⟩
set_option maxRecDepth 100000 in
set_option maxHeartbeats 4000000 in
theorem c_Slights_mind {G : jG} {S : hS} {V : hV} {v0 : Option Nat} {v1 : Option Nat} {v2 : Int32} {v3 : Int32} {v4 : Int32} {res : hV} (hf : Slights_mind S v0 v1 v2 v3 v4 V = some res) : jC G M_Slights_mind [ar v0, ar v1, ai v2, ai v3, ai v4] (S, V) none (S, res) := by
  unfold Slights_mind at hf
  obtain ⟨_, _, hf⟩ := jbind hf
  refine jC_of (pf_X9 _ _) rfl (nle rfl) ?_
  show jJ G M_Slights_mind (jEnd G M_Slights_mind none (S, res)) 0 0 0 [(0, ar v0), (1, ar v1), (2, ai v2), (3, ai v3), (4, ai v4)] [] (S, V)
  refine j_aload_n (dt_Slights_mind 0 (0, .aload_n 1, 1) rfl) rfl ?_
  obtain ⟨x1, hx1, hf⟩ := jbind hf
  refine j_getI (dt_Slights_mind 1 (1, .getfield 92, 3) rfl) fl_X9_92 hx1 (fun _ _ => rfl) ?_
  refine j_iconst (dt_Slights_mind 2 (4, .iconst 1, 1) rfl) ic_1 ?_
  obtain ⟨j5, hj5, hf⟩ := jbind hf
  have hP5 : jJ G M_Slights_mind (jEnd G M_Slights_mind none (S, res)) 0 0 18 [(0, ar v0), (1, ar v1), (2, ai v2), (3, ai v3), (4, ai v4)] [ai j5] (S, V) := by
    refine j_istore (dt_Slights_mind 10 (18, .istore 5, 2) rfl) (nlt rfl) ?_
    refine j_aload_n (dt_Slights_mind 11 (20, .aload_n 1, 1) rfl) rfl ?_
    obtain ⟨x2, hx2, hf⟩ := jbind hf
    refine j_getI (dt_Slights_mind 12 (21, .getfield 92, 3) rfl) fl_X9_92 hx2 (fun _ _ => rfl) ?_
    refine j_iconst (dt_Slights_mind 13 (24, .iconst 2, 1) rfl) ic_2 ?_
    obtain ⟨j25, hj25, hf⟩ := jbind hf
    have hP25 : jJ G M_Slights_mind (jEnd G M_Slights_mind none (S, res)) 0 0 46 [(0, ar v0), (1, ar v1), (3, ai v3), (4, ai v4), (5, ai j5)] [ai j25] (S, V) := by
      refine j_istore (dt_Slights_mind 25 (46, .istore 6, 2) rfl) (nlt rfl) ?_
      refine j_aload_n (dt_Slights_mind 26 (48, .aload_n 0, 1) rfl) rfl ?_
      obtain ⟨x3, hx3, hf⟩ := jbind hf
      refine j_getR (dt_Slights_mind 27 (49, .getfield 15, 3) rfl) fl_X9_15 hx3 (fun _ _ => rfl) ?_
      refine j_iload_n (dt_Slights_mind 28 (52, .iload_n 3, 1) rfl) rfl ?_
      refine j_dup2 (dt_Slights_mind 29 (53, .dup2, 1) rfl) rfl rfl ?_
      obtain ⟨x4, hx4, hf⟩ := jbind hf
      refine j_aldI (dt_Slights_mind 30 (54, .iaload, 1) rfl) hx4 ?_
      refine j_iload (dt_Slights_mind 31 (55, .iload 5, 2) rfl) rfl ?_
      obtain ⟨j57, hj57, hf⟩ := jbind hf
      have hP57 : jJ G M_Slights_mind (jEnd G M_Slights_mind none (S, res)) 0 0 68 [(0, ar v0), (1, ar v1), (4, ai v4), (6, ai j25)] [ai j57, ai x4, ai v3, ar x3] (S, V) := by
        refine j_iadd (dt_Slights_mind 37 (68, .iadd, 1) rfl) ?_
        obtain ⟨V5, hV5, hf⟩ := jbind hf
        refine j_astI (dt_Slights_mind 38 (69, .iastore, 1) rfl) hV5 ?_
        refine j_aload_n (dt_Slights_mind 39 (70, .aload_n 0, 1) rfl) rfl ?_
        obtain ⟨x6, hx6, hf⟩ := jbind hf
        refine j_getR (dt_Slights_mind 40 (71, .getfield 15, 3) rfl) fl_X9_15 hx6 (fun _ _ => rfl) ?_
        refine j_iload (dt_Slights_mind 41 (74, .iload 4, 2) rfl) rfl ?_
        refine j_dup2 (dt_Slights_mind 42 (76, .dup2, 1) rfl) rfl rfl ?_
        obtain ⟨x7, hx7, hf⟩ := jbind hf
        refine j_aldI (dt_Slights_mind 43 (77, .iaload, 1) rfl) hx7 ?_
        refine j_iload (dt_Slights_mind 44 (78, .iload 6, 2) rfl) rfl ?_
        obtain ⟨j80, hj80, hf⟩ := jbind hf
        have hP80 : jJ G M_Slights_mind (jEnd G M_Slights_mind none (S, res)) 0 0 91 [] [ai j80, ai x7, ai v4, ar x6] (S, V5) := by
          refine j_iadd (dt_Slights_mind 50 (91, .iadd, 1) rfl) ?_
          obtain ⟨V8, hV8, hf⟩ := jbind hf
          refine j_astI (dt_Slights_mind 51 (92, .iastore, 1) rfl) hV8 ?_
          cases hf
          exact j_vret (dt_Slights_mind 52 (93, .return_, 1) rfl) rfl
        refine jite hj80 (fun hc hj80 => ?_) (fun hc hj80 => ?_)
        · refine j_if_eq (dt_Slights_mind 45 (80, .ifCond .eq 10, 3) rfl) rfl (fun _ => ?_) (fun q => absurd hc q)
          refine j_iconst (dt_Slights_mind 49 (90, .iconst 0, 1) rfl) ic_0 ?_
          cases hj80
          exact j_sub rfl hP80
        · refine j_if_eq (dt_Slights_mind 45 (80, .ifCond .eq 10, 3) rfl) rfl (fun q => absurd q hc) (fun _ => ?_)
          refine j_aload_n (dt_Slights_mind 46 (83, .aload_n 1, 1) rfl) rfl ?_
          obtain ⟨x9, hx9, hj80⟩ := jbind hj80
          refine j_getI (dt_Slights_mind 47 (84, .getfield 102, 3) rfl) fl_X9_102 hx9 (fun _ _ => rfl) ?_
          refine j_goto (dt_Slights_mind 48 (87, .goto 4, 3) rfl) rfl ?_
          cases hj80
          exact j_sub rfl hP80
      refine jite hj57 (fun hc hj57 => ?_) (fun hc hj57 => ?_)
      · refine j_if_eq (dt_Slights_mind 32 (57, .ifCond .eq 10, 3) rfl) rfl (fun _ => ?_) (fun q => absurd hc q)
        refine j_iconst (dt_Slights_mind 36 (67, .iconst 0, 1) rfl) ic_0 ?_
        cases hj57
        exact j_sub rfl hP57
      · refine j_if_eq (dt_Slights_mind 32 (57, .ifCond .eq 10, 3) rfl) rfl (fun q => absurd q hc) (fun _ => ?_)
        refine j_aload_n (dt_Slights_mind 33 (60, .aload_n 1, 1) rfl) rfl ?_
        obtain ⟨x10, hx10, hj57⟩ := jbind hj57
        refine j_getI (dt_Slights_mind 34 (61, .getfield 102, 3) rfl) fl_X9_102 hx10 (fun _ _ => rfl) ?_
        refine j_goto (dt_Slights_mind 35 (64, .goto 4, 3) rfl) rfl ?_
        cases hj57
        exact j_sub rfl hP57
    refine jite hj25 (fun hc hj25 => ?_) (fun hc hj25 => ?_)
    · refine j_icmp_eq (dt_Slights_mind 14 (25, .if_icmp .eq 16, 3) rfl) rfl (fun _ => ?_) (fun q => absurd hc q)
      refine j_iconst (dt_Slights_mind 22 (41, .iconst 1, 1) rfl) ic_1 ?_
      refine j_goto (dt_Slights_mind 23 (42, .goto 4, 3) rfl) rfl ?_
      cases hj25
      exact j_sub rfl hP25
    · refine j_icmp_eq (dt_Slights_mind 14 (25, .if_icmp .eq 16, 3) rfl) rfl (fun q => absurd q hc) (fun _ => ?_)
      refine j_aload_n (dt_Slights_mind 15 (28, .aload_n 1, 1) rfl) rfl ?_
      obtain ⟨x11, hx11, hj25⟩ := jbind hj25
      refine j_getI (dt_Slights_mind 16 (29, .getfield 92, 3) rfl) fl_X9_92 hx11 (fun _ _ => rfl) ?_
      refine j_iconst (dt_Slights_mind 17 (32, .iconst 1, 1) rfl) ic_1 ?_
      refine jite hj25 (fun hc hj25 => ?_) (fun hc hj25 => ?_)
      · refine j_icmp_ne (dt_Slights_mind 18 (33, .if_icmp .ne 12, 3) rfl) rfl (fun q => absurd hc q) (fun _ => ?_)
        refine j_iload_n (dt_Slights_mind 19 (36, .iload_n 2, 1) rfl) rfl ?_
        refine j_iconst (dt_Slights_mind 20 (37, .iconst 1, 1) rfl) ic_1 ?_
        refine jite hj25 (fun hc hj25 => ?_) (fun hc hj25 => ?_)
        · refine j_icmp_ne (dt_Slights_mind 21 (38, .if_icmp .ne 7, 3) rfl) rfl (fun q => absurd hc q) (fun _ => ?_)
          refine j_iconst (dt_Slights_mind 22 (41, .iconst 1, 1) rfl) ic_1 ?_
          refine j_goto (dt_Slights_mind 23 (42, .goto 4, 3) rfl) rfl ?_
          cases hj25
          exact j_sub rfl hP25
        · refine j_icmp_ne (dt_Slights_mind 21 (38, .if_icmp .ne 7, 3) rfl) rfl (fun _ => ?_) (fun q => absurd q hc)
          refine j_iconst (dt_Slights_mind 24 (45, .iconst 0, 1) rfl) ic_0 ?_
          cases hj25
          exact j_sub rfl hP25
      · refine j_icmp_ne (dt_Slights_mind 18 (33, .if_icmp .ne 12, 3) rfl) rfl (fun _ => ?_) (fun q => absurd q hc)
        refine j_iconst (dt_Slights_mind 24 (45, .iconst 0, 1) rfl) ic_0 ?_
        cases hj25
        exact j_sub rfl hP25
  refine jite hj5 (fun hc hj5 => ?_) (fun hc hj5 => ?_)
  · refine j_icmp_ne (dt_Slights_mind 3 (5, .if_icmp .ne 8, 3) rfl) rfl (fun q => absurd hc q) (fun _ => ?_)
    refine j_iload_n (dt_Slights_mind 4 (8, .iload_n 2, 1) rfl) rfl ?_
    refine j_iconst (dt_Slights_mind 5 (9, .iconst 2, 1) rfl) ic_2 ?_
    refine jite hj5 (fun hc hj5 => ?_) (fun hc hj5 => ?_)
    · refine j_icmp_ne (dt_Slights_mind 6 (10, .if_icmp .ne 7, 3) rfl) rfl (fun q => absurd hc q) (fun _ => ?_)
      refine j_iconst (dt_Slights_mind 7 (13, .iconst 1, 1) rfl) ic_1 ?_
      refine j_goto (dt_Slights_mind 8 (14, .goto 4, 3) rfl) rfl ?_
      cases hj5
      exact j_sub rfl hP5
    · refine j_icmp_ne (dt_Slights_mind 6 (10, .if_icmp .ne 7, 3) rfl) rfl (fun _ => ?_) (fun q => absurd q hc)
      refine j_iconst (dt_Slights_mind 9 (17, .iconst 0, 1) rfl) ic_0 ?_
      cases hj5
      exact j_sub rfl hP5
  · refine j_icmp_ne (dt_Slights_mind 3 (5, .if_icmp .ne 8, 3) rfl) rfl (fun _ => ?_) (fun q => absurd q hc)
    refine j_iconst (dt_Slights_mind 7 (13, .iconst 1, 1) rfl) ic_1 ?_
    refine j_goto (dt_Slights_mind 8 (14, .goto 4, 3) rfl) rfl ?_
    cases hj5
    exact j_sub rfl hP5
theorem r_Slights_mind {S : hS} {V : hV} {v0 : Option Nat} {v1 : Option Nat} {v2 : Int32} {v3 : Int32} {v4 : Int32} {res : hV} (hf : Slights_mind S v0 v1 v2 v3 v4 V = some res) : ∃ b, rc S 9 v0 = some b := by
  unfold Slights_mind at hf
  obtain ⟨b, hb, _⟩ := jbind hf
  exact ⟨b, hb⟩
def tb_Slights_note : List (Nat × Instr × Nat) := [(0, .aload_n 0, 1), (1, .getfield 22, 3), (4, .aload_n 0, 1), (5, .getfield 28, 3), (8, .if_icmp .ne 19, 3), (11, .aload_n 0, 1), (12, .iload_n 1, 1), (13, .putfield 31, 3), (16, .aload_n 0, 1), (17, .iload_n 3, 1), (18, .putfield 34, 3), (21, .aload_n 0, 1), (22, .iload 4, 2), (24, .putfield 37, 3), (27, .aload_n 0, 1), (28, .dup, 1), (29, .getfield 22, 3), (32, .iconst 1, 1), (33, .iadd, 1), (34, .putfield 22, 3), (37, .aload_n 0, 1), (38, .dup, 1), (39, .getfield 18, 3), (42, .iload_n 2, 1), (43, .iadd, 1), (44, .putfield 18, 3), (47, .aload_n 0, 1), (48, .aload_n 0, 1), (49, .getfield 25, 3), (52, .iload_n 2, 1), (53, .invokestatic 111, 3), (56, .putfield 25, 3), (59, .return_, 1)]
theorem dt_Slights_note (i : Nat) (q : Nat × Instr × Nat) (h : tb_Slights_note[i]? = some q) : decode prog_11_method_5_code q.1 = .ok q.2 := jdt (by decide +kernel : tb_Slights_note.all (fun q => decide (decode prog_11_method_5_code q.1 = .ok q.2)) = true) h
theorem ok_Slights_note : jOKV M_Slights_note 4 := ⟨⟨gt4 158 rfl rfl, gt1 11 rfl rfl, (by decide : "FirstIn$Slights" ≠ "java/lang/invoke/MethodHandle"), (by decide : "FirstIn$Slights" ≠ "java/lang/invoke/VarHandle"), (by decide +kernel : (parseMethodDescriptor "(IIII)V").map (fun d => d.parameters.length) = some 4)⟩, gt4 156 rfl rfl, gt4 157 rfl rfl, rfl, nlt rfl⟩
set_option maxRecDepth 100000 in
set_option maxHeartbeats 4000000 in
theorem c_Slights_note {G : jG} {S : hS} {V : hV} {v0 : Option Nat} {v1 : Int32} {v2 : Int32} {v3 : Int32} {v4 : Int32} {res : hV} (hf : Slights_note S v0 v1 v2 v3 v4 V = some res) : jC G M_Slights_note [ar v0, ai v1, ai v2, ai v3, ai v4] (S, V) none (S, res) := by
  unfold Slights_note at hf
  obtain ⟨_, _, hf⟩ := jbind hf
  refine jC_of (pf_X9 _ _) rfl (nle rfl) ?_
  show jJ G M_Slights_note (jEnd G M_Slights_note none (S, res)) 0 0 0 [(0, ar v0), (1, ai v1), (2, ai v2), (3, ai v3), (4, ai v4)] [] (S, V)
  refine j_aload_n (dt_Slights_note 0 (0, .aload_n 0, 1) rfl) rfl ?_
  obtain ⟨x1, hx1, hf⟩ := jbind hf
  refine j_getI (dt_Slights_note 1 (1, .getfield 22, 3) rfl) fl_X9_22 hx1 (fun _ _ => rfl) ?_
  refine j_aload_n (dt_Slights_note 2 (4, .aload_n 0, 1) rfl) rfl ?_
  obtain ⟨x2, hx2, hf⟩ := jbind hf
  refine j_getI (dt_Slights_note 3 (5, .getfield 28, 3) rfl) fl_X9_28 hx2 (fun _ _ => rfl) ?_
  obtain ⟨j8, hj8, hf⟩ := jbind hf
  have hP8 : jJ G M_Slights_note (jEnd G M_Slights_note none (S, res)) 0 0 27 [(0, ar v0), (2, ai v2)] [] (S, j8) := by
    refine j_aload_n (dt_Slights_note 14 (27, .aload_n 0, 1) rfl) rfl ?_
    refine j_dup (dt_Slights_note 15 (28, .dup, 1) rfl) rfl ?_
    obtain ⟨x3, hx3, hf⟩ := jbind hf
    refine j_getI (dt_Slights_note 16 (29, .getfield 22, 3) rfl) fl_X9_22 hx3 (fun _ _ => rfl) ?_
    refine j_iconst (dt_Slights_note 17 (32, .iconst 1, 1) rfl) ic_1 ?_
    refine j_iadd (dt_Slights_note 18 (33, .iadd, 1) rfl) ?_
    obtain ⟨V4, hV4, hf⟩ := jbind hf
    refine j_putI (dt_Slights_note 19 (34, .putfield 22, 3) rfl) fl_X9_22 hV4 rfl (Or.inl rfl) ?_
    refine j_aload_n (dt_Slights_note 20 (37, .aload_n 0, 1) rfl) rfl ?_
    refine j_dup (dt_Slights_note 21 (38, .dup, 1) rfl) rfl ?_
    obtain ⟨x5, hx5, hf⟩ := jbind hf
    refine j_getI (dt_Slights_note 22 (39, .getfield 18, 3) rfl) fl_X9_18 hx5 (fun _ _ => rfl) ?_
    refine j_iload_n (dt_Slights_note 23 (42, .iload_n 2, 1) rfl) rfl ?_
    refine j_iadd (dt_Slights_note 24 (43, .iadd, 1) rfl) ?_
    obtain ⟨V6, hV6, hf⟩ := jbind hf
    refine j_putI (dt_Slights_note 25 (44, .putfield 18, 3) rfl) fl_X9_18 hV6 rfl (Or.inl rfl) ?_
    refine j_aload_n (dt_Slights_note 26 (47, .aload_n 0, 1) rfl) rfl ?_
    refine j_aload_n (dt_Slights_note 27 (48, .aload_n 0, 1) rfl) rfl ?_
    obtain ⟨x7, hx7, hf⟩ := jbind hf
    refine j_getI (dt_Slights_note 28 (49, .getfield 25, 3) rfl) fl_X9_25 hx7 (fun _ _ => rfl) ?_
    refine j_iload_n (dt_Slights_note 29 (52, .iload_n 2, 1) rfl) rfl ?_
    refine j_callS M_Jd_max 2 [ai x7, ai v2] (rest := [ar v0]) (dt_Slights_note 30 (53, .invokestatic 111, 3) rfl) ml_X9_111 ok_Jd_max (jfit rfl rfl ⟨rfl, rfl⟩ (nle rfl) (nlt rfl)) rfl rfl (nle rfl) ⟨rfl, rfl⟩ (c_Jd_max rfl) ?_
    obtain ⟨V8, hV8, hf⟩ := jbind hf
    refine j_putI (dt_Slights_note 31 (56, .putfield 25, 3) rfl) fl_X9_25 hV8 rfl (Or.inl rfl) ?_
    cases hf
    exact j_vret (dt_Slights_note 32 (59, .return_, 1) rfl) rfl
  refine jite hj8 (fun hc hj8 => ?_) (fun hc hj8 => ?_)
  · refine j_icmp_ne (dt_Slights_note 4 (8, .if_icmp .ne 19, 3) rfl) rfl (fun q => absurd hc q) (fun _ => ?_)
    refine j_aload_n (dt_Slights_note 5 (11, .aload_n 0, 1) rfl) rfl ?_
    refine j_iload_n (dt_Slights_note 6 (12, .iload_n 1, 1) rfl) rfl ?_
    obtain ⟨V9, hV9, hj8⟩ := jbind hj8
    refine j_putI (dt_Slights_note 7 (13, .putfield 31, 3) rfl) fl_X9_31 hV9 rfl (Or.inl rfl) ?_
    refine j_aload_n (dt_Slights_note 8 (16, .aload_n 0, 1) rfl) rfl ?_
    refine j_iload_n (dt_Slights_note 9 (17, .iload_n 3, 1) rfl) rfl ?_
    obtain ⟨V10, hV10, hj8⟩ := jbind hj8
    refine j_putI (dt_Slights_note 10 (18, .putfield 34, 3) rfl) fl_X9_34 hV10 rfl (Or.inl rfl) ?_
    refine j_aload_n (dt_Slights_note 11 (21, .aload_n 0, 1) rfl) rfl ?_
    refine j_iload (dt_Slights_note 12 (22, .iload 4, 2) rfl) rfl ?_
    obtain ⟨V11, hV11, hj8⟩ := jbind hj8
    refine j_putI (dt_Slights_note 13 (24, .putfield 37, 3) rfl) fl_X9_37 hV11 rfl (Or.inl rfl) ?_
    cases hj8
    exact j_sub rfl hP8
  · refine j_icmp_ne (dt_Slights_note 4 (8, .if_icmp .ne 19, 3) rfl) rfl (fun _ => ?_) (fun q => absurd q hc)
    cases hj8
    exact j_sub rfl hP8
theorem r_Slights_note {S : hS} {V : hV} {v0 : Option Nat} {v1 : Int32} {v2 : Int32} {v3 : Int32} {v4 : Int32} {res : hV} (hf : Slights_note S v0 v1 v2 v3 v4 V = some res) : ∃ b, rc S 9 v0 = some b := by
  unfold Slights_note at hf
  obtain ⟨b, hb, _⟩ := jbind hf
  exact ⟨b, hb⟩
def tb_Slights_tellRule : List (Nat × Instr × Nat) := [(0, .iconst 0, 1), (1, .istore 5, 2), (3, .iload 5, 2), (5, .bipush 10, 2), (7, .if_icmp .ge 160, 3), (10, .iconst 0, 1), (11, .istore 6, 2), (13, .iload 6, 2), (15, .bipush 10, 2), (17, .if_icmp .ge 144, 3), (20, .aload_n 1, 1), (21, .getfield 81, 3), (24, .iload 5, 2), (26, .iaload, 1), (27, .ifCond .eq 134, 3), (30, .aload_n 0, 1), (31, .getfield 9, 3), (34, .iload 5, 2), (36, .iaload, 1), (37, .iconst (-1), 1), (38, .if_icmp .eq 18, 3), (41, .aload_n 0, 1), (42, .getfield 9, 3), (45, .iload 6, 2), (47, .iaload, 1), (48, .iconst (-1), 1), (49, .if_icmp .eq 7, 3), (52, .iconst 1, 1), (53, .goto 4, 3), (56, .iconst 0, 1), (57, .istore 7, 2), (59, .iload 7, 2), (61, .ifCond .eq 94, 3), (64, .aload_n 1, 1), (65, .getfield 81, 3), (68, .iload 5, 2), (70, .iaload, 1), (71, .iload 6, 2), (73, .invokestatic 84, 3), (76, .ifCond .eq 79, 3), (79, .aload_n 3, 1), (80, .iload 4, 2), (82, .aload_n 0, 1), (83, .getfield 9, 3), (86, .iload 5, 2), (88, .iaload, 1), (89, .aload_n 0, 1), (90, .getfield 9, 3), (93, .iload 6, 2), (95, .iaload, 1), (96, .invokevirtual 88, 3), (99, .istore 8, 2), (101, .aload_n 1, 1), (102, .getfield 92, 3), (105, .iload 8, 2), (107, .aload_n 3, 1), (108, .aload_n 0, 1), (109, .getfield 9, 3), (112, .iload 5, 2), (114, .iaload, 1), (115, .aload_n 0, 1), (116, .getfield 9, 3), (119, .iload 6, 2), (121, .iaload, 1), (122, .invokevirtual 95, 3), (125, .invokestatic 98, 3), (128, .ifCond .eq 27, 3), (131, .aload_n 0, 1), (132, .iload_n 2, 1), (133, .aload_n 1, 1), (134, .getfield 102, 3), (137, .iload 5, 2), (139, .iload 6, 2), (141, .invokevirtual 103, 3), (144, .aload_n 0, 1), (145, .aload_n 1, 1), (146, .iload 8, 2), (148, .iload 5, 2), (150, .iload 6, 2), (152, .invokevirtual 107, 3), (155, .iinc 6 1, 3), (158, .goto (-145), 3), (161, .iinc 5 1, 3), (164, .goto (-161), 3), (167, .return_, 1)]
theorem dt_Slights_tellRule (i : Nat) (q : Nat × Instr × Nat) (h : tb_Slights_tellRule[i]? = some q) : decode prog_11_method_4_code q.1 = .ok q.2 := jdt (by decide +kernel : tb_Slights_tellRule.all (fun q => decide (decode prog_11_method_4_code q.1 = .ok q.2)) = true) h
theorem ok_Slights_tellRule : jOKV M_Slights_tellRule 4 := ⟨⟨gt4 142 rfl rfl, gt1 11 rfl rfl, (by decide : "FirstIn$Slights" ≠ "java/lang/invoke/MethodHandle"), (by decide : "FirstIn$Slights" ≠ "java/lang/invoke/VarHandle"), (by decide +kernel : (parseMethodDescriptor "(LFirstIn$Rule;ILFirstIn$Room;I)V").map (fun d => d.parameters.length) = some 4)⟩, gt4 140 rfl rfl, gt4 141 rfl rfl, rfl, nlt rfl⟩
set_option maxRecDepth 100000 in
set_option maxHeartbeats 4000000 in
theorem c_Slights_tellRule {G : jG} {S : hS} {V : hV} {v0 : Option Nat} {v1 : Option Nat} {v2 : Int32} {v3 : Option Nat} {v4 : Int32} {res : hV} (hf : Slights_tellRule S v0 v1 v2 v3 v4 V = some res) : jC G M_Slights_tellRule [ar v0, ar v1, ai v2, ar v3, ai v4] (S, V) none (S, res) := by
  unfold Slights_tellRule at hf
  obtain ⟨_, _, hf⟩ := jbind hf
  refine jC_of (pf_X9 _ _) rfl (nle rfl) ?_
  show jJ G M_Slights_tellRule (jEnd G M_Slights_tellRule none (S, res)) 0 0 0 [(0, ar v0), (1, ar v1), (2, ai v2), (3, ar v3), (4, ai v4)] [] (S, V)
  refine j_iconst (dt_Slights_tellRule 0 (0, .iconst 0, 1) rfl) ic_0 ?_
  refine j_istore (dt_Slights_tellRule 1 (1, .istore 5, 2) rfl) (nlt rfl) ?_
  obtain ⟨t3, ht3, hf⟩ := jbind hf
  have hX3 : ∀ q3 : hV, q3 = t3 → jJ G M_Slights_tellRule (jEnd G M_Slights_tellRule none (S, res)) 0 0 167 [] [] (S, q3) := by
    intro q3 hq3
    subst hq3
    cases hf
    exact j_vret (dt_Slights_tellRule 84 (167, .return_, 1) rfl) rfl
  refine j_sub (ls' := [(0, ar v0), (1, ar v1), (2, ai v2), (3, ar v3), (4, ai v4), (5, ai 0)]) rfl ?_
  refine jloop_J (C := fun s3 => jJ G M_Slights_tellRule (jEnd G M_Slights_tellRule none (S, res)) 0 0 3 [(0, ar v0), (1, ar v1), (2, ai v2), (3, ar v3), (4, ai v4), (5, ai s3.1)] [] (S, s3.2)) (fun s3 z3_ hy3 hin3 hout3 => ?_) _ _ ht3
  unfold Slights_tellRule_L3 at hy3
  refine j_iload (dt_Slights_tellRule 2 (3, .iload 5, 2) rfl) rfl ?_
  refine j_bipush (dt_Slights_tellRule 3 (5, .bipush 10, 2) rfl) bp_10 ?_
  refine jite hy3 (fun hc hy3 => ?_) (fun hc hy3 => ?_)
  · refine j_icmp_ge (dt_Slights_tellRule 4 (7, .if_icmp .ge 160, 3) rfl) rfl (fun _ => ?_) (fun q => absurd hc q)
    cases hy3
    have hz := hX3 _ (hout3 _ rfl)
    exact j_sub rfl hz
  · refine j_icmp_ge (dt_Slights_tellRule 4 (7, .if_icmp .ge 160, 3) rfl) rfl (fun q => absurd q hc) (fun _ => ?_)
    refine j_iconst (dt_Slights_tellRule 5 (10, .iconst 0, 1) rfl) ic_0 ?_
    refine j_istore (dt_Slights_tellRule 6 (11, .istore 6, 2) rfl) (nlt rfl) ?_
    obtain ⟨t13, ht13, hy3⟩ := jbind hy3
    have hX13 : ∀ q13 : hV, q13 = t13 → jJ G M_Slights_tellRule (jEnd G M_Slights_tellRule none (S, res)) 0 0 161 [(0, ar v0), (1, ar v1), (2, ai v2), (3, ar v3), (4, ai v4), (5, ai s3.1)] [] (S, q13) := by
      intro q13 hq13
      subst hq13
      refine j_iinc (dt_Slights_tellRule 82 (161, .iinc 5 1, 3) rfl) rfl (nlt rfl) (ii_1 _) ?_
      refine j_goto (dt_Slights_tellRule 83 (164, .goto (-161), 3) rfl) rfl ?_
      cases hy3
      have hz := hin3 _ rfl
      exact j_sub rfl hz
    refine j_sub (ls' := [(0, ar v0), (1, ar v1), (2, ai v2), (3, ar v3), (4, ai v4), (5, ai s3.1), (6, ai 0)]) rfl ?_
    refine jloop_J (C := fun s13 => jJ G M_Slights_tellRule (jEnd G M_Slights_tellRule none (S, res)) 0 0 13 [(0, ar v0), (1, ar v1), (2, ai v2), (3, ar v3), (4, ai v4), (5, ai s3.1), (6, ai s13.1)] [] (S, s13.2)) (fun s13 z13_ hy13 hin13 hout13 => ?_) _ _ ht13
    unfold Slights_tellRule_L13 at hy13
    refine j_iload (dt_Slights_tellRule 7 (13, .iload 6, 2) rfl) rfl ?_
    refine j_bipush (dt_Slights_tellRule 8 (15, .bipush 10, 2) rfl) bp_10 ?_
    refine jite hy13 (fun hc hy13 => ?_) (fun hc hy13 => ?_)
    · refine j_icmp_ge (dt_Slights_tellRule 9 (17, .if_icmp .ge 144, 3) rfl) rfl (fun _ => ?_) (fun q => absurd hc q)
      cases hy13
      have hz := hX13 _ (hout13 _ rfl)
      exact j_sub rfl hz
    · refine j_icmp_ge (dt_Slights_tellRule 9 (17, .if_icmp .ge 144, 3) rfl) rfl (fun q => absurd q hc) (fun _ => ?_)
      refine j_aload_n (dt_Slights_tellRule 10 (20, .aload_n 1, 1) rfl) rfl ?_
      obtain ⟨x1, hx1, hy13⟩ := jbind hy13
      refine j_getR (dt_Slights_tellRule 11 (21, .getfield 81, 3) rfl) fl_X9_81 hx1 (fun _ _ => rfl) ?_
      refine j_iload (dt_Slights_tellRule 12 (24, .iload 5, 2) rfl) rfl ?_
      obtain ⟨x2, hx2, hy13⟩ := jbind hy13
      refine j_aldI (dt_Slights_tellRule 13 (26, .iaload, 1) rfl) hx2 ?_
      refine jite hy13 (fun hc hy13 => ?_) (fun hc hy13 => ?_)
      · refine j_if_eq (dt_Slights_tellRule 14 (27, .ifCond .eq 134, 3) rfl) rfl (fun _ => ?_) (fun q => absurd hc q)
        cases hy13
        have hz := hX13 _ (hout13 _ rfl)
        exact j_sub rfl hz
      · refine j_if_eq (dt_Slights_tellRule 14 (27, .ifCond .eq 134, 3) rfl) rfl (fun q => absurd q hc) (fun _ => ?_)
        refine j_aload_n (dt_Slights_tellRule 15 (30, .aload_n 0, 1) rfl) rfl ?_
        obtain ⟨x3, hx3, hy13⟩ := jbind hy13
        refine j_getR (dt_Slights_tellRule 16 (31, .getfield 9, 3) rfl) fl_X9_9 hx3 (fun _ _ => rfl) ?_
        refine j_iload (dt_Slights_tellRule 17 (34, .iload 5, 2) rfl) rfl ?_
        obtain ⟨x4, hx4, hy13⟩ := jbind hy13
        refine j_aldI (dt_Slights_tellRule 18 (36, .iaload, 1) rfl) hx4 ?_
        refine j_iconst (dt_Slights_tellRule 19 (37, .iconst (-1), 1) rfl) ic_m1 ?_
        obtain ⟨j38, hj38, hy13⟩ := jbind hy13
        have hP38 : jJ G M_Slights_tellRule (jEnd G M_Slights_tellRule none (S, res)) 0 0 57 [(0, ar v0), (1, ar v1), (2, ai v2), (3, ar v3), (4, ai v4), (5, ai s3.1), (6, ai s13.1)] [ai j38] (S, s13.2) := by
          refine j_istore (dt_Slights_tellRule 30 (57, .istore 7, 2) rfl) (nlt rfl) ?_
          refine j_iload (dt_Slights_tellRule 31 (59, .iload 7, 2) rfl) rfl ?_
          refine jite hy13 (fun hc hy13 => ?_) (fun hc hy13 => ?_)
          · refine j_if_eq (dt_Slights_tellRule 32 (61, .ifCond .eq 94, 3) rfl) rfl (fun _ => ?_) (fun q => absurd hc q)
            refine j_iinc (dt_Slights_tellRule 80 (155, .iinc 6 1, 3) rfl) rfl (nlt rfl) (ii_1 _) ?_
            refine j_goto (dt_Slights_tellRule 81 (158, .goto (-145), 3) rfl) rfl ?_
            cases hy13
            have hz := hin13 _ rfl
            exact j_sub rfl hz
          · refine j_if_eq (dt_Slights_tellRule 32 (61, .ifCond .eq 94, 3) rfl) rfl (fun q => absurd q hc) (fun _ => ?_)
            refine j_aload_n (dt_Slights_tellRule 33 (64, .aload_n 1, 1) rfl) rfl ?_
            obtain ⟨x5, hx5, hy13⟩ := jbind hy13
            refine j_getR (dt_Slights_tellRule 34 (65, .getfield 81, 3) rfl) fl_X9_81 hx5 (fun _ _ => rfl) ?_
            refine j_iload (dt_Slights_tellRule 35 (68, .iload 5, 2) rfl) rfl ?_
            obtain ⟨x6, hx6, hy13⟩ := jbind hy13
            refine j_aldI (dt_Slights_tellRule 36 (70, .iaload, 1) rfl) hx6 ?_
            refine j_iload (dt_Slights_tellRule 37 (71, .iload 6, 2) rfl) rfl ?_
            refine j_callSN M_Fi_has 2 [ai x6, ai s13.1] (rest := []) (dt_Slights_tellRule 38 (73, .invokestatic 84, 3) rfl) ml_X9_84 ok_Fi_has (jfit rfl rfl ⟨rfl, rfl⟩ (nle rfl) (nlt rfl)) rfl rfl (nle rfl) ⟨rfl, rfl⟩ (c_Fi_has rfl) ?_
            refine jite hy13 (fun hc hy13 => ?_) (fun hc hy13 => ?_)
            · refine j_if_eq (dt_Slights_tellRule 39 (76, .ifCond .eq 79, 3) rfl) rfl (fun _ => ?_) (fun q => absurd hc q)
              refine j_iinc (dt_Slights_tellRule 80 (155, .iinc 6 1, 3) rfl) rfl (nlt rfl) (ii_1 _) ?_
              refine j_goto (dt_Slights_tellRule 81 (158, .goto (-145), 3) rfl) rfl ?_
              cases hy13
              have hz := hin13 _ rfl
              exact j_sub rfl hz
            · refine j_if_eq (dt_Slights_tellRule 39 (76, .ifCond .eq 79, 3) rfl) rfl (fun q => absurd q hc) (fun _ => ?_)
              refine j_aload_n (dt_Slights_tellRule 40 (79, .aload_n 3, 1) rfl) rfl ?_
              refine j_iload (dt_Slights_tellRule 41 (80, .iload 4, 2) rfl) rfl ?_
              refine j_aload_n (dt_Slights_tellRule 42 (82, .aload_n 0, 1) rfl) rfl ?_
              obtain ⟨x7, hx7, hy13⟩ := jbind hy13
              refine j_getR (dt_Slights_tellRule 43 (83, .getfield 9, 3) rfl) fl_X9_9 hx7 (fun _ _ => rfl) ?_
              refine j_iload (dt_Slights_tellRule 44 (86, .iload 5, 2) rfl) rfl ?_
              obtain ⟨x8, hx8, hy13⟩ := jbind hy13
              refine j_aldI (dt_Slights_tellRule 45 (88, .iaload, 1) rfl) hx8 ?_
              refine j_aload_n (dt_Slights_tellRule 46 (89, .aload_n 0, 1) rfl) rfl ?_
              obtain ⟨x9, hx9, hy13⟩ := jbind hy13
              refine j_getR (dt_Slights_tellRule 47 (90, .getfield 9, 3) rfl) fl_X9_9 hx9 (fun _ _ => rfl) ?_
              refine j_iload (dt_Slights_tellRule 48 (93, .iload 6, 2) rfl) rfl ?_
              obtain ⟨x10, hx10, hy13⟩ := jbind hy13
              refine j_aldI (dt_Slights_tellRule 49 (95, .iaload, 1) rfl) hx10 ?_
              obtain ⟨x11, hx11, hy13⟩ := jbind hy13
              obtain ⟨b12, hb12⟩ := r_Room_higherOf hx11
              refine j_callV M_Room_higherOf 3 [ai v4, ai x8, ai x10] (rest := []) (dt_Slights_tellRule 50 (96, .invokevirtual 88, 3) rfl) ml_X9_88 ok_Room_higherOf (jfit rfl rfl ⟨rfl, rfl⟩ (nle rfl) (nlt rfl)) rfl rfl (nle rfl) ⟨rfl, rfl⟩ hb12 ((c_Room_higherOf hx11)) ?_
              refine j_istore (dt_Slights_tellRule 51 (99, .istore 8, 2) rfl) (nlt rfl) ?_
              refine j_aload_n (dt_Slights_tellRule 52 (101, .aload_n 1, 1) rfl) rfl ?_
              obtain ⟨x13, hx13, hy13⟩ := jbind hy13
              refine j_getI (dt_Slights_tellRule 53 (102, .getfield 92, 3) rfl) fl_X9_92 hx13 (fun _ _ => rfl) ?_
              refine j_iload (dt_Slights_tellRule 54 (105, .iload 8, 2) rfl) rfl ?_
              refine j_aload_n (dt_Slights_tellRule 55 (107, .aload_n 3, 1) rfl) rfl ?_
              refine j_aload_n (dt_Slights_tellRule 56 (108, .aload_n 0, 1) rfl) rfl ?_
              obtain ⟨x14, hx14, hy13⟩ := jbind hy13
              refine j_getR (dt_Slights_tellRule 57 (109, .getfield 9, 3) rfl) fl_X9_9 hx14 (fun _ _ => rfl) ?_
              refine j_iload (dt_Slights_tellRule 58 (112, .iload 5, 2) rfl) rfl ?_
              obtain ⟨x15, hx15, hy13⟩ := jbind hy13
              refine j_aldI (dt_Slights_tellRule 59 (114, .iaload, 1) rfl) hx15 ?_
              refine j_aload_n (dt_Slights_tellRule 60 (115, .aload_n 0, 1) rfl) rfl ?_
              obtain ⟨x16, hx16, hy13⟩ := jbind hy13
              refine j_getR (dt_Slights_tellRule 61 (116, .getfield 9, 3) rfl) fl_X9_9 hx16 (fun _ _ => rfl) ?_
              refine j_iload (dt_Slights_tellRule 62 (119, .iload 6, 2) rfl) rfl ?_
              obtain ⟨x17, hx17, hy13⟩ := jbind hy13
              refine j_aldI (dt_Slights_tellRule 63 (121, .iaload, 1) rfl) hx17 ?_
              obtain ⟨x18, hx18, hy13⟩ := jbind hy13
              obtain ⟨b19, hb19⟩ := r_Room_areBeside hx18
              refine j_callV M_Room_areBeside 2 [ai x15, ai x17] (rest := [ai x11, ai x13]) (dt_Slights_tellRule 64 (122, .invokevirtual 95, 3) rfl) ml_X9_95 ok_Room_areBeside (jfit rfl rfl ⟨rfl, rfl⟩ (nle rfl) (nlt rfl)) rfl rfl (nle rfl) ⟨rfl, rfl⟩ hb19 ((c_Room_areBeside hx18)) ?_
              refine j_callSN M_Fi_isSlight 3 [ai x13, ai x11, ai x18] (rest := []) (dt_Slights_tellRule 65 (125, .invokestatic 98, 3) rfl) ml_X9_98 ok_Fi_isSlight (jfit rfl rfl ⟨rfl, rfl⟩ (nle rfl) (nlt rfl)) rfl rfl (nle rfl) ⟨rfl, rfl⟩ (c_Fi_isSlight rfl) ?_
              refine jite hy13 (fun hc hy13 => ?_) (fun hc hy13 => ?_)
              · refine j_if_eq (dt_Slights_tellRule 66 (128, .ifCond .eq 27, 3) rfl) rfl (fun _ => ?_) (fun q => absurd hc q)
                refine j_iinc (dt_Slights_tellRule 80 (155, .iinc 6 1, 3) rfl) rfl (nlt rfl) (ii_1 _) ?_
                refine j_goto (dt_Slights_tellRule 81 (158, .goto (-145), 3) rfl) rfl ?_
                cases hy13
                have hz := hin13 _ rfl
                exact j_sub rfl hz
              · refine j_if_eq (dt_Slights_tellRule 66 (128, .ifCond .eq 27, 3) rfl) rfl (fun q => absurd q hc) (fun _ => ?_)
                refine j_aload_n (dt_Slights_tellRule 67 (131, .aload_n 0, 1) rfl) rfl ?_
                refine j_iload_n (dt_Slights_tellRule 68 (132, .iload_n 2, 1) rfl) rfl ?_
                refine j_aload_n (dt_Slights_tellRule 69 (133, .aload_n 1, 1) rfl) rfl ?_
                obtain ⟨x20, hx20, hy13⟩ := jbind hy13
                refine j_getI (dt_Slights_tellRule 70 (134, .getfield 102, 3) rfl) fl_X9_102 hx20 (fun _ _ => rfl) ?_
                refine j_iload (dt_Slights_tellRule 71 (137, .iload 5, 2) rfl) rfl ?_
                refine j_iload (dt_Slights_tellRule 72 (139, .iload 6, 2) rfl) rfl ?_
                obtain ⟨V21, hV21, hy13⟩ := jbind hy13
                obtain ⟨b22, hb22⟩ := r_Slights_note hV21
                refine j_callV M_Slights_note 4 [ai v2, ai x20, ai s3.1, ai s13.1] (rest := []) (dt_Slights_tellRule 73 (141, .invokevirtual 103, 3) rfl) ml_X9_103 ok_Slights_note (jfit rfl rfl ⟨rfl, rfl⟩ (nle rfl) (nlt rfl)) rfl rfl (nle rfl) ⟨rfl, rfl⟩ hb22 ((c_Slights_note hV21)) ?_
                refine j_aload_n (dt_Slights_tellRule 74 (144, .aload_n 0, 1) rfl) rfl ?_
                refine j_aload_n (dt_Slights_tellRule 75 (145, .aload_n 1, 1) rfl) rfl ?_
                refine j_iload (dt_Slights_tellRule 76 (146, .iload 8, 2) rfl) rfl ?_
                refine j_iload (dt_Slights_tellRule 77 (148, .iload 5, 2) rfl) rfl ?_
                refine j_iload (dt_Slights_tellRule 78 (150, .iload 6, 2) rfl) rfl ?_
                obtain ⟨V23, hV23, hy13⟩ := jbind hy13
                obtain ⟨b24, hb24⟩ := r_Slights_mind hV23
                refine j_callV M_Slights_mind 4 [ar v1, ai x11, ai s3.1, ai s13.1] (rest := []) (dt_Slights_tellRule 79 (152, .invokevirtual 107, 3) rfl) ml_X9_107 ok_Slights_mind (jfit rfl rfl ⟨rfl, rfl⟩ (nle rfl) (nlt rfl)) rfl rfl (nle rfl) ⟨rfl, rfl⟩ hb24 ((c_Slights_mind hV23)) ?_
                refine j_iinc (dt_Slights_tellRule 80 (155, .iinc 6 1, 3) rfl) rfl (nlt rfl) (ii_1 _) ?_
                refine j_goto (dt_Slights_tellRule 81 (158, .goto (-145), 3) rfl) rfl ?_
                cases hy13
                have hz := hin13 _ rfl
                exact j_sub rfl hz
        refine jite hj38 (fun hc hj38 => ?_) (fun hc hj38 => ?_)
        · refine j_icmp_eq (dt_Slights_tellRule 20 (38, .if_icmp .eq 18, 3) rfl) rfl (fun _ => ?_) (fun q => absurd hc q)
          refine j_iconst (dt_Slights_tellRule 29 (56, .iconst 0, 1) rfl) ic_0 ?_
          cases hj38
          exact j_sub rfl hP38
        · refine j_icmp_eq (dt_Slights_tellRule 20 (38, .if_icmp .eq 18, 3) rfl) rfl (fun q => absurd q hc) (fun _ => ?_)
          refine j_aload_n (dt_Slights_tellRule 21 (41, .aload_n 0, 1) rfl) rfl ?_
          obtain ⟨x25, hx25, hj38⟩ := jbind hj38
          refine j_getR (dt_Slights_tellRule 22 (42, .getfield 9, 3) rfl) fl_X9_9 hx25 (fun _ _ => rfl) ?_
          refine j_iload (dt_Slights_tellRule 23 (45, .iload 6, 2) rfl) rfl ?_
          obtain ⟨x26, hx26, hj38⟩ := jbind hj38
          refine j_aldI (dt_Slights_tellRule 24 (47, .iaload, 1) rfl) hx26 ?_
          refine j_iconst (dt_Slights_tellRule 25 (48, .iconst (-1), 1) rfl) ic_m1 ?_
          refine jite hj38 (fun hc hj38 => ?_) (fun hc hj38 => ?_)
          · refine j_icmp_eq (dt_Slights_tellRule 26 (49, .if_icmp .eq 7, 3) rfl) rfl (fun _ => ?_) (fun q => absurd hc q)
            refine j_iconst (dt_Slights_tellRule 29 (56, .iconst 0, 1) rfl) ic_0 ?_
            cases hj38
            exact j_sub rfl hP38
          · refine j_icmp_eq (dt_Slights_tellRule 26 (49, .if_icmp .eq 7, 3) rfl) rfl (fun q => absurd q hc) (fun _ => ?_)
            refine j_iconst (dt_Slights_tellRule 27 (52, .iconst 1, 1) rfl) ic_1 ?_
            refine j_goto (dt_Slights_tellRule 28 (53, .goto 4, 3) rfl) rfl ?_
            cases hj38
            exact j_sub rfl hP38
theorem r_Slights_tellRule {S : hS} {V : hV} {v0 : Option Nat} {v1 : Option Nat} {v2 : Int32} {v3 : Option Nat} {v4 : Int32} {res : hV} (hf : Slights_tellRule S v0 v1 v2 v3 v4 V = some res) : ∃ b, rc S 9 v0 = some b := by
  unfold Slights_tellRule at hf
  obtain ⟨b, hb, _⟩ := jbind hf
  exact ⟨b, hb⟩
def tb_Slights_tellAll : List (Nat × Instr × Nat) := [(0, .aload_n 0, 1), (1, .iconst 0, 1), (2, .putfield 18, 3), (5, .aload_n 0, 1), (6, .iconst 0, 1), (7, .putfield 22, 3), (10, .aload_n 0, 1), (11, .iconst 0, 1), (12, .putfield 25, 3), (15, .aload_n 0, 1), (16, .iload 4, 2), (18, .putfield 28, 3), (21, .aload_n 0, 1), (22, .iconst (-1), 1), (23, .putfield 31, 3), (26, .aload_n 0, 1), (27, .iconst (-1), 1), (28, .putfield 34, 3), (31, .aload_n 0, 1), (32, .iconst (-1), 1), (33, .putfield 37, 3), (36, .aload_n 0, 1), (37, .getfield 15, 3), (40, .iconst 0, 1), (41, .invokestatic 59, 3), (44, .iconst 0, 1), (45, .istore 5, 2), (47, .iload 5, 2), (49, .aload_n 1, 1), (50, .getfield 65, 3), (53, .if_icmp .ge 48, 3), (56, .iload 5, 2), (58, .bipush 12, 2), (60, .if_icmp .ge 41, 3), (63, .aload_n 1, 1), (64, .getfield 68, 3), (67, .iload 5, 2), (69, .aaload, 1), (70, .aload_n 2, 1), (71, .getfield 49, 3), (74, .invokevirtual 72, 3), (77, .ifCond .eq 18, 3), (80, .aload_n 0, 1), (81, .aload_n 1, 1), (82, .getfield 68, 3), (85, .iload 5, 2), (87, .aaload, 1), (88, .iload 5, 2), (90, .aload_n 2, 1), (91, .iload_n 3, 1), (92, .invokevirtual 77, 3), (95, .iinc 5 1, 3), (98, .goto (-51), 3), (101, .return_, 1)]
theorem dt_Slights_tellAll (i : Nat) (q : Nat × Instr × Nat) (h : tb_Slights_tellAll[i]? = some q) : decode prog_11_method_3_code q.1 = .ok q.2 := jdt (by decide +kernel : tb_Slights_tellAll.all (fun q => decide (decode prog_11_method_3_code q.1 = .ok q.2)) = true) h
theorem ok_Slights_tellAll : jOKV M_Slights_tellAll 4 := ⟨⟨gt4 136 rfl rfl, gt1 11 rfl rfl, (by decide : "FirstIn$Slights" ≠ "java/lang/invoke/MethodHandle"), (by decide : "FirstIn$Slights" ≠ "java/lang/invoke/VarHandle"), (by decide +kernel : (parseMethodDescriptor "(LFirstIn$Court;LFirstIn$Room;II)V").map (fun d => d.parameters.length) = some 4)⟩, gt4 134 rfl rfl, gt4 135 rfl rfl, rfl, nlt rfl⟩
set_option maxRecDepth 100000 in
set_option maxHeartbeats 4000000 in
theorem c_Slights_tellAll {G : jG} {S : hS} {V : hV} {v0 : Option Nat} {v1 : Option Nat} {v2 : Option Nat} {v3 : Int32} {v4 : Int32} {res : hV} (hf : Slights_tellAll S v0 v1 v2 v3 v4 V = some res) : jC G M_Slights_tellAll [ar v0, ar v1, ar v2, ai v3, ai v4] (S, V) none (S, res) := by
  unfold Slights_tellAll at hf
  obtain ⟨_, _, hf⟩ := jbind hf
  refine jC_of (pf_X9 _ _) rfl (nle rfl) ?_
  show jJ G M_Slights_tellAll (jEnd G M_Slights_tellAll none (S, res)) 0 0 0 [(0, ar v0), (1, ar v1), (2, ar v2), (3, ai v3), (4, ai v4)] [] (S, V)
  refine j_aload_n (dt_Slights_tellAll 0 (0, .aload_n 0, 1) rfl) rfl ?_
  refine j_iconst (dt_Slights_tellAll 1 (1, .iconst 0, 1) rfl) ic_0 ?_
  obtain ⟨V1, hV1, hf⟩ := jbind hf
  refine j_putI (dt_Slights_tellAll 2 (2, .putfield 18, 3) rfl) fl_X9_18 hV1 rfl (Or.inl rfl) ?_
  refine j_aload_n (dt_Slights_tellAll 3 (5, .aload_n 0, 1) rfl) rfl ?_
  refine j_iconst (dt_Slights_tellAll 4 (6, .iconst 0, 1) rfl) ic_0 ?_
  obtain ⟨V2, hV2, hf⟩ := jbind hf
  refine j_putI (dt_Slights_tellAll 5 (7, .putfield 22, 3) rfl) fl_X9_22 hV2 rfl (Or.inl rfl) ?_
  refine j_aload_n (dt_Slights_tellAll 6 (10, .aload_n 0, 1) rfl) rfl ?_
  refine j_iconst (dt_Slights_tellAll 7 (11, .iconst 0, 1) rfl) ic_0 ?_
  obtain ⟨V3, hV3, hf⟩ := jbind hf
  refine j_putI (dt_Slights_tellAll 8 (12, .putfield 25, 3) rfl) fl_X9_25 hV3 rfl (Or.inl rfl) ?_
  refine j_aload_n (dt_Slights_tellAll 9 (15, .aload_n 0, 1) rfl) rfl ?_
  refine j_iload (dt_Slights_tellAll 10 (16, .iload 4, 2) rfl) rfl ?_
  obtain ⟨V4, hV4, hf⟩ := jbind hf
  refine j_putI (dt_Slights_tellAll 11 (18, .putfield 28, 3) rfl) fl_X9_28 hV4 rfl (Or.inl rfl) ?_
  refine j_aload_n (dt_Slights_tellAll 12 (21, .aload_n 0, 1) rfl) rfl ?_
  refine j_iconst (dt_Slights_tellAll 13 (22, .iconst (-1), 1) rfl) ic_m1 ?_
  obtain ⟨V5, hV5, hf⟩ := jbind hf
  refine j_putI (dt_Slights_tellAll 14 (23, .putfield 31, 3) rfl) fl_X9_31 hV5 rfl (Or.inl rfl) ?_
  refine j_aload_n (dt_Slights_tellAll 15 (26, .aload_n 0, 1) rfl) rfl ?_
  refine j_iconst (dt_Slights_tellAll 16 (27, .iconst (-1), 1) rfl) ic_m1 ?_
  obtain ⟨V6, hV6, hf⟩ := jbind hf
  refine j_putI (dt_Slights_tellAll 17 (28, .putfield 34, 3) rfl) fl_X9_34 hV6 rfl (Or.inl rfl) ?_
  refine j_aload_n (dt_Slights_tellAll 18 (31, .aload_n 0, 1) rfl) rfl ?_
  refine j_iconst (dt_Slights_tellAll 19 (32, .iconst (-1), 1) rfl) ic_m1 ?_
  obtain ⟨V7, hV7, hf⟩ := jbind hf
  refine j_putI (dt_Slights_tellAll 20 (33, .putfield 37, 3) rfl) fl_X9_37 hV7 rfl (Or.inl rfl) ?_
  refine j_aload_n (dt_Slights_tellAll 21 (36, .aload_n 0, 1) rfl) rfl ?_
  obtain ⟨x8, hx8, hf⟩ := jbind hf
  refine j_getR (dt_Slights_tellAll 22 (37, .getfield 15, 3) rfl) fl_X9_15 hx8 (fun _ _ => rfl) ?_
  refine j_iconst (dt_Slights_tellAll 23 (40, .iconst 0, 1) rfl) ic_0 ?_
  obtain ⟨V9, hV9, hf⟩ := jbind hf
  refine j_callS M_Jd_fill 2 [ar x8, ai 0] (rest := []) (dt_Slights_tellAll 24 (41, .invokestatic 59, 3) rfl) ml_X9_59 ok_Jd_fill (jfit rfl rfl ⟨rfl, rfl⟩ (nle rfl) (nlt rfl)) rfl rfl (nle rfl) ⟨rfl, rfl⟩ ((c_Jd_fill hV9)) ?_
  refine j_iconst (dt_Slights_tellAll 25 (44, .iconst 0, 1) rfl) ic_0 ?_
  refine j_istore (dt_Slights_tellAll 26 (45, .istore 5, 2) rfl) (nlt rfl) ?_
  obtain ⟨t47, ht47, hf⟩ := jbind hf
  have hX47 : ∀ q47 : hV, q47 = t47 → jJ G M_Slights_tellAll (jEnd G M_Slights_tellAll none (S, res)) 0 0 101 [] [] (S, q47) := by
    intro q47 hq47
    subst hq47
    cases hf
    exact j_vret (dt_Slights_tellAll 53 (101, .return_, 1) rfl) rfl
  refine j_sub (ls' := [(0, ar v0), (1, ar v1), (2, ar v2), (3, ai v3), (5, ai 0)]) rfl ?_
  refine jloop_J (C := fun s47 => jJ G M_Slights_tellAll (jEnd G M_Slights_tellAll none (S, res)) 0 0 47 [(0, ar v0), (1, ar v1), (2, ar v2), (3, ai v3), (5, ai s47.1)] [] (S, s47.2)) (fun s47 z47_ hy47 hin47 hout47 => ?_) _ _ ht47
  unfold Slights_tellAll_L47 at hy47
  refine j_iload (dt_Slights_tellAll 27 (47, .iload 5, 2) rfl) rfl ?_
  refine j_aload_n (dt_Slights_tellAll 28 (49, .aload_n 1, 1) rfl) rfl ?_
  obtain ⟨x10, hx10, hy47⟩ := jbind hy47
  refine j_getI (dt_Slights_tellAll 29 (50, .getfield 65, 3) rfl) fl_X9_65 hx10 (fun _ _ => rfl) ?_
  refine jite hy47 (fun hc hy47 => ?_) (fun hc hy47 => ?_)
  · refine j_icmp_ge (dt_Slights_tellAll 30 (53, .if_icmp .ge 48, 3) rfl) rfl (fun _ => ?_) (fun q => absurd hc q)
    cases hy47
    have hz := hX47 _ (hout47 _ rfl)
    exact j_sub rfl hz
  · refine j_icmp_ge (dt_Slights_tellAll 30 (53, .if_icmp .ge 48, 3) rfl) rfl (fun q => absurd q hc) (fun _ => ?_)
    refine j_iload (dt_Slights_tellAll 31 (56, .iload 5, 2) rfl) rfl ?_
    refine j_bipush (dt_Slights_tellAll 32 (58, .bipush 12, 2) rfl) bp_12 ?_
    refine jite hy47 (fun hc hy47 => ?_) (fun hc hy47 => ?_)
    · refine j_icmp_ge (dt_Slights_tellAll 33 (60, .if_icmp .ge 41, 3) rfl) rfl (fun _ => ?_) (fun q => absurd hc q)
      cases hy47
      have hz := hX47 _ (hout47 _ rfl)
      exact j_sub rfl hz
    · refine j_icmp_ge (dt_Slights_tellAll 33 (60, .if_icmp .ge 41, 3) rfl) rfl (fun q => absurd q hc) (fun _ => ?_)
      refine j_aload_n (dt_Slights_tellAll 34 (63, .aload_n 1, 1) rfl) rfl ?_
      obtain ⟨x11, hx11, hy47⟩ := jbind hy47
      refine j_getR (dt_Slights_tellAll 35 (64, .getfield 68, 3) rfl) fl_X9_68 hx11 (fun _ _ => rfl) ?_
      refine j_iload (dt_Slights_tellAll 36 (67, .iload 5, 2) rfl) rfl ?_
      obtain ⟨x12, hx12, hy47⟩ := jbind hy47
      refine j_aldR 105 (dt_Slights_tellAll 37 (69, .aaload, 1) rfl) (by decide) hx12 ?_
      refine j_aload_n (dt_Slights_tellAll 38 (70, .aload_n 2, 1) rfl) rfl ?_
      obtain ⟨x13, hx13, hy47⟩ := jbind hy47
      refine j_getI (dt_Slights_tellAll 39 (71, .getfield 49, 3) rfl) fl_X9_49 hx13 (fun _ _ => rfl) ?_
      obtain ⟨x14, hx14, hy47⟩ := jbind hy47
      obtain ⟨b15, hb15⟩ := r_Rule_countsIn hx14
      refine j_callV M_Rule_countsIn 1 [ai x13] (rest := []) (dt_Slights_tellAll 40 (74, .invokevirtual 72, 3) rfl) ml_X9_72 ok_Rule_countsIn (jfit rfl rfl ⟨rfl, rfl⟩ (nle rfl) (nlt rfl)) rfl rfl (nle rfl) ⟨rfl, rfl⟩ hb15 ((c_Rule_countsIn hx14)) ?_
      refine jite hy47 (fun hc hy47 => ?_) (fun hc hy47 => ?_)
      · refine j_if_eq (dt_Slights_tellAll 41 (77, .ifCond .eq 18, 3) rfl) rfl (fun _ => ?_) (fun q => absurd hc q)
        refine j_iinc (dt_Slights_tellAll 51 (95, .iinc 5 1, 3) rfl) rfl (nlt rfl) (ii_1 _) ?_
        refine j_goto (dt_Slights_tellAll 52 (98, .goto (-51), 3) rfl) rfl ?_
        cases hy47
        have hz := hin47 _ rfl
        exact j_sub rfl hz
      · refine j_if_eq (dt_Slights_tellAll 41 (77, .ifCond .eq 18, 3) rfl) rfl (fun q => absurd q hc) (fun _ => ?_)
        refine j_aload_n (dt_Slights_tellAll 42 (80, .aload_n 0, 1) rfl) rfl ?_
        refine j_aload_n (dt_Slights_tellAll 43 (81, .aload_n 1, 1) rfl) rfl ?_
        obtain ⟨x16, hx16, hy47⟩ := jbind hy47
        refine j_getR (dt_Slights_tellAll 44 (82, .getfield 68, 3) rfl) fl_X9_68 hx16 (fun _ _ => rfl) ?_
        refine j_iload (dt_Slights_tellAll 45 (85, .iload 5, 2) rfl) rfl ?_
        obtain ⟨x17, hx17, hy47⟩ := jbind hy47
        refine j_aldR 105 (dt_Slights_tellAll 46 (87, .aaload, 1) rfl) (by decide) hx17 ?_
        refine j_iload (dt_Slights_tellAll 47 (88, .iload 5, 2) rfl) rfl ?_
        refine j_aload_n (dt_Slights_tellAll 48 (90, .aload_n 2, 1) rfl) rfl ?_
        refine j_iload_n (dt_Slights_tellAll 49 (91, .iload_n 3, 1) rfl) rfl ?_
        obtain ⟨V18, hV18, hy47⟩ := jbind hy47
        obtain ⟨b19, hb19⟩ := r_Slights_tellRule hV18
        refine j_callV M_Slights_tellRule 4 [ar x17, ai s47.1, ar v2, ai v3] (rest := []) (dt_Slights_tellAll 50 (92, .invokevirtual 77, 3) rfl) ml_X9_77 ok_Slights_tellRule (jfit rfl rfl ⟨rfl, rfl⟩ (nle rfl) (nlt rfl)) rfl rfl (nle rfl) ⟨rfl, rfl⟩ hb19 ((c_Slights_tellRule hV18)) ?_
        refine j_iinc (dt_Slights_tellAll 51 (95, .iinc 5 1, 3) rfl) rfl (nlt rfl) (ii_1 _) ?_
        refine j_goto (dt_Slights_tellAll 52 (98, .goto (-51), 3) rfl) rfl ?_
        cases hy47
        have hz := hin47 _ rfl
        exact j_sub rfl hz
theorem r_Slights_tellAll {S : hS} {V : hV} {v0 : Option Nat} {v1 : Option Nat} {v2 : Option Nat} {v3 : Int32} {v4 : Int32} {res : hV} (hf : Slights_tellAll S v0 v1 v2 v3 v4 V = some res) : ∃ b, rc S 9 v0 = some b := by
  unfold Slights_tellAll at hf
  obtain ⟨b, hb, _⟩ := jbind hf
  exact ⟨b, hb⟩
def tb_Evening_seek : List (Nat × Instr × Nat) := [(0, .iconst 1, 1), (1, .aload_n 2, 1), (2, .getfield 22, 3), (5, .bipush 8, 2), (7, .invokestatic 27, 3), (10, .invokestatic 33, 3), (13, .istore 5, 2), (15, .iconst 0, 1), (16, .istore 6, 2), (18, .iload 6, 2), (20, .iload 5, 2), (22, .if_icmp .ge 47, 3), (25, .aload 4, 2), (27, .aload_n 1, 1), (28, .aload_n 2, 1), (29, .iload 6, 2), (31, .invokevirtual 36, 3), (34, .aload 4, 2), (36, .aload_n 1, 1), (37, .aload_n 2, 1), (38, .iconst 0, 1), (39, .iconst (-1), 1), (40, .invokevirtual 42, 3), (43, .aload 4, 2), (45, .getfield 46, 3), (48, .iconst 0, 1), (49, .aload_n 0, 1), (50, .getfield 9, 3), (53, .iload 6, 2), (55, .bipush 10, 2), (57, .imul, 1), (58, .bipush 10, 2), (60, .invokestatic 49, 3), (63, .iinc 6 1, 3), (66, .goto (-48), 3), (69, .iconst 1, 1), (70, .istore 6, 2), (72, .iconst 0, 1), (73, .istore 7, 2), (75, .iload 7, 2), (77, .iload_n 3, 1), (78, .if_icmp .ge 16, 3), (81, .iload 6, 2), (83, .iload 5, 2), (85, .imul, 1), (86, .istore 6, 2), (88, .iinc 7 1, 3), (91, .goto (-16), 3), (94, .iconst 0, 1), (95, .istore 7, 2), (97, .aload_n 0, 1), (98, .aload_n 0, 1), (99, .iconst 0, 1), (100, .iload 5, 2), (102, .iload_n 3, 1), (103, .invokevirtual 55, 3), (106, .putfield 18, 3), (109, .iconst 1, 1), (110, .istore 8, 2), (112, .iload 8, 2), (114, .iload 6, 2), (116, .if_icmp .ge 46, 3), (119, .aload_n 0, 1), (120, .getfield 18, 3), (123, .ifCond .le 39, 3), (126, .aload_n 0, 1), (127, .iload 8, 2), (129, .iload 5, 2), (131, .iload_n 3, 1), (132, .invokevirtual 55, 3), (135, .istore 9, 2), (137, .iload 9, 2), (139, .aload_n 0, 1), (140, .getfield 18, 3), (143, .if_icmp .ge 13, 3), (146, .aload_n 0, 1), (147, .iload 9, 2), (149, .putfield 18, 3), (152, .iload 8, 2), (154, .istore 7, 2), (156, .iinc 8 1, 3), (159, .goto (-47), 3), (162, .aload_n 0, 1), (163, .iload 7, 2), (165, .iload 5, 2), (167, .iload_n 3, 1), (168, .invokevirtual 59, 3), (171, .return_, 1)]
theorem dt_Evening_seek (i : Nat) (q : Nat × Instr × Nat) (h : tb_Evening_seek[i]? = some q) : decode prog_3_method_2_code q.1 = .ok q.2 := jdt (by decide +kernel : tb_Evening_seek.all (fun q => decide (decode prog_3_method_2_code q.1 = .ok q.2)) = true) h
theorem ok_Evening_seek : jOKV M_Evening_seek 4 := ⟨⟨gt5 211 rfl rfl, gt1 12 rfl rfl, (by decide : "FirstIn$Evening" ≠ "java/lang/invoke/MethodHandle"), (by decide : "FirstIn$Evening" ≠ "java/lang/invoke/VarHandle"), (by decide +kernel : (parseMethodDescriptor "(LFirstIn$Court;LFirstIn$Room;ILFirstIn$Slights;)V").map (fun d => d.parameters.length) = some 4)⟩, gt5 209 rfl rfl, gt5 210 rfl rfl, rfl, nlt rfl⟩
set_option maxRecDepth 100000 in
set_option maxHeartbeats 4000000 in
theorem c_Evening_seek {G : jG} {S : hS} {V : hV} {v0 : Option Nat} {v1 : Option Nat} {v2 : Option Nat} {v3 : Int32} {v4 : Option Nat} {res : hV} (hf : Evening_seek S v0 v1 v2 v3 v4 V = some res) : jC G M_Evening_seek [ar v0, ar v1, ar v2, ai v3, ar v4] (S, V) none (S, res) := by
  unfold Evening_seek at hf
  obtain ⟨_, _, hf⟩ := jbind hf
  refine jC_of (pf_X1 _ _) rfl (nle rfl) ?_
  show jJ G M_Evening_seek (jEnd G M_Evening_seek none (S, res)) 0 0 0 [(0, ar v0), (1, ar v1), (2, ar v2), (3, ai v3), (4, ar v4)] [] (S, V)
  refine j_iconst (dt_Evening_seek 0 (0, .iconst 1, 1) rfl) ic_1 ?_
  refine j_aload_n (dt_Evening_seek 1 (1, .aload_n 2, 1) rfl) rfl ?_
  obtain ⟨x1, hx1, hf⟩ := jbind hf
  refine j_getI (dt_Evening_seek 2 (2, .getfield 22, 3) rfl) fl_X1_22 hx1 (fun _ _ => rfl) ?_
  refine j_bipush (dt_Evening_seek 3 (5, .bipush 8, 2) rfl) bp_8 ?_
  refine j_callS M_Jd_min 2 [ai x1, ai 8] (rest := [ai 1]) (dt_Evening_seek 4 (7, .invokestatic 27, 3) rfl) ml_X1_27 ok_Jd_min (jfit rfl rfl ⟨rfl, rfl⟩ (nle rfl) (nlt rfl)) rfl rfl (nle rfl) ⟨rfl, rfl⟩ (c_Jd_min rfl) ?_
  refine j_callS M_Jd_max 2 [ai 1, ai (Jd_min x1 8)] (rest := []) (dt_Evening_seek 5 (10, .invokestatic 33, 3) rfl) ml_X1_33 ok_Jd_max (jfit rfl rfl ⟨rfl, rfl⟩ (nle rfl) (nlt rfl)) rfl rfl (nle rfl) ⟨rfl, rfl⟩ (c_Jd_max rfl) ?_
  refine j_istore (dt_Evening_seek 6 (13, .istore 5, 2) rfl) (nlt rfl) ?_
  refine j_iconst (dt_Evening_seek 7 (15, .iconst 0, 1) rfl) ic_0 ?_
  refine j_istore (dt_Evening_seek 8 (16, .istore 6, 2) rfl) (nlt rfl) ?_
  obtain ⟨t18, ht18, hf⟩ := jbind hf
  have hX18 : ∀ q18 : hV, q18 = t18 → jJ G M_Evening_seek (jEnd G M_Evening_seek none (S, res)) 0 0 69 [(0, ar v0), (3, ai v3), (5, ai (Jd_max 1 (Jd_min x1 8)))] [] (S, q18) := by
    intro q18 hq18
    subst hq18
    refine j_iconst (dt_Evening_seek 35 (69, .iconst 1, 1) rfl) ic_1 ?_
    refine j_istore (dt_Evening_seek 36 (70, .istore 6, 2) rfl) (nlt rfl) ?_
    refine j_iconst (dt_Evening_seek 37 (72, .iconst 0, 1) rfl) ic_0 ?_
    refine j_istore (dt_Evening_seek 38 (73, .istore 7, 2) rfl) (nlt rfl) ?_
    obtain ⟨t75, ht75, hf⟩ := jbind hf
    have hX75 : ∀ q75 : Int32, q75 = t75 → jJ G M_Evening_seek (jEnd G M_Evening_seek none (S, res)) 0 0 94 [(0, ar v0), (3, ai v3), (5, ai (Jd_max 1 (Jd_min x1 8))), (6, ai q75)] [] (S, q18) := by
      intro q75 hq75
      subst hq75
      refine j_iconst (dt_Evening_seek 48 (94, .iconst 0, 1) rfl) ic_0 ?_
      refine j_istore (dt_Evening_seek 49 (95, .istore 7, 2) rfl) (nlt rfl) ?_
      refine j_aload_n (dt_Evening_seek 50 (97, .aload_n 0, 1) rfl) rfl ?_
      refine j_aload_n (dt_Evening_seek 51 (98, .aload_n 0, 1) rfl) rfl ?_
      refine j_iconst (dt_Evening_seek 52 (99, .iconst 0, 1) rfl) ic_0 ?_
      refine j_iload (dt_Evening_seek 53 (100, .iload 5, 2) rfl) rfl ?_
      refine j_iload_n (dt_Evening_seek 54 (102, .iload_n 3, 1) rfl) rfl ?_
      obtain ⟨x9, hx9, hf⟩ := jbind hf
      obtain ⟨b10, hb10⟩ := r_Evening_greatestSum hx9
      refine j_callV M_Evening_greatestSum 3 [ai 0, ai (Jd_max 1 (Jd_min x1 8)), ai v3] (rest := [ar v0]) (dt_Evening_seek 55 (103, .invokevirtual 55, 3) rfl) ml_X1_55 ok_Evening_greatestSum (jfit rfl rfl ⟨rfl, rfl⟩ (nle rfl) (nlt rfl)) rfl rfl (nle rfl) ⟨rfl, rfl⟩ hb10 ((c_Evening_greatestSum hx9)) ?_
      obtain ⟨V11, hV11, hf⟩ := jbind hf
      refine j_putI (dt_Evening_seek 56 (106, .putfield 18, 3) rfl) fl_X1_18 hV11 rfl (Or.inl rfl) ?_
      refine j_iconst (dt_Evening_seek 57 (109, .iconst 1, 1) rfl) ic_1 ?_
      refine j_istore (dt_Evening_seek 58 (110, .istore 8, 2) rfl) (nlt rfl) ?_
      obtain ⟨t112, ht112, hf⟩ := jbind hf
      have hX112 : ∀ q112 : Int32 × hV, q112 = t112 → jJ G M_Evening_seek (jEnd G M_Evening_seek none (S, res)) 0 0 162 [(0, ar v0), (3, ai v3), (5, ai (Jd_max 1 (Jd_min x1 8))), (7, ai q112.1)] [] (S, q112.2) := by
        intro q112 hq112
        subst hq112
        refine j_aload_n (dt_Evening_seek 82 (162, .aload_n 0, 1) rfl) rfl ?_
        refine j_iload (dt_Evening_seek 83 (163, .iload 7, 2) rfl) rfl ?_
        refine j_iload (dt_Evening_seek 84 (165, .iload 5, 2) rfl) rfl ?_
        refine j_iload_n (dt_Evening_seek 85 (167, .iload_n 3, 1) rfl) rfl ?_
        obtain ⟨V17, hV17, hf⟩ := jbind hf
        obtain ⟨b18, hb18⟩ := r_Evening_writeRow hV17
        refine j_callV M_Evening_writeRow 3 [ai q112.1, ai (Jd_max 1 (Jd_min x1 8)), ai v3] (rest := []) (dt_Evening_seek 86 (168, .invokevirtual 59, 3) rfl) ml_X1_59 ok_Evening_writeRow (jfit rfl rfl ⟨rfl, rfl⟩ (nle rfl) (nlt rfl)) rfl rfl (nle rfl) ⟨rfl, rfl⟩ hb18 ((c_Evening_writeRow hV17)) ?_
        cases hf
        exact j_vret (dt_Evening_seek 87 (171, .return_, 1) rfl) rfl
      refine j_sub (ls' := [(0, ar v0), (3, ai v3), (5, ai (Jd_max 1 (Jd_min x1 8))), (6, ai q75), (7, ai 0), (8, ai 1)]) rfl ?_
      refine jloop_J (C := fun s112 => jJ G M_Evening_seek (jEnd G M_Evening_seek none (S, res)) 0 0 112 [(0, ar v0), (3, ai v3), (5, ai (Jd_max 1 (Jd_min x1 8))), (6, ai q75), (7, ai s112.1), (8, ai s112.2.1)] [] (S, s112.2.2)) (fun s112 z112_ hy112 hin112 hout112 => ?_) _ _ ht112
      unfold Evening_seek_L112 at hy112
      refine j_iload (dt_Evening_seek 59 (112, .iload 8, 2) rfl) rfl ?_
      refine j_iload (dt_Evening_seek 60 (114, .iload 6, 2) rfl) rfl ?_
      refine jite hy112 (fun hc hy112 => ?_) (fun hc hy112 => ?_)
      · refine j_icmp_ge (dt_Evening_seek 61 (116, .if_icmp .ge 46, 3) rfl) rfl (fun _ => ?_) (fun q => absurd hc q)
        cases hy112
        have hz := hX112 _ (hout112 _ rfl)
        exact j_sub rfl hz
      · refine j_icmp_ge (dt_Evening_seek 61 (116, .if_icmp .ge 46, 3) rfl) rfl (fun q => absurd q hc) (fun _ => ?_)
        refine j_aload_n (dt_Evening_seek 62 (119, .aload_n 0, 1) rfl) rfl ?_
        obtain ⟨x12, hx12, hy112⟩ := jbind hy112
        refine j_getI (dt_Evening_seek 63 (120, .getfield 18, 3) rfl) fl_X1_18 hx12 (fun _ _ => rfl) ?_
        refine jite hy112 (fun hc hy112 => ?_) (fun hc hy112 => ?_)
        · refine j_if_le (dt_Evening_seek 64 (123, .ifCond .le 39, 3) rfl) rfl (fun _ => ?_) (fun q => absurd hc q)
          cases hy112
          have hz := hX112 _ (hout112 _ rfl)
          exact j_sub rfl hz
        · refine j_if_le (dt_Evening_seek 64 (123, .ifCond .le 39, 3) rfl) rfl (fun q => absurd q hc) (fun _ => ?_)
          refine j_aload_n (dt_Evening_seek 65 (126, .aload_n 0, 1) rfl) rfl ?_
          refine j_iload (dt_Evening_seek 66 (127, .iload 8, 2) rfl) rfl ?_
          refine j_iload (dt_Evening_seek 67 (129, .iload 5, 2) rfl) rfl ?_
          refine j_iload_n (dt_Evening_seek 68 (131, .iload_n 3, 1) rfl) rfl ?_
          obtain ⟨x13, hx13, hy112⟩ := jbind hy112
          obtain ⟨b14, hb14⟩ := r_Evening_greatestSum hx13
          refine j_callV M_Evening_greatestSum 3 [ai s112.2.1, ai (Jd_max 1 (Jd_min x1 8)), ai v3] (rest := []) (dt_Evening_seek 69 (132, .invokevirtual 55, 3) rfl) ml_X1_55 ok_Evening_greatestSum (jfit rfl rfl ⟨rfl, rfl⟩ (nle rfl) (nlt rfl)) rfl rfl (nle rfl) ⟨rfl, rfl⟩ hb14 ((c_Evening_greatestSum hx13)) ?_
          refine j_istore (dt_Evening_seek 70 (135, .istore 9, 2) rfl) (nlt rfl) ?_
          refine j_iload (dt_Evening_seek 71 (137, .iload 9, 2) rfl) rfl ?_
          refine j_aload_n (dt_Evening_seek 72 (139, .aload_n 0, 1) rfl) rfl ?_
          obtain ⟨x15, hx15, hy112⟩ := jbind hy112
          refine j_getI (dt_Evening_seek 73 (140, .getfield 18, 3) rfl) fl_X1_18 hx15 (fun _ _ => rfl) ?_
          refine jite hy112 (fun hc hy112 => ?_) (fun hc hy112 => ?_)
          · refine j_icmp_ge (dt_Evening_seek 74 (143, .if_icmp .ge 13, 3) rfl) rfl (fun _ => ?_) (fun q => absurd hc q)
            refine j_iinc (dt_Evening_seek 80 (156, .iinc 8 1, 3) rfl) rfl (nlt rfl) (ii_1 _) ?_
            refine j_goto (dt_Evening_seek 81 (159, .goto (-47), 3) rfl) rfl ?_
            cases hy112
            have hz := hin112 _ rfl
            exact j_sub rfl hz
          · refine j_icmp_ge (dt_Evening_seek 74 (143, .if_icmp .ge 13, 3) rfl) rfl (fun q => absurd q hc) (fun _ => ?_)
            refine j_aload_n (dt_Evening_seek 75 (146, .aload_n 0, 1) rfl) rfl ?_
            refine j_iload (dt_Evening_seek 76 (147, .iload 9, 2) rfl) rfl ?_
            obtain ⟨V16, hV16, hy112⟩ := jbind hy112
            refine j_putI (dt_Evening_seek 77 (149, .putfield 18, 3) rfl) fl_X1_18 hV16 rfl (Or.inl rfl) ?_
            refine j_iload (dt_Evening_seek 78 (152, .iload 8, 2) rfl) rfl ?_
            refine j_istore (dt_Evening_seek 79 (154, .istore 7, 2) rfl) (nlt rfl) ?_
            refine j_iinc (dt_Evening_seek 80 (156, .iinc 8 1, 3) rfl) rfl (nlt rfl) (ii_1 _) ?_
            refine j_goto (dt_Evening_seek 81 (159, .goto (-47), 3) rfl) rfl ?_
            cases hy112
            have hz := hin112 _ rfl
            exact j_sub rfl hz
    refine j_sub (ls' := [(0, ar v0), (3, ai v3), (5, ai (Jd_max 1 (Jd_min x1 8))), (6, ai 1), (7, ai 0)]) rfl ?_
    refine jloop_J (C := fun s75 => jJ G M_Evening_seek (jEnd G M_Evening_seek none (S, res)) 0 0 75 [(0, ar v0), (3, ai v3), (5, ai (Jd_max 1 (Jd_min x1 8))), (6, ai s75.1), (7, ai s75.2)] [] (S, q18)) (fun s75 z75_ hy75 hin75 hout75 => ?_) _ _ ht75
    unfold Evening_seek_L75 at hy75
    refine j_iload (dt_Evening_seek 39 (75, .iload 7, 2) rfl) rfl ?_
    refine j_iload_n (dt_Evening_seek 40 (77, .iload_n 3, 1) rfl) rfl ?_
    refine jite hy75 (fun hc hy75 => ?_) (fun hc hy75 => ?_)
    · refine j_icmp_ge (dt_Evening_seek 41 (78, .if_icmp .ge 16, 3) rfl) rfl (fun _ => ?_) (fun q => absurd hc q)
      cases hy75
      have hz := hX75 _ (hout75 _ rfl)
      exact j_sub rfl hz
    · refine j_icmp_ge (dt_Evening_seek 41 (78, .if_icmp .ge 16, 3) rfl) rfl (fun q => absurd q hc) (fun _ => ?_)
      refine j_iload (dt_Evening_seek 42 (81, .iload 6, 2) rfl) rfl ?_
      refine j_iload (dt_Evening_seek 43 (83, .iload 5, 2) rfl) rfl ?_
      refine j_imul (dt_Evening_seek 44 (85, .imul, 1) rfl) ?_
      refine j_istore (dt_Evening_seek 45 (86, .istore 6, 2) rfl) (nlt rfl) ?_
      refine j_iinc (dt_Evening_seek 46 (88, .iinc 7 1, 3) rfl) rfl (nlt rfl) (ii_1 _) ?_
      refine j_goto (dt_Evening_seek 47 (91, .goto (-16), 3) rfl) rfl ?_
      cases hy75
      have hz := hin75 _ rfl
      exact j_sub rfl hz
  refine j_sub (ls' := [(0, ar v0), (1, ar v1), (2, ar v2), (3, ai v3), (4, ar v4), (5, ai (Jd_max 1 (Jd_min x1 8))), (6, ai 0)]) rfl ?_
  refine jloop_J (C := fun s18 => jJ G M_Evening_seek (jEnd G M_Evening_seek none (S, res)) 0 0 18 [(0, ar v0), (1, ar v1), (2, ar v2), (3, ai v3), (4, ar v4), (5, ai (Jd_max 1 (Jd_min x1 8))), (6, ai s18.1)] [] (S, s18.2)) (fun s18 z18_ hy18 hin18 hout18 => ?_) _ _ ht18
  unfold Evening_seek_L18 at hy18
  refine j_iload (dt_Evening_seek 9 (18, .iload 6, 2) rfl) rfl ?_
  refine j_iload (dt_Evening_seek 10 (20, .iload 5, 2) rfl) rfl ?_
  refine jite hy18 (fun hc hy18 => ?_) (fun hc hy18 => ?_)
  · refine j_icmp_ge (dt_Evening_seek 11 (22, .if_icmp .ge 47, 3) rfl) rfl (fun _ => ?_) (fun q => absurd hc q)
    cases hy18
    have hz := hX18 _ (hout18 _ rfl)
    exact j_sub rfl hz
  · refine j_icmp_ge (dt_Evening_seek 11 (22, .if_icmp .ge 47, 3) rfl) rfl (fun q => absurd q hc) (fun _ => ?_)
    refine j_aload (dt_Evening_seek 12 (25, .aload 4, 2) rfl) rfl ?_
    refine j_aload_n (dt_Evening_seek 13 (27, .aload_n 1, 1) rfl) rfl ?_
    refine j_aload_n (dt_Evening_seek 14 (28, .aload_n 2, 1) rfl) rfl ?_
    refine j_iload (dt_Evening_seek 15 (29, .iload 6, 2) rfl) rfl ?_
    obtain ⟨V2, hV2, hy18⟩ := jbind hy18
    obtain ⟨b3, hb3⟩ := r_Slights_seatByHand hV2
    refine j_callV M_Slights_seatByHand 3 [ar v1, ar v2, ai s18.1] (rest := []) (dt_Evening_seek 16 (31, .invokevirtual 36, 3) rfl) ml_X1_36 ok_Slights_seatByHand (jfit rfl rfl ⟨rfl, rfl⟩ (nle rfl) (nlt rfl)) rfl rfl (nle rfl) ⟨rfl, rfl⟩ hb3 ((c_Slights_seatByHand hV2)) ?_
    refine j_aload (dt_Evening_seek 17 (34, .aload 4, 2) rfl) rfl ?_
    refine j_aload_n (dt_Evening_seek 18 (36, .aload_n 1, 1) rfl) rfl ?_
    refine j_aload_n (dt_Evening_seek 19 (37, .aload_n 2, 1) rfl) rfl ?_
    refine j_iconst (dt_Evening_seek 20 (38, .iconst 0, 1) rfl) ic_0 ?_
    refine j_iconst (dt_Evening_seek 21 (39, .iconst (-1), 1) rfl) ic_m1 ?_
    obtain ⟨V4, hV4, hy18⟩ := jbind hy18
    obtain ⟨b5, hb5⟩ := r_Slights_tellAll hV4
    refine j_callV M_Slights_tellAll 4 [ar v1, ar v2, ai 0, ai (-1)] (rest := []) (dt_Evening_seek 22 (40, .invokevirtual 42, 3) rfl) ml_X1_42 ok_Slights_tellAll (jfit rfl rfl ⟨rfl, rfl⟩ (nle rfl) (nlt rfl)) rfl rfl (nle rfl) ⟨rfl, rfl⟩ hb5 ((c_Slights_tellAll hV4)) ?_
    refine j_aload (dt_Evening_seek 23 (43, .aload 4, 2) rfl) rfl ?_
    obtain ⟨x6, hx6, hy18⟩ := jbind hy18
    refine j_getR (dt_Evening_seek 24 (45, .getfield 46, 3) rfl) fl_X1_46 hx6 (fun _ _ => rfl) ?_
    refine j_iconst (dt_Evening_seek 25 (48, .iconst 0, 1) rfl) ic_0 ?_
    refine j_aload_n (dt_Evening_seek 26 (49, .aload_n 0, 1) rfl) rfl ?_
    obtain ⟨x7, hx7, hy18⟩ := jbind hy18
    refine j_getR (dt_Evening_seek 27 (50, .getfield 9, 3) rfl) fl_X1_9 hx7 (fun _ _ => rfl) ?_
    refine j_iload (dt_Evening_seek 28 (53, .iload 6, 2) rfl) rfl ?_
    refine j_bipush (dt_Evening_seek 29 (55, .bipush 10, 2) rfl) bp_10 ?_
    refine j_imul (dt_Evening_seek 30 (57, .imul, 1) rfl) ?_
    refine j_bipush (dt_Evening_seek 31 (58, .bipush 10, 2) rfl) bp_10 ?_
    obtain ⟨V8, hV8, hy18⟩ := jbind hy18
    refine j_acp (dt_Evening_seek 32 (60, .invokestatic 49, 3) rfl) ml_X1_49 hV8 ⟨nle rfl, nle rfl⟩ (nle rfl) ?_
    refine j_iinc (dt_Evening_seek 33 (63, .iinc 6 1, 3) rfl) rfl (nlt rfl) (ii_1 _) ?_
    refine j_goto (dt_Evening_seek 34 (66, .goto (-48), 3) rfl) rfl ?_
    cases hy18
    have hz := hin18 _ rfl
    exact j_sub rfl hz
theorem r_Evening_seek {S : hS} {V : hV} {v0 : Option Nat} {v1 : Option Nat} {v2 : Option Nat} {v3 : Int32} {v4 : Option Nat} {res : hV} (hf : Evening_seek S v0 v1 v2 v3 v4 V = some res) : ∃ b, rc S 1 v0 = some b := by
  unfold Evening_seek at hf
  obtain ⟨b, hb, _⟩ := jbind hf
  exact ⟨b, hb⟩
def tb_Text_append : List (Nat × Instr × Nat) := [(0, .bipush 24, 2), (2, .istore_n 2, 1), (3, .iload_n 2, 1), (4, .ifCond .lt 51, 3), (7, .aload_n 0, 1), (8, .getfield 15, 3), (11, .ifCond .lt 38, 3), (14, .aload_n 0, 1), (15, .getfield 15, 3), (18, .aload_n 0, 1), (19, .getfield 9, 3), (22, .arraylength, 1), (23, .if_icmp .ge 26, 3), (26, .aload_n 0, 1), (27, .getfield 9, 3), (30, .aload_n 0, 1), (31, .getfield 15, 3), (34, .iload_n 1, 1), (35, .iload_n 2, 1), (36, .ishr, 1), (37, .i2b, 1), (38, .bastore, 1), (39, .aload_n 0, 1), (40, .dup, 1), (41, .getfield 15, 3), (44, .iconst 1, 1), (45, .iadd, 1), (46, .putfield 15, 3), (49, .iinc 2 (-8), 3), (52, .goto (-49), 3), (55, .return_, 1)]
theorem dt_Text_append (i : Nat) (q : Nat × Instr × Nat) (h : tb_Text_append[i]? = some q) : decode prog_12_method_2_code q.1 = .ok q.2 := jdt (by decide +kernel : tb_Text_append.all (fun q => decide (decode prog_12_method_2_code q.1 = .ok q.2)) = true) h
theorem ok_Text_append : jOKV M_Text_append 1 := ⟨⟨gt3 104 rfl rfl, gt1 2 rfl rfl, (by decide : "FirstIn$Text" ≠ "java/lang/invoke/MethodHandle"), (by decide : "FirstIn$Text" ≠ "java/lang/invoke/VarHandle"), (by decide +kernel : (parseMethodDescriptor "(I)V").map (fun d => d.parameters.length) = some 1)⟩, gt3 102 rfl rfl, gt3 103 rfl rfl, rfl, nlt rfl⟩
set_option maxRecDepth 100000 in
set_option maxHeartbeats 4000000 in
theorem c_Text_append {G : jG} {S : hS} {V : hV} {v0 : Option Nat} {v1 : Int32} {res : hV} (hf : Text_append S v0 v1 V = some res) : jC G M_Text_append [ar v0, ai v1] (S, V) none (S, res) := by
  unfold Text_append at hf
  obtain ⟨_, _, hf⟩ := jbind hf
  refine jC_of (pf_X10 _ _) rfl (nle rfl) ?_
  show jJ G M_Text_append (jEnd G M_Text_append none (S, res)) 0 0 0 [(0, ar v0), (1, ai v1)] [] (S, V)
  refine j_bipush (dt_Text_append 0 (0, .bipush 24, 2) rfl) bp_24 ?_
  refine j_istore_n (dt_Text_append 1 (2, .istore_n 2, 1) rfl) (nlt rfl) ?_
  obtain ⟨t3, ht3, hf⟩ := jbind hf
  have hX3 : ∀ q3 : hV, q3 = t3 → jJ G M_Text_append (jEnd G M_Text_append none (S, res)) 0 0 55 [] [] (S, q3) := by
    intro q3 hq3
    subst hq3
    cases hf
    exact j_vret (dt_Text_append 30 (55, .return_, 1) rfl) rfl
  refine j_sub (ls' := [(0, ar v0), (1, ai v1), (2, ai 24)]) rfl ?_
  refine jloop_J (C := fun s3 => jJ G M_Text_append (jEnd G M_Text_append none (S, res)) 0 0 3 [(0, ar v0), (1, ai v1), (2, ai s3.1)] [] (S, s3.2)) (fun s3 z3_ hy3 hin3 hout3 => ?_) _ _ ht3
  unfold Text_append_L3 at hy3
  refine j_iload_n (dt_Text_append 2 (3, .iload_n 2, 1) rfl) rfl ?_
  refine jite hy3 (fun hc hy3 => ?_) (fun hc hy3 => ?_)
  · refine j_if_lt (dt_Text_append 3 (4, .ifCond .lt 51, 3) rfl) rfl (fun _ => ?_) (fun q => absurd hc q)
    cases hy3
    have hz := hX3 _ (hout3 _ rfl)
    exact j_sub rfl hz
  · refine j_if_lt (dt_Text_append 3 (4, .ifCond .lt 51, 3) rfl) rfl (fun q => absurd q hc) (fun _ => ?_)
    refine j_aload_n (dt_Text_append 4 (7, .aload_n 0, 1) rfl) rfl ?_
    obtain ⟨x1, hx1, hy3⟩ := jbind hy3
    refine j_getI (dt_Text_append 5 (8, .getfield 15, 3) rfl) fl_X10_15 hx1 (fun _ _ => rfl) ?_
    refine jite hy3 (fun hc hy3 => ?_) (fun hc hy3 => ?_)
    · refine j_if_lt (dt_Text_append 6 (11, .ifCond .lt 38, 3) rfl) rfl (fun _ => ?_) (fun q => absurd hc q)
      refine j_iinc (dt_Text_append 28 (49, .iinc 2 (-8), 3) rfl) rfl (nlt rfl) (ii_m8 _) ?_
      refine j_goto (dt_Text_append 29 (52, .goto (-49), 3) rfl) rfl ?_
      cases hy3
      have hz := hin3 _ rfl
      exact j_sub rfl hz
    · refine j_if_lt (dt_Text_append 6 (11, .ifCond .lt 38, 3) rfl) rfl (fun q => absurd q hc) (fun _ => ?_)
      refine j_aload_n (dt_Text_append 7 (14, .aload_n 0, 1) rfl) rfl ?_
      obtain ⟨x2, hx2, hy3⟩ := jbind hy3
      refine j_getI (dt_Text_append 8 (15, .getfield 15, 3) rfl) fl_X10_15 hx2 (fun _ _ => rfl) ?_
      refine j_aload_n (dt_Text_append 9 (18, .aload_n 0, 1) rfl) rfl ?_
      obtain ⟨x3, hx3, hy3⟩ := jbind hy3
      refine j_getR (dt_Text_append 10 (19, .getfield 9, 3) rfl) fl_X10_9 hx3 (fun _ _ => rfl) ?_
      obtain ⟨x4, hx4, hy3⟩ := jbind hy3
      refine j_alen (dt_Text_append 11 (22, .arraylength, 1) rfl) hx4 ?_
      refine jite hy3 (fun hc hy3 => ?_) (fun hc hy3 => ?_)
      · refine j_icmp_ge (dt_Text_append 12 (23, .if_icmp .ge 26, 3) rfl) rfl (fun _ => ?_) (fun q => absurd hc q)
        refine j_iinc (dt_Text_append 28 (49, .iinc 2 (-8), 3) rfl) rfl (nlt rfl) (ii_m8 _) ?_
        refine j_goto (dt_Text_append 29 (52, .goto (-49), 3) rfl) rfl ?_
        cases hy3
        have hz := hin3 _ rfl
        exact j_sub rfl hz
      · refine j_icmp_ge (dt_Text_append 12 (23, .if_icmp .ge 26, 3) rfl) rfl (fun q => absurd q hc) (fun _ => ?_)
        refine j_aload_n (dt_Text_append 13 (26, .aload_n 0, 1) rfl) rfl ?_
        obtain ⟨x5, hx5, hy3⟩ := jbind hy3
        refine j_getR (dt_Text_append 14 (27, .getfield 9, 3) rfl) fl_X10_9 hx5 (fun _ _ => rfl) ?_
        refine j_aload_n (dt_Text_append 15 (30, .aload_n 0, 1) rfl) rfl ?_
        obtain ⟨x6, hx6, hy3⟩ := jbind hy3
        refine j_getI (dt_Text_append 16 (31, .getfield 15, 3) rfl) fl_X10_15 hx6 (fun _ _ => rfl) ?_
        refine j_iload_n (dt_Text_append 17 (34, .iload_n 1, 1) rfl) rfl ?_
        refine j_iload_n (dt_Text_append 18 (35, .iload_n 2, 1) rfl) rfl ?_
        refine j_ishr (dt_Text_append 19 (36, .ishr, 1) rfl) ?_
        refine j_i2b (dt_Text_append 20 (37, .i2b, 1) rfl) ?_
        obtain ⟨V7, hV7, hy3⟩ := jbind hy3
        refine j_astB (dt_Text_append 21 (38, .bastore, 1) rfl) hV7 ?_
        refine j_aload_n (dt_Text_append 22 (39, .aload_n 0, 1) rfl) rfl ?_
        refine j_dup (dt_Text_append 23 (40, .dup, 1) rfl) rfl ?_
        obtain ⟨x8, hx8, hy3⟩ := jbind hy3
        refine j_getI (dt_Text_append 24 (41, .getfield 15, 3) rfl) fl_X10_15 hx8 (fun _ _ => rfl) ?_
        refine j_iconst (dt_Text_append 25 (44, .iconst 1, 1) rfl) ic_1 ?_
        refine j_iadd (dt_Text_append 26 (45, .iadd, 1) rfl) ?_
        obtain ⟨V9, hV9, hy3⟩ := jbind hy3
        refine j_putI (dt_Text_append 27 (46, .putfield 15, 3) rfl) fl_X10_15 hV9 rfl (Or.inl rfl) ?_
        refine j_iinc (dt_Text_append 28 (49, .iinc 2 (-8), 3) rfl) rfl (nlt rfl) (ii_m8 _) ?_
        refine j_goto (dt_Text_append 29 (52, .goto (-49), 3) rfl) rfl ?_
        cases hy3
        have hz := hin3 _ rfl
        exact j_sub rfl hz
theorem r_Text_append {S : hS} {V : hV} {v0 : Option Nat} {v1 : Int32} {res : hV} (hf : Text_append S v0 v1 V = some res) : ∃ b, rc S 10 v0 = some b := by
  unfold Text_append at hf
  obtain ⟨b, hb, _⟩ := jbind hf
  exact ⟨b, hb⟩
