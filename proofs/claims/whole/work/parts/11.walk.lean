/-! ===== walks ===== -/
def tb_Mo_isGuest : List (Nat × Instr × Nat) := [(0, .iload_n 1, 1), (1, .i2l, 1), (2, .lconst 0, 1), (3, .aload_n 0, 1), (4, .getfield 44, 3), (7, .iconst 0, 1), (8, .iaload, 1), (9, .iconst 1, 1), (10, .isub, 1), (11, .i2l, 1), (12, .invokestatic 183, 3), (15, .ireturn, 1)]
theorem dt_Mo_isGuest (i : Nat) (q : Nat × Instr × Nat) (h : tb_Mo_isGuest[i]? = some q) : decode prog_14_method_24_code q.1 = .ok q.2 := jdt (by decide +kernel : tb_Mo_isGuest.all (fun q => decide (decode prog_14_method_24_code q.1 = .ok q.2)) = true) h
theorem ok_Mo_isGuest : jOKV M_Mo_isGuest 1 := ⟨⟨gt7 79 rfl rfl, gt1 17 rfl rfl, (by decide : "FirstInModel" ≠ "java/lang/invoke/MethodHandle"), (by decide : "FirstInModel" ≠ "java/lang/invoke/VarHandle"), (by decide +kernel : (parseMethodDescriptor "(I)Z").map (fun d => d.parameters.length) = some 1)⟩, gt7 78 rfl rfl, gs_in 21 rfl, rfl, nlt rfl⟩
set_option maxRecDepth 100000 in
set_option maxHeartbeats 4000000 in
theorem c_Mo_isGuest {G : jG} {S : hS} {V : hV} {v0 : Option Nat} {v1 : Int32} {res : Int32} (hf : Mo_isGuest S v0 v1 V = some res) : jC G M_Mo_isGuest [ar v0, ai v1] (S, V) (some (ai res)) (S, V) := by
  unfold Mo_isGuest at hf
  obtain ⟨_, _, hf⟩ := jbind hf
  refine jC_of (pf_X12 _ _) rfl (nle rfl) ?_
  show jJ G M_Mo_isGuest (jEnd G M_Mo_isGuest (some (ai res)) (S, V)) 0 0 0 [(0, ar v0), (1, ai v1)] [] (S, V)
  refine j_iload_n (dt_Mo_isGuest 0 (0, .iload_n 1, 1) rfl) rfl ?_
  refine j_i2l (dt_Mo_isGuest 1 (1, .i2l, 1) rfl) ?_
  refine j_lconst (dt_Mo_isGuest 2 (2, .lconst 0, 1) rfl) lc_0 ?_
  refine j_aload_n (dt_Mo_isGuest 3 (3, .aload_n 0, 1) rfl) rfl ?_
  obtain ⟨x1, hx1, hf⟩ := jbind hf
  refine j_getR (dt_Mo_isGuest 4 (4, .getfield 44, 3) rfl) fl_X12_44 hx1 (fun _ _ => rfl) ?_
  refine j_iconst (dt_Mo_isGuest 5 (7, .iconst 0, 1) rfl) ic_0 ?_
  obtain ⟨x2, hx2, hf⟩ := jbind hf
  refine j_aldI (dt_Mo_isGuest 6 (8, .iaload, 1) rfl) hx2 ?_
  refine j_iconst (dt_Mo_isGuest 7 (9, .iconst 1, 1) rfl) ic_1 ?_
  refine j_isub (dt_Mo_isGuest 8 (10, .isub, 1) rfl) ?_
  refine j_i2l (dt_Mo_isGuest 9 (11, .i2l, 1) rfl) ?_
  refine j_callS M_Mo_in 3 [al ((v1 : Int32).toInt64), al 0, al ((x2 - 1 : Int32).toInt64)] (rest := []) (dt_Mo_isGuest 10 (12, .invokestatic 183, 3) rfl) ml_X12_183 ok_Mo_in (jfit rfl rfl ⟨rfl, rfl⟩ (nle rfl) (nlt rfl)) rfl rfl (nle rfl) ⟨rfl, rfl⟩ (c_Mo_in rfl) ?_
  cases hf
  exact j_zretN (dt_Mo_isGuest 11 (15, .ireturn, 1) rfl) rfl
theorem r_Mo_isGuest {S : hS} {V : hV} {v0 : Option Nat} {v1 : Int32} {res : Int32} (hf : Mo_isGuest S v0 v1 V = some res) : ∃ b, rc S 12 v0 = some b := by
  unfold Mo_isGuest at hf
  obtain ⟨b, hb, _⟩ := jbind hf
  exact ⟨b, hb⟩
def tb_Mo_isRule : List (Nat × Instr × Nat) := [(0, .iload_n 1, 1), (1, .i2l, 1), (2, .lconst 0, 1), (3, .aload_n 0, 1), (4, .getfield 51, 3), (7, .iconst 0, 1), (8, .iaload, 1), (9, .iconst 1, 1), (10, .isub, 1), (11, .i2l, 1), (12, .invokestatic 183, 3), (15, .ireturn, 1)]
theorem dt_Mo_isRule (i : Nat) (q : Nat × Instr × Nat) (h : tb_Mo_isRule[i]? = some q) : decode prog_14_method_25_code q.1 = .ok q.2 := jdt (by decide +kernel : tb_Mo_isRule.all (fun q => decide (decode prog_14_method_25_code q.1 = .ok q.2)) = true) h
theorem ok_Mo_isRule : jOKV M_Mo_isRule 1 := ⟨⟨gt7 91 rfl rfl, gt1 17 rfl rfl, (by decide : "FirstInModel" ≠ "java/lang/invoke/MethodHandle"), (by decide : "FirstInModel" ≠ "java/lang/invoke/VarHandle"), (by decide +kernel : (parseMethodDescriptor "(I)Z").map (fun d => d.parameters.length) = some 1)⟩, gt7 90 rfl rfl, gs_in 23 rfl, rfl, nlt rfl⟩
set_option maxRecDepth 100000 in
set_option maxHeartbeats 4000000 in
theorem c_Mo_isRule {G : jG} {S : hS} {V : hV} {v0 : Option Nat} {v1 : Int32} {res : Int32} (hf : Mo_isRule S v0 v1 V = some res) : jC G M_Mo_isRule [ar v0, ai v1] (S, V) (some (ai res)) (S, V) := by
  unfold Mo_isRule at hf
  obtain ⟨_, _, hf⟩ := jbind hf
  refine jC_of (pf_X12 _ _) rfl (nle rfl) ?_
  show jJ G M_Mo_isRule (jEnd G M_Mo_isRule (some (ai res)) (S, V)) 0 0 0 [(0, ar v0), (1, ai v1)] [] (S, V)
  refine j_iload_n (dt_Mo_isRule 0 (0, .iload_n 1, 1) rfl) rfl ?_
  refine j_i2l (dt_Mo_isRule 1 (1, .i2l, 1) rfl) ?_
  refine j_lconst (dt_Mo_isRule 2 (2, .lconst 0, 1) rfl) lc_0 ?_
  refine j_aload_n (dt_Mo_isRule 3 (3, .aload_n 0, 1) rfl) rfl ?_
  obtain ⟨x1, hx1, hf⟩ := jbind hf
  refine j_getR (dt_Mo_isRule 4 (4, .getfield 51, 3) rfl) fl_X12_51 hx1 (fun _ _ => rfl) ?_
  refine j_iconst (dt_Mo_isRule 5 (7, .iconst 0, 1) rfl) ic_0 ?_
  obtain ⟨x2, hx2, hf⟩ := jbind hf
  refine j_aldI (dt_Mo_isRule 6 (8, .iaload, 1) rfl) hx2 ?_
  refine j_iconst (dt_Mo_isRule 7 (9, .iconst 1, 1) rfl) ic_1 ?_
  refine j_isub (dt_Mo_isRule 8 (10, .isub, 1) rfl) ?_
  refine j_i2l (dt_Mo_isRule 9 (11, .i2l, 1) rfl) ?_
  refine j_callS M_Mo_in 3 [al ((v1 : Int32).toInt64), al 0, al ((x2 - 1 : Int32).toInt64)] (rest := []) (dt_Mo_isRule 10 (12, .invokestatic 183, 3) rfl) ml_X12_183 ok_Mo_in (jfit rfl rfl ⟨rfl, rfl⟩ (nle rfl) (nlt rfl)) rfl rfl (nle rfl) ⟨rfl, rfl⟩ (c_Mo_in rfl) ?_
  cases hf
  exact j_zretN (dt_Mo_isRule 11 (15, .ireturn, 1) rfl) rfl
theorem r_Mo_isRule {S : hS} {V : hV} {v0 : Option Nat} {v1 : Int32} {res : Int32} (hf : Mo_isRule S v0 v1 V = some res) : ∃ b, rc S 12 v0 = some b := by
  unfold Mo_isRule at hf
  obtain ⟨b, hb, _⟩ := jbind hf
  exact ⟨b, hb⟩
def tb_Mo_isRoom : List (Nat × Instr × Nat) := [(0, .iload_n 1, 1), (1, .i2l, 1), (2, .lconst 0, 1), (3, .aload_n 0, 1), (4, .getfield 268, 3), (7, .iconst 1, 1), (8, .isub, 1), (9, .i2l, 1), (10, .invokestatic 183, 3), (13, .ireturn, 1)]
theorem dt_Mo_isRoom (i : Nat) (q : Nat × Instr × Nat) (h : tb_Mo_isRoom[i]? = some q) : decode prog_14_method_26_code q.1 = .ok q.2 := jdt (by decide +kernel : tb_Mo_isRoom.all (fun q => decide (decode prog_14_method_26_code q.1 = .ok q.2)) = true) h
theorem ok_Mo_isRoom : jOKV M_Mo_isRoom 1 := ⟨⟨gt7 119 rfl rfl, gt1 17 rfl rfl, (by decide : "FirstInModel" ≠ "java/lang/invoke/MethodHandle"), (by decide : "FirstInModel" ≠ "java/lang/invoke/VarHandle"), (by decide +kernel : (parseMethodDescriptor "(I)Z").map (fun d => d.parameters.length) = some 1)⟩, gt7 118 rfl rfl, gs_in 27 rfl, rfl, nlt rfl⟩
set_option maxRecDepth 100000 in
set_option maxHeartbeats 4000000 in
theorem c_Mo_isRoom {G : jG} {S : hS} {V : hV} {v0 : Option Nat} {v1 : Int32} {res : Int32} (hf : Mo_isRoom S v0 v1 V = some res) : jC G M_Mo_isRoom [ar v0, ai v1] (S, V) (some (ai res)) (S, V) := by
  unfold Mo_isRoom at hf
  obtain ⟨_, _, hf⟩ := jbind hf
  refine jC_of (pf_X12 _ _) rfl (nle rfl) ?_
  show jJ G M_Mo_isRoom (jEnd G M_Mo_isRoom (some (ai res)) (S, V)) 0 0 0 [(0, ar v0), (1, ai v1)] [] (S, V)
  refine j_iload_n (dt_Mo_isRoom 0 (0, .iload_n 1, 1) rfl) rfl ?_
  refine j_i2l (dt_Mo_isRoom 1 (1, .i2l, 1) rfl) ?_
  refine j_lconst (dt_Mo_isRoom 2 (2, .lconst 0, 1) rfl) lc_0 ?_
  refine j_aload_n (dt_Mo_isRoom 3 (3, .aload_n 0, 1) rfl) rfl ?_
  obtain ⟨x1, hx1, hf⟩ := jbind hf
  refine j_getI (dt_Mo_isRoom 4 (4, .getfield 268, 3) rfl) fl_X12_268 hx1 (fun _ _ => rfl) ?_
  refine j_iconst (dt_Mo_isRoom 5 (7, .iconst 1, 1) rfl) ic_1 ?_
  refine j_isub (dt_Mo_isRoom 6 (8, .isub, 1) rfl) ?_
  refine j_i2l (dt_Mo_isRoom 7 (9, .i2l, 1) rfl) ?_
  refine j_callS M_Mo_in 3 [al ((v1 : Int32).toInt64), al 0, al ((x1 - 1 : Int32).toInt64)] (rest := []) (dt_Mo_isRoom 8 (10, .invokestatic 183, 3) rfl) ml_X12_183 ok_Mo_in (jfit rfl rfl ⟨rfl, rfl⟩ (nle rfl) (nlt rfl)) rfl rfl (nle rfl) ⟨rfl, rfl⟩ (c_Mo_in rfl) ?_
  cases hf
  exact j_zretN (dt_Mo_isRoom 9 (13, .ireturn, 1) rfl) rfl
theorem r_Mo_isRoom {S : hS} {V : hV} {v0 : Option Nat} {v1 : Int32} {res : Int32} (hf : Mo_isRoom S v0 v1 V = some res) : ∃ b, rc S 12 v0 = some b := by
  unfold Mo_isRoom at hf
  obtain ⟨b, hb, _⟩ := jbind hf
  exact ⟨b, hb⟩
def tb_Mo_room : List (Nat × Instr × Nat) := [(0, .iload_n 1, 1), (1, .i2l, 1), (2, .lconst 0, 1), (3, .ldc2_w 271, 3), (6, .invokestatic 183, 3), (9, .ifCond .eq 23, 3), (12, .iload_n 2, 1), (13, .i2l, 1), (14, .lconst 1, 1), (15, .ldc2_w 273, 3), (18, .invokestatic 183, 3), (21, .ifCond .eq 11, 3), (24, .aload_n 0, 1), (25, .getfield 268, 3), (28, .iconst 4, 1), (29, .if_icmp .ne 5, 3), (32, .iconst (-1), 1), (33, .ireturn, 1), (34, .aload_n 0, 1), (35, .getfield 93, 3), (38, .aload_n 0, 1), (39, .getfield 268, 3), (42, .iload_n 1, 1), (43, .iastore, 1), (44, .aload_n 0, 1), (45, .getfield 96, 3), (48, .aload_n 0, 1), (49, .getfield 268, 3), (52, .iload_n 2, 1), (53, .iastore, 1), (54, .aload_n 0, 1), (55, .dup, 1), (56, .getfield 268, 3), (59, .iconst 1, 1), (60, .iadd, 1), (61, .putfield 268, 3), (64, .aload_n 0, 1), (65, .getfield 268, 3), (68, .iconst 1, 1), (69, .isub, 1), (70, .ireturn, 1)]
theorem dt_Mo_room (i : Nat) (q : Nat × Instr × Nat) (h : tb_Mo_room[i]? = some q) : decode prog_14_method_27_code q.1 = .ok q.2 := jdt (by decide +kernel : tb_Mo_room.all (fun q => decide (decode prog_14_method_27_code q.1 = .ok q.2)) = true) h
theorem ok_Mo_room : jOKV M_Mo_room 2 := ⟨⟨gt7 69 rfl rfl, gt1 17 rfl rfl, (by decide : "FirstInModel" ≠ "java/lang/invoke/MethodHandle"), (by decide : "FirstInModel" ≠ "java/lang/invoke/VarHandle"), (by decide +kernel : (parseMethodDescriptor "(II)I").map (fun d => d.parameters.length) = some 2)⟩, gt7 67 rfl rfl, gt7 68 rfl rfl, rfl, nlt rfl⟩
set_option maxRecDepth 100000 in
set_option maxHeartbeats 4000000 in
theorem c_Mo_room {G : jG} {S : hS} {V : hV} {v0 : Option Nat} {v1 : Int32} {v2 : Int32} {res : Int32 × hV} (hf : Mo_room S v0 v1 v2 V = some res) : jC G M_Mo_room [ar v0, ai v1, ai v2] (S, V) (some (ai res.1)) (S, res.2) := by
  unfold Mo_room at hf
  obtain ⟨_, _, hf⟩ := jbind hf
  refine jC_of (pf_X12 _ _) rfl (nle rfl) ?_
  show jJ G M_Mo_room (jEnd G M_Mo_room (some (ai res.1)) (S, res.2)) 0 0 0 [(0, ar v0), (1, ai v1), (2, ai v2)] [] (S, V)
  refine j_iload_n (dt_Mo_room 0 (0, .iload_n 1, 1) rfl) rfl ?_
  refine j_i2l (dt_Mo_room 1 (1, .i2l, 1) rfl) ?_
  refine j_lconst (dt_Mo_room 2 (2, .lconst 0, 1) rfl) lc_0 ?_
  refine j_ldc2 4 (dt_Mo_room 3 (3, .ldc2_w 271, 3) rfl) (gt7 70 rfl rfl) ?_
  refine j_callS M_Mo_in 3 [al ((v1 : Int32).toInt64), al 0, al 4] (rest := []) (dt_Mo_room 4 (6, .invokestatic 183, 3) rfl) ml_X12_183 ok_Mo_in (jfit rfl rfl ⟨rfl, rfl⟩ (nle rfl) (nlt rfl)) rfl rfl (nle rfl) ⟨rfl, rfl⟩ (c_Mo_in rfl) ?_
  refine jite hf (fun hc hf => ?_) (fun hc hf => ?_)
  · refine j_if_eq (dt_Mo_room 5 (9, .ifCond .eq 23, 3) rfl) rfl (fun _ => ?_) (fun q => absurd hc q)
    refine j_iconst (dt_Mo_room 16 (32, .iconst (-1), 1) rfl) ic_m1 ?_
    cases hf
    exact j_iret (dt_Mo_room 17 (33, .ireturn, 1) rfl) rfl
  · refine j_if_eq (dt_Mo_room 5 (9, .ifCond .eq 23, 3) rfl) rfl (fun q => absurd q hc) (fun _ => ?_)
    refine j_iload_n (dt_Mo_room 6 (12, .iload_n 2, 1) rfl) rfl ?_
    refine j_i2l (dt_Mo_room 7 (13, .i2l, 1) rfl) ?_
    refine j_lconst (dt_Mo_room 8 (14, .lconst 1, 1) rfl) lc_1 ?_
    refine j_ldc2 10 (dt_Mo_room 9 (15, .ldc2_w 273, 3) rfl) (gt7 71 rfl rfl) ?_
    refine j_callS M_Mo_in 3 [al ((v2 : Int32).toInt64), al 1, al 10] (rest := []) (dt_Mo_room 10 (18, .invokestatic 183, 3) rfl) ml_X12_183 ok_Mo_in (jfit rfl rfl ⟨rfl, rfl⟩ (nle rfl) (nlt rfl)) rfl rfl (nle rfl) ⟨rfl, rfl⟩ (c_Mo_in rfl) ?_
    refine jite hf (fun hc hf => ?_) (fun hc hf => ?_)
    · refine j_if_eq (dt_Mo_room 11 (21, .ifCond .eq 11, 3) rfl) rfl (fun _ => ?_) (fun q => absurd hc q)
      refine j_iconst (dt_Mo_room 16 (32, .iconst (-1), 1) rfl) ic_m1 ?_
      cases hf
      exact j_iret (dt_Mo_room 17 (33, .ireturn, 1) rfl) rfl
    · refine j_if_eq (dt_Mo_room 11 (21, .ifCond .eq 11, 3) rfl) rfl (fun q => absurd q hc) (fun _ => ?_)
      refine j_aload_n (dt_Mo_room 12 (24, .aload_n 0, 1) rfl) rfl ?_
      obtain ⟨x1, hx1, hf⟩ := jbind hf
      refine j_getI (dt_Mo_room 13 (25, .getfield 268, 3) rfl) fl_X12_268 hx1 (fun _ _ => rfl) ?_
      refine j_iconst (dt_Mo_room 14 (28, .iconst 4, 1) rfl) ic_4 ?_
      refine jite hf (fun hc hf => ?_) (fun hc hf => ?_)
      · refine j_icmp_ne (dt_Mo_room 15 (29, .if_icmp .ne 5, 3) rfl) rfl (fun q => absurd hc q) (fun _ => ?_)
        refine j_iconst (dt_Mo_room 16 (32, .iconst (-1), 1) rfl) ic_m1 ?_
        cases hf
        exact j_iret (dt_Mo_room 17 (33, .ireturn, 1) rfl) rfl
      · refine j_icmp_ne (dt_Mo_room 15 (29, .if_icmp .ne 5, 3) rfl) rfl (fun _ => ?_) (fun q => absurd q hc)
        refine j_aload_n (dt_Mo_room 18 (34, .aload_n 0, 1) rfl) rfl ?_
        obtain ⟨x2, hx2, hf⟩ := jbind hf
        refine j_getR (dt_Mo_room 19 (35, .getfield 93, 3) rfl) fl_X12_93 hx2 (fun _ _ => rfl) ?_
        refine j_aload_n (dt_Mo_room 20 (38, .aload_n 0, 1) rfl) rfl ?_
        obtain ⟨x3, hx3, hf⟩ := jbind hf
        refine j_getI (dt_Mo_room 21 (39, .getfield 268, 3) rfl) fl_X12_268 hx3 (fun _ _ => rfl) ?_
        refine j_iload_n (dt_Mo_room 22 (42, .iload_n 1, 1) rfl) rfl ?_
        obtain ⟨V4, hV4, hf⟩ := jbind hf
        refine j_astI (dt_Mo_room 23 (43, .iastore, 1) rfl) hV4 ?_
        refine j_aload_n (dt_Mo_room 24 (44, .aload_n 0, 1) rfl) rfl ?_
        obtain ⟨x5, hx5, hf⟩ := jbind hf
        refine j_getR (dt_Mo_room 25 (45, .getfield 96, 3) rfl) fl_X12_96 hx5 (fun _ _ => rfl) ?_
        refine j_aload_n (dt_Mo_room 26 (48, .aload_n 0, 1) rfl) rfl ?_
        obtain ⟨x6, hx6, hf⟩ := jbind hf
        refine j_getI (dt_Mo_room 27 (49, .getfield 268, 3) rfl) fl_X12_268 hx6 (fun _ _ => rfl) ?_
        refine j_iload_n (dt_Mo_room 28 (52, .iload_n 2, 1) rfl) rfl ?_
        obtain ⟨V7, hV7, hf⟩ := jbind hf
        refine j_astI (dt_Mo_room 29 (53, .iastore, 1) rfl) hV7 ?_
        refine j_aload_n (dt_Mo_room 30 (54, .aload_n 0, 1) rfl) rfl ?_
        refine j_dup (dt_Mo_room 31 (55, .dup, 1) rfl) rfl ?_
        obtain ⟨x8, hx8, hf⟩ := jbind hf
        refine j_getI (dt_Mo_room 32 (56, .getfield 268, 3) rfl) fl_X12_268 hx8 (fun _ _ => rfl) ?_
        refine j_iconst (dt_Mo_room 33 (59, .iconst 1, 1) rfl) ic_1 ?_
        refine j_iadd (dt_Mo_room 34 (60, .iadd, 1) rfl) ?_
        obtain ⟨V9, hV9, hf⟩ := jbind hf
        refine j_putI (dt_Mo_room 35 (61, .putfield 268, 3) rfl) fl_X12_268 hV9 rfl (Or.inl rfl) ?_
        refine j_aload_n (dt_Mo_room 36 (64, .aload_n 0, 1) rfl) rfl ?_
        obtain ⟨x10, hx10, hf⟩ := jbind hf
        refine j_getI (dt_Mo_room 37 (65, .getfield 268, 3) rfl) fl_X12_268 hx10 (fun _ _ => rfl) ?_
        refine j_iconst (dt_Mo_room 38 (68, .iconst 1, 1) rfl) ic_1 ?_
        refine j_isub (dt_Mo_room 39 (69, .isub, 1) rfl) ?_
        cases hf
        exact j_iret (dt_Mo_room 40 (70, .ireturn, 1) rfl) rfl
theorem r_Mo_room {S : hS} {V : hV} {v0 : Option Nat} {v1 : Int32} {v2 : Int32} {res : Int32 × hV} (hf : Mo_room S v0 v1 v2 V = some res) : ∃ b, rc S 12 v0 = some b := by
  unfold Mo_room at hf
  obtain ⟨b, hb, _⟩ := jbind hf
  exact ⟨b, hb⟩
def tb_Mo_marksOf : List (Nat × Instr × Nat) := [(0, .iconst 0, 1), (1, .istore_n 2, 1), (2, .iconst 0, 1), (3, .istore_n 3, 1), (4, .iload_n 3, 1), (5, .aload_n 0, 1), (6, .getfield 48, 3), (9, .iconst 0, 1), (10, .iaload, 1), (11, .if_icmp .ge 26, 3), (14, .iload_n 2, 1), (15, .aload_n 0, 1), (16, .getfield 23, 3), (19, .iconst 0, 1), (20, .aaload, 1), (21, .iload_n 3, 1), (22, .iaload, 1), (23, .iload_n 1, 1), (24, .ishr, 1), (25, .iconst 1, 1), (26, .iand, 1), (27, .iload_n 3, 1), (28, .ishl, 1), (29, .ior, 1), (30, .istore_n 2, 1), (31, .iinc 3 1, 3), (34, .goto (-30), 3), (37, .iload_n 2, 1), (38, .ireturn, 1)]
theorem dt_Mo_marksOf (i : Nat) (q : Nat × Instr × Nat) (h : tb_Mo_marksOf[i]? = some q) : decode prog_14_method_28_code q.1 = .ok q.2 := jdt (by decide +kernel : tb_Mo_marksOf.all (fun q => decide (decode prog_14_method_28_code q.1 = .ok q.2)) = true) h
theorem ok_Mo_marksOf : jOKV M_Mo_marksOf 1 := ⟨⟨gt7 83 rfl rfl, gt1 17 rfl rfl, (by decide : "FirstInModel" ≠ "java/lang/invoke/MethodHandle"), (by decide : "FirstInModel" ≠ "java/lang/invoke/VarHandle"), (by decide +kernel : (parseMethodDescriptor "(I)I").map (fun d => d.parameters.length) = some 1)⟩, gt7 82 rfl rfl, gs_in 22 rfl, rfl, nlt rfl⟩
set_option maxRecDepth 100000 in
set_option maxHeartbeats 4000000 in
theorem c_Mo_marksOf {G : jG} {S : hS} {V : hV} {v0 : Option Nat} {v1 : Int32} {res : Int32} (hf : Mo_marksOf S v0 v1 V = some res) : jC G M_Mo_marksOf [ar v0, ai v1] (S, V) (some (ai res)) (S, V) := by
  unfold Mo_marksOf at hf
  obtain ⟨_, _, hf⟩ := jbind hf
  refine jC_of (pf_X12 _ _) rfl (nle rfl) ?_
  show jJ G M_Mo_marksOf (jEnd G M_Mo_marksOf (some (ai res)) (S, V)) 0 0 0 [(0, ar v0), (1, ai v1)] [] (S, V)
  refine j_iconst (dt_Mo_marksOf 0 (0, .iconst 0, 1) rfl) ic_0 ?_
  refine j_istore_n (dt_Mo_marksOf 1 (1, .istore_n 2, 1) rfl) (nlt rfl) ?_
  refine j_iconst (dt_Mo_marksOf 2 (2, .iconst 0, 1) rfl) ic_0 ?_
  refine j_istore_n (dt_Mo_marksOf 3 (3, .istore_n 3, 1) rfl) (nlt rfl) ?_
  obtain ⟨t4, ht4, hf⟩ := jbind hf
  have hX4 : ∀ q4 : Int32, q4 = t4 → jJ G M_Mo_marksOf (jEnd G M_Mo_marksOf (some (ai res)) (S, V)) 0 0 37 [(2, ai q4)] [] (S, V) := by
    intro q4 hq4
    subst hq4
    refine j_iload_n (dt_Mo_marksOf 27 (37, .iload_n 2, 1) rfl) rfl ?_
    cases hf
    exact j_iret (dt_Mo_marksOf 28 (38, .ireturn, 1) rfl) rfl
  refine j_sub (ls' := [(0, ar v0), (1, ai v1), (2, ai 0), (3, ai 0)]) rfl ?_
  refine jloop_J (C := fun s4 => jJ G M_Mo_marksOf (jEnd G M_Mo_marksOf (some (ai res)) (S, V)) 0 0 4 [(0, ar v0), (1, ai v1), (2, ai s4.1), (3, ai s4.2)] [] (S, V)) (fun s4 z4_ hy4 hin4 hout4 => ?_) _ _ ht4
  unfold Mo_marksOf_L4 at hy4
  refine j_iload_n (dt_Mo_marksOf 4 (4, .iload_n 3, 1) rfl) rfl ?_
  refine j_aload_n (dt_Mo_marksOf 5 (5, .aload_n 0, 1) rfl) rfl ?_
  obtain ⟨x1, hx1, hy4⟩ := jbind hy4
  refine j_getR (dt_Mo_marksOf 6 (6, .getfield 48, 3) rfl) fl_X12_48 hx1 (fun _ _ => rfl) ?_
  refine j_iconst (dt_Mo_marksOf 7 (9, .iconst 0, 1) rfl) ic_0 ?_
  obtain ⟨x2, hx2, hy4⟩ := jbind hy4
  refine j_aldI (dt_Mo_marksOf 8 (10, .iaload, 1) rfl) hx2 ?_
  refine jite hy4 (fun hc hy4 => ?_) (fun hc hy4 => ?_)
  · refine j_icmp_ge (dt_Mo_marksOf 9 (11, .if_icmp .ge 26, 3) rfl) rfl (fun _ => ?_) (fun q => absurd hc q)
    cases hy4
    have hz := hX4 _ (hout4 _ rfl)
    exact j_sub rfl hz
  · refine j_icmp_ge (dt_Mo_marksOf 9 (11, .if_icmp .ge 26, 3) rfl) rfl (fun q => absurd q hc) (fun _ => ?_)
    refine j_iload_n (dt_Mo_marksOf 10 (14, .iload_n 2, 1) rfl) rfl ?_
    refine j_aload_n (dt_Mo_marksOf 11 (15, .aload_n 0, 1) rfl) rfl ?_
    obtain ⟨x3, hx3, hy4⟩ := jbind hy4
    refine j_getR (dt_Mo_marksOf 12 (16, .getfield 23, 3) rfl) fl_X12_23 hx3 (fun _ _ => rfl) ?_
    refine j_iconst (dt_Mo_marksOf 13 (19, .iconst 0, 1) rfl) ic_0 ?_
    obtain ⟨x4, hx4, hy4⟩ := jbind hy4
    refine j_aldR 107 (dt_Mo_marksOf 14 (20, .aaload, 1) rfl) (by decide) hx4 ?_
    refine j_iload_n (dt_Mo_marksOf 15 (21, .iload_n 3, 1) rfl) rfl ?_
    obtain ⟨x5, hx5, hy4⟩ := jbind hy4
    refine j_aldI (dt_Mo_marksOf 16 (22, .iaload, 1) rfl) hx5 ?_
    refine j_iload_n (dt_Mo_marksOf 17 (23, .iload_n 1, 1) rfl) rfl ?_
    refine j_ishr (dt_Mo_marksOf 18 (24, .ishr, 1) rfl) ?_
    refine j_iconst (dt_Mo_marksOf 19 (25, .iconst 1, 1) rfl) ic_1 ?_
    refine j_iand (dt_Mo_marksOf 20 (26, .iand, 1) rfl) ?_
    refine j_iload_n (dt_Mo_marksOf 21 (27, .iload_n 3, 1) rfl) rfl ?_
    refine j_ishl (dt_Mo_marksOf 22 (28, .ishl, 1) rfl) ?_
    refine j_ior (dt_Mo_marksOf 23 (29, .ior, 1) rfl) ?_
    refine j_istore_n (dt_Mo_marksOf 24 (30, .istore_n 2, 1) rfl) (nlt rfl) ?_
    refine j_iinc (dt_Mo_marksOf 25 (31, .iinc 3 1, 3) rfl) rfl (nlt rfl) (ii_1 _) ?_
    refine j_goto (dt_Mo_marksOf 26 (34, .goto (-30), 3) rfl) rfl ?_
    cases hy4
    have hz := hin4 _ rfl
    exact j_sub rfl hz
theorem r_Mo_marksOf {S : hS} {V : hV} {v0 : Option Nat} {v1 : Int32} {res : Int32} (hf : Mo_marksOf S v0 v1 V = some res) : ∃ b, rc S 12 v0 = some b := by
  unfold Mo_marksOf at hf
  obtain ⟨b, hb, _⟩ := jbind hf
  exact ⟨b, hb⟩
def tb_Mo_guest : List (Nat × Instr × Nat) := [(0, .aload_n 0, 1), (1, .iload_n 1, 1), (2, .invokevirtual 275, 3), (5, .ifCond .ne 5, 3), (8, .iconst (-1), 1), (9, .ireturn, 1), (10, .iload_n 2, 1), (11, .tableswitch 83 0 4 #[33, 48, 54, 61, 68], 33), (44, .aload_n 0, 1), (45, .getfield 81, 3), (48, .iload_n 1, 1), (49, .baload, 1), (50, .ifCond .eq 7, 3), (53, .iconst 1, 1), (54, .goto 4, 3), (57, .iconst 0, 1), (58, .ireturn, 1), (59, .aload_n 0, 1), (60, .iload_n 1, 1), (61, .invokevirtual 278, 3), (64, .ireturn, 1), (65, .aload_n 0, 1), (66, .getfield 87, 3), (69, .iload_n 1, 1), (70, .iaload, 1), (71, .ireturn, 1), (72, .aload_n 0, 1), (73, .getfield 90, 3), (76, .iload_n 1, 1), (77, .iaload, 1), (78, .ireturn, 1), (79, .aload_n 0, 1), (80, .getfield 84, 3), (83, .iload_n 1, 1), (84, .baload, 1), (85, .ifCond .eq 7, 3), (88, .iconst 1, 1), (89, .goto 4, 3), (92, .iconst 0, 1), (93, .ireturn, 1), (94, .iconst (-1), 1), (95, .ireturn, 1)]
theorem dt_Mo_guest (i : Nat) (q : Nat × Instr × Nat) (h : tb_Mo_guest[i]? = some q) : decode prog_14_method_29_code q.1 = .ok q.2 := jdt (by decide +kernel : tb_Mo_guest.all (fun q => decide (decode prog_14_method_29_code q.1 = .ok q.2)) = true) h
theorem ok_Mo_guest : jOKV M_Mo_guest 2 := ⟨⟨gt7 75 rfl rfl, gt1 17 rfl rfl, (by decide : "FirstInModel" ≠ "java/lang/invoke/MethodHandle"), (by decide : "FirstInModel" ≠ "java/lang/invoke/VarHandle"), (by decide +kernel : (parseMethodDescriptor "(II)I").map (fun d => d.parameters.length) = some 2)⟩, gt7 73 rfl rfl, gt7 74 rfl rfl, rfl, nlt rfl⟩
set_option maxRecDepth 100000 in
set_option maxHeartbeats 4000000 in
theorem c_Mo_guest {G : jG} {S : hS} {V : hV} {v0 : Option Nat} {v1 : Int32} {v2 : Int32} {res : Int32} (hf : Mo_guest S v0 v1 v2 V = some res) : jC G M_Mo_guest [ar v0, ai v1, ai v2] (S, V) (some (ai res)) (S, V) := by
  unfold Mo_guest at hf
  obtain ⟨_, _, hf⟩ := jbind hf
  refine jC_of (pf_X12 _ _) rfl (nle rfl) ?_
  show jJ G M_Mo_guest (jEnd G M_Mo_guest (some (ai res)) (S, V)) 0 0 0 [(0, ar v0), (1, ai v1), (2, ai v2)] [] (S, V)
  refine j_aload_n (dt_Mo_guest 0 (0, .aload_n 0, 1) rfl) rfl ?_
  refine j_iload_n (dt_Mo_guest 1 (1, .iload_n 1, 1) rfl) rfl ?_
  obtain ⟨x1, hx1, hf⟩ := jbind hf
  obtain ⟨b2, hb2⟩ := r_Mo_isGuest hx1
  refine j_callV M_Mo_isGuest 1 [ai v1] (rest := []) (dt_Mo_guest 2 (2, .invokevirtual 275, 3) rfl) ml_X12_275 ok_Mo_isGuest (jfit rfl rfl ⟨rfl, rfl⟩ (nle rfl) (nlt rfl)) rfl rfl (nle rfl) ⟨rfl, rfl⟩ hb2 ((c_Mo_isGuest hx1)) ?_
  refine jite hf (fun hc hf => ?_) (fun hc hf => ?_)
  · refine j_if_ne (dt_Mo_guest 3 (5, .ifCond .ne 5, 3) rfl) rfl (fun q => absurd hc q) (fun _ => ?_)
    refine j_iconst (dt_Mo_guest 4 (8, .iconst (-1), 1) rfl) ic_m1 ?_
    cases hf
    exact j_iret (dt_Mo_guest 5 (9, .ireturn, 1) rfl) rfl
  · refine j_if_ne (dt_Mo_guest 3 (5, .ifCond .ne 5, 3) rfl) rfl (fun _ => ?_) (fun q => absurd q hc)
    refine j_iload_n (dt_Mo_guest 6 (10, .iload_n 2, 1) rfl) rfl ?_
    refine jite hf (fun hc0 hf => ?_) (fun hc0 hf => ?_)
    · refine j_swIn (off := 33) (tgt := 44) 0 hc0 (dt_Mo_guest 7 (11, .tableswitch 83 0 4 #[33, 48, 54, 61, 68], 33) rfl) (by decide) ?_
      refine j_aload_n (dt_Mo_guest 8 (44, .aload_n 0, 1) rfl) rfl ?_
      obtain ⟨x3, hx3, hf⟩ := jbind hf
      refine j_getR (dt_Mo_guest 9 (45, .getfield 81, 3) rfl) fl_X12_81 hx3 (fun _ _ => rfl) ?_
      refine j_iload_n (dt_Mo_guest 10 (48, .iload_n 1, 1) rfl) rfl ?_
      obtain ⟨x4, hx4, hf⟩ := jbind hf
      refine j_aldZ (dt_Mo_guest 11 (49, .baload, 1) rfl) hx4 ?_
      refine jite hf (fun hc hf => ?_) (fun hc hf => ?_)
      · refine j_if_eq (dt_Mo_guest 12 (50, .ifCond .eq 7, 3) rfl) rfl (fun _ => ?_) (fun q => absurd hc q)
        refine j_iconst (dt_Mo_guest 15 (57, .iconst 0, 1) rfl) ic_0 ?_
        cases hf
        exact j_iret (dt_Mo_guest 16 (58, .ireturn, 1) rfl) rfl
      · refine j_if_eq (dt_Mo_guest 12 (50, .ifCond .eq 7, 3) rfl) rfl (fun q => absurd q hc) (fun _ => ?_)
        refine j_iconst (dt_Mo_guest 13 (53, .iconst 1, 1) rfl) ic_1 ?_
        refine j_goto (dt_Mo_guest 14 (54, .goto 4, 3) rfl) rfl ?_
        cases hf
        exact j_iret (dt_Mo_guest 16 (58, .ireturn, 1) rfl) rfl
    · refine jite hf (fun hc1 hf => ?_) (fun hc1 hf => ?_)
      · refine j_swIn (off := 48) (tgt := 59) 1 hc1 (dt_Mo_guest 7 (11, .tableswitch 83 0 4 #[33, 48, 54, 61, 68], 33) rfl) (by decide) ?_
        refine j_aload_n (dt_Mo_guest 17 (59, .aload_n 0, 1) rfl) rfl ?_
        refine j_iload_n (dt_Mo_guest 18 (60, .iload_n 1, 1) rfl) rfl ?_
        obtain ⟨x5, hx5, hf⟩ := jbind hf
        obtain ⟨b6, hb6⟩ := r_Mo_marksOf hx5
        refine j_callV M_Mo_marksOf 1 [ai v1] (rest := []) (dt_Mo_guest 19 (61, .invokevirtual 278, 3) rfl) ml_X12_278 ok_Mo_marksOf (jfit rfl rfl ⟨rfl, rfl⟩ (nle rfl) (nlt rfl)) rfl rfl (nle rfl) ⟨rfl, rfl⟩ hb6 ((c_Mo_marksOf hx5)) ?_
        cases hf
        exact j_iret (dt_Mo_guest 20 (64, .ireturn, 1) rfl) rfl
      · refine jite hf (fun hc2 hf => ?_) (fun hc2 hf => ?_)
        · refine j_swIn (off := 54) (tgt := 65) 2 hc2 (dt_Mo_guest 7 (11, .tableswitch 83 0 4 #[33, 48, 54, 61, 68], 33) rfl) (by decide) ?_
          refine j_aload_n (dt_Mo_guest 21 (65, .aload_n 0, 1) rfl) rfl ?_
          obtain ⟨x7, hx7, hf⟩ := jbind hf
          refine j_getR (dt_Mo_guest 22 (66, .getfield 87, 3) rfl) fl_X12_87 hx7 (fun _ _ => rfl) ?_
          refine j_iload_n (dt_Mo_guest 23 (69, .iload_n 1, 1) rfl) rfl ?_
          obtain ⟨x8, hx8, hf⟩ := jbind hf
          refine j_aldI (dt_Mo_guest 24 (70, .iaload, 1) rfl) hx8 ?_
          cases hf
          exact j_iret (dt_Mo_guest 25 (71, .ireturn, 1) rfl) rfl
        · refine jite hf (fun hc3 hf => ?_) (fun hc3 hf => ?_)
          · refine j_swIn (off := 61) (tgt := 72) 3 hc3 (dt_Mo_guest 7 (11, .tableswitch 83 0 4 #[33, 48, 54, 61, 68], 33) rfl) (by decide) ?_
            refine j_aload_n (dt_Mo_guest 26 (72, .aload_n 0, 1) rfl) rfl ?_
            obtain ⟨x9, hx9, hf⟩ := jbind hf
            refine j_getR (dt_Mo_guest 27 (73, .getfield 90, 3) rfl) fl_X12_90 hx9 (fun _ _ => rfl) ?_
            refine j_iload_n (dt_Mo_guest 28 (76, .iload_n 1, 1) rfl) rfl ?_
            obtain ⟨x10, hx10, hf⟩ := jbind hf
            refine j_aldI (dt_Mo_guest 29 (77, .iaload, 1) rfl) hx10 ?_
            cases hf
            exact j_iret (dt_Mo_guest 30 (78, .ireturn, 1) rfl) rfl
          · refine jite hf (fun hc4 hf => ?_) (fun hc4 hf => ?_)
            · refine j_swIn (off := 68) (tgt := 79) 4 hc4 (dt_Mo_guest 7 (11, .tableswitch 83 0 4 #[33, 48, 54, 61, 68], 33) rfl) (by decide) ?_
              refine j_aload_n (dt_Mo_guest 31 (79, .aload_n 0, 1) rfl) rfl ?_
              obtain ⟨x11, hx11, hf⟩ := jbind hf
              refine j_getR (dt_Mo_guest 32 (80, .getfield 84, 3) rfl) fl_X12_84 hx11 (fun _ _ => rfl) ?_
              refine j_iload_n (dt_Mo_guest 33 (83, .iload_n 1, 1) rfl) rfl ?_
              obtain ⟨x12, hx12, hf⟩ := jbind hf
              refine j_aldZ (dt_Mo_guest 34 (84, .baload, 1) rfl) hx12 ?_
              refine jite hf (fun hc hf => ?_) (fun hc hf => ?_)
              · refine j_if_eq (dt_Mo_guest 35 (85, .ifCond .eq 7, 3) rfl) rfl (fun _ => ?_) (fun q => absurd hc q)
                refine j_iconst (dt_Mo_guest 38 (92, .iconst 0, 1) rfl) ic_0 ?_
                cases hf
                exact j_iret (dt_Mo_guest 39 (93, .ireturn, 1) rfl) rfl
              · refine j_if_eq (dt_Mo_guest 35 (85, .ifCond .eq 7, 3) rfl) rfl (fun q => absurd q hc) (fun _ => ?_)
                refine j_iconst (dt_Mo_guest 36 (88, .iconst 1, 1) rfl) ic_1 ?_
                refine j_goto (dt_Mo_guest 37 (89, .goto 4, 3) rfl) rfl ?_
                cases hf
                exact j_iret (dt_Mo_guest 39 (93, .ireturn, 1) rfl) rfl
            · refine j_swOut (dt_Mo_guest 7 (11, .tableswitch 83 0 4 #[33, 48, 54, 61, 68], 33) rfl) (jsw_out (lo := 0) 5 (fun k hk => ?_) (by decide) (by decide)) rfl ?_
              · match k, hk with
                | 0, _ => exact hc0
                | 1, _ => exact hc1
                | 2, _ => exact hc2
                | 3, _ => exact hc3
                | 4, _ => exact hc4
                | k + 5, hk => omega
              · refine j_iconst (dt_Mo_guest 40 (94, .iconst (-1), 1) rfl) ic_m1 ?_
                cases hf
                exact j_iret (dt_Mo_guest 41 (95, .ireturn, 1) rfl) rfl
theorem r_Mo_guest {S : hS} {V : hV} {v0 : Option Nat} {v1 : Int32} {v2 : Int32} {res : Int32} (hf : Mo_guest S v0 v1 v2 V = some res) : ∃ b, rc S 12 v0 = some b := by
  unfold Mo_guest at hf
  obtain ⟨b, hb, _⟩ := jbind hf
  exact ⟨b, hb⟩
def tb_Mo_isOf : List (Nat × Instr × Nat) := [(0, .iload_n 1, 1), (1, .bipush 100, 2), (3, .if_icmp .ge 16, 3), (6, .iload_n 1, 1), (7, .iload_n 2, 1), (8, .if_icmp .ne 7, 3), (11, .iconst 1, 1), (12, .goto 31, 3), (15, .iconst 0, 1), (16, .goto 27, 3), (19, .aload_n 0, 1), (20, .getfield 23, 3), (23, .iconst 0, 1), (24, .aaload, 1), (25, .iload_n 1, 1), (26, .bipush 100, 2), (28, .isub, 1), (29, .iaload, 1), (30, .iload_n 2, 1), (31, .ishr, 1), (32, .iconst 1, 1), (33, .iand, 1), (34, .iconst 1, 1), (35, .if_icmp .ne 7, 3), (38, .iconst 1, 1), (39, .goto 4, 3), (42, .iconst 0, 1), (43, .ireturn, 1)]
theorem dt_Mo_isOf (i : Nat) (q : Nat × Instr × Nat) (h : tb_Mo_isOf[i]? = some q) : decode prog_14_method_30_code q.1 = .ok q.2 := jdt (by decide +kernel : tb_Mo_isOf.all (fun q => decide (decode prog_14_method_30_code q.1 = .ok q.2)) = true) h
theorem ok_Mo_isOf : jOKV M_Mo_isOf 2 := ⟨⟨gt7 103 rfl rfl, gt1 17 rfl rfl, (by decide : "FirstInModel" ≠ "java/lang/invoke/MethodHandle"), (by decide : "FirstInModel" ≠ "java/lang/invoke/VarHandle"), (by decide +kernel : (parseMethodDescriptor "(II)Z").map (fun d => d.parameters.length) = some 2)⟩, gt7 102 rfl rfl, gs_in 26 rfl, rfl, nlt rfl⟩
set_option maxRecDepth 100000 in
set_option maxHeartbeats 4000000 in
theorem c_Mo_isOf {G : jG} {S : hS} {V : hV} {v0 : Option Nat} {v1 : Int32} {v2 : Int32} {res : Int32} (hf : Mo_isOf S v0 v1 v2 V = some res) : jC G M_Mo_isOf [ar v0, ai v1, ai v2] (S, V) (some (ai res)) (S, V) := by
  unfold Mo_isOf at hf
  obtain ⟨_, _, hf⟩ := jbind hf
  refine jC_of (pf_X12 _ _) rfl (nle rfl) ?_
  show jJ G M_Mo_isOf (jEnd G M_Mo_isOf (some (ai res)) (S, V)) 0 0 0 [(0, ar v0), (1, ai v1), (2, ai v2)] [] (S, V)
  refine j_iload_n (dt_Mo_isOf 0 (0, .iload_n 1, 1) rfl) rfl ?_
  refine j_bipush (dt_Mo_isOf 1 (1, .bipush 100, 2) rfl) bp_100 ?_
  refine jite hf (fun hc hf => ?_) (fun hc hf => ?_)
  · refine j_icmp_ge (dt_Mo_isOf 2 (3, .if_icmp .ge 16, 3) rfl) rfl (fun _ => ?_) (fun q => absurd hc q)
    refine j_aload_n (dt_Mo_isOf 10 (19, .aload_n 0, 1) rfl) rfl ?_
    obtain ⟨x1, hx1, hf⟩ := jbind hf
    refine j_getR (dt_Mo_isOf 11 (20, .getfield 23, 3) rfl) fl_X12_23 hx1 (fun _ _ => rfl) ?_
    refine j_iconst (dt_Mo_isOf 12 (23, .iconst 0, 1) rfl) ic_0 ?_
    obtain ⟨x2, hx2, hf⟩ := jbind hf
    refine j_aldR 107 (dt_Mo_isOf 13 (24, .aaload, 1) rfl) (by decide) hx2 ?_
    refine j_iload_n (dt_Mo_isOf 14 (25, .iload_n 1, 1) rfl) rfl ?_
    refine j_bipush (dt_Mo_isOf 15 (26, .bipush 100, 2) rfl) bp_100 ?_
    refine j_isub (dt_Mo_isOf 16 (28, .isub, 1) rfl) ?_
    obtain ⟨x3, hx3, hf⟩ := jbind hf
    refine j_aldI (dt_Mo_isOf 17 (29, .iaload, 1) rfl) hx3 ?_
    refine j_iload_n (dt_Mo_isOf 18 (30, .iload_n 2, 1) rfl) rfl ?_
    refine j_ishr (dt_Mo_isOf 19 (31, .ishr, 1) rfl) ?_
    refine j_iconst (dt_Mo_isOf 20 (32, .iconst 1, 1) rfl) ic_1 ?_
    refine j_iand (dt_Mo_isOf 21 (33, .iand, 1) rfl) ?_
    refine j_iconst (dt_Mo_isOf 22 (34, .iconst 1, 1) rfl) ic_1 ?_
    refine jite hf (fun hc hf => ?_) (fun hc hf => ?_)
    · refine j_icmp_ne (dt_Mo_isOf 23 (35, .if_icmp .ne 7, 3) rfl) rfl (fun q => absurd hc q) (fun _ => ?_)
      refine j_iconst (dt_Mo_isOf 24 (38, .iconst 1, 1) rfl) ic_1 ?_
      refine j_goto (dt_Mo_isOf 25 (39, .goto 4, 3) rfl) rfl ?_
      cases hf
      exact j_zret (x := 1) (dt_Mo_isOf 27 (43, .ireturn, 1) rfl) rfl rfl
    · refine j_icmp_ne (dt_Mo_isOf 23 (35, .if_icmp .ne 7, 3) rfl) rfl (fun _ => ?_) (fun q => absurd q hc)
      refine j_iconst (dt_Mo_isOf 26 (42, .iconst 0, 1) rfl) ic_0 ?_
      cases hf
      exact j_zret (x := 0) (dt_Mo_isOf 27 (43, .ireturn, 1) rfl) rfl rfl
  · refine j_icmp_ge (dt_Mo_isOf 2 (3, .if_icmp .ge 16, 3) rfl) rfl (fun q => absurd q hc) (fun _ => ?_)
    refine j_iload_n (dt_Mo_isOf 3 (6, .iload_n 1, 1) rfl) rfl ?_
    refine j_iload_n (dt_Mo_isOf 4 (7, .iload_n 2, 1) rfl) rfl ?_
    refine jite hf (fun hc hf => ?_) (fun hc hf => ?_)
    · refine j_icmp_ne (dt_Mo_isOf 5 (8, .if_icmp .ne 7, 3) rfl) rfl (fun q => absurd hc q) (fun _ => ?_)
      refine j_iconst (dt_Mo_isOf 6 (11, .iconst 1, 1) rfl) ic_1 ?_
      refine j_goto (dt_Mo_isOf 7 (12, .goto 31, 3) rfl) rfl ?_
      cases hf
      exact j_zret (x := 1) (dt_Mo_isOf 27 (43, .ireturn, 1) rfl) rfl rfl
    · refine j_icmp_ne (dt_Mo_isOf 5 (8, .if_icmp .ne 7, 3) rfl) rfl (fun _ => ?_) (fun q => absurd q hc)
      refine j_iconst (dt_Mo_isOf 8 (15, .iconst 0, 1) rfl) ic_0 ?_
      refine j_goto (dt_Mo_isOf 9 (16, .goto 27, 3) rfl) rfl ?_
      cases hf
      exact j_zret (x := 0) (dt_Mo_isOf 27 (43, .ireturn, 1) rfl) rfl rfl
theorem r_Mo_isOf {S : hS} {V : hV} {v0 : Option Nat} {v1 : Int32} {v2 : Int32} {res : Int32} (hf : Mo_isOf S v0 v1 v2 V = some res) : ∃ b, rc S 12 v0 = some b := by
  unfold Mo_isOf at hf
  obtain ⟨b, hb, _⟩ := jbind hf
  exact ⟨b, hb⟩
def tb_Mo_couples : List (Nat × Instr × Nat) := [(0, .iload_n 2, 1), (1, .iload_n 3, 1), (2, .if_icmp .eq 73, 3), (5, .aload_n 0, 1), (6, .aload_n 0, 1), (7, .getfield 29, 3), (10, .iconst 0, 1), (11, .aaload, 1), (12, .iload_n 1, 1), (13, .iaload, 1), (14, .iload_n 2, 1), (15, .invokevirtual 282, 3), (18, .ifCond .eq 57, 3), (21, .aload_n 0, 1), (22, .aload_n 0, 1), (23, .getfield 32, 3), (26, .iconst 0, 1), (27, .aaload, 1), (28, .iload_n 1, 1), (29, .iaload, 1), (30, .iload_n 3, 1), (31, .invokevirtual 282, 3), (34, .ifCond .eq 41, 3), (37, .aload_n 0, 1), (38, .getfield 41, 3), (41, .iconst 0, 1), (42, .aaload, 1), (43, .iload_n 1, 1), (44, .iaload, 1), (45, .iconst (-1), 1), (46, .if_icmp .eq 25, 3), (49, .aload_n 0, 1), (50, .getfield 23, 3), (53, .iconst 0, 1), (54, .aaload, 1), (55, .aload_n 0, 1), (56, .getfield 41, 3), (59, .iconst 0, 1), (60, .aaload, 1), (61, .iload_n 1, 1), (62, .iaload, 1), (63, .iaload, 1), (64, .iload_n 3, 1), (65, .ishr, 1), (66, .iconst 1, 1), (67, .iand, 1), (68, .ifCond .ne 7, 3), (71, .iconst 1, 1), (72, .goto 4, 3), (75, .iconst 0, 1), (76, .ireturn, 1)]
theorem dt_Mo_couples (i : Nat) (q : Nat × Instr × Nat) (h : tb_Mo_couples[i]? = some q) : decode prog_14_method_31_code q.1 = .ok q.2 := jdt (by decide +kernel : tb_Mo_couples.all (fun q => decide (decode prog_14_method_31_code q.1 = .ok q.2)) = true) h
theorem ok_Mo_couples : jOKV M_Mo_couples 3 := ⟨⟨gt7 99 rfl rfl, gt1 17 rfl rfl, (by decide : "FirstInModel" ≠ "java/lang/invoke/MethodHandle"), (by decide : "FirstInModel" ≠ "java/lang/invoke/VarHandle"), (by decide +kernel : (parseMethodDescriptor "(III)Z").map (fun d => d.parameters.length) = some 3)⟩, gt7 98 rfl rfl, gs_in 25 rfl, rfl, nlt rfl⟩
set_option maxRecDepth 100000 in
set_option maxHeartbeats 4000000 in
theorem c_Mo_couples {G : jG} {S : hS} {V : hV} {v0 : Option Nat} {v1 : Int32} {v2 : Int32} {v3 : Int32} {res : Int32} (hf : Mo_couples S v0 v1 v2 v3 V = some res) : jC G M_Mo_couples [ar v0, ai v1, ai v2, ai v3] (S, V) (some (ai res)) (S, V) := by
  unfold Mo_couples at hf
  obtain ⟨_, _, hf⟩ := jbind hf
  refine jC_of (pf_X12 _ _) rfl (nle rfl) ?_
  show jJ G M_Mo_couples (jEnd G M_Mo_couples (some (ai res)) (S, V)) 0 0 0 [(0, ar v0), (1, ai v1), (2, ai v2), (3, ai v3)] [] (S, V)
  refine j_iload_n (dt_Mo_couples 0 (0, .iload_n 2, 1) rfl) rfl ?_
  refine j_iload_n (dt_Mo_couples 1 (1, .iload_n 3, 1) rfl) rfl ?_
  refine jite hf (fun hc hf => ?_) (fun hc hf => ?_)
  · refine j_icmp_eq (dt_Mo_couples 2 (2, .if_icmp .eq 73, 3) rfl) rfl (fun _ => ?_) (fun q => absurd hc q)
    refine j_iconst (dt_Mo_couples 49 (75, .iconst 0, 1) rfl) ic_0 ?_
    cases hf
    exact j_zret (x := 0) (dt_Mo_couples 50 (76, .ireturn, 1) rfl) rfl rfl
  · refine j_icmp_eq (dt_Mo_couples 2 (2, .if_icmp .eq 73, 3) rfl) rfl (fun q => absurd q hc) (fun _ => ?_)
    refine j_aload_n (dt_Mo_couples 3 (5, .aload_n 0, 1) rfl) rfl ?_
    refine j_aload_n (dt_Mo_couples 4 (6, .aload_n 0, 1) rfl) rfl ?_
    obtain ⟨x1, hx1, hf⟩ := jbind hf
    refine j_getR (dt_Mo_couples 5 (7, .getfield 29, 3) rfl) fl_X12_29 hx1 (fun _ _ => rfl) ?_
    refine j_iconst (dt_Mo_couples 6 (10, .iconst 0, 1) rfl) ic_0 ?_
    obtain ⟨x2, hx2, hf⟩ := jbind hf
    refine j_aldR 107 (dt_Mo_couples 7 (11, .aaload, 1) rfl) (by decide) hx2 ?_
    refine j_iload_n (dt_Mo_couples 8 (12, .iload_n 1, 1) rfl) rfl ?_
    obtain ⟨x3, hx3, hf⟩ := jbind hf
    refine j_aldI (dt_Mo_couples 9 (13, .iaload, 1) rfl) hx3 ?_
    refine j_iload_n (dt_Mo_couples 10 (14, .iload_n 2, 1) rfl) rfl ?_
    obtain ⟨x4, hx4, hf⟩ := jbind hf
    obtain ⟨b5, hb5⟩ := r_Mo_isOf hx4
    refine j_callV M_Mo_isOf 2 [ai x3, ai v2] (rest := []) (dt_Mo_couples 11 (15, .invokevirtual 282, 3) rfl) ml_X12_282 ok_Mo_isOf (jfit rfl rfl ⟨rfl, rfl⟩ (nle rfl) (nlt rfl)) rfl rfl (nle rfl) ⟨rfl, rfl⟩ hb5 ((c_Mo_isOf hx4)) ?_
    refine jite hf (fun hc hf => ?_) (fun hc hf => ?_)
    · refine j_if_eq (dt_Mo_couples 12 (18, .ifCond .eq 57, 3) rfl) rfl (fun _ => ?_) (fun q => absurd hc q)
      refine j_iconst (dt_Mo_couples 49 (75, .iconst 0, 1) rfl) ic_0 ?_
      cases hf
      exact j_zret (x := 0) (dt_Mo_couples 50 (76, .ireturn, 1) rfl) rfl rfl
    · refine j_if_eq (dt_Mo_couples 12 (18, .ifCond .eq 57, 3) rfl) rfl (fun q => absurd q hc) (fun _ => ?_)
      refine j_aload_n (dt_Mo_couples 13 (21, .aload_n 0, 1) rfl) rfl ?_
      refine j_aload_n (dt_Mo_couples 14 (22, .aload_n 0, 1) rfl) rfl ?_
      obtain ⟨x6, hx6, hf⟩ := jbind hf
      refine j_getR (dt_Mo_couples 15 (23, .getfield 32, 3) rfl) fl_X12_32 hx6 (fun _ _ => rfl) ?_
      refine j_iconst (dt_Mo_couples 16 (26, .iconst 0, 1) rfl) ic_0 ?_
      obtain ⟨x7, hx7, hf⟩ := jbind hf
      refine j_aldR 107 (dt_Mo_couples 17 (27, .aaload, 1) rfl) (by decide) hx7 ?_
      refine j_iload_n (dt_Mo_couples 18 (28, .iload_n 1, 1) rfl) rfl ?_
      obtain ⟨x8, hx8, hf⟩ := jbind hf
      refine j_aldI (dt_Mo_couples 19 (29, .iaload, 1) rfl) hx8 ?_
      refine j_iload_n (dt_Mo_couples 20 (30, .iload_n 3, 1) rfl) rfl ?_
      obtain ⟨x9, hx9, hf⟩ := jbind hf
      obtain ⟨b10, hb10⟩ := r_Mo_isOf hx9
      refine j_callV M_Mo_isOf 2 [ai x8, ai v3] (rest := []) (dt_Mo_couples 21 (31, .invokevirtual 282, 3) rfl) ml_X12_282 ok_Mo_isOf (jfit rfl rfl ⟨rfl, rfl⟩ (nle rfl) (nlt rfl)) rfl rfl (nle rfl) ⟨rfl, rfl⟩ hb10 ((c_Mo_isOf hx9)) ?_
      refine jite hf (fun hc hf => ?_) (fun hc hf => ?_)
      · refine j_if_eq (dt_Mo_couples 22 (34, .ifCond .eq 41, 3) rfl) rfl (fun _ => ?_) (fun q => absurd hc q)
        refine j_iconst (dt_Mo_couples 49 (75, .iconst 0, 1) rfl) ic_0 ?_
        cases hf
        exact j_zret (x := 0) (dt_Mo_couples 50 (76, .ireturn, 1) rfl) rfl rfl
      · refine j_if_eq (dt_Mo_couples 22 (34, .ifCond .eq 41, 3) rfl) rfl (fun q => absurd q hc) (fun _ => ?_)
        refine j_aload_n (dt_Mo_couples 23 (37, .aload_n 0, 1) rfl) rfl ?_
        obtain ⟨x11, hx11, hf⟩ := jbind hf
        refine j_getR (dt_Mo_couples 24 (38, .getfield 41, 3) rfl) fl_X12_41 hx11 (fun _ _ => rfl) ?_
        refine j_iconst (dt_Mo_couples 25 (41, .iconst 0, 1) rfl) ic_0 ?_
        obtain ⟨x12, hx12, hf⟩ := jbind hf
        refine j_aldR 107 (dt_Mo_couples 26 (42, .aaload, 1) rfl) (by decide) hx12 ?_
        refine j_iload_n (dt_Mo_couples 27 (43, .iload_n 1, 1) rfl) rfl ?_
        obtain ⟨x13, hx13, hf⟩ := jbind hf
        refine j_aldI (dt_Mo_couples 28 (44, .iaload, 1) rfl) hx13 ?_
        refine j_iconst (dt_Mo_couples 29 (45, .iconst (-1), 1) rfl) ic_m1 ?_
        refine jite hf (fun hc hf => ?_) (fun hc hf => ?_)
        · refine j_icmp_eq (dt_Mo_couples 30 (46, .if_icmp .eq 25, 3) rfl) rfl (fun _ => ?_) (fun q => absurd hc q)
          refine j_iconst (dt_Mo_couples 47 (71, .iconst 1, 1) rfl) ic_1 ?_
          refine j_goto (dt_Mo_couples 48 (72, .goto 4, 3) rfl) rfl ?_
          cases hf
          exact j_zret (x := 1) (dt_Mo_couples 50 (76, .ireturn, 1) rfl) rfl rfl
        · refine j_icmp_eq (dt_Mo_couples 30 (46, .if_icmp .eq 25, 3) rfl) rfl (fun q => absurd q hc) (fun _ => ?_)
          refine j_aload_n (dt_Mo_couples 31 (49, .aload_n 0, 1) rfl) rfl ?_
          obtain ⟨x14, hx14, hf⟩ := jbind hf
          refine j_getR (dt_Mo_couples 32 (50, .getfield 23, 3) rfl) fl_X12_23 hx14 (fun _ _ => rfl) ?_
          refine j_iconst (dt_Mo_couples 33 (53, .iconst 0, 1) rfl) ic_0 ?_
          obtain ⟨x15, hx15, hf⟩ := jbind hf
          refine j_aldR 107 (dt_Mo_couples 34 (54, .aaload, 1) rfl) (by decide) hx15 ?_
          refine j_aload_n (dt_Mo_couples 35 (55, .aload_n 0, 1) rfl) rfl ?_
          obtain ⟨x16, hx16, hf⟩ := jbind hf
          refine j_getR (dt_Mo_couples 36 (56, .getfield 41, 3) rfl) fl_X12_41 hx16 (fun _ _ => rfl) ?_
          refine j_iconst (dt_Mo_couples 37 (59, .iconst 0, 1) rfl) ic_0 ?_
          obtain ⟨x17, hx17, hf⟩ := jbind hf
          refine j_aldR 107 (dt_Mo_couples 38 (60, .aaload, 1) rfl) (by decide) hx17 ?_
          refine j_iload_n (dt_Mo_couples 39 (61, .iload_n 1, 1) rfl) rfl ?_
          obtain ⟨x18, hx18, hf⟩ := jbind hf
          refine j_aldI (dt_Mo_couples 40 (62, .iaload, 1) rfl) hx18 ?_
          obtain ⟨x19, hx19, hf⟩ := jbind hf
          refine j_aldI (dt_Mo_couples 41 (63, .iaload, 1) rfl) hx19 ?_
          refine j_iload_n (dt_Mo_couples 42 (64, .iload_n 3, 1) rfl) rfl ?_
          refine j_ishr (dt_Mo_couples 43 (65, .ishr, 1) rfl) ?_
          refine j_iconst (dt_Mo_couples 44 (66, .iconst 1, 1) rfl) ic_1 ?_
          refine j_iand (dt_Mo_couples 45 (67, .iand, 1) rfl) ?_
          refine jite hf (fun hc hf => ?_) (fun hc hf => ?_)
          · refine j_if_ne (dt_Mo_couples 46 (68, .ifCond .ne 7, 3) rfl) rfl (fun q => absurd hc q) (fun _ => ?_)
            refine j_iconst (dt_Mo_couples 47 (71, .iconst 1, 1) rfl) ic_1 ?_
            refine j_goto (dt_Mo_couples 48 (72, .goto 4, 3) rfl) rfl ?_
            cases hf
            exact j_zret (x := 1) (dt_Mo_couples 50 (76, .ireturn, 1) rfl) rfl rfl
          · refine j_if_ne (dt_Mo_couples 46 (68, .ifCond .ne 7, 3) rfl) rfl (fun _ => ?_) (fun q => absurd q hc)
            refine j_iconst (dt_Mo_couples 49 (75, .iconst 0, 1) rfl) ic_0 ?_
            cases hf
            exact j_zret (x := 0) (dt_Mo_couples 50 (76, .ireturn, 1) rfl) rfl rfl
theorem r_Mo_couples {S : hS} {V : hV} {v0 : Option Nat} {v1 : Int32} {v2 : Int32} {v3 : Int32} {res : Int32} (hf : Mo_couples S v0 v1 v2 v3 V = some res) : ∃ b, rc S 12 v0 = some b := by
  unfold Mo_couples at hf
  obtain ⟨b, hb, _⟩ := jbind hf
  exact ⟨b, hb⟩
def tb_Mo_hasCouple : List (Nat × Instr × Nat) := [(0, .aload_n 0, 1), (1, .iload_n 1, 1), (2, .iload_n 2, 1), (3, .iload_n 3, 1), (4, .invokevirtual 285, 3), (7, .ifCond .ne 24, 3), (10, .aload_n 0, 1), (11, .getfield 26, 3), (14, .iconst 0, 1), (15, .aaload, 1), (16, .iload_n 1, 1), (17, .iaload, 1), (18, .ifCond .eq 17, 3), (21, .aload_n 0, 1), (22, .iload_n 1, 1), (23, .iload_n 3, 1), (24, .iload_n 2, 1), (25, .invokevirtual 285, 3), (28, .ifCond .eq 7, 3), (31, .iconst 1, 1), (32, .goto 4, 3), (35, .iconst 0, 1), (36, .ireturn, 1)]
theorem dt_Mo_hasCouple (i : Nat) (q : Nat × Instr × Nat) (h : tb_Mo_hasCouple[i]? = some q) : decode prog_14_method_32_code q.1 = .ok q.2 := jdt (by decide +kernel : tb_Mo_hasCouple.all (fun q => decide (decode prog_14_method_32_code q.1 = .ok q.2)) = true) h
theorem ok_Mo_hasCouple : jOKV M_Mo_hasCouple 3 := ⟨⟨gt7 95 rfl rfl, gt1 17 rfl rfl, (by decide : "FirstInModel" ≠ "java/lang/invoke/MethodHandle"), (by decide : "FirstInModel" ≠ "java/lang/invoke/VarHandle"), (by decide +kernel : (parseMethodDescriptor "(III)Z").map (fun d => d.parameters.length) = some 3)⟩, gt7 94 rfl rfl, gs_in 24 rfl, rfl, nlt rfl⟩
set_option maxRecDepth 100000 in
set_option maxHeartbeats 4000000 in
theorem c_Mo_hasCouple {G : jG} {S : hS} {V : hV} {v0 : Option Nat} {v1 : Int32} {v2 : Int32} {v3 : Int32} {res : Int32} (hf : Mo_hasCouple S v0 v1 v2 v3 V = some res) : jC G M_Mo_hasCouple [ar v0, ai v1, ai v2, ai v3] (S, V) (some (ai res)) (S, V) := by
  unfold Mo_hasCouple at hf
  obtain ⟨_, _, hf⟩ := jbind hf
  refine jC_of (pf_X12 _ _) rfl (nle rfl) ?_
  show jJ G M_Mo_hasCouple (jEnd G M_Mo_hasCouple (some (ai res)) (S, V)) 0 0 0 [(0, ar v0), (1, ai v1), (2, ai v2), (3, ai v3)] [] (S, V)
  refine j_aload_n (dt_Mo_hasCouple 0 (0, .aload_n 0, 1) rfl) rfl ?_
  refine j_iload_n (dt_Mo_hasCouple 1 (1, .iload_n 1, 1) rfl) rfl ?_
  refine j_iload_n (dt_Mo_hasCouple 2 (2, .iload_n 2, 1) rfl) rfl ?_
  refine j_iload_n (dt_Mo_hasCouple 3 (3, .iload_n 3, 1) rfl) rfl ?_
  obtain ⟨x1, hx1, hf⟩ := jbind hf
  obtain ⟨b2, hb2⟩ := r_Mo_couples hx1
  refine j_callV M_Mo_couples 3 [ai v1, ai v2, ai v3] (rest := []) (dt_Mo_hasCouple 4 (4, .invokevirtual 285, 3) rfl) ml_X12_285 ok_Mo_couples (jfit rfl rfl ⟨rfl, rfl⟩ (nle rfl) (nlt rfl)) rfl rfl (nle rfl) ⟨rfl, rfl⟩ hb2 ((c_Mo_couples hx1)) ?_
  refine jite hf (fun hc hf => ?_) (fun hc hf => ?_)
  · refine j_if_ne (dt_Mo_hasCouple 5 (7, .ifCond .ne 24, 3) rfl) rfl (fun q => absurd hc q) (fun _ => ?_)
    refine j_aload_n (dt_Mo_hasCouple 6 (10, .aload_n 0, 1) rfl) rfl ?_
    obtain ⟨x3, hx3, hf⟩ := jbind hf
    refine j_getR (dt_Mo_hasCouple 7 (11, .getfield 26, 3) rfl) fl_X12_26 hx3 (fun _ _ => rfl) ?_
    refine j_iconst (dt_Mo_hasCouple 8 (14, .iconst 0, 1) rfl) ic_0 ?_
    obtain ⟨x4, hx4, hf⟩ := jbind hf
    refine j_aldR 107 (dt_Mo_hasCouple 9 (15, .aaload, 1) rfl) (by decide) hx4 ?_
    refine j_iload_n (dt_Mo_hasCouple 10 (16, .iload_n 1, 1) rfl) rfl ?_
    obtain ⟨x5, hx5, hf⟩ := jbind hf
    refine j_aldI (dt_Mo_hasCouple 11 (17, .iaload, 1) rfl) hx5 ?_
    refine jite hf (fun hc hf => ?_) (fun hc hf => ?_)
    · refine j_if_eq (dt_Mo_hasCouple 12 (18, .ifCond .eq 17, 3) rfl) rfl (fun _ => ?_) (fun q => absurd hc q)
      refine j_iconst (dt_Mo_hasCouple 21 (35, .iconst 0, 1) rfl) ic_0 ?_
      cases hf
      exact j_zret (x := 0) (dt_Mo_hasCouple 22 (36, .ireturn, 1) rfl) rfl rfl
    · refine j_if_eq (dt_Mo_hasCouple 12 (18, .ifCond .eq 17, 3) rfl) rfl (fun q => absurd q hc) (fun _ => ?_)
      refine j_aload_n (dt_Mo_hasCouple 13 (21, .aload_n 0, 1) rfl) rfl ?_
      refine j_iload_n (dt_Mo_hasCouple 14 (22, .iload_n 1, 1) rfl) rfl ?_
      refine j_iload_n (dt_Mo_hasCouple 15 (23, .iload_n 3, 1) rfl) rfl ?_
      refine j_iload_n (dt_Mo_hasCouple 16 (24, .iload_n 2, 1) rfl) rfl ?_
      obtain ⟨x6, hx6, hf⟩ := jbind hf
      obtain ⟨b7, hb7⟩ := r_Mo_couples hx6
      refine j_callV M_Mo_couples 3 [ai v1, ai v3, ai v2] (rest := []) (dt_Mo_hasCouple 17 (25, .invokevirtual 285, 3) rfl) ml_X12_285 ok_Mo_couples (jfit rfl rfl ⟨rfl, rfl⟩ (nle rfl) (nlt rfl)) rfl rfl (nle rfl) ⟨rfl, rfl⟩ hb7 ((c_Mo_couples hx6)) ?_
      refine jite hf (fun hc hf => ?_) (fun hc hf => ?_)
      · refine j_if_eq (dt_Mo_hasCouple 18 (28, .ifCond .eq 7, 3) rfl) rfl (fun _ => ?_) (fun q => absurd hc q)
        refine j_iconst (dt_Mo_hasCouple 21 (35, .iconst 0, 1) rfl) ic_0 ?_
        cases hf
        exact j_zret (x := 0) (dt_Mo_hasCouple 22 (36, .ireturn, 1) rfl) rfl rfl
      · refine j_if_eq (dt_Mo_hasCouple 18 (28, .ifCond .eq 7, 3) rfl) rfl (fun q => absurd q hc) (fun _ => ?_)
        refine j_iconst (dt_Mo_hasCouple 19 (31, .iconst 1, 1) rfl) ic_1 ?_
        refine j_goto (dt_Mo_hasCouple 20 (32, .goto 4, 3) rfl) rfl ?_
        cases hf
        exact j_zret (x := 1) (dt_Mo_hasCouple 22 (36, .ireturn, 1) rfl) rfl rfl
  · refine j_if_ne (dt_Mo_hasCouple 5 (7, .ifCond .ne 24, 3) rfl) rfl (fun _ => ?_) (fun q => absurd q hc)
    refine j_iconst (dt_Mo_hasCouple 19 (31, .iconst 1, 1) rfl) ic_1 ?_
    refine j_goto (dt_Mo_hasCouple 20 (32, .goto 4, 3) rfl) rfl ?_
    cases hf
    exact j_zret (x := 1) (dt_Mo_hasCouple 22 (36, .ireturn, 1) rfl) rfl rfl
theorem r_Mo_hasCouple {S : hS} {V : hV} {v0 : Option Nat} {v1 : Int32} {v2 : Int32} {v3 : Int32} {res : Int32} (hf : Mo_hasCouple S v0 v1 v2 v3 V = some res) : ∃ b, rc S 12 v0 = some b := by
  unfold Mo_hasCouple at hf
  obtain ⟨b, hb, _⟩ := jbind hf
  exact ⟨b, hb⟩
def tb_Mo_counts : List (Nat × Instr × Nat) := [(0, .aload_n 0, 1), (1, .getfield 77, 3), (4, .iload_n 1, 1), (5, .baload, 1), (6, .ifCond .ne 31, 3), (9, .aload_n 0, 1), (10, .getfield 38, 3), (13, .iconst 0, 1), (14, .aaload, 1), (15, .iload_n 1, 1), (16, .iaload, 1), (17, .iconst (-1), 1), (18, .if_icmp .eq 15, 3), (21, .aload_n 0, 1), (22, .getfield 38, 3), (25, .iconst 0, 1), (26, .aaload, 1), (27, .iload_n 1, 1), (28, .iaload, 1), (29, .iload_n 2, 1), (30, .if_icmp .ne 7, 3), (33, .iconst 1, 1), (34, .goto 4, 3), (37, .iconst 0, 1), (38, .ireturn, 1)]
theorem dt_Mo_counts (i : Nat) (q : Nat × Instr × Nat) (h : tb_Mo_counts[i]? = some q) : decode prog_14_method_33_code q.1 = .ok q.2 := jdt (by decide +kernel : tb_Mo_counts.all (fun q => decide (decode prog_14_method_33_code q.1 = .ok q.2)) = true) h
theorem ok_Mo_counts : jOKV M_Mo_counts 2 := ⟨⟨gt7 157 rfl rfl, gt1 17 rfl rfl, (by decide : "FirstInModel" ≠ "java/lang/invoke/MethodHandle"), (by decide : "FirstInModel" ≠ "java/lang/invoke/VarHandle"), (by decide +kernel : (parseMethodDescriptor "(II)Z").map (fun d => d.parameters.length) = some 2)⟩, gt7 156 rfl rfl, gs_in 32 rfl, rfl, nlt rfl⟩
set_option maxRecDepth 100000 in
set_option maxHeartbeats 4000000 in
theorem c_Mo_counts {G : jG} {S : hS} {V : hV} {v0 : Option Nat} {v1 : Int32} {v2 : Int32} {res : Int32} (hf : Mo_counts S v0 v1 v2 V = some res) : jC G M_Mo_counts [ar v0, ai v1, ai v2] (S, V) (some (ai res)) (S, V) := by
  unfold Mo_counts at hf
  obtain ⟨_, _, hf⟩ := jbind hf
  refine jC_of (pf_X12 _ _) rfl (nle rfl) ?_
  show jJ G M_Mo_counts (jEnd G M_Mo_counts (some (ai res)) (S, V)) 0 0 0 [(0, ar v0), (1, ai v1), (2, ai v2)] [] (S, V)
  refine j_aload_n (dt_Mo_counts 0 (0, .aload_n 0, 1) rfl) rfl ?_
  obtain ⟨x1, hx1, hf⟩ := jbind hf
  refine j_getR (dt_Mo_counts 1 (1, .getfield 77, 3) rfl) fl_X12_77 hx1 (fun _ _ => rfl) ?_
  refine j_iload_n (dt_Mo_counts 2 (4, .iload_n 1, 1) rfl) rfl ?_
  obtain ⟨x2, hx2, hf⟩ := jbind hf
  refine j_aldZ (dt_Mo_counts 3 (5, .baload, 1) rfl) hx2 ?_
  refine jite hf (fun hc hf => ?_) (fun hc hf => ?_)
  · refine j_if_ne (dt_Mo_counts 4 (6, .ifCond .ne 31, 3) rfl) rfl (fun q => absurd hc q) (fun _ => ?_)
    refine j_aload_n (dt_Mo_counts 5 (9, .aload_n 0, 1) rfl) rfl ?_
    obtain ⟨x3, hx3, hf⟩ := jbind hf
    refine j_getR (dt_Mo_counts 6 (10, .getfield 38, 3) rfl) fl_X12_38 hx3 (fun _ _ => rfl) ?_
    refine j_iconst (dt_Mo_counts 7 (13, .iconst 0, 1) rfl) ic_0 ?_
    obtain ⟨x4, hx4, hf⟩ := jbind hf
    refine j_aldR 107 (dt_Mo_counts 8 (14, .aaload, 1) rfl) (by decide) hx4 ?_
    refine j_iload_n (dt_Mo_counts 9 (15, .iload_n 1, 1) rfl) rfl ?_
    obtain ⟨x5, hx5, hf⟩ := jbind hf
    refine j_aldI (dt_Mo_counts 10 (16, .iaload, 1) rfl) hx5 ?_
    refine j_iconst (dt_Mo_counts 11 (17, .iconst (-1), 1) rfl) ic_m1 ?_
    refine jite hf (fun hc hf => ?_) (fun hc hf => ?_)
    · refine j_icmp_eq (dt_Mo_counts 12 (18, .if_icmp .eq 15, 3) rfl) rfl (fun _ => ?_) (fun q => absurd hc q)
      refine j_iconst (dt_Mo_counts 21 (33, .iconst 1, 1) rfl) ic_1 ?_
      refine j_goto (dt_Mo_counts 22 (34, .goto 4, 3) rfl) rfl ?_
      cases hf
      exact j_zret (x := 1) (dt_Mo_counts 24 (38, .ireturn, 1) rfl) rfl rfl
    · refine j_icmp_eq (dt_Mo_counts 12 (18, .if_icmp .eq 15, 3) rfl) rfl (fun q => absurd q hc) (fun _ => ?_)
      refine j_aload_n (dt_Mo_counts 13 (21, .aload_n 0, 1) rfl) rfl ?_
      obtain ⟨x6, hx6, hf⟩ := jbind hf
      refine j_getR (dt_Mo_counts 14 (22, .getfield 38, 3) rfl) fl_X12_38 hx6 (fun _ _ => rfl) ?_
      refine j_iconst (dt_Mo_counts 15 (25, .iconst 0, 1) rfl) ic_0 ?_
      obtain ⟨x7, hx7, hf⟩ := jbind hf
      refine j_aldR 107 (dt_Mo_counts 16 (26, .aaload, 1) rfl) (by decide) hx7 ?_
      refine j_iload_n (dt_Mo_counts 17 (27, .iload_n 1, 1) rfl) rfl ?_
      obtain ⟨x8, hx8, hf⟩ := jbind hf
      refine j_aldI (dt_Mo_counts 18 (28, .iaload, 1) rfl) hx8 ?_
      refine j_iload_n (dt_Mo_counts 19 (29, .iload_n 2, 1) rfl) rfl ?_
      refine jite hf (fun hc hf => ?_) (fun hc hf => ?_)
      · refine j_icmp_ne (dt_Mo_counts 20 (30, .if_icmp .ne 7, 3) rfl) rfl (fun q => absurd hc q) (fun _ => ?_)
        refine j_iconst (dt_Mo_counts 21 (33, .iconst 1, 1) rfl) ic_1 ?_
        refine j_goto (dt_Mo_counts 22 (34, .goto 4, 3) rfl) rfl ?_
        cases hf
        exact j_zret (x := 1) (dt_Mo_counts 24 (38, .ireturn, 1) rfl) rfl rfl
      · refine j_icmp_ne (dt_Mo_counts 20 (30, .if_icmp .ne 7, 3) rfl) rfl (fun _ => ?_) (fun q => absurd q hc)
        refine j_iconst (dt_Mo_counts 23 (37, .iconst 0, 1) rfl) ic_0 ?_
        cases hf
        exact j_zret (x := 0) (dt_Mo_counts 24 (38, .ireturn, 1) rfl) rfl rfl
  · refine j_if_ne (dt_Mo_counts 4 (6, .ifCond .ne 31, 3) rfl) rfl (fun _ => ?_) (fun q => absurd q hc)
    refine j_iconst (dt_Mo_counts 23 (37, .iconst 0, 1) rfl) ic_0 ?_
    cases hf
    exact j_zret (x := 0) (dt_Mo_counts 24 (38, .ireturn, 1) rfl) rfl rfl
theorem r_Mo_counts {S : hS} {V : hV} {v0 : Option Nat} {v1 : Int32} {v2 : Int32} {res : Int32} (hf : Mo_counts S v0 v1 v2 V = some res) : ∃ b, rc S 12 v0 = some b := by
  unfold Mo_counts at hf
  obtain ⟨b, hb, _⟩ := jbind hf
  exact ⟨b, hb⟩
def tb_Mo_countsFor : List (Nat × Instr × Nat) := [(0, .aload_n 0, 1), (1, .iload_n 1, 1), (2, .iload_n 2, 1), (3, .invokevirtual 288, 3), (6, .ifCond .eq 37, 3), (9, .aload_n 0, 1), (10, .getfield 81, 3), (13, .iload_n 3, 1), (14, .baload, 1), (15, .ifCond .eq 28, 3), (18, .aload_n 0, 1), (19, .getfield 81, 3), (22, .iload 4, 2), (24, .baload, 1), (25, .ifCond .eq 18, 3), (28, .aload_n 0, 1), (29, .iload_n 1, 1), (30, .iload_n 3, 1), (31, .iload 4, 2), (33, .invokevirtual 291, 3), (36, .ifCond .eq 7, 3), (39, .iconst 1, 1), (40, .goto 4, 3), (43, .iconst 0, 1), (44, .ireturn, 1)]
theorem dt_Mo_countsFor (i : Nat) (q : Nat × Instr × Nat) (h : tb_Mo_countsFor[i]? = some q) : decode prog_14_method_34_code q.1 = .ok q.2 := jdt (by decide +kernel : tb_Mo_countsFor.all (fun q => decide (decode prog_14_method_34_code q.1 = .ok q.2)) = true) h
theorem ok_Mo_countsFor : jOKV M_Mo_countsFor 4 := ⟨⟨gt7 153 rfl rfl, gt1 17 rfl rfl, (by decide : "FirstInModel" ≠ "java/lang/invoke/MethodHandle"), (by decide : "FirstInModel" ≠ "java/lang/invoke/VarHandle"), (by decide +kernel : (parseMethodDescriptor "(IIII)Z").map (fun d => d.parameters.length) = some 4)⟩, gt7 152 rfl rfl, gs_in 31 rfl, rfl, nlt rfl⟩
set_option maxRecDepth 100000 in
set_option maxHeartbeats 4000000 in
theorem c_Mo_countsFor {G : jG} {S : hS} {V : hV} {v0 : Option Nat} {v1 : Int32} {v2 : Int32} {v3 : Int32} {v4 : Int32} {res : Int32} (hf : Mo_countsFor S v0 v1 v2 v3 v4 V = some res) : jC G M_Mo_countsFor [ar v0, ai v1, ai v2, ai v3, ai v4] (S, V) (some (ai res)) (S, V) := by
  unfold Mo_countsFor at hf
  obtain ⟨_, _, hf⟩ := jbind hf
  refine jC_of (pf_X12 _ _) rfl (nle rfl) ?_
  show jJ G M_Mo_countsFor (jEnd G M_Mo_countsFor (some (ai res)) (S, V)) 0 0 0 [(0, ar v0), (1, ai v1), (2, ai v2), (3, ai v3), (4, ai v4)] [] (S, V)
  refine j_aload_n (dt_Mo_countsFor 0 (0, .aload_n 0, 1) rfl) rfl ?_
  refine j_iload_n (dt_Mo_countsFor 1 (1, .iload_n 1, 1) rfl) rfl ?_
  refine j_iload_n (dt_Mo_countsFor 2 (2, .iload_n 2, 1) rfl) rfl ?_
  obtain ⟨x1, hx1, hf⟩ := jbind hf
  obtain ⟨b2, hb2⟩ := r_Mo_counts hx1
  refine j_callV M_Mo_counts 2 [ai v1, ai v2] (rest := []) (dt_Mo_countsFor 3 (3, .invokevirtual 288, 3) rfl) ml_X12_288 ok_Mo_counts (jfit rfl rfl ⟨rfl, rfl⟩ (nle rfl) (nlt rfl)) rfl rfl (nle rfl) ⟨rfl, rfl⟩ hb2 ((c_Mo_counts hx1)) ?_
  refine jite hf (fun hc hf => ?_) (fun hc hf => ?_)
  · refine j_if_eq (dt_Mo_countsFor 4 (6, .ifCond .eq 37, 3) rfl) rfl (fun _ => ?_) (fun q => absurd hc q)
    refine j_iconst (dt_Mo_countsFor 23 (43, .iconst 0, 1) rfl) ic_0 ?_
    cases hf
    exact j_zret (x := 0) (dt_Mo_countsFor 24 (44, .ireturn, 1) rfl) rfl rfl
  · refine j_if_eq (dt_Mo_countsFor 4 (6, .ifCond .eq 37, 3) rfl) rfl (fun q => absurd q hc) (fun _ => ?_)
    refine j_aload_n (dt_Mo_countsFor 5 (9, .aload_n 0, 1) rfl) rfl ?_
    obtain ⟨x3, hx3, hf⟩ := jbind hf
    refine j_getR (dt_Mo_countsFor 6 (10, .getfield 81, 3) rfl) fl_X12_81 hx3 (fun _ _ => rfl) ?_
    refine j_iload_n (dt_Mo_countsFor 7 (13, .iload_n 3, 1) rfl) rfl ?_
    obtain ⟨x4, hx4, hf⟩ := jbind hf
    refine j_aldZ (dt_Mo_countsFor 8 (14, .baload, 1) rfl) hx4 ?_
    refine jite hf (fun hc hf => ?_) (fun hc hf => ?_)
    · refine j_if_eq (dt_Mo_countsFor 9 (15, .ifCond .eq 28, 3) rfl) rfl (fun _ => ?_) (fun q => absurd hc q)
      refine j_iconst (dt_Mo_countsFor 23 (43, .iconst 0, 1) rfl) ic_0 ?_
      cases hf
      exact j_zret (x := 0) (dt_Mo_countsFor 24 (44, .ireturn, 1) rfl) rfl rfl
    · refine j_if_eq (dt_Mo_countsFor 9 (15, .ifCond .eq 28, 3) rfl) rfl (fun q => absurd q hc) (fun _ => ?_)
      refine j_aload_n (dt_Mo_countsFor 10 (18, .aload_n 0, 1) rfl) rfl ?_
      obtain ⟨x5, hx5, hf⟩ := jbind hf
      refine j_getR (dt_Mo_countsFor 11 (19, .getfield 81, 3) rfl) fl_X12_81 hx5 (fun _ _ => rfl) ?_
      refine j_iload (dt_Mo_countsFor 12 (22, .iload 4, 2) rfl) rfl ?_
      obtain ⟨x6, hx6, hf⟩ := jbind hf
      refine j_aldZ (dt_Mo_countsFor 13 (24, .baload, 1) rfl) hx6 ?_
      refine jite hf (fun hc hf => ?_) (fun hc hf => ?_)
      · refine j_if_eq (dt_Mo_countsFor 14 (25, .ifCond .eq 18, 3) rfl) rfl (fun _ => ?_) (fun q => absurd hc q)
        refine j_iconst (dt_Mo_countsFor 23 (43, .iconst 0, 1) rfl) ic_0 ?_
        cases hf
        exact j_zret (x := 0) (dt_Mo_countsFor 24 (44, .ireturn, 1) rfl) rfl rfl
      · refine j_if_eq (dt_Mo_countsFor 14 (25, .ifCond .eq 18, 3) rfl) rfl (fun q => absurd q hc) (fun _ => ?_)
        refine j_aload_n (dt_Mo_countsFor 15 (28, .aload_n 0, 1) rfl) rfl ?_
        refine j_iload_n (dt_Mo_countsFor 16 (29, .iload_n 1, 1) rfl) rfl ?_
        refine j_iload_n (dt_Mo_countsFor 17 (30, .iload_n 3, 1) rfl) rfl ?_
        refine j_iload (dt_Mo_countsFor 18 (31, .iload 4, 2) rfl) rfl ?_
        obtain ⟨x7, hx7, hf⟩ := jbind hf
        obtain ⟨b8, hb8⟩ := r_Mo_hasCouple hx7
        refine j_callV M_Mo_hasCouple 3 [ai v1, ai v3, ai v4] (rest := []) (dt_Mo_countsFor 19 (33, .invokevirtual 291, 3) rfl) ml_X12_291 ok_Mo_hasCouple (jfit rfl rfl ⟨rfl, rfl⟩ (nle rfl) (nlt rfl)) rfl rfl (nle rfl) ⟨rfl, rfl⟩ hb8 ((c_Mo_hasCouple hx7)) ?_
        refine jite hf (fun hc hf => ?_) (fun hc hf => ?_)
        · refine j_if_eq (dt_Mo_countsFor 20 (36, .ifCond .eq 7, 3) rfl) rfl (fun _ => ?_) (fun q => absurd hc q)
          refine j_iconst (dt_Mo_countsFor 23 (43, .iconst 0, 1) rfl) ic_0 ?_
          cases hf
          exact j_zret (x := 0) (dt_Mo_countsFor 24 (44, .ireturn, 1) rfl) rfl rfl
        · refine j_if_eq (dt_Mo_countsFor 20 (36, .ifCond .eq 7, 3) rfl) rfl (fun q => absurd q hc) (fun _ => ?_)
          refine j_iconst (dt_Mo_countsFor 21 (39, .iconst 1, 1) rfl) ic_1 ?_
          refine j_goto (dt_Mo_countsFor 22 (40, .goto 4, 3) rfl) rfl ?_
          cases hf
          exact j_zret (x := 1) (dt_Mo_countsFor 24 (44, .ireturn, 1) rfl) rfl rfl
theorem r_Mo_countsFor {S : hS} {V : hV} {v0 : Option Nat} {v1 : Int32} {v2 : Int32} {v3 : Int32} {v4 : Int32} {res : Int32} (hf : Mo_countsFor S v0 v1 v2 v3 v4 V = some res) : ∃ b, rc S 12 v0 = some b := by
  unfold Mo_countsFor at hf
  obtain ⟨b, hb, _⟩ := jbind hf
  exact ⟨b, hb⟩
def tb_Mo_rule : List (Nat × Instr × Nat) := [(0, .aload_n 0, 1), (1, .iload_n 1, 1), (2, .invokevirtual 294, 3), (5, .ifCond .ne 5, 3), (8, .iconst (-1), 1), (9, .ireturn, 1), (10, .iload_n 2, 1), (11, .tableswitch 196 0 7 #[45, 54, 63, 72, 81, 90, 99, 181], 45), (56, .aload_n 0, 1), (57, .getfield 26, 3), (60, .iconst 0, 1), (61, .aaload, 1), (62, .iload_n 1, 1), (63, .iaload, 1), (64, .ireturn, 1), (65, .aload_n 0, 1), (66, .getfield 29, 3), (69, .iconst 0, 1), (70, .aaload, 1), (71, .iload_n 1, 1), (72, .iaload, 1), (73, .ireturn, 1), (74, .aload_n 0, 1), (75, .getfield 32, 3), (78, .iconst 0, 1), (79, .aaload, 1), (80, .iload_n 1, 1), (81, .iaload, 1), (82, .ireturn, 1), (83, .aload_n 0, 1), (84, .getfield 35, 3), (87, .iconst 0, 1), (88, .aaload, 1), (89, .iload_n 1, 1), (90, .iaload, 1), (91, .ireturn, 1), (92, .aload_n 0, 1), (93, .getfield 38, 3), (96, .iconst 0, 1), (97, .aaload, 1), (98, .iload_n 1, 1), (99, .iaload, 1), (100, .ireturn, 1), (101, .aload_n 0, 1), (102, .getfield 41, 3), (105, .iconst 0, 1), (106, .aaload, 1), (107, .iload_n 1, 1), (108, .iaload, 1), (109, .ireturn, 1), (110, .iconst 0, 1), (111, .istore_n 3, 1), (112, .iconst 0, 1), (113, .istore 4, 2), (115, .iload 4, 2), (117, .aload_n 0, 1), (118, .getfield 44, 3), (121, .iconst 0, 1), (122, .iaload, 1), (123, .if_icmp .ge 67, 3), (126, .aload_n 0, 1), (127, .getfield 26, 3), (130, .iconst 0, 1), (131, .aaload, 1), (132, .iload_n 1, 1), (133, .iaload, 1), (134, .ifCond .ne 7, 3), (137, .iconst 0, 1), (138, .goto 7, 3), (141, .iload 4, 2), (143, .iconst 1, 1), (144, .iadd, 1), (145, .istore 5, 2), (147, .iload 5, 2), (149, .aload_n 0, 1), (150, .getfield 44, 3), (153, .iconst 0, 1), (154, .iaload, 1), (155, .if_icmp .ge 29, 3), (158, .iload_n 3, 1), (159, .aload_n 0, 1), (160, .iload_n 1, 1), (161, .iload 4, 2), (163, .iload 5, 2), (165, .invokevirtual 291, 3), (168, .ifCond .eq 7, 3), (171, .iconst 1, 1), (172, .goto 4, 3), (175, .iconst 0, 1), (176, .iadd, 1), (177, .istore_n 3, 1), (178, .iinc 5 1, 3), (181, .goto (-34), 3), (184, .iinc 4 1, 3), (187, .goto (-72), 3), (190, .iload_n 3, 1), (191, .ireturn, 1), (192, .aload_n 0, 1), (193, .getfield 77, 3), (196, .iload_n 1, 1), (197, .baload, 1), (198, .ifCond .eq 7, 3), (201, .iconst 1, 1), (202, .goto 4, 3), (205, .iconst 0, 1), (206, .ireturn, 1), (207, .iconst (-1), 1), (208, .ireturn, 1)]
theorem dt_Mo_rule (i : Nat) (q : Nat × Instr × Nat) (h : tb_Mo_rule[i]? = some q) : decode prog_14_method_35_code q.1 = .ok q.2 := jdt (by decide +kernel : tb_Mo_rule.all (fun q => decide (decode prog_14_method_35_code q.1 = .ok q.2)) = true) h
theorem ok_Mo_rule : jOKV M_Mo_rule 2 := ⟨⟨gt7 87 rfl rfl, gt1 17 rfl rfl, (by decide : "FirstInModel" ≠ "java/lang/invoke/MethodHandle"), (by decide : "FirstInModel" ≠ "java/lang/invoke/VarHandle"), (by decide +kernel : (parseMethodDescriptor "(II)I").map (fun d => d.parameters.length) = some 2)⟩, gt7 85 rfl rfl, gt7 86 rfl rfl, rfl, nlt rfl⟩
set_option maxRecDepth 100000 in
set_option maxHeartbeats 4000000 in
theorem c_Mo_rule {G : jG} {S : hS} {V : hV} {v0 : Option Nat} {v1 : Int32} {v2 : Int32} {res : Int32} (hf : Mo_rule S v0 v1 v2 V = some res) : jC G M_Mo_rule [ar v0, ai v1, ai v2] (S, V) (some (ai res)) (S, V) := by
  unfold Mo_rule at hf
  obtain ⟨_, _, hf⟩ := jbind hf
  refine jC_of (pf_X12 _ _) rfl (nle rfl) ?_
  show jJ G M_Mo_rule (jEnd G M_Mo_rule (some (ai res)) (S, V)) 0 0 0 [(0, ar v0), (1, ai v1), (2, ai v2)] [] (S, V)
  refine j_aload_n (dt_Mo_rule 0 (0, .aload_n 0, 1) rfl) rfl ?_
  refine j_iload_n (dt_Mo_rule 1 (1, .iload_n 1, 1) rfl) rfl ?_
  obtain ⟨x1, hx1, hf⟩ := jbind hf
  obtain ⟨b2, hb2⟩ := r_Mo_isRule hx1
  refine j_callV M_Mo_isRule 1 [ai v1] (rest := []) (dt_Mo_rule 2 (2, .invokevirtual 294, 3) rfl) ml_X12_294 ok_Mo_isRule (jfit rfl rfl ⟨rfl, rfl⟩ (nle rfl) (nlt rfl)) rfl rfl (nle rfl) ⟨rfl, rfl⟩ hb2 ((c_Mo_isRule hx1)) ?_
  refine jite hf (fun hc hf => ?_) (fun hc hf => ?_)
  · refine j_if_ne (dt_Mo_rule 3 (5, .ifCond .ne 5, 3) rfl) rfl (fun q => absurd hc q) (fun _ => ?_)
    refine j_iconst (dt_Mo_rule 4 (8, .iconst (-1), 1) rfl) ic_m1 ?_
    cases hf
    exact j_iret (dt_Mo_rule 5 (9, .ireturn, 1) rfl) rfl
  · refine j_if_ne (dt_Mo_rule 3 (5, .ifCond .ne 5, 3) rfl) rfl (fun _ => ?_) (fun q => absurd q hc)
    refine j_iload_n (dt_Mo_rule 6 (10, .iload_n 2, 1) rfl) rfl ?_
    refine jite hf (fun hc0 hf => ?_) (fun hc0 hf => ?_)
    · refine j_swIn (off := 45) (tgt := 56) 0 hc0 (dt_Mo_rule 7 (11, .tableswitch 196 0 7 #[45, 54, 63, 72, 81, 90, 99, 181], 45) rfl) (by decide) ?_
      refine j_aload_n (dt_Mo_rule 8 (56, .aload_n 0, 1) rfl) rfl ?_
      obtain ⟨x3, hx3, hf⟩ := jbind hf
      refine j_getR (dt_Mo_rule 9 (57, .getfield 26, 3) rfl) fl_X12_26 hx3 (fun _ _ => rfl) ?_
      refine j_iconst (dt_Mo_rule 10 (60, .iconst 0, 1) rfl) ic_0 ?_
      obtain ⟨x4, hx4, hf⟩ := jbind hf
      refine j_aldR 107 (dt_Mo_rule 11 (61, .aaload, 1) rfl) (by decide) hx4 ?_
      refine j_iload_n (dt_Mo_rule 12 (62, .iload_n 1, 1) rfl) rfl ?_
      obtain ⟨x5, hx5, hf⟩ := jbind hf
      refine j_aldI (dt_Mo_rule 13 (63, .iaload, 1) rfl) hx5 ?_
      cases hf
      exact j_iret (dt_Mo_rule 14 (64, .ireturn, 1) rfl) rfl
    · refine jite hf (fun hc1 hf => ?_) (fun hc1 hf => ?_)
      · refine j_swIn (off := 54) (tgt := 65) 1 hc1 (dt_Mo_rule 7 (11, .tableswitch 196 0 7 #[45, 54, 63, 72, 81, 90, 99, 181], 45) rfl) (by decide) ?_
        refine j_aload_n (dt_Mo_rule 15 (65, .aload_n 0, 1) rfl) rfl ?_
        obtain ⟨x6, hx6, hf⟩ := jbind hf
        refine j_getR (dt_Mo_rule 16 (66, .getfield 29, 3) rfl) fl_X12_29 hx6 (fun _ _ => rfl) ?_
        refine j_iconst (dt_Mo_rule 17 (69, .iconst 0, 1) rfl) ic_0 ?_
        obtain ⟨x7, hx7, hf⟩ := jbind hf
        refine j_aldR 107 (dt_Mo_rule 18 (70, .aaload, 1) rfl) (by decide) hx7 ?_
        refine j_iload_n (dt_Mo_rule 19 (71, .iload_n 1, 1) rfl) rfl ?_
        obtain ⟨x8, hx8, hf⟩ := jbind hf
        refine j_aldI (dt_Mo_rule 20 (72, .iaload, 1) rfl) hx8 ?_
        cases hf
        exact j_iret (dt_Mo_rule 21 (73, .ireturn, 1) rfl) rfl
      · refine jite hf (fun hc2 hf => ?_) (fun hc2 hf => ?_)
        · refine j_swIn (off := 63) (tgt := 74) 2 hc2 (dt_Mo_rule 7 (11, .tableswitch 196 0 7 #[45, 54, 63, 72, 81, 90, 99, 181], 45) rfl) (by decide) ?_
          refine j_aload_n (dt_Mo_rule 22 (74, .aload_n 0, 1) rfl) rfl ?_
          obtain ⟨x9, hx9, hf⟩ := jbind hf
          refine j_getR (dt_Mo_rule 23 (75, .getfield 32, 3) rfl) fl_X12_32 hx9 (fun _ _ => rfl) ?_
          refine j_iconst (dt_Mo_rule 24 (78, .iconst 0, 1) rfl) ic_0 ?_
          obtain ⟨x10, hx10, hf⟩ := jbind hf
          refine j_aldR 107 (dt_Mo_rule 25 (79, .aaload, 1) rfl) (by decide) hx10 ?_
          refine j_iload_n (dt_Mo_rule 26 (80, .iload_n 1, 1) rfl) rfl ?_
          obtain ⟨x11, hx11, hf⟩ := jbind hf
          refine j_aldI (dt_Mo_rule 27 (81, .iaload, 1) rfl) hx11 ?_
          cases hf
          exact j_iret (dt_Mo_rule 28 (82, .ireturn, 1) rfl) rfl
        · refine jite hf (fun hc3 hf => ?_) (fun hc3 hf => ?_)
          · refine j_swIn (off := 72) (tgt := 83) 3 hc3 (dt_Mo_rule 7 (11, .tableswitch 196 0 7 #[45, 54, 63, 72, 81, 90, 99, 181], 45) rfl) (by decide) ?_
            refine j_aload_n (dt_Mo_rule 29 (83, .aload_n 0, 1) rfl) rfl ?_
            obtain ⟨x12, hx12, hf⟩ := jbind hf
            refine j_getR (dt_Mo_rule 30 (84, .getfield 35, 3) rfl) fl_X12_35 hx12 (fun _ _ => rfl) ?_
            refine j_iconst (dt_Mo_rule 31 (87, .iconst 0, 1) rfl) ic_0 ?_
            obtain ⟨x13, hx13, hf⟩ := jbind hf
            refine j_aldR 107 (dt_Mo_rule 32 (88, .aaload, 1) rfl) (by decide) hx13 ?_
            refine j_iload_n (dt_Mo_rule 33 (89, .iload_n 1, 1) rfl) rfl ?_
            obtain ⟨x14, hx14, hf⟩ := jbind hf
            refine j_aldI (dt_Mo_rule 34 (90, .iaload, 1) rfl) hx14 ?_
            cases hf
            exact j_iret (dt_Mo_rule 35 (91, .ireturn, 1) rfl) rfl
          · refine jite hf (fun hc4 hf => ?_) (fun hc4 hf => ?_)
            · refine j_swIn (off := 81) (tgt := 92) 4 hc4 (dt_Mo_rule 7 (11, .tableswitch 196 0 7 #[45, 54, 63, 72, 81, 90, 99, 181], 45) rfl) (by decide) ?_
              refine j_aload_n (dt_Mo_rule 36 (92, .aload_n 0, 1) rfl) rfl ?_
              obtain ⟨x15, hx15, hf⟩ := jbind hf
              refine j_getR (dt_Mo_rule 37 (93, .getfield 38, 3) rfl) fl_X12_38 hx15 (fun _ _ => rfl) ?_
              refine j_iconst (dt_Mo_rule 38 (96, .iconst 0, 1) rfl) ic_0 ?_
              obtain ⟨x16, hx16, hf⟩ := jbind hf
              refine j_aldR 107 (dt_Mo_rule 39 (97, .aaload, 1) rfl) (by decide) hx16 ?_
              refine j_iload_n (dt_Mo_rule 40 (98, .iload_n 1, 1) rfl) rfl ?_
              obtain ⟨x17, hx17, hf⟩ := jbind hf
              refine j_aldI (dt_Mo_rule 41 (99, .iaload, 1) rfl) hx17 ?_
              cases hf
              exact j_iret (dt_Mo_rule 42 (100, .ireturn, 1) rfl) rfl
            · refine jite hf (fun hc5 hf => ?_) (fun hc5 hf => ?_)
              · refine j_swIn (off := 90) (tgt := 101) 5 hc5 (dt_Mo_rule 7 (11, .tableswitch 196 0 7 #[45, 54, 63, 72, 81, 90, 99, 181], 45) rfl) (by decide) ?_
                refine j_aload_n (dt_Mo_rule 43 (101, .aload_n 0, 1) rfl) rfl ?_
                obtain ⟨x18, hx18, hf⟩ := jbind hf
                refine j_getR (dt_Mo_rule 44 (102, .getfield 41, 3) rfl) fl_X12_41 hx18 (fun _ _ => rfl) ?_
                refine j_iconst (dt_Mo_rule 45 (105, .iconst 0, 1) rfl) ic_0 ?_
                obtain ⟨x19, hx19, hf⟩ := jbind hf
                refine j_aldR 107 (dt_Mo_rule 46 (106, .aaload, 1) rfl) (by decide) hx19 ?_
                refine j_iload_n (dt_Mo_rule 47 (107, .iload_n 1, 1) rfl) rfl ?_
                obtain ⟨x20, hx20, hf⟩ := jbind hf
                refine j_aldI (dt_Mo_rule 48 (108, .iaload, 1) rfl) hx20 ?_
                cases hf
                exact j_iret (dt_Mo_rule 49 (109, .ireturn, 1) rfl) rfl
              · refine jite hf (fun hc6 hf => ?_) (fun hc6 hf => ?_)
                · refine j_swIn (off := 99) (tgt := 110) 6 hc6 (dt_Mo_rule 7 (11, .tableswitch 196 0 7 #[45, 54, 63, 72, 81, 90, 99, 181], 45) rfl) (by decide) ?_
                  refine j_iconst (dt_Mo_rule 50 (110, .iconst 0, 1) rfl) ic_0 ?_
                  refine j_istore_n (dt_Mo_rule 51 (111, .istore_n 3, 1) rfl) (nlt rfl) ?_
                  refine j_iconst (dt_Mo_rule 52 (112, .iconst 0, 1) rfl) ic_0 ?_
                  refine j_istore (dt_Mo_rule 53 (113, .istore 4, 2) rfl) (nlt rfl) ?_
                  obtain ⟨t115, ht115, hf⟩ := jbind hf
                  have hX115 : ∀ q115 : Int32, q115 = t115 → jJ G M_Mo_rule (jEnd G M_Mo_rule (some (ai res)) (S, V)) 0 0 190 [(3, ai q115)] [] (S, V) := by
                    intro q115 hq115
                    subst hq115
                    refine j_iload_n (dt_Mo_rule 95 (190, .iload_n 3, 1) rfl) rfl ?_
                    cases hf
                    exact j_iret (dt_Mo_rule 96 (191, .ireturn, 1) rfl) rfl
                  refine j_sub (ls' := [(0, ar v0), (1, ai v1), (3, ai 0), (4, ai 0)]) rfl ?_
                  refine jloop_J (C := fun s115 => jJ G M_Mo_rule (jEnd G M_Mo_rule (some (ai res)) (S, V)) 0 0 115 [(0, ar v0), (1, ai v1), (3, ai s115.1), (4, ai s115.2)] [] (S, V)) (fun s115 z115_ hy115 hin115 hout115 => ?_) _ _ ht115
                  unfold Mo_rule_L115 at hy115
                  refine j_iload (dt_Mo_rule 54 (115, .iload 4, 2) rfl) rfl ?_
                  refine j_aload_n (dt_Mo_rule 55 (117, .aload_n 0, 1) rfl) rfl ?_
                  obtain ⟨x21, hx21, hy115⟩ := jbind hy115
                  refine j_getR (dt_Mo_rule 56 (118, .getfield 44, 3) rfl) fl_X12_44 hx21 (fun _ _ => rfl) ?_
                  refine j_iconst (dt_Mo_rule 57 (121, .iconst 0, 1) rfl) ic_0 ?_
                  obtain ⟨x22, hx22, hy115⟩ := jbind hy115
                  refine j_aldI (dt_Mo_rule 58 (122, .iaload, 1) rfl) hx22 ?_
                  refine jite hy115 (fun hc hy115 => ?_) (fun hc hy115 => ?_)
                  · refine j_icmp_ge (dt_Mo_rule 59 (123, .if_icmp .ge 67, 3) rfl) rfl (fun _ => ?_) (fun q => absurd hc q)
                    cases hy115
                    have hz := hX115 _ (hout115 _ rfl)
                    exact j_sub rfl hz
                  · refine j_icmp_ge (dt_Mo_rule 59 (123, .if_icmp .ge 67, 3) rfl) rfl (fun q => absurd q hc) (fun _ => ?_)
                    refine j_aload_n (dt_Mo_rule 60 (126, .aload_n 0, 1) rfl) rfl ?_
                    obtain ⟨x23, hx23, hy115⟩ := jbind hy115
                    refine j_getR (dt_Mo_rule 61 (127, .getfield 26, 3) rfl) fl_X12_26 hx23 (fun _ _ => rfl) ?_
                    refine j_iconst (dt_Mo_rule 62 (130, .iconst 0, 1) rfl) ic_0 ?_
                    obtain ⟨x24, hx24, hy115⟩ := jbind hy115
                    refine j_aldR 107 (dt_Mo_rule 63 (131, .aaload, 1) rfl) (by decide) hx24 ?_
                    refine j_iload_n (dt_Mo_rule 64 (132, .iload_n 1, 1) rfl) rfl ?_
                    obtain ⟨x25, hx25, hy115⟩ := jbind hy115
                    refine j_aldI (dt_Mo_rule 65 (133, .iaload, 1) rfl) hx25 ?_
                    obtain ⟨j134, hj134, hy115⟩ := jbind hy115
                    have hP134 : jJ G M_Mo_rule (jEnd G M_Mo_rule (some (ai res)) (S, V)) 0 0 145 [(0, ar v0), (1, ai v1), (3, ai s115.1), (4, ai s115.2)] [ai j134] (S, V) := by
                      refine j_istore (dt_Mo_rule 72 (145, .istore 5, 2) rfl) (nlt rfl) ?_
                      obtain ⟨t147, ht147, hy115⟩ := jbind hy115
                      have hX147 : ∀ q147 : Int32, q147 = t147 → jJ G M_Mo_rule (jEnd G M_Mo_rule (some (ai res)) (S, V)) 0 0 184 [(0, ar v0), (1, ai v1), (3, ai q147), (4, ai s115.2)] [] (S, V) := by
                        intro q147 hq147
                        subst hq147
                        refine j_iinc (dt_Mo_rule 93 (184, .iinc 4 1, 3) rfl) rfl (nlt rfl) (ii_1 _) ?_
                        refine j_goto (dt_Mo_rule 94 (187, .goto (-72), 3) rfl) rfl ?_
                        cases hy115
                        have hz := hin115 _ rfl
                        exact j_sub rfl hz
                      refine j_sub (ls' := [(0, ar v0), (1, ai v1), (3, ai s115.1), (4, ai s115.2), (5, ai j134)]) rfl ?_
                      refine jloop_J (C := fun s147 => jJ G M_Mo_rule (jEnd G M_Mo_rule (some (ai res)) (S, V)) 0 0 147 [(0, ar v0), (1, ai v1), (3, ai s147.1), (4, ai s115.2), (5, ai s147.2)] [] (S, V)) (fun s147 z147_ hy147 hin147 hout147 => ?_) _ _ ht147
                      unfold Mo_rule_L147 at hy147
                      refine j_iload (dt_Mo_rule 73 (147, .iload 5, 2) rfl) rfl ?_
                      refine j_aload_n (dt_Mo_rule 74 (149, .aload_n 0, 1) rfl) rfl ?_
                      obtain ⟨x26, hx26, hy147⟩ := jbind hy147
                      refine j_getR (dt_Mo_rule 75 (150, .getfield 44, 3) rfl) fl_X12_44 hx26 (fun _ _ => rfl) ?_
                      refine j_iconst (dt_Mo_rule 76 (153, .iconst 0, 1) rfl) ic_0 ?_
                      obtain ⟨x27, hx27, hy147⟩ := jbind hy147
                      refine j_aldI (dt_Mo_rule 77 (154, .iaload, 1) rfl) hx27 ?_
                      refine jite hy147 (fun hc hy147 => ?_) (fun hc hy147 => ?_)
                      · refine j_icmp_ge (dt_Mo_rule 78 (155, .if_icmp .ge 29, 3) rfl) rfl (fun _ => ?_) (fun q => absurd hc q)
                        cases hy147
                        have hz := hX147 _ (hout147 _ rfl)
                        exact j_sub rfl hz
                      · refine j_icmp_ge (dt_Mo_rule 78 (155, .if_icmp .ge 29, 3) rfl) rfl (fun q => absurd q hc) (fun _ => ?_)
                        refine j_iload_n (dt_Mo_rule 79 (158, .iload_n 3, 1) rfl) rfl ?_
                        refine j_aload_n (dt_Mo_rule 80 (159, .aload_n 0, 1) rfl) rfl ?_
                        refine j_iload_n (dt_Mo_rule 81 (160, .iload_n 1, 1) rfl) rfl ?_
                        refine j_iload (dt_Mo_rule 82 (161, .iload 4, 2) rfl) rfl ?_
                        refine j_iload (dt_Mo_rule 83 (163, .iload 5, 2) rfl) rfl ?_
                        obtain ⟨x28, hx28, hy147⟩ := jbind hy147
                        obtain ⟨b29, hb29⟩ := r_Mo_hasCouple hx28
                        refine j_callV M_Mo_hasCouple 3 [ai v1, ai s115.2, ai s147.2] (rest := [ai s147.1]) (dt_Mo_rule 84 (165, .invokevirtual 291, 3) rfl) ml_X12_291 ok_Mo_hasCouple (jfit rfl rfl ⟨rfl, rfl⟩ (nle rfl) (nlt rfl)) rfl rfl (nle rfl) ⟨rfl, rfl⟩ hb29 ((c_Mo_hasCouple hx28)) ?_
                        refine jite hy147 (fun hc hy147 => ?_) (fun hc hy147 => ?_)
                        · refine j_if_eq (dt_Mo_rule 85 (168, .ifCond .eq 7, 3) rfl) rfl (fun _ => ?_) (fun q => absurd hc q)
                          refine j_iconst (dt_Mo_rule 88 (175, .iconst 0, 1) rfl) ic_0 ?_
                          refine j_iadd (dt_Mo_rule 89 (176, .iadd, 1) rfl) ?_
                          refine j_istore_n (dt_Mo_rule 90 (177, .istore_n 3, 1) rfl) (nlt rfl) ?_
                          refine j_iinc (dt_Mo_rule 91 (178, .iinc 5 1, 3) rfl) rfl (nlt rfl) (ii_1 _) ?_
                          refine j_goto (dt_Mo_rule 92 (181, .goto (-34), 3) rfl) rfl ?_
                          cases hy147
                          have hz := hin147 _ rfl
                          exact j_sub rfl hz
                        · refine j_if_eq (dt_Mo_rule 85 (168, .ifCond .eq 7, 3) rfl) rfl (fun q => absurd q hc) (fun _ => ?_)
                          refine j_iconst (dt_Mo_rule 86 (171, .iconst 1, 1) rfl) ic_1 ?_
                          refine j_goto (dt_Mo_rule 87 (172, .goto 4, 3) rfl) rfl ?_
                          refine j_iadd (dt_Mo_rule 89 (176, .iadd, 1) rfl) ?_
                          refine j_istore_n (dt_Mo_rule 90 (177, .istore_n 3, 1) rfl) (nlt rfl) ?_
                          refine j_iinc (dt_Mo_rule 91 (178, .iinc 5 1, 3) rfl) rfl (nlt rfl) (ii_1 _) ?_
                          refine j_goto (dt_Mo_rule 92 (181, .goto (-34), 3) rfl) rfl ?_
                          cases hy147
                          have hz := hin147 _ rfl
                          exact j_sub rfl hz
                    refine jite hj134 (fun hc hj134 => ?_) (fun hc hj134 => ?_)
                    · refine j_if_ne (dt_Mo_rule 66 (134, .ifCond .ne 7, 3) rfl) rfl (fun q => absurd hc q) (fun _ => ?_)
                      refine j_iconst (dt_Mo_rule 67 (137, .iconst 0, 1) rfl) ic_0 ?_
                      refine j_goto (dt_Mo_rule 68 (138, .goto 7, 3) rfl) rfl ?_
                      cases hj134
                      exact j_sub rfl hP134
                    · refine j_if_ne (dt_Mo_rule 66 (134, .ifCond .ne 7, 3) rfl) rfl (fun _ => ?_) (fun q => absurd q hc)
                      refine j_iload (dt_Mo_rule 69 (141, .iload 4, 2) rfl) rfl ?_
                      refine j_iconst (dt_Mo_rule 70 (143, .iconst 1, 1) rfl) ic_1 ?_
                      refine j_iadd (dt_Mo_rule 71 (144, .iadd, 1) rfl) ?_
                      cases hj134
                      exact j_sub rfl hP134
                · refine jite hf (fun hc7 hf => ?_) (fun hc7 hf => ?_)
                  · refine j_swIn (off := 181) (tgt := 192) 7 hc7 (dt_Mo_rule 7 (11, .tableswitch 196 0 7 #[45, 54, 63, 72, 81, 90, 99, 181], 45) rfl) (by decide) ?_
                    refine j_aload_n (dt_Mo_rule 97 (192, .aload_n 0, 1) rfl) rfl ?_
                    obtain ⟨x30, hx30, hf⟩ := jbind hf
                    refine j_getR (dt_Mo_rule 98 (193, .getfield 77, 3) rfl) fl_X12_77 hx30 (fun _ _ => rfl) ?_
                    refine j_iload_n (dt_Mo_rule 99 (196, .iload_n 1, 1) rfl) rfl ?_
                    obtain ⟨x31, hx31, hf⟩ := jbind hf
                    refine j_aldZ (dt_Mo_rule 100 (197, .baload, 1) rfl) hx31 ?_
                    refine jite hf (fun hc hf => ?_) (fun hc hf => ?_)
                    · refine j_if_eq (dt_Mo_rule 101 (198, .ifCond .eq 7, 3) rfl) rfl (fun _ => ?_) (fun q => absurd hc q)
                      refine j_iconst (dt_Mo_rule 104 (205, .iconst 0, 1) rfl) ic_0 ?_
                      cases hf
                      exact j_iret (dt_Mo_rule 105 (206, .ireturn, 1) rfl) rfl
                    · refine j_if_eq (dt_Mo_rule 101 (198, .ifCond .eq 7, 3) rfl) rfl (fun q => absurd q hc) (fun _ => ?_)
                      refine j_iconst (dt_Mo_rule 102 (201, .iconst 1, 1) rfl) ic_1 ?_
                      refine j_goto (dt_Mo_rule 103 (202, .goto 4, 3) rfl) rfl ?_
                      cases hf
                      exact j_iret (dt_Mo_rule 105 (206, .ireturn, 1) rfl) rfl
                  · refine j_swOut (dt_Mo_rule 7 (11, .tableswitch 196 0 7 #[45, 54, 63, 72, 81, 90, 99, 181], 45) rfl) (jsw_out (lo := 0) 8 (fun k hk => ?_) (by decide) (by decide)) rfl ?_
                    · match k, hk with
                      | 0, _ => exact hc0
                      | 1, _ => exact hc1
                      | 2, _ => exact hc2
                      | 3, _ => exact hc3
                      | 4, _ => exact hc4
                      | 5, _ => exact hc5
                      | 6, _ => exact hc6
                      | 7, _ => exact hc7
                      | k + 8, hk => omega
                    · refine j_iconst (dt_Mo_rule 106 (207, .iconst (-1), 1) rfl) ic_m1 ?_
                      cases hf
                      exact j_iret (dt_Mo_rule 107 (208, .ireturn, 1) rfl) rfl
theorem r_Mo_rule {S : hS} {V : hV} {v0 : Option Nat} {v1 : Int32} {v2 : Int32} {res : Int32} (hf : Mo_rule S v0 v1 v2 V = some res) : ∃ b, rc S 12 v0 = some b := by
  unfold Mo_rule at hf
  obtain ⟨b, hb, _⟩ := jbind hf
  exact ⟨b, hb⟩
def tb_Mo_rest : List (Nat × Instr × Nat) := [(0, .aload_n 0, 1), (1, .iload_n 1, 1), (2, .invokevirtual 294, 3), (5, .ifCond .eq 13, 3), (8, .aload_n 0, 1), (9, .getfield 77, 3), (12, .iload_n 1, 1), (13, .baload, 1), (14, .iload_n 2, 1), (15, .if_icmp .ne 5, 3), (18, .iconst 0, 1), (19, .ireturn, 1), (20, .aload_n 0, 1), (21, .getfield 77, 3), (24, .iload_n 1, 1), (25, .iload_n 2, 1), (26, .bastore, 1), (27, .iconst 1, 1), (28, .ireturn, 1)]
theorem dt_Mo_rest (i : Nat) (q : Nat × Instr × Nat) (h : tb_Mo_rest[i]? = some q) : decode prog_14_method_36_code q.1 = .ok q.2 := jdt (by decide +kernel : tb_Mo_rest.all (fun q => decide (decode prog_14_method_36_code q.1 = .ok q.2)) = true) h
theorem ok_Mo_rest : jOKV M_Mo_rest 2 := ⟨⟨gt7 107 rfl rfl, gt1 17 rfl rfl, (by decide : "FirstInModel" ≠ "java/lang/invoke/MethodHandle"), (by decide : "FirstInModel" ≠ "java/lang/invoke/VarHandle"), (by decide +kernel : (parseMethodDescriptor "(IZ)Z").map (fun d => d.parameters.length) = some 2)⟩, gt7 105 rfl rfl, gt7 106 rfl rfl, rfl, nlt rfl⟩
set_option maxRecDepth 100000 in
set_option maxHeartbeats 4000000 in
theorem c_Mo_rest {G : jG} {S : hS} {V : hV} {v0 : Option Nat} {v1 : Int32} {v2 : Int32} {res : Int32 × hV} (hf : Mo_rest S v0 v1 v2 V = some res) : jC G M_Mo_rest [ar v0, ai v1, ai v2] (S, V) (some (ai res.1)) (S, res.2) := by
  unfold Mo_rest at hf
  obtain ⟨_, _, hf⟩ := jbind hf
  refine jC_of (pf_X12 _ _) rfl (nle rfl) ?_
  show jJ G M_Mo_rest (jEnd G M_Mo_rest (some (ai res.1)) (S, res.2)) 0 0 0 [(0, ar v0), (1, ai v1), (2, ai v2)] [] (S, V)
  refine j_aload_n (dt_Mo_rest 0 (0, .aload_n 0, 1) rfl) rfl ?_
  refine j_iload_n (dt_Mo_rest 1 (1, .iload_n 1, 1) rfl) rfl ?_
  obtain ⟨x1, hx1, hf⟩ := jbind hf
  obtain ⟨b2, hb2⟩ := r_Mo_isRule hx1
  refine j_callV M_Mo_isRule 1 [ai v1] (rest := []) (dt_Mo_rest 2 (2, .invokevirtual 294, 3) rfl) ml_X12_294 ok_Mo_isRule (jfit rfl rfl ⟨rfl, rfl⟩ (nle rfl) (nlt rfl)) rfl rfl (nle rfl) ⟨rfl, rfl⟩ hb2 ((c_Mo_isRule hx1)) ?_
  refine jite hf (fun hc hf => ?_) (fun hc hf => ?_)
  · refine j_if_eq (dt_Mo_rest 3 (5, .ifCond .eq 13, 3) rfl) rfl (fun _ => ?_) (fun q => absurd hc q)
    refine j_iconst (dt_Mo_rest 10 (18, .iconst 0, 1) rfl) ic_0 ?_
    cases hf
    exact j_zret (x := 0) (dt_Mo_rest 11 (19, .ireturn, 1) rfl) rfl rfl
  · refine j_if_eq (dt_Mo_rest 3 (5, .ifCond .eq 13, 3) rfl) rfl (fun q => absurd q hc) (fun _ => ?_)
    refine j_aload_n (dt_Mo_rest 4 (8, .aload_n 0, 1) rfl) rfl ?_
    obtain ⟨x3, hx3, hf⟩ := jbind hf
    refine j_getR (dt_Mo_rest 5 (9, .getfield 77, 3) rfl) fl_X12_77 hx3 (fun _ _ => rfl) ?_
    refine j_iload_n (dt_Mo_rest 6 (12, .iload_n 1, 1) rfl) rfl ?_
    obtain ⟨x4, hx4, hf⟩ := jbind hf
    refine j_aldZ (dt_Mo_rest 7 (13, .baload, 1) rfl) hx4 ?_
    refine j_iload_n (dt_Mo_rest 8 (14, .iload_n 2, 1) rfl) rfl ?_
    refine jite hf (fun hc hf => ?_) (fun hc hf => ?_)
    · refine j_icmp_ne (dt_Mo_rest 9 (15, .if_icmp .ne 5, 3) rfl) rfl (fun q => absurd hc q) (fun _ => ?_)
      refine j_iconst (dt_Mo_rest 10 (18, .iconst 0, 1) rfl) ic_0 ?_
      cases hf
      exact j_zret (x := 0) (dt_Mo_rest 11 (19, .ireturn, 1) rfl) rfl rfl
    · refine j_icmp_ne (dt_Mo_rest 9 (15, .if_icmp .ne 5, 3) rfl) rfl (fun _ => ?_) (fun q => absurd q hc)
      refine j_aload_n (dt_Mo_rest 12 (20, .aload_n 0, 1) rfl) rfl ?_
      obtain ⟨x5, hx5, hf⟩ := jbind hf
      refine j_getR (dt_Mo_rest 13 (21, .getfield 77, 3) rfl) fl_X12_77 hx5 (fun _ _ => rfl) ?_
      refine j_iload_n (dt_Mo_rest 14 (24, .iload_n 1, 1) rfl) rfl ?_
      refine j_iload_n (dt_Mo_rest 15 (25, .iload_n 2, 1) rfl) rfl ?_
      obtain ⟨V6, hV6, hf⟩ := jbind hf
      refine j_astZ (dt_Mo_rest 16 (26, .bastore, 1) rfl) hV6 ?_
      refine j_iconst (dt_Mo_rest 17 (27, .iconst 1, 1) rfl) ic_1 ?_
      cases hf
      exact j_zret (x := 1) (dt_Mo_rest 18 (28, .ireturn, 1) rfl) rfl rfl
theorem r_Mo_rest {S : hS} {V : hV} {v0 : Option Nat} {v1 : Int32} {v2 : Int32} {res : Int32 × hV} (hf : Mo_rest S v0 v1 v2 V = some res) : ∃ b, rc S 12 v0 = some b := by
  unfold Mo_rest at hf
  obtain ⟨b, hb, _⟩ := jbind hf
  exact ⟨b, hb⟩
def tb_Mo_comes : List (Nat × Instr × Nat) := [(0, .aload_n 0, 1), (1, .iload_n 1, 1), (2, .invokevirtual 275, 3), (5, .ifCond .eq 13, 3), (8, .aload_n 0, 1), (9, .getfield 81, 3), (12, .iload_n 1, 1), (13, .baload, 1), (14, .iload_n 2, 1), (15, .if_icmp .ne 5, 3), (18, .iconst 0, 1), (19, .ireturn, 1), (20, .aload_n 0, 1), (21, .getfield 81, 3), (24, .iload_n 1, 1), (25, .iload_n 2, 1), (26, .bastore, 1), (27, .aload_n 0, 1), (28, .getfield 84, 3), (31, .iload_n 1, 1), (32, .iconst 0, 1), (33, .bastore, 1), (34, .aload_n 0, 1), (35, .getfield 87, 3), (38, .iload_n 1, 1), (39, .iconst (-1), 1), (40, .iastore, 1), (41, .aload_n 0, 1), (42, .getfield 90, 3), (45, .iload_n 1, 1), (46, .iconst (-1), 1), (47, .iastore, 1), (48, .iconst 1, 1), (49, .ireturn, 1)]
theorem dt_Mo_comes (i : Nat) (q : Nat × Instr × Nat) (h : tb_Mo_comes[i]? = some q) : decode prog_14_method_37_code q.1 = .ok q.2 := jdt (by decide +kernel : tb_Mo_comes.all (fun q => decide (decode prog_14_method_37_code q.1 = .ok q.2)) = true) h
theorem ok_Mo_comes : jOKV M_Mo_comes 2 := ⟨⟨gt7 111 rfl rfl, gt1 17 rfl rfl, (by decide : "FirstInModel" ≠ "java/lang/invoke/MethodHandle"), (by decide : "FirstInModel" ≠ "java/lang/invoke/VarHandle"), (by decide +kernel : (parseMethodDescriptor "(IZ)Z").map (fun d => d.parameters.length) = some 2)⟩, gt7 109 rfl rfl, gt7 110 rfl rfl, rfl, nlt rfl⟩
set_option maxRecDepth 100000 in
set_option maxHeartbeats 4000000 in
theorem c_Mo_comes {G : jG} {S : hS} {V : hV} {v0 : Option Nat} {v1 : Int32} {v2 : Int32} {res : Int32 × hV} (hf : Mo_comes S v0 v1 v2 V = some res) : jC G M_Mo_comes [ar v0, ai v1, ai v2] (S, V) (some (ai res.1)) (S, res.2) := by
  unfold Mo_comes at hf
  obtain ⟨_, _, hf⟩ := jbind hf
  refine jC_of (pf_X12 _ _) rfl (nle rfl) ?_
  show jJ G M_Mo_comes (jEnd G M_Mo_comes (some (ai res.1)) (S, res.2)) 0 0 0 [(0, ar v0), (1, ai v1), (2, ai v2)] [] (S, V)
  refine j_aload_n (dt_Mo_comes 0 (0, .aload_n 0, 1) rfl) rfl ?_
  refine j_iload_n (dt_Mo_comes 1 (1, .iload_n 1, 1) rfl) rfl ?_
  obtain ⟨x1, hx1, hf⟩ := jbind hf
  obtain ⟨b2, hb2⟩ := r_Mo_isGuest hx1
  refine j_callV M_Mo_isGuest 1 [ai v1] (rest := []) (dt_Mo_comes 2 (2, .invokevirtual 275, 3) rfl) ml_X12_275 ok_Mo_isGuest (jfit rfl rfl ⟨rfl, rfl⟩ (nle rfl) (nlt rfl)) rfl rfl (nle rfl) ⟨rfl, rfl⟩ hb2 ((c_Mo_isGuest hx1)) ?_
  refine jite hf (fun hc hf => ?_) (fun hc hf => ?_)
  · refine j_if_eq (dt_Mo_comes 3 (5, .ifCond .eq 13, 3) rfl) rfl (fun _ => ?_) (fun q => absurd hc q)
    refine j_iconst (dt_Mo_comes 10 (18, .iconst 0, 1) rfl) ic_0 ?_
    cases hf
    exact j_zret (x := 0) (dt_Mo_comes 11 (19, .ireturn, 1) rfl) rfl rfl
  · refine j_if_eq (dt_Mo_comes 3 (5, .ifCond .eq 13, 3) rfl) rfl (fun q => absurd q hc) (fun _ => ?_)
    refine j_aload_n (dt_Mo_comes 4 (8, .aload_n 0, 1) rfl) rfl ?_
    obtain ⟨x3, hx3, hf⟩ := jbind hf
    refine j_getR (dt_Mo_comes 5 (9, .getfield 81, 3) rfl) fl_X12_81 hx3 (fun _ _ => rfl) ?_
    refine j_iload_n (dt_Mo_comes 6 (12, .iload_n 1, 1) rfl) rfl ?_
    obtain ⟨x4, hx4, hf⟩ := jbind hf
    refine j_aldZ (dt_Mo_comes 7 (13, .baload, 1) rfl) hx4 ?_
    refine j_iload_n (dt_Mo_comes 8 (14, .iload_n 2, 1) rfl) rfl ?_
    refine jite hf (fun hc hf => ?_) (fun hc hf => ?_)
    · refine j_icmp_ne (dt_Mo_comes 9 (15, .if_icmp .ne 5, 3) rfl) rfl (fun q => absurd hc q) (fun _ => ?_)
      refine j_iconst (dt_Mo_comes 10 (18, .iconst 0, 1) rfl) ic_0 ?_
      cases hf
      exact j_zret (x := 0) (dt_Mo_comes 11 (19, .ireturn, 1) rfl) rfl rfl
    · refine j_icmp_ne (dt_Mo_comes 9 (15, .if_icmp .ne 5, 3) rfl) rfl (fun _ => ?_) (fun q => absurd q hc)
      refine j_aload_n (dt_Mo_comes 12 (20, .aload_n 0, 1) rfl) rfl ?_
      obtain ⟨x5, hx5, hf⟩ := jbind hf
      refine j_getR (dt_Mo_comes 13 (21, .getfield 81, 3) rfl) fl_X12_81 hx5 (fun _ _ => rfl) ?_
      refine j_iload_n (dt_Mo_comes 14 (24, .iload_n 1, 1) rfl) rfl ?_
      refine j_iload_n (dt_Mo_comes 15 (25, .iload_n 2, 1) rfl) rfl ?_
      obtain ⟨V6, hV6, hf⟩ := jbind hf
      refine j_astZ (dt_Mo_comes 16 (26, .bastore, 1) rfl) hV6 ?_
      refine j_aload_n (dt_Mo_comes 17 (27, .aload_n 0, 1) rfl) rfl ?_
      obtain ⟨x7, hx7, hf⟩ := jbind hf
      refine j_getR (dt_Mo_comes 18 (28, .getfield 84, 3) rfl) fl_X12_84 hx7 (fun _ _ => rfl) ?_
      refine j_iload_n (dt_Mo_comes 19 (31, .iload_n 1, 1) rfl) rfl ?_
      refine j_iconst (dt_Mo_comes 20 (32, .iconst 0, 1) rfl) ic_0 ?_
      obtain ⟨V8, hV8, hf⟩ := jbind hf
      refine j_astZ (dt_Mo_comes 21 (33, .bastore, 1) rfl) hV8 ?_
      refine j_aload_n (dt_Mo_comes 22 (34, .aload_n 0, 1) rfl) rfl ?_
      obtain ⟨x9, hx9, hf⟩ := jbind hf
      refine j_getR (dt_Mo_comes 23 (35, .getfield 87, 3) rfl) fl_X12_87 hx9 (fun _ _ => rfl) ?_
      refine j_iload_n (dt_Mo_comes 24 (38, .iload_n 1, 1) rfl) rfl ?_
      refine j_iconst (dt_Mo_comes 25 (39, .iconst (-1), 1) rfl) ic_m1 ?_
      obtain ⟨V10, hV10, hf⟩ := jbind hf
      refine j_astI (dt_Mo_comes 26 (40, .iastore, 1) rfl) hV10 ?_
      refine j_aload_n (dt_Mo_comes 27 (41, .aload_n 0, 1) rfl) rfl ?_
      obtain ⟨x11, hx11, hf⟩ := jbind hf
      refine j_getR (dt_Mo_comes 28 (42, .getfield 90, 3) rfl) fl_X12_90 hx11 (fun _ _ => rfl) ?_
      refine j_iload_n (dt_Mo_comes 29 (45, .iload_n 1, 1) rfl) rfl ?_
      refine j_iconst (dt_Mo_comes 30 (46, .iconst (-1), 1) rfl) ic_m1 ?_
      obtain ⟨V12, hV12, hf⟩ := jbind hf
      refine j_astI (dt_Mo_comes 31 (47, .iastore, 1) rfl) hV12 ?_
      refine j_iconst (dt_Mo_comes 32 (48, .iconst 1, 1) rfl) ic_1 ?_
      cases hf
      exact j_zret (x := 1) (dt_Mo_comes 33 (49, .ireturn, 1) rfl) rfl rfl
theorem r_Mo_comes {S : hS} {V : hV} {v0 : Option Nat} {v1 : Int32} {v2 : Int32} {res : Int32 × hV} (hf : Mo_comes S v0 v1 v2 V = some res) : ∃ b, rc S 12 v0 = some b := by
  unfold Mo_comes at hf
  obtain ⟨b, hb, _⟩ := jbind hf
  exact ⟨b, hb⟩
def tb_Mo_seat : List (Nat × Instr × Nat) := [(0, .aload_n 0, 1), (1, .iload_n 1, 1), (2, .invokevirtual 275, 3), (5, .ifCond .eq 47, 3), (8, .aload_n 0, 1), (9, .getfield 81, 3), (12, .iload_n 1, 1), (13, .baload, 1), (14, .ifCond .eq 38, 3), (17, .aload_n 0, 1), (18, .getfield 84, 3), (21, .iload_n 1, 1), (22, .baload, 1), (23, .ifCond .ne 29, 3), (26, .aload_n 0, 1), (27, .iload_n 2, 1), (28, .invokevirtual 297, 3), (31, .ifCond .eq 21, 3), (34, .iload_n 3, 1), (35, .i2l, 1), (36, .lconst 0, 1), (37, .aload_n 0, 1), (38, .getfield 96, 3), (41, .iload_n 2, 1), (42, .iaload, 1), (43, .iconst 1, 1), (44, .isub, 1), (45, .i2l, 1), (46, .invokestatic 183, 3), (49, .ifCond .ne 5, 3), (52, .iconst 0, 1), (53, .ireturn, 1), (54, .iconst 0, 1), (55, .istore 4, 2), (57, .iload 4, 2), (59, .aload_n 0, 1), (60, .getfield 44, 3), (63, .iconst 0, 1), (64, .iaload, 1), (65, .if_icmp .ge 33, 3), (68, .aload_n 0, 1), (69, .getfield 87, 3), (72, .iload 4, 2), (74, .iaload, 1), (75, .iload_n 2, 1), (76, .if_icmp .ne 16, 3), (79, .aload_n 0, 1), (80, .getfield 90, 3), (83, .iload 4, 2), (85, .iaload, 1), (86, .iload_n 3, 1), (87, .if_icmp .ne 5, 3), (90, .iconst 0, 1), (91, .ireturn, 1), (92, .iinc 4 1, 3), (95, .goto (-38), 3), (98, .aload_n 0, 1), (99, .getfield 87, 3), (102, .iload_n 1, 1), (103, .iload_n 2, 1), (104, .iastore, 1), (105, .aload_n 0, 1), (106, .getfield 90, 3), (109, .iload_n 1, 1), (110, .iload_n 3, 1), (111, .iastore, 1), (112, .iconst 1, 1), (113, .ireturn, 1)]
theorem dt_Mo_seat (i : Nat) (q : Nat × Instr × Nat) (h : tb_Mo_seat[i]? = some q) : decode prog_14_method_38_code q.1 = .ok q.2 := jdt (by decide +kernel : tb_Mo_seat.all (fun q => decide (decode prog_14_method_38_code q.1 = .ok q.2)) = true) h
theorem ok_Mo_seat : jOKV M_Mo_seat 3 := ⟨⟨gt7 115 rfl rfl, gt1 17 rfl rfl, (by decide : "FirstInModel" ≠ "java/lang/invoke/MethodHandle"), (by decide : "FirstInModel" ≠ "java/lang/invoke/VarHandle"), (by decide +kernel : (parseMethodDescriptor "(III)Z").map (fun d => d.parameters.length) = some 3)⟩, gt7 113 rfl rfl, gt7 114 rfl rfl, rfl, nlt rfl⟩
set_option maxRecDepth 100000 in
set_option maxHeartbeats 4000000 in
theorem c_Mo_seat {G : jG} {S : hS} {V : hV} {v0 : Option Nat} {v1 : Int32} {v2 : Int32} {v3 : Int32} {res : Int32 × hV} (hf : Mo_seat S v0 v1 v2 v3 V = some res) : jC G M_Mo_seat [ar v0, ai v1, ai v2, ai v3] (S, V) (some (ai res.1)) (S, res.2) := by
  unfold Mo_seat at hf
  obtain ⟨_, _, hf⟩ := jbind hf
  refine jC_of (pf_X12 _ _) rfl (nle rfl) ?_
  show jJ G M_Mo_seat (jEnd G M_Mo_seat (some (ai res.1)) (S, res.2)) 0 0 0 [(0, ar v0), (1, ai v1), (2, ai v2), (3, ai v3)] [] (S, V)
  refine j_aload_n (dt_Mo_seat 0 (0, .aload_n 0, 1) rfl) rfl ?_
  refine j_iload_n (dt_Mo_seat 1 (1, .iload_n 1, 1) rfl) rfl ?_
  obtain ⟨x1, hx1, hf⟩ := jbind hf
  obtain ⟨b2, hb2⟩ := r_Mo_isGuest hx1
  refine j_callV M_Mo_isGuest 1 [ai v1] (rest := []) (dt_Mo_seat 2 (2, .invokevirtual 275, 3) rfl) ml_X12_275 ok_Mo_isGuest (jfit rfl rfl ⟨rfl, rfl⟩ (nle rfl) (nlt rfl)) rfl rfl (nle rfl) ⟨rfl, rfl⟩ hb2 ((c_Mo_isGuest hx1)) ?_
  refine jite hf (fun hc hf => ?_) (fun hc hf => ?_)
  · refine j_if_eq (dt_Mo_seat 3 (5, .ifCond .eq 47, 3) rfl) rfl (fun _ => ?_) (fun q => absurd hc q)
    refine j_iconst (dt_Mo_seat 30 (52, .iconst 0, 1) rfl) ic_0 ?_
    cases hf
    exact j_zret (x := 0) (dt_Mo_seat 31 (53, .ireturn, 1) rfl) rfl rfl
  · refine j_if_eq (dt_Mo_seat 3 (5, .ifCond .eq 47, 3) rfl) rfl (fun q => absurd q hc) (fun _ => ?_)
    refine j_aload_n (dt_Mo_seat 4 (8, .aload_n 0, 1) rfl) rfl ?_
    obtain ⟨x3, hx3, hf⟩ := jbind hf
    refine j_getR (dt_Mo_seat 5 (9, .getfield 81, 3) rfl) fl_X12_81 hx3 (fun _ _ => rfl) ?_
    refine j_iload_n (dt_Mo_seat 6 (12, .iload_n 1, 1) rfl) rfl ?_
    obtain ⟨x4, hx4, hf⟩ := jbind hf
    refine j_aldZ (dt_Mo_seat 7 (13, .baload, 1) rfl) hx4 ?_
    refine jite hf (fun hc hf => ?_) (fun hc hf => ?_)
    · refine j_if_eq (dt_Mo_seat 8 (14, .ifCond .eq 38, 3) rfl) rfl (fun _ => ?_) (fun q => absurd hc q)
      refine j_iconst (dt_Mo_seat 30 (52, .iconst 0, 1) rfl) ic_0 ?_
      cases hf
      exact j_zret (x := 0) (dt_Mo_seat 31 (53, .ireturn, 1) rfl) rfl rfl
    · refine j_if_eq (dt_Mo_seat 8 (14, .ifCond .eq 38, 3) rfl) rfl (fun q => absurd q hc) (fun _ => ?_)
      refine j_aload_n (dt_Mo_seat 9 (17, .aload_n 0, 1) rfl) rfl ?_
      obtain ⟨x5, hx5, hf⟩ := jbind hf
      refine j_getR (dt_Mo_seat 10 (18, .getfield 84, 3) rfl) fl_X12_84 hx5 (fun _ _ => rfl) ?_
      refine j_iload_n (dt_Mo_seat 11 (21, .iload_n 1, 1) rfl) rfl ?_
      obtain ⟨x6, hx6, hf⟩ := jbind hf
      refine j_aldZ (dt_Mo_seat 12 (22, .baload, 1) rfl) hx6 ?_
      refine jite hf (fun hc hf => ?_) (fun hc hf => ?_)
      · refine j_if_ne (dt_Mo_seat 13 (23, .ifCond .ne 29, 3) rfl) rfl (fun q => absurd hc q) (fun _ => ?_)
        refine j_aload_n (dt_Mo_seat 14 (26, .aload_n 0, 1) rfl) rfl ?_
        refine j_iload_n (dt_Mo_seat 15 (27, .iload_n 2, 1) rfl) rfl ?_
        obtain ⟨x7, hx7, hf⟩ := jbind hf
        obtain ⟨b8, hb8⟩ := r_Mo_isRoom hx7
        refine j_callV M_Mo_isRoom 1 [ai v2] (rest := []) (dt_Mo_seat 16 (28, .invokevirtual 297, 3) rfl) ml_X12_297 ok_Mo_isRoom (jfit rfl rfl ⟨rfl, rfl⟩ (nle rfl) (nlt rfl)) rfl rfl (nle rfl) ⟨rfl, rfl⟩ hb8 ((c_Mo_isRoom hx7)) ?_
        refine jite hf (fun hc hf => ?_) (fun hc hf => ?_)
        · refine j_if_eq (dt_Mo_seat 17 (31, .ifCond .eq 21, 3) rfl) rfl (fun _ => ?_) (fun q => absurd hc q)
          refine j_iconst (dt_Mo_seat 30 (52, .iconst 0, 1) rfl) ic_0 ?_
          cases hf
          exact j_zret (x := 0) (dt_Mo_seat 31 (53, .ireturn, 1) rfl) rfl rfl
        · refine j_if_eq (dt_Mo_seat 17 (31, .ifCond .eq 21, 3) rfl) rfl (fun q => absurd q hc) (fun _ => ?_)
          refine j_iload_n (dt_Mo_seat 18 (34, .iload_n 3, 1) rfl) rfl ?_
          refine j_i2l (dt_Mo_seat 19 (35, .i2l, 1) rfl) ?_
          refine j_lconst (dt_Mo_seat 20 (36, .lconst 0, 1) rfl) lc_0 ?_
          refine j_aload_n (dt_Mo_seat 21 (37, .aload_n 0, 1) rfl) rfl ?_
          obtain ⟨x9, hx9, hf⟩ := jbind hf
          refine j_getR (dt_Mo_seat 22 (38, .getfield 96, 3) rfl) fl_X12_96 hx9 (fun _ _ => rfl) ?_
          refine j_iload_n (dt_Mo_seat 23 (41, .iload_n 2, 1) rfl) rfl ?_
          obtain ⟨x10, hx10, hf⟩ := jbind hf
          refine j_aldI (dt_Mo_seat 24 (42, .iaload, 1) rfl) hx10 ?_
          refine j_iconst (dt_Mo_seat 25 (43, .iconst 1, 1) rfl) ic_1 ?_
          refine j_isub (dt_Mo_seat 26 (44, .isub, 1) rfl) ?_
          refine j_i2l (dt_Mo_seat 27 (45, .i2l, 1) rfl) ?_
          refine j_callS M_Mo_in 3 [al ((v3 : Int32).toInt64), al 0, al ((x10 - 1 : Int32).toInt64)] (rest := []) (dt_Mo_seat 28 (46, .invokestatic 183, 3) rfl) ml_X12_183 ok_Mo_in (jfit rfl rfl ⟨rfl, rfl⟩ (nle rfl) (nlt rfl)) rfl rfl (nle rfl) ⟨rfl, rfl⟩ (c_Mo_in rfl) ?_
          refine jite hf (fun hc hf => ?_) (fun hc hf => ?_)
          · refine j_if_ne (dt_Mo_seat 29 (49, .ifCond .ne 5, 3) rfl) rfl (fun q => absurd hc q) (fun _ => ?_)
            refine j_iconst (dt_Mo_seat 30 (52, .iconst 0, 1) rfl) ic_0 ?_
            cases hf
            exact j_zret (x := 0) (dt_Mo_seat 31 (53, .ireturn, 1) rfl) rfl rfl
          · refine j_if_ne (dt_Mo_seat 29 (49, .ifCond .ne 5, 3) rfl) rfl (fun _ => ?_) (fun q => absurd q hc)
            refine j_iconst (dt_Mo_seat 32 (54, .iconst 0, 1) rfl) ic_0 ?_
            refine j_istore (dt_Mo_seat 33 (55, .istore 4, 2) rfl) (nlt rfl) ?_
            obtain ⟨t57, ht57, hf⟩ := jbind hf
            have hX57 : ∀ q57 : Unit, t57 = .inl q57 → jJ G M_Mo_seat (jEnd G M_Mo_seat (some (ai res.1)) (S, res.2)) 0 0 98 [(0, ar v0), (1, ai v1), (2, ai v2), (3, ai v3)] [] (S, V) := by
              intro q57 hq57
              subst hq57
              refine j_aload_n (dt_Mo_seat 56 (98, .aload_n 0, 1) rfl) rfl ?_
              obtain ⟨x17, hx17, hf⟩ := jbind hf
              refine j_getR (dt_Mo_seat 57 (99, .getfield 87, 3) rfl) fl_X12_87 hx17 (fun _ _ => rfl) ?_
              refine j_iload_n (dt_Mo_seat 58 (102, .iload_n 1, 1) rfl) rfl ?_
              refine j_iload_n (dt_Mo_seat 59 (103, .iload_n 2, 1) rfl) rfl ?_
              obtain ⟨V18, hV18, hf⟩ := jbind hf
              refine j_astI (dt_Mo_seat 60 (104, .iastore, 1) rfl) hV18 ?_
              refine j_aload_n (dt_Mo_seat 61 (105, .aload_n 0, 1) rfl) rfl ?_
              obtain ⟨x19, hx19, hf⟩ := jbind hf
              refine j_getR (dt_Mo_seat 62 (106, .getfield 90, 3) rfl) fl_X12_90 hx19 (fun _ _ => rfl) ?_
              refine j_iload_n (dt_Mo_seat 63 (109, .iload_n 1, 1) rfl) rfl ?_
              refine j_iload_n (dt_Mo_seat 64 (110, .iload_n 3, 1) rfl) rfl ?_
              obtain ⟨V20, hV20, hf⟩ := jbind hf
              refine j_astI (dt_Mo_seat 65 (111, .iastore, 1) rfl) hV20 ?_
              refine j_iconst (dt_Mo_seat 66 (112, .iconst 1, 1) rfl) ic_1 ?_
              cases hf
              exact j_zret (x := 1) (dt_Mo_seat 67 (113, .ireturn, 1) rfl) rfl rfl
            have hR57 : ∀ v : Int32 × hV, t57 = .inr v → v = res := by
              intro v hv
              subst hv
              cases hf
              rfl
            refine j_sub (ls' := [(0, ar v0), (1, ai v1), (2, ai v2), (3, ai v3), (4, ai 0)]) rfl ?_
            refine jloop_J (C := fun s57 => jJ G M_Mo_seat (jEnd G M_Mo_seat (some (ai res.1)) (S, res.2)) 0 0 57 [(0, ar v0), (1, ai v1), (2, ai v2), (3, ai v3), (4, ai s57)] [] (S, V)) (fun s57 z57_ hy57 hin57 hout57 => ?_) _ _ ht57
            unfold Mo_seat_L57 at hy57
            refine j_iload (dt_Mo_seat 34 (57, .iload 4, 2) rfl) rfl ?_
            refine j_aload_n (dt_Mo_seat 35 (59, .aload_n 0, 1) rfl) rfl ?_
            obtain ⟨x11, hx11, hy57⟩ := jbind hy57
            refine j_getR (dt_Mo_seat 36 (60, .getfield 44, 3) rfl) fl_X12_44 hx11 (fun _ _ => rfl) ?_
            refine j_iconst (dt_Mo_seat 37 (63, .iconst 0, 1) rfl) ic_0 ?_
            obtain ⟨x12, hx12, hy57⟩ := jbind hy57
            refine j_aldI (dt_Mo_seat 38 (64, .iaload, 1) rfl) hx12 ?_
            refine jite hy57 (fun hc hy57 => ?_) (fun hc hy57 => ?_)
            · refine j_icmp_ge (dt_Mo_seat 39 (65, .if_icmp .ge 33, 3) rfl) rfl (fun _ => ?_) (fun q => absurd hc q)
              cases hy57
              have hz := hX57 _ (hout57 _ rfl).symm
              exact j_sub rfl hz
            · refine j_icmp_ge (dt_Mo_seat 39 (65, .if_icmp .ge 33, 3) rfl) rfl (fun q => absurd q hc) (fun _ => ?_)
              refine j_aload_n (dt_Mo_seat 40 (68, .aload_n 0, 1) rfl) rfl ?_
              obtain ⟨x13, hx13, hy57⟩ := jbind hy57
              refine j_getR (dt_Mo_seat 41 (69, .getfield 87, 3) rfl) fl_X12_87 hx13 (fun _ _ => rfl) ?_
              refine j_iload (dt_Mo_seat 42 (72, .iload 4, 2) rfl) rfl ?_
              obtain ⟨x14, hx14, hy57⟩ := jbind hy57
              refine j_aldI (dt_Mo_seat 43 (74, .iaload, 1) rfl) hx14 ?_
              refine j_iload_n (dt_Mo_seat 44 (75, .iload_n 2, 1) rfl) rfl ?_
              refine jite hy57 (fun hc hy57 => ?_) (fun hc hy57 => ?_)
              · refine j_icmp_ne (dt_Mo_seat 45 (76, .if_icmp .ne 16, 3) rfl) rfl (fun q => absurd hc q) (fun _ => ?_)
                refine j_aload_n (dt_Mo_seat 46 (79, .aload_n 0, 1) rfl) rfl ?_
                obtain ⟨x15, hx15, hy57⟩ := jbind hy57
                refine j_getR (dt_Mo_seat 47 (80, .getfield 90, 3) rfl) fl_X12_90 hx15 (fun _ _ => rfl) ?_
                refine j_iload (dt_Mo_seat 48 (83, .iload 4, 2) rfl) rfl ?_
                obtain ⟨x16, hx16, hy57⟩ := jbind hy57
                refine j_aldI (dt_Mo_seat 49 (85, .iaload, 1) rfl) hx16 ?_
                refine j_iload_n (dt_Mo_seat 50 (86, .iload_n 3, 1) rfl) rfl ?_
                refine jite hy57 (fun hc hy57 => ?_) (fun hc hy57 => ?_)
                · refine j_icmp_ne (dt_Mo_seat 51 (87, .if_icmp .ne 5, 3) rfl) rfl (fun q => absurd hc q) (fun _ => ?_)
                  refine j_iconst (dt_Mo_seat 52 (90, .iconst 0, 1) rfl) ic_0 ?_
                  cases hy57
                  obtain rfl := hR57 _ (hout57 _ rfl).symm
                  exact j_zret (x := 0) (dt_Mo_seat 53 (91, .ireturn, 1) rfl) rfl rfl
                · refine j_icmp_ne (dt_Mo_seat 51 (87, .if_icmp .ne 5, 3) rfl) rfl (fun _ => ?_) (fun q => absurd q hc)
                  refine j_iinc (dt_Mo_seat 54 (92, .iinc 4 1, 3) rfl) rfl (nlt rfl) (ii_1 _) ?_
                  refine j_goto (dt_Mo_seat 55 (95, .goto (-38), 3) rfl) rfl ?_
                  cases hy57
                  have hz := hin57 _ rfl
                  exact j_sub rfl hz
              · refine j_icmp_ne (dt_Mo_seat 45 (76, .if_icmp .ne 16, 3) rfl) rfl (fun _ => ?_) (fun q => absurd q hc)
                refine j_iinc (dt_Mo_seat 54 (92, .iinc 4 1, 3) rfl) rfl (nlt rfl) (ii_1 _) ?_
                refine j_goto (dt_Mo_seat 55 (95, .goto (-38), 3) rfl) rfl ?_
                cases hy57
                have hz := hin57 _ rfl
                exact j_sub rfl hz
      · refine j_if_ne (dt_Mo_seat 13 (23, .ifCond .ne 29, 3) rfl) rfl (fun _ => ?_) (fun q => absurd q hc)
        refine j_iconst (dt_Mo_seat 30 (52, .iconst 0, 1) rfl) ic_0 ?_
        cases hf
        exact j_zret (x := 0) (dt_Mo_seat 31 (53, .ireturn, 1) rfl) rfl rfl
theorem r_Mo_seat {S : hS} {V : hV} {v0 : Option Nat} {v1 : Int32} {v2 : Int32} {v3 : Int32} {res : Int32 × hV} (hf : Mo_seat S v0 v1 v2 v3 V = some res) : ∃ b, rc S 12 v0 = some b := by
  unfold Mo_seat at hf
  obtain ⟨b, hb, _⟩ := jbind hf
  exact ⟨b, hb⟩
def tb_Mo_leave : List (Nat × Instr × Nat) := [(0, .aload_n 0, 1), (1, .iload_n 1, 1), (2, .invokevirtual 275, 3), (5, .ifCond .eq 22, 3), (8, .aload_n 0, 1), (9, .getfield 87, 3), (12, .iload_n 1, 1), (13, .iaload, 1), (14, .iconst (-1), 1), (15, .if_icmp .eq 12, 3), (18, .aload_n 0, 1), (19, .getfield 84, 3), (22, .iload_n 1, 1), (23, .baload, 1), (24, .ifCond .eq 5, 3), (27, .iconst 0, 1), (28, .ireturn, 1), (29, .aload_n 0, 1), (30, .getfield 87, 3), (33, .iload_n 1, 1), (34, .iconst (-1), 1), (35, .iastore, 1), (36, .aload_n 0, 1), (37, .getfield 90, 3), (40, .iload_n 1, 1), (41, .iconst (-1), 1), (42, .iastore, 1), (43, .iconst 1, 1), (44, .ireturn, 1)]
theorem dt_Mo_leave (i : Nat) (q : Nat × Instr × Nat) (h : tb_Mo_leave[i]? = some q) : decode prog_14_method_39_code q.1 = .ok q.2 := jdt (by decide +kernel : tb_Mo_leave.all (fun q => decide (decode prog_14_method_39_code q.1 = .ok q.2)) = true) h
theorem ok_Mo_leave : jOKV M_Mo_leave 1 := ⟨⟨gt7 123 rfl rfl, gt1 17 rfl rfl, (by decide : "FirstInModel" ≠ "java/lang/invoke/MethodHandle"), (by decide : "FirstInModel" ≠ "java/lang/invoke/VarHandle"), (by decide +kernel : (parseMethodDescriptor "(I)Z").map (fun d => d.parameters.length) = some 1)⟩, gt7 121 rfl rfl, gt7 122 rfl rfl, rfl, nlt rfl⟩
set_option maxRecDepth 100000 in
set_option maxHeartbeats 4000000 in
theorem c_Mo_leave {G : jG} {S : hS} {V : hV} {v0 : Option Nat} {v1 : Int32} {res : Int32 × hV} (hf : Mo_leave S v0 v1 V = some res) : jC G M_Mo_leave [ar v0, ai v1] (S, V) (some (ai res.1)) (S, res.2) := by
  unfold Mo_leave at hf
  obtain ⟨_, _, hf⟩ := jbind hf
  refine jC_of (pf_X12 _ _) rfl (nle rfl) ?_
  show jJ G M_Mo_leave (jEnd G M_Mo_leave (some (ai res.1)) (S, res.2)) 0 0 0 [(0, ar v0), (1, ai v1)] [] (S, V)
  refine j_aload_n (dt_Mo_leave 0 (0, .aload_n 0, 1) rfl) rfl ?_
  refine j_iload_n (dt_Mo_leave 1 (1, .iload_n 1, 1) rfl) rfl ?_
  obtain ⟨x1, hx1, hf⟩ := jbind hf
  obtain ⟨b2, hb2⟩ := r_Mo_isGuest hx1
  refine j_callV M_Mo_isGuest 1 [ai v1] (rest := []) (dt_Mo_leave 2 (2, .invokevirtual 275, 3) rfl) ml_X12_275 ok_Mo_isGuest (jfit rfl rfl ⟨rfl, rfl⟩ (nle rfl) (nlt rfl)) rfl rfl (nle rfl) ⟨rfl, rfl⟩ hb2 ((c_Mo_isGuest hx1)) ?_
  refine jite hf (fun hc hf => ?_) (fun hc hf => ?_)
  · refine j_if_eq (dt_Mo_leave 3 (5, .ifCond .eq 22, 3) rfl) rfl (fun _ => ?_) (fun q => absurd hc q)
    refine j_iconst (dt_Mo_leave 15 (27, .iconst 0, 1) rfl) ic_0 ?_
    cases hf
    exact j_zret (x := 0) (dt_Mo_leave 16 (28, .ireturn, 1) rfl) rfl rfl
  · refine j_if_eq (dt_Mo_leave 3 (5, .ifCond .eq 22, 3) rfl) rfl (fun q => absurd q hc) (fun _ => ?_)
    refine j_aload_n (dt_Mo_leave 4 (8, .aload_n 0, 1) rfl) rfl ?_
    obtain ⟨x3, hx3, hf⟩ := jbind hf
    refine j_getR (dt_Mo_leave 5 (9, .getfield 87, 3) rfl) fl_X12_87 hx3 (fun _ _ => rfl) ?_
    refine j_iload_n (dt_Mo_leave 6 (12, .iload_n 1, 1) rfl) rfl ?_
    obtain ⟨x4, hx4, hf⟩ := jbind hf
    refine j_aldI (dt_Mo_leave 7 (13, .iaload, 1) rfl) hx4 ?_
    refine j_iconst (dt_Mo_leave 8 (14, .iconst (-1), 1) rfl) ic_m1 ?_
    refine jite hf (fun hc hf => ?_) (fun hc hf => ?_)
    · refine j_icmp_eq (dt_Mo_leave 9 (15, .if_icmp .eq 12, 3) rfl) rfl (fun _ => ?_) (fun q => absurd hc q)
      refine j_iconst (dt_Mo_leave 15 (27, .iconst 0, 1) rfl) ic_0 ?_
      cases hf
      exact j_zret (x := 0) (dt_Mo_leave 16 (28, .ireturn, 1) rfl) rfl rfl
    · refine j_icmp_eq (dt_Mo_leave 9 (15, .if_icmp .eq 12, 3) rfl) rfl (fun q => absurd q hc) (fun _ => ?_)
      refine j_aload_n (dt_Mo_leave 10 (18, .aload_n 0, 1) rfl) rfl ?_
      obtain ⟨x5, hx5, hf⟩ := jbind hf
      refine j_getR (dt_Mo_leave 11 (19, .getfield 84, 3) rfl) fl_X12_84 hx5 (fun _ _ => rfl) ?_
      refine j_iload_n (dt_Mo_leave 12 (22, .iload_n 1, 1) rfl) rfl ?_
      obtain ⟨x6, hx6, hf⟩ := jbind hf
      refine j_aldZ (dt_Mo_leave 13 (23, .baload, 1) rfl) hx6 ?_
      refine jite hf (fun hc hf => ?_) (fun hc hf => ?_)
      · refine j_if_eq (dt_Mo_leave 14 (24, .ifCond .eq 5, 3) rfl) rfl (fun _ => ?_) (fun q => absurd hc q)
        refine j_aload_n (dt_Mo_leave 17 (29, .aload_n 0, 1) rfl) rfl ?_
        obtain ⟨x7, hx7, hf⟩ := jbind hf
        refine j_getR (dt_Mo_leave 18 (30, .getfield 87, 3) rfl) fl_X12_87 hx7 (fun _ _ => rfl) ?_
        refine j_iload_n (dt_Mo_leave 19 (33, .iload_n 1, 1) rfl) rfl ?_
        refine j_iconst (dt_Mo_leave 20 (34, .iconst (-1), 1) rfl) ic_m1 ?_
        obtain ⟨V8, hV8, hf⟩ := jbind hf
        refine j_astI (dt_Mo_leave 21 (35, .iastore, 1) rfl) hV8 ?_
        refine j_aload_n (dt_Mo_leave 22 (36, .aload_n 0, 1) rfl) rfl ?_
        obtain ⟨x9, hx9, hf⟩ := jbind hf
        refine j_getR (dt_Mo_leave 23 (37, .getfield 90, 3) rfl) fl_X12_90 hx9 (fun _ _ => rfl) ?_
        refine j_iload_n (dt_Mo_leave 24 (40, .iload_n 1, 1) rfl) rfl ?_
        refine j_iconst (dt_Mo_leave 25 (41, .iconst (-1), 1) rfl) ic_m1 ?_
        obtain ⟨V10, hV10, hf⟩ := jbind hf
        refine j_astI (dt_Mo_leave 26 (42, .iastore, 1) rfl) hV10 ?_
        refine j_iconst (dt_Mo_leave 27 (43, .iconst 1, 1) rfl) ic_1 ?_
        cases hf
        exact j_zret (x := 1) (dt_Mo_leave 28 (44, .ireturn, 1) rfl) rfl rfl
      · refine j_if_eq (dt_Mo_leave 14 (24, .ifCond .eq 5, 3) rfl) rfl (fun q => absurd q hc) (fun _ => ?_)
        refine j_iconst (dt_Mo_leave 15 (27, .iconst 0, 1) rfl) ic_0 ?_
        cases hf
        exact j_zret (x := 0) (dt_Mo_leave 16 (28, .ireturn, 1) rfl) rfl rfl
theorem r_Mo_leave {S : hS} {V : hV} {v0 : Option Nat} {v1 : Int32} {res : Int32 × hV} (hf : Mo_leave S v0 v1 V = some res) : ∃ b, rc S 12 v0 = some b := by
  unfold Mo_leave at hf
  obtain ⟨b, hb, _⟩ := jbind hf
  exact ⟨b, hb⟩
def tb_Mo_sits : List (Nat × Instr × Nat) := [(0, .aload_n 0, 1), (1, .iload_n 1, 1), (2, .invokevirtual 275, 3), (5, .ifCond .eq 23, 3), (8, .aload_n 0, 1), (9, .getfield 87, 3), (12, .iload_n 1, 1), (13, .iaload, 1), (14, .iconst (-1), 1), (15, .if_icmp .eq 13, 3), (18, .aload_n 0, 1), (19, .getfield 84, 3), (22, .iload_n 1, 1), (23, .baload, 1), (24, .iload_n 2, 1), (25, .if_icmp .ne 5, 3), (28, .iconst 0, 1), (29, .ireturn, 1), (30, .aload_n 0, 1), (31, .getfield 84, 3), (34, .iload_n 1, 1), (35, .iload_n 2, 1), (36, .bastore, 1), (37, .iconst 1, 1), (38, .ireturn, 1)]
theorem dt_Mo_sits (i : Nat) (q : Nat × Instr × Nat) (h : tb_Mo_sits[i]? = some q) : decode prog_14_method_40_code q.1 = .ok q.2 := jdt (by decide +kernel : tb_Mo_sits.all (fun q => decide (decode prog_14_method_40_code q.1 = .ok q.2)) = true) h
theorem ok_Mo_sits : jOKV M_Mo_sits 2 := ⟨⟨gt7 127 rfl rfl, gt1 17 rfl rfl, (by decide : "FirstInModel" ≠ "java/lang/invoke/MethodHandle"), (by decide : "FirstInModel" ≠ "java/lang/invoke/VarHandle"), (by decide +kernel : (parseMethodDescriptor "(IZ)Z").map (fun d => d.parameters.length) = some 2)⟩, gt7 125 rfl rfl, gt7 126 rfl rfl, rfl, nlt rfl⟩
set_option maxRecDepth 100000 in
set_option maxHeartbeats 4000000 in
theorem c_Mo_sits {G : jG} {S : hS} {V : hV} {v0 : Option Nat} {v1 : Int32} {v2 : Int32} {res : Int32 × hV} (hf : Mo_sits S v0 v1 v2 V = some res) : jC G M_Mo_sits [ar v0, ai v1, ai v2] (S, V) (some (ai res.1)) (S, res.2) := by
  unfold Mo_sits at hf
  obtain ⟨_, _, hf⟩ := jbind hf
  refine jC_of (pf_X12 _ _) rfl (nle rfl) ?_
  show jJ G M_Mo_sits (jEnd G M_Mo_sits (some (ai res.1)) (S, res.2)) 0 0 0 [(0, ar v0), (1, ai v1), (2, ai v2)] [] (S, V)
  refine j_aload_n (dt_Mo_sits 0 (0, .aload_n 0, 1) rfl) rfl ?_
  refine j_iload_n (dt_Mo_sits 1 (1, .iload_n 1, 1) rfl) rfl ?_
  obtain ⟨x1, hx1, hf⟩ := jbind hf
  obtain ⟨b2, hb2⟩ := r_Mo_isGuest hx1
  refine j_callV M_Mo_isGuest 1 [ai v1] (rest := []) (dt_Mo_sits 2 (2, .invokevirtual 275, 3) rfl) ml_X12_275 ok_Mo_isGuest (jfit rfl rfl ⟨rfl, rfl⟩ (nle rfl) (nlt rfl)) rfl rfl (nle rfl) ⟨rfl, rfl⟩ hb2 ((c_Mo_isGuest hx1)) ?_
  refine jite hf (fun hc hf => ?_) (fun hc hf => ?_)
  · refine j_if_eq (dt_Mo_sits 3 (5, .ifCond .eq 23, 3) rfl) rfl (fun _ => ?_) (fun q => absurd hc q)
    refine j_iconst (dt_Mo_sits 16 (28, .iconst 0, 1) rfl) ic_0 ?_
    cases hf
    exact j_zret (x := 0) (dt_Mo_sits 17 (29, .ireturn, 1) rfl) rfl rfl
  · refine j_if_eq (dt_Mo_sits 3 (5, .ifCond .eq 23, 3) rfl) rfl (fun q => absurd q hc) (fun _ => ?_)
    refine j_aload_n (dt_Mo_sits 4 (8, .aload_n 0, 1) rfl) rfl ?_
    obtain ⟨x3, hx3, hf⟩ := jbind hf
    refine j_getR (dt_Mo_sits 5 (9, .getfield 87, 3) rfl) fl_X12_87 hx3 (fun _ _ => rfl) ?_
    refine j_iload_n (dt_Mo_sits 6 (12, .iload_n 1, 1) rfl) rfl ?_
    obtain ⟨x4, hx4, hf⟩ := jbind hf
    refine j_aldI (dt_Mo_sits 7 (13, .iaload, 1) rfl) hx4 ?_
    refine j_iconst (dt_Mo_sits 8 (14, .iconst (-1), 1) rfl) ic_m1 ?_
    refine jite hf (fun hc hf => ?_) (fun hc hf => ?_)
    · refine j_icmp_eq (dt_Mo_sits 9 (15, .if_icmp .eq 13, 3) rfl) rfl (fun _ => ?_) (fun q => absurd hc q)
      refine j_iconst (dt_Mo_sits 16 (28, .iconst 0, 1) rfl) ic_0 ?_
      cases hf
      exact j_zret (x := 0) (dt_Mo_sits 17 (29, .ireturn, 1) rfl) rfl rfl
    · refine j_icmp_eq (dt_Mo_sits 9 (15, .if_icmp .eq 13, 3) rfl) rfl (fun q => absurd q hc) (fun _ => ?_)
      refine j_aload_n (dt_Mo_sits 10 (18, .aload_n 0, 1) rfl) rfl ?_
      obtain ⟨x5, hx5, hf⟩ := jbind hf
      refine j_getR (dt_Mo_sits 11 (19, .getfield 84, 3) rfl) fl_X12_84 hx5 (fun _ _ => rfl) ?_
      refine j_iload_n (dt_Mo_sits 12 (22, .iload_n 1, 1) rfl) rfl ?_
      obtain ⟨x6, hx6, hf⟩ := jbind hf
      refine j_aldZ (dt_Mo_sits 13 (23, .baload, 1) rfl) hx6 ?_
      refine j_iload_n (dt_Mo_sits 14 (24, .iload_n 2, 1) rfl) rfl ?_
      refine jite hf (fun hc hf => ?_) (fun hc hf => ?_)
      · refine j_icmp_ne (dt_Mo_sits 15 (25, .if_icmp .ne 5, 3) rfl) rfl (fun q => absurd hc q) (fun _ => ?_)
        refine j_iconst (dt_Mo_sits 16 (28, .iconst 0, 1) rfl) ic_0 ?_
        cases hf
        exact j_zret (x := 0) (dt_Mo_sits 17 (29, .ireturn, 1) rfl) rfl rfl
      · refine j_icmp_ne (dt_Mo_sits 15 (25, .if_icmp .ne 5, 3) rfl) rfl (fun _ => ?_) (fun q => absurd q hc)
        refine j_aload_n (dt_Mo_sits 18 (30, .aload_n 0, 1) rfl) rfl ?_
        obtain ⟨x7, hx7, hf⟩ := jbind hf
        refine j_getR (dt_Mo_sits 19 (31, .getfield 84, 3) rfl) fl_X12_84 hx7 (fun _ _ => rfl) ?_
        refine j_iload_n (dt_Mo_sits 20 (34, .iload_n 1, 1) rfl) rfl ?_
        refine j_iload_n (dt_Mo_sits 21 (35, .iload_n 2, 1) rfl) rfl ?_
        obtain ⟨V8, hV8, hf⟩ := jbind hf
        refine j_astZ (dt_Mo_sits 22 (36, .bastore, 1) rfl) hV8 ?_
        refine j_iconst (dt_Mo_sits 23 (37, .iconst 1, 1) rfl) ic_1 ?_
        cases hf
        exact j_zret (x := 1) (dt_Mo_sits 24 (38, .ireturn, 1) rfl) rfl rfl
theorem r_Mo_sits {S : hS} {V : hV} {v0 : Option Nat} {v1 : Int32} {v2 : Int32} {res : Int32 × hV} (hf : Mo_sits S v0 v1 v2 V = some res) : ∃ b, rc S 12 v0 = some b := by
  unfold Mo_sits at hf
  obtain ⟨b, hb, _⟩ := jbind hf
  exact ⟨b, hb⟩
def tb_Mo_high : List (Nat × Instr × Nat) := [(0, .iload_n 3, 1), (1, .iload 4, 2), (3, .if_icmp .ne 5, 3), (6, .iconst 0, 1), (7, .ireturn, 1), (8, .aload_n 0, 1), (9, .getfield 96, 3), (12, .iload_n 1, 1), (13, .iaload, 1), (14, .istore 5, 2), (16, .aload_n 0, 1), (17, .getfield 93, 3), (20, .iload_n 1, 1), (21, .iaload, 1), (22, .tableswitch 96 0 3 #[30, 42, 68, 70], 30), (52, .iload_n 3, 1), (53, .iload 4, 2), (55, .if_icmp .ge 7, 3), (58, .iconst 1, 1), (59, .goto 4, 3), (62, .iconst 2, 1), (63, .ireturn, 1), (64, .iload_n 3, 1), (65, .iconst 2, 1), (66, .idiv, 1), (67, .iload 4, 2), (69, .iconst 2, 1), (70, .idiv, 1), (71, .if_icmp .ne 7, 3), (74, .iconst (-1), 1), (75, .goto 14, 3), (78, .iload_n 3, 1), (79, .iload 4, 2), (81, .if_icmp .ge 7, 3), (84, .iconst 1, 1), (85, .goto 4, 3), (88, .iconst 2, 1), (89, .ireturn, 1), (90, .iconst (-1), 1), (91, .ireturn, 1), (92, .iload_n 3, 1), (93, .iconst 2, 1), (94, .idiv, 1), (95, .iload 4, 2), (97, .iconst 2, 1), (98, .idiv, 1), (99, .if_icmp .ne 7, 3), (102, .iconst 0, 1), (103, .goto 14, 3), (106, .iload_n 3, 1), (107, .iload 4, 2), (109, .if_icmp .ge 7, 3), (112, .iconst 1, 1), (113, .goto 4, 3), (116, .iconst 2, 1), (117, .ireturn, 1), (118, .iload_n 3, 1), (119, .iload_n 2, 1), (120, .iadd, 1), (121, .iload 5, 2), (123, .irem, 1), (124, .iload 4, 2), (126, .iload_n 2, 1), (127, .iadd, 1), (128, .iload 5, 2), (130, .irem, 1), (131, .if_icmp .ge 7, 3), (134, .iconst 1, 1), (135, .goto 4, 3), (138, .iconst 2, 1), (139, .ireturn, 1)]
theorem dt_Mo_high (i : Nat) (q : Nat × Instr × Nat) (h : tb_Mo_high[i]? = some q) : decode prog_14_method_41_code q.1 = .ok q.2 := jdt (by decide +kernel : tb_Mo_high.all (fun q => decide (decode prog_14_method_41_code q.1 = .ok q.2)) = true) h
theorem ok_Mo_high : jOKV M_Mo_high 4 := ⟨⟨gt7 140 rfl rfl, gt1 17 rfl rfl, (by decide : "FirstInModel" ≠ "java/lang/invoke/MethodHandle"), (by decide : "FirstInModel" ≠ "java/lang/invoke/VarHandle"), (by decide +kernel : (parseMethodDescriptor "(IIII)I").map (fun d => d.parameters.length) = some 4)⟩, gt7 139 rfl rfl, gs_in 29 rfl, rfl, nlt rfl⟩
set_option maxRecDepth 100000 in
set_option maxHeartbeats 4000000 in
theorem c_Mo_high {G : jG} {S : hS} {V : hV} {v0 : Option Nat} {v1 : Int32} {v2 : Int32} {v3 : Int32} {v4 : Int32} {res : Int32} (hf : Mo_high S v0 v1 v2 v3 v4 V = some res) : jC G M_Mo_high [ar v0, ai v1, ai v2, ai v3, ai v4] (S, V) (some (ai res)) (S, V) := by
  unfold Mo_high at hf
  obtain ⟨_, _, hf⟩ := jbind hf
  refine jC_of (pf_X12 _ _) rfl (nle rfl) ?_
  show jJ G M_Mo_high (jEnd G M_Mo_high (some (ai res)) (S, V)) 0 0 0 [(0, ar v0), (1, ai v1), (2, ai v2), (3, ai v3), (4, ai v4)] [] (S, V)
  refine j_iload_n (dt_Mo_high 0 (0, .iload_n 3, 1) rfl) rfl ?_
  refine j_iload (dt_Mo_high 1 (1, .iload 4, 2) rfl) rfl ?_
  refine jite hf (fun hc hf => ?_) (fun hc hf => ?_)
  · refine j_icmp_ne (dt_Mo_high 2 (3, .if_icmp .ne 5, 3) rfl) rfl (fun q => absurd hc q) (fun _ => ?_)
    refine j_iconst (dt_Mo_high 3 (6, .iconst 0, 1) rfl) ic_0 ?_
    cases hf
    exact j_iret (dt_Mo_high 4 (7, .ireturn, 1) rfl) rfl
  · refine j_icmp_ne (dt_Mo_high 2 (3, .if_icmp .ne 5, 3) rfl) rfl (fun _ => ?_) (fun q => absurd q hc)
    refine j_aload_n (dt_Mo_high 5 (8, .aload_n 0, 1) rfl) rfl ?_
    obtain ⟨x1, hx1, hf⟩ := jbind hf
    refine j_getR (dt_Mo_high 6 (9, .getfield 96, 3) rfl) fl_X12_96 hx1 (fun _ _ => rfl) ?_
    refine j_iload_n (dt_Mo_high 7 (12, .iload_n 1, 1) rfl) rfl ?_
    obtain ⟨x2, hx2, hf⟩ := jbind hf
    refine j_aldI (dt_Mo_high 8 (13, .iaload, 1) rfl) hx2 ?_
    refine j_istore (dt_Mo_high 9 (14, .istore 5, 2) rfl) (nlt rfl) ?_
    refine j_aload_n (dt_Mo_high 10 (16, .aload_n 0, 1) rfl) rfl ?_
    obtain ⟨x3, hx3, hf⟩ := jbind hf
    refine j_getR (dt_Mo_high 11 (17, .getfield 93, 3) rfl) fl_X12_93 hx3 (fun _ _ => rfl) ?_
    refine j_iload_n (dt_Mo_high 12 (20, .iload_n 1, 1) rfl) rfl ?_
    obtain ⟨x4, hx4, hf⟩ := jbind hf
    refine j_aldI (dt_Mo_high 13 (21, .iaload, 1) rfl) hx4 ?_
    refine jite hf (fun hc0 hf => ?_) (fun hc0 hf => ?_)
    · refine j_swIn (off := 30) (tgt := 52) 0 hc0 (dt_Mo_high 14 (22, .tableswitch 96 0 3 #[30, 42, 68, 70], 30) rfl) (by decide) ?_
      refine j_iload_n (dt_Mo_high 15 (52, .iload_n 3, 1) rfl) rfl ?_
      refine j_iload (dt_Mo_high 16 (53, .iload 4, 2) rfl) rfl ?_
      refine jite hf (fun hc hf => ?_) (fun hc hf => ?_)
      · refine j_icmp_ge (dt_Mo_high 17 (55, .if_icmp .ge 7, 3) rfl) rfl (fun _ => ?_) (fun q => absurd hc q)
        refine j_iconst (dt_Mo_high 20 (62, .iconst 2, 1) rfl) ic_2 ?_
        cases hf
        exact j_iret (dt_Mo_high 21 (63, .ireturn, 1) rfl) rfl
      · refine j_icmp_ge (dt_Mo_high 17 (55, .if_icmp .ge 7, 3) rfl) rfl (fun q => absurd q hc) (fun _ => ?_)
        refine j_iconst (dt_Mo_high 18 (58, .iconst 1, 1) rfl) ic_1 ?_
        refine j_goto (dt_Mo_high 19 (59, .goto 4, 3) rfl) rfl ?_
        cases hf
        exact j_iret (dt_Mo_high 21 (63, .ireturn, 1) rfl) rfl
    · refine jite hf (fun hc1 hf => ?_) (fun hc1 hf => ?_)
      · refine j_swIn (off := 42) (tgt := 64) 1 hc1 (dt_Mo_high 14 (22, .tableswitch 96 0 3 #[30, 42, 68, 70], 30) rfl) (by decide) ?_
        refine j_iload_n (dt_Mo_high 22 (64, .iload_n 3, 1) rfl) rfl ?_
        refine j_iconst (dt_Mo_high 23 (65, .iconst 2, 1) rfl) ic_2 ?_
        refine j_idiv (dt_Mo_high 24 (66, .idiv, 1) rfl) (by decide) ?_
        refine j_iload (dt_Mo_high 25 (67, .iload 4, 2) rfl) rfl ?_
        refine j_iconst (dt_Mo_high 26 (69, .iconst 2, 1) rfl) ic_2 ?_
        refine j_idiv (dt_Mo_high 27 (70, .idiv, 1) rfl) (by decide) ?_
        refine jite hf (fun hc hf => ?_) (fun hc hf => ?_)
        · refine j_icmp_ne (dt_Mo_high 28 (71, .if_icmp .ne 7, 3) rfl) rfl (fun q => absurd hc q) (fun _ => ?_)
          refine j_iconst (dt_Mo_high 29 (74, .iconst (-1), 1) rfl) ic_m1 ?_
          refine j_goto (dt_Mo_high 30 (75, .goto 14, 3) rfl) rfl ?_
          cases hf
          exact j_iret (dt_Mo_high 37 (89, .ireturn, 1) rfl) rfl
        · refine j_icmp_ne (dt_Mo_high 28 (71, .if_icmp .ne 7, 3) rfl) rfl (fun _ => ?_) (fun q => absurd q hc)
          refine j_iload_n (dt_Mo_high 31 (78, .iload_n 3, 1) rfl) rfl ?_
          refine j_iload (dt_Mo_high 32 (79, .iload 4, 2) rfl) rfl ?_
          refine jite hf (fun hc hf => ?_) (fun hc hf => ?_)
          · refine j_icmp_ge (dt_Mo_high 33 (81, .if_icmp .ge 7, 3) rfl) rfl (fun _ => ?_) (fun q => absurd hc q)
            refine j_iconst (dt_Mo_high 36 (88, .iconst 2, 1) rfl) ic_2 ?_
            cases hf
            exact j_iret (dt_Mo_high 37 (89, .ireturn, 1) rfl) rfl
          · refine j_icmp_ge (dt_Mo_high 33 (81, .if_icmp .ge 7, 3) rfl) rfl (fun q => absurd q hc) (fun _ => ?_)
            refine j_iconst (dt_Mo_high 34 (84, .iconst 1, 1) rfl) ic_1 ?_
            refine j_goto (dt_Mo_high 35 (85, .goto 4, 3) rfl) rfl ?_
            cases hf
            exact j_iret (dt_Mo_high 37 (89, .ireturn, 1) rfl) rfl
      · refine jite hf (fun hc2 hf => ?_) (fun hc2 hf => ?_)
        · refine j_swIn (off := 68) (tgt := 90) 2 hc2 (dt_Mo_high 14 (22, .tableswitch 96 0 3 #[30, 42, 68, 70], 30) rfl) (by decide) ?_
          refine j_iconst (dt_Mo_high 38 (90, .iconst (-1), 1) rfl) ic_m1 ?_
          cases hf
          exact j_iret (dt_Mo_high 39 (91, .ireturn, 1) rfl) rfl
        · refine jite hf (fun hc3 hf => ?_) (fun hc3 hf => ?_)
          · refine j_swIn (off := 70) (tgt := 92) 3 hc3 (dt_Mo_high 14 (22, .tableswitch 96 0 3 #[30, 42, 68, 70], 30) rfl) (by decide) ?_
            refine j_iload_n (dt_Mo_high 40 (92, .iload_n 3, 1) rfl) rfl ?_
            refine j_iconst (dt_Mo_high 41 (93, .iconst 2, 1) rfl) ic_2 ?_
            refine j_idiv (dt_Mo_high 42 (94, .idiv, 1) rfl) (by decide) ?_
            refine j_iload (dt_Mo_high 43 (95, .iload 4, 2) rfl) rfl ?_
            refine j_iconst (dt_Mo_high 44 (97, .iconst 2, 1) rfl) ic_2 ?_
            refine j_idiv (dt_Mo_high 45 (98, .idiv, 1) rfl) (by decide) ?_
            refine jite hf (fun hc hf => ?_) (fun hc hf => ?_)
            · refine j_icmp_ne (dt_Mo_high 46 (99, .if_icmp .ne 7, 3) rfl) rfl (fun q => absurd hc q) (fun _ => ?_)
              refine j_iconst (dt_Mo_high 47 (102, .iconst 0, 1) rfl) ic_0 ?_
              refine j_goto (dt_Mo_high 48 (103, .goto 14, 3) rfl) rfl ?_
              cases hf
              exact j_iret (dt_Mo_high 55 (117, .ireturn, 1) rfl) rfl
            · refine j_icmp_ne (dt_Mo_high 46 (99, .if_icmp .ne 7, 3) rfl) rfl (fun _ => ?_) (fun q => absurd q hc)
              refine j_iload_n (dt_Mo_high 49 (106, .iload_n 3, 1) rfl) rfl ?_
              refine j_iload (dt_Mo_high 50 (107, .iload 4, 2) rfl) rfl ?_
              refine jite hf (fun hc hf => ?_) (fun hc hf => ?_)
              · refine j_icmp_ge (dt_Mo_high 51 (109, .if_icmp .ge 7, 3) rfl) rfl (fun _ => ?_) (fun q => absurd hc q)
                refine j_iconst (dt_Mo_high 54 (116, .iconst 2, 1) rfl) ic_2 ?_
                cases hf
                exact j_iret (dt_Mo_high 55 (117, .ireturn, 1) rfl) rfl
              · refine j_icmp_ge (dt_Mo_high 51 (109, .if_icmp .ge 7, 3) rfl) rfl (fun q => absurd q hc) (fun _ => ?_)
                refine j_iconst (dt_Mo_high 52 (112, .iconst 1, 1) rfl) ic_1 ?_
                refine j_goto (dt_Mo_high 53 (113, .goto 4, 3) rfl) rfl ?_
                cases hf
                exact j_iret (dt_Mo_high 55 (117, .ireturn, 1) rfl) rfl
          · refine j_swOut (dt_Mo_high 14 (22, .tableswitch 96 0 3 #[30, 42, 68, 70], 30) rfl) (jsw_out (lo := 0) 4 (fun k hk => ?_) (by decide) (by decide)) rfl ?_
            · match k, hk with
              | 0, _ => exact hc0
              | 1, _ => exact hc1
              | 2, _ => exact hc2
              | 3, _ => exact hc3
              | k + 4, hk => omega
            · refine j_iload_n (dt_Mo_high 56 (118, .iload_n 3, 1) rfl) rfl ?_
              refine j_iload_n (dt_Mo_high 57 (119, .iload_n 2, 1) rfl) rfl ?_
              refine j_iadd (dt_Mo_high 58 (120, .iadd, 1) rfl) ?_
              refine j_iload (dt_Mo_high 59 (121, .iload 5, 2) rfl) rfl ?_
              obtain ⟨_, hz, hf⟩ := jbind hf
              refine j_irem (dt_Mo_high 60 (123, .irem, 1) rfl) (jnz_ne hz) ?_
              refine j_iload (dt_Mo_high 61 (124, .iload 4, 2) rfl) rfl ?_
              refine j_iload_n (dt_Mo_high 62 (126, .iload_n 2, 1) rfl) rfl ?_
              refine j_iadd (dt_Mo_high 63 (127, .iadd, 1) rfl) ?_
              refine j_iload (dt_Mo_high 64 (128, .iload 5, 2) rfl) rfl ?_
              obtain ⟨_, hz, hf⟩ := jbind hf
              refine j_irem (dt_Mo_high 65 (130, .irem, 1) rfl) (jnz_ne hz) ?_
              refine jite hf (fun hc hf => ?_) (fun hc hf => ?_)
              · refine j_icmp_ge (dt_Mo_high 66 (131, .if_icmp .ge 7, 3) rfl) rfl (fun _ => ?_) (fun q => absurd hc q)
                refine j_iconst (dt_Mo_high 69 (138, .iconst 2, 1) rfl) ic_2 ?_
                cases hf
                exact j_iret (dt_Mo_high 70 (139, .ireturn, 1) rfl) rfl
              · refine j_icmp_ge (dt_Mo_high 66 (131, .if_icmp .ge 7, 3) rfl) rfl (fun q => absurd q hc) (fun _ => ?_)
                refine j_iconst (dt_Mo_high 67 (134, .iconst 1, 1) rfl) ic_1 ?_
                refine j_goto (dt_Mo_high 68 (135, .goto 4, 3) rfl) rfl ?_
                cases hf
                exact j_iret (dt_Mo_high 70 (139, .ireturn, 1) rfl) rfl
theorem r_Mo_high {S : hS} {V : hV} {v0 : Option Nat} {v1 : Int32} {v2 : Int32} {v3 : Int32} {v4 : Int32} {res : Int32} (hf : Mo_high S v0 v1 v2 v3 v4 V = some res) : ∃ b, rc S 12 v0 = some b := by
  unfold Mo_high at hf
  obtain ⟨b, hb, _⟩ := jbind hf
  exact ⟨b, hb⟩
def tb_Jd_abs : List (Nat × Instr × Nat) := [(0, .iload_n 0, 1), (1, .ifCond .ge 8, 3), (4, .iload_n 0, 1), (5, .ineg, 1), (6, .goto 4, 3), (9, .iload_n 0, 1), (10, .ireturn, 1)]
theorem dt_Jd_abs (i : Nat) (q : Nat × Instr × Nat) (h : tb_Jd_abs[i]? = some q) : decode prog_16_method_59_code q.1 = .ok q.2 := jdt (by decide +kernel : tb_Jd_abs.all (fun q => decide (decode prog_16_method_59_code q.1 = .ok q.2)) = true) h
theorem ok_Jd_abs : jOKS M_Jd_abs 1 := ⟨⟨gt4 151 rfl rfl, gt1 20 rfl rfl, (by decide : "java/lang/Math" ≠ "java/lang/invoke/MethodHandle"), (by decide : "java/lang/Math" ≠ "java/lang/invoke/VarHandle"), (by decide +kernel : (parseMethodDescriptor "(I)I").map (fun d => d.parameters.length) = some 1)⟩, gt4 150 rfl rfl⟩
set_option maxRecDepth 100000 in
set_option maxHeartbeats 4000000 in
theorem c_Jd_abs {G : jG} {S : hS} {V : hV} {v0 : Int32} {res : Int32} (hf : Jd_abs v0 = res) : jC G M_Jd_abs [ai v0] (S, V) (some (ai res)) (S, V) := by
  unfold Jd_abs at hf
  refine jC_of (by decide +kernel) rfl (nle rfl) ?_
  show jJ G M_Jd_abs (jEnd G M_Jd_abs (some (ai res)) (S, V)) 0 0 0 [(0, ai v0)] [] (S, V)
  refine j_iload_n (dt_Jd_abs 0 (0, .iload_n 0, 1) rfl) rfl ?_
  refine jite hf (fun hc hf => ?_) (fun hc hf => ?_)
  · refine j_if_ge (dt_Jd_abs 1 (1, .ifCond .ge 8, 3) rfl) rfl (fun _ => ?_) (fun q => absurd hc q)
    refine j_iload_n (dt_Jd_abs 5 (9, .iload_n 0, 1) rfl) rfl ?_
    cases hf
    exact j_iret (dt_Jd_abs 6 (10, .ireturn, 1) rfl) rfl
  · refine j_if_ge (dt_Jd_abs 1 (1, .ifCond .ge 8, 3) rfl) rfl (fun q => absurd q hc) (fun _ => ?_)
    refine j_iload_n (dt_Jd_abs 2 (4, .iload_n 0, 1) rfl) rfl ?_
    refine j_ineg (dt_Jd_abs 3 (5, .ineg, 1) rfl) ?_
    refine j_goto (dt_Jd_abs 4 (6, .goto 4, 3) rfl) rfl ?_
    cases hf
    exact j_iret (dt_Jd_abs 6 (10, .ireturn, 1) rfl) rfl
def tb_Mo_beside : List (Nat × Instr × Nat) := [(0, .aload_n 0, 1), (1, .getfield 96, 3), (4, .iload_n 1, 1), (5, .iaload, 1), (6, .istore 4, 2), (8, .iload_n 2, 1), (9, .iload_n 3, 1), (10, .isub, 1), (11, .invokestatic 300, 3), (14, .istore 5, 2), (16, .aload_n 0, 1), (17, .getfield 93, 3), (20, .iload_n 1, 1), (21, .iaload, 1), (22, .tableswitch 84 1 3 #[26, 38, 64], 26), (48, .iload 5, 2), (50, .iconst 2, 1), (51, .if_icmp .ne 7, 3), (54, .iconst 1, 1), (55, .goto 4, 3), (58, .iconst 0, 1), (59, .ireturn, 1), (60, .iload 5, 2), (62, .ifCond .le 22, 3), (65, .iload 5, 2), (67, .iconst 1, 1), (68, .if_icmp .eq 12, 3), (71, .iload 5, 2), (73, .iload 4, 2), (75, .iconst 1, 1), (76, .isub, 1), (77, .if_icmp .ne 7, 3), (80, .iconst 1, 1), (81, .goto 4, 3), (84, .iconst 0, 1), (85, .ireturn, 1), (86, .iload 5, 2), (88, .ifCond .le 16, 3), (91, .iload_n 2, 1), (92, .iconst 2, 1), (93, .idiv, 1), (94, .iload_n 3, 1), (95, .iconst 2, 1), (96, .idiv, 1), (97, .if_icmp .ne 7, 3), (100, .iconst 1, 1), (101, .goto 4, 3), (104, .iconst 0, 1), (105, .ireturn, 1), (106, .iload 5, 2), (108, .iconst 1, 1), (109, .if_icmp .ne 7, 3), (112, .iconst 1, 1), (113, .goto 4, 3), (116, .iconst 0, 1), (117, .ireturn, 1)]
theorem dt_Mo_beside (i : Nat) (q : Nat × Instr × Nat) (h : tb_Mo_beside[i]? = some q) : decode prog_14_method_42_code q.1 = .ok q.2 := jdt (by decide +kernel : tb_Mo_beside.all (fun q => decide (decode prog_14_method_42_code q.1 = .ok q.2)) = true) h
theorem ok_Mo_beside : jOKV M_Mo_beside 3 := ⟨⟨gt7 165 rfl rfl, gt1 17 rfl rfl, (by decide : "FirstInModel" ≠ "java/lang/invoke/MethodHandle"), (by decide : "FirstInModel" ≠ "java/lang/invoke/VarHandle"), (by decide +kernel : (parseMethodDescriptor "(III)Z").map (fun d => d.parameters.length) = some 3)⟩, gt7 164 rfl rfl, gs_in 34 rfl, rfl, nlt rfl⟩
set_option maxRecDepth 100000 in
set_option maxHeartbeats 4000000 in
theorem c_Mo_beside {G : jG} {S : hS} {V : hV} {v0 : Option Nat} {v1 : Int32} {v2 : Int32} {v3 : Int32} {res : Int32} (hf : Mo_beside S v0 v1 v2 v3 V = some res) : jC G M_Mo_beside [ar v0, ai v1, ai v2, ai v3] (S, V) (some (ai res)) (S, V) := by
  unfold Mo_beside at hf
  obtain ⟨_, _, hf⟩ := jbind hf
  refine jC_of (pf_X12 _ _) rfl (nle rfl) ?_
  show jJ G M_Mo_beside (jEnd G M_Mo_beside (some (ai res)) (S, V)) 0 0 0 [(0, ar v0), (1, ai v1), (2, ai v2), (3, ai v3)] [] (S, V)
  refine j_aload_n (dt_Mo_beside 0 (0, .aload_n 0, 1) rfl) rfl ?_
  obtain ⟨x1, hx1, hf⟩ := jbind hf
  refine j_getR (dt_Mo_beside 1 (1, .getfield 96, 3) rfl) fl_X12_96 hx1 (fun _ _ => rfl) ?_
  refine j_iload_n (dt_Mo_beside 2 (4, .iload_n 1, 1) rfl) rfl ?_
  obtain ⟨x2, hx2, hf⟩ := jbind hf
  refine j_aldI (dt_Mo_beside 3 (5, .iaload, 1) rfl) hx2 ?_
  refine j_istore (dt_Mo_beside 4 (6, .istore 4, 2) rfl) (nlt rfl) ?_
  refine j_iload_n (dt_Mo_beside 5 (8, .iload_n 2, 1) rfl) rfl ?_
  refine j_iload_n (dt_Mo_beside 6 (9, .iload_n 3, 1) rfl) rfl ?_
  refine j_isub (dt_Mo_beside 7 (10, .isub, 1) rfl) ?_
  refine j_callS M_Jd_abs 1 [ai (v2 - v3)] (rest := []) (dt_Mo_beside 8 (11, .invokestatic 300, 3) rfl) ml_X12_300 ok_Jd_abs (jfit rfl rfl ⟨rfl, rfl⟩ (nle rfl) (nlt rfl)) rfl rfl (nle rfl) ⟨rfl, rfl⟩ (c_Jd_abs rfl) ?_
  refine j_istore (dt_Mo_beside 9 (14, .istore 5, 2) rfl) (nlt rfl) ?_
  refine j_aload_n (dt_Mo_beside 10 (16, .aload_n 0, 1) rfl) rfl ?_
  obtain ⟨x3, hx3, hf⟩ := jbind hf
  refine j_getR (dt_Mo_beside 11 (17, .getfield 93, 3) rfl) fl_X12_93 hx3 (fun _ _ => rfl) ?_
  refine j_iload_n (dt_Mo_beside 12 (20, .iload_n 1, 1) rfl) rfl ?_
  obtain ⟨x4, hx4, hf⟩ := jbind hf
  refine j_aldI (dt_Mo_beside 13 (21, .iaload, 1) rfl) hx4 ?_
  refine jite hf (fun hc1 hf => ?_) (fun hc1 hf => ?_)
  · refine j_swIn (off := 26) (tgt := 48) 1 hc1 (dt_Mo_beside 14 (22, .tableswitch 84 1 3 #[26, 38, 64], 26) rfl) (by decide) ?_
    refine j_iload (dt_Mo_beside 15 (48, .iload 5, 2) rfl) rfl ?_
    refine j_iconst (dt_Mo_beside 16 (50, .iconst 2, 1) rfl) ic_2 ?_
    refine jite hf (fun hc hf => ?_) (fun hc hf => ?_)
    · refine j_icmp_ne (dt_Mo_beside 17 (51, .if_icmp .ne 7, 3) rfl) rfl (fun q => absurd hc q) (fun _ => ?_)
      refine j_iconst (dt_Mo_beside 18 (54, .iconst 1, 1) rfl) ic_1 ?_
      refine j_goto (dt_Mo_beside 19 (55, .goto 4, 3) rfl) rfl ?_
      cases hf
      exact j_zret (x := 1) (dt_Mo_beside 21 (59, .ireturn, 1) rfl) rfl rfl
    · refine j_icmp_ne (dt_Mo_beside 17 (51, .if_icmp .ne 7, 3) rfl) rfl (fun _ => ?_) (fun q => absurd q hc)
      refine j_iconst (dt_Mo_beside 20 (58, .iconst 0, 1) rfl) ic_0 ?_
      cases hf
      exact j_zret (x := 0) (dt_Mo_beside 21 (59, .ireturn, 1) rfl) rfl rfl
  · refine jite hf (fun hc2 hf => ?_) (fun hc2 hf => ?_)
    · refine j_swIn (off := 38) (tgt := 60) 2 hc2 (dt_Mo_beside 14 (22, .tableswitch 84 1 3 #[26, 38, 64], 26) rfl) (by decide) ?_
      refine j_iload (dt_Mo_beside 22 (60, .iload 5, 2) rfl) rfl ?_
      refine jite hf (fun hc hf => ?_) (fun hc hf => ?_)
      · refine j_if_le (dt_Mo_beside 23 (62, .ifCond .le 22, 3) rfl) rfl (fun _ => ?_) (fun q => absurd hc q)
        refine j_iconst (dt_Mo_beside 34 (84, .iconst 0, 1) rfl) ic_0 ?_
        cases hf
        exact j_zret (x := 0) (dt_Mo_beside 35 (85, .ireturn, 1) rfl) rfl rfl
      · refine j_if_le (dt_Mo_beside 23 (62, .ifCond .le 22, 3) rfl) rfl (fun q => absurd q hc) (fun _ => ?_)
        refine j_iload (dt_Mo_beside 24 (65, .iload 5, 2) rfl) rfl ?_
        refine j_iconst (dt_Mo_beside 25 (67, .iconst 1, 1) rfl) ic_1 ?_
        refine jite hf (fun hc hf => ?_) (fun hc hf => ?_)
        · refine j_icmp_eq (dt_Mo_beside 26 (68, .if_icmp .eq 12, 3) rfl) rfl (fun _ => ?_) (fun q => absurd hc q)
          refine j_iconst (dt_Mo_beside 32 (80, .iconst 1, 1) rfl) ic_1 ?_
          refine j_goto (dt_Mo_beside 33 (81, .goto 4, 3) rfl) rfl ?_
          cases hf
          exact j_zret (x := 1) (dt_Mo_beside 35 (85, .ireturn, 1) rfl) rfl rfl
        · refine j_icmp_eq (dt_Mo_beside 26 (68, .if_icmp .eq 12, 3) rfl) rfl (fun q => absurd q hc) (fun _ => ?_)
          refine j_iload (dt_Mo_beside 27 (71, .iload 5, 2) rfl) rfl ?_
          refine j_iload (dt_Mo_beside 28 (73, .iload 4, 2) rfl) rfl ?_
          refine j_iconst (dt_Mo_beside 29 (75, .iconst 1, 1) rfl) ic_1 ?_
          refine j_isub (dt_Mo_beside 30 (76, .isub, 1) rfl) ?_
          refine jite hf (fun hc hf => ?_) (fun hc hf => ?_)
          · refine j_icmp_ne (dt_Mo_beside 31 (77, .if_icmp .ne 7, 3) rfl) rfl (fun q => absurd hc q) (fun _ => ?_)
            refine j_iconst (dt_Mo_beside 32 (80, .iconst 1, 1) rfl) ic_1 ?_
            refine j_goto (dt_Mo_beside 33 (81, .goto 4, 3) rfl) rfl ?_
            cases hf
            exact j_zret (x := 1) (dt_Mo_beside 35 (85, .ireturn, 1) rfl) rfl rfl
          · refine j_icmp_ne (dt_Mo_beside 31 (77, .if_icmp .ne 7, 3) rfl) rfl (fun _ => ?_) (fun q => absurd q hc)
            refine j_iconst (dt_Mo_beside 34 (84, .iconst 0, 1) rfl) ic_0 ?_
            cases hf
            exact j_zret (x := 0) (dt_Mo_beside 35 (85, .ireturn, 1) rfl) rfl rfl
    · refine jite hf (fun hc3 hf => ?_) (fun hc3 hf => ?_)
      · refine j_swIn (off := 64) (tgt := 86) 3 hc3 (dt_Mo_beside 14 (22, .tableswitch 84 1 3 #[26, 38, 64], 26) rfl) (by decide) ?_
        refine j_iload (dt_Mo_beside 36 (86, .iload 5, 2) rfl) rfl ?_
        refine jite hf (fun hc hf => ?_) (fun hc hf => ?_)
        · refine j_if_le (dt_Mo_beside 37 (88, .ifCond .le 16, 3) rfl) rfl (fun _ => ?_) (fun q => absurd hc q)
          refine j_iconst (dt_Mo_beside 47 (104, .iconst 0, 1) rfl) ic_0 ?_
          cases hf
          exact j_zret (x := 0) (dt_Mo_beside 48 (105, .ireturn, 1) rfl) rfl rfl
        · refine j_if_le (dt_Mo_beside 37 (88, .ifCond .le 16, 3) rfl) rfl (fun q => absurd q hc) (fun _ => ?_)
          refine j_iload_n (dt_Mo_beside 38 (91, .iload_n 2, 1) rfl) rfl ?_
          refine j_iconst (dt_Mo_beside 39 (92, .iconst 2, 1) rfl) ic_2 ?_
          refine j_idiv (dt_Mo_beside 40 (93, .idiv, 1) rfl) (by decide) ?_
          refine j_iload_n (dt_Mo_beside 41 (94, .iload_n 3, 1) rfl) rfl ?_
          refine j_iconst (dt_Mo_beside 42 (95, .iconst 2, 1) rfl) ic_2 ?_
          refine j_idiv (dt_Mo_beside 43 (96, .idiv, 1) rfl) (by decide) ?_
          refine jite hf (fun hc hf => ?_) (fun hc hf => ?_)
          · refine j_icmp_ne (dt_Mo_beside 44 (97, .if_icmp .ne 7, 3) rfl) rfl (fun q => absurd hc q) (fun _ => ?_)
            refine j_iconst (dt_Mo_beside 45 (100, .iconst 1, 1) rfl) ic_1 ?_
            refine j_goto (dt_Mo_beside 46 (101, .goto 4, 3) rfl) rfl ?_
            cases hf
            exact j_zret (x := 1) (dt_Mo_beside 48 (105, .ireturn, 1) rfl) rfl rfl
          · refine j_icmp_ne (dt_Mo_beside 44 (97, .if_icmp .ne 7, 3) rfl) rfl (fun _ => ?_) (fun q => absurd q hc)
            refine j_iconst (dt_Mo_beside 47 (104, .iconst 0, 1) rfl) ic_0 ?_
            cases hf
            exact j_zret (x := 0) (dt_Mo_beside 48 (105, .ireturn, 1) rfl) rfl rfl
      · refine j_swOut (dt_Mo_beside 14 (22, .tableswitch 84 1 3 #[26, 38, 64], 26) rfl) (jsw_out (lo := 1) 3 (fun k hk => ?_) (by decide) (by decide)) rfl ?_
        · match k, hk with
          | 0, _ => exact hc1
          | 1, _ => exact hc2
          | 2, _ => exact hc3
          | k + 3, hk => omega
        · refine j_iload (dt_Mo_beside 49 (106, .iload 5, 2) rfl) rfl ?_
          refine j_iconst (dt_Mo_beside 50 (108, .iconst 1, 1) rfl) ic_1 ?_
          refine jite hf (fun hc hf => ?_) (fun hc hf => ?_)
          · refine j_icmp_ne (dt_Mo_beside 51 (109, .if_icmp .ne 7, 3) rfl) rfl (fun q => absurd hc q) (fun _ => ?_)
            refine j_iconst (dt_Mo_beside 52 (112, .iconst 1, 1) rfl) ic_1 ?_
            refine j_goto (dt_Mo_beside 53 (113, .goto 4, 3) rfl) rfl ?_
            cases hf
            exact j_zret (x := 1) (dt_Mo_beside 55 (117, .ireturn, 1) rfl) rfl rfl
          · refine j_icmp_ne (dt_Mo_beside 51 (109, .if_icmp .ne 7, 3) rfl) rfl (fun _ => ?_) (fun q => absurd q hc)
            refine j_iconst (dt_Mo_beside 54 (116, .iconst 0, 1) rfl) ic_0 ?_
            cases hf
            exact j_zret (x := 0) (dt_Mo_beside 55 (117, .ireturn, 1) rfl) rfl rfl
theorem r_Mo_beside {S : hS} {V : hV} {v0 : Option Nat} {v1 : Int32} {v2 : Int32} {v3 : Int32} {res : Int32} (hf : Mo_beside S v0 v1 v2 v3 V = some res) : ∃ b, rc S 12 v0 = some b := by
  unfold Mo_beside at hf
  obtain ⟨b, hb, _⟩ := jbind hf
  exact ⟨b, hb⟩
def tb_Mo_isCourse : List (Nat × Instr × Nat) := [(0, .iload_n 1, 1), (1, .i2l, 1), (2, .lconst 0, 1), (3, .ldc2_w 305, 3), (6, .invokestatic 183, 3), (9, .ireturn, 1)]
theorem dt_Mo_isCourse (i : Nat) (q : Nat × Instr × Nat) (h : tb_Mo_isCourse[i]? = some q) : decode prog_14_method_43_code q.1 = .ok q.2 := jdt (by decide +kernel : tb_Mo_isCourse.all (fun q => decide (decode prog_14_method_43_code q.1 = .ok q.2)) = true) h
theorem ok_Mo_isCourse : jOKV M_Mo_isCourse 1 := ⟨⟨gt7 135 rfl rfl, gt1 17 rfl rfl, (by decide : "FirstInModel" ≠ "java/lang/invoke/MethodHandle"), (by decide : "FirstInModel" ≠ "java/lang/invoke/VarHandle"), (by decide +kernel : (parseMethodDescriptor "(I)Z").map (fun d => d.parameters.length) = some 1)⟩, gt7 134 rfl rfl, gs_in 28 rfl, rfl, nlt rfl⟩
set_option maxRecDepth 100000 in
set_option maxHeartbeats 4000000 in
theorem c_Mo_isCourse {G : jG} {S : hS} {V : hV} {v0 : Option Nat} {v1 : Int32} {res : Int32} (hf : Mo_isCourse S v0 v1 = some res) : jC G M_Mo_isCourse [ar v0, ai v1] (S, V) (some (ai res)) (S, V) := by
  unfold Mo_isCourse at hf
  obtain ⟨_, _, hf⟩ := jbind hf
  refine jC_of (pf_X12 _ _) rfl (nle rfl) ?_
  show jJ G M_Mo_isCourse (jEnd G M_Mo_isCourse (some (ai res)) (S, V)) 0 0 0 [(0, ar v0), (1, ai v1)] [] (S, V)
  refine j_iload_n (dt_Mo_isCourse 0 (0, .iload_n 1, 1) rfl) rfl ?_
  refine j_i2l (dt_Mo_isCourse 1 (1, .i2l, 1) rfl) ?_
  refine j_lconst (dt_Mo_isCourse 2 (2, .lconst 0, 1) rfl) lc_0 ?_
  refine j_ldc2 9 (dt_Mo_isCourse 3 (3, .ldc2_w 305, 3) rfl) (gt7 136 rfl rfl) ?_
  refine j_callS M_Mo_in 3 [al ((v1 : Int32).toInt64), al 0, al 9] (rest := []) (dt_Mo_isCourse 4 (6, .invokestatic 183, 3) rfl) ml_X12_183 ok_Mo_in (jfit rfl rfl ⟨rfl, rfl⟩ (nle rfl) (nlt rfl)) rfl rfl (nle rfl) ⟨rfl, rfl⟩ (c_Mo_in rfl) ?_
  cases hf
  exact j_zretN (dt_Mo_isCourse 5 (9, .ireturn, 1) rfl) rfl
theorem r_Mo_isCourse {S : hS} {v0 : Option Nat} {v1 : Int32} {res : Int32} (hf : Mo_isCourse S v0 v1 = some res) : ∃ b, rc S 12 v0 = some b := by
  unfold Mo_isCourse at hf
  obtain ⟨b, hb, _⟩ := jbind hf
  exact ⟨b, hb⟩
def tb_Mo_higher : List (Nat × Instr × Nat) := [(0, .aload_n 0, 1), (1, .iload_n 1, 1), (2, .invokevirtual 297, 3), (5, .ifCond .eq 48, 3), (8, .aload_n 0, 1), (9, .iload_n 2, 1), (10, .invokevirtual 307, 3), (13, .ifCond .eq 40, 3), (16, .iload_n 3, 1), (17, .i2l, 1), (18, .lconst 0, 1), (19, .aload_n 0, 1), (20, .getfield 96, 3), (23, .iload_n 1, 1), (24, .iaload, 1), (25, .iconst 1, 1), (26, .isub, 1), (27, .i2l, 1), (28, .invokestatic 183, 3), (31, .ifCond .eq 22, 3), (34, .iload 4, 2), (36, .i2l, 1), (37, .lconst 0, 1), (38, .aload_n 0, 1), (39, .getfield 96, 3), (42, .iload_n 1, 1), (43, .iaload, 1), (44, .iconst 1, 1), (45, .isub, 1), (46, .i2l, 1), (47, .invokestatic 183, 3), (50, .ifCond .ne 5, 3), (53, .iconst (-1), 1), (54, .ireturn, 1), (55, .aload_n 0, 1), (56, .iload_n 1, 1), (57, .iload_n 2, 1), (58, .iload_n 3, 1), (59, .iload 4, 2), (61, .invokevirtual 310, 3), (64, .ireturn, 1)]
theorem dt_Mo_higher (i : Nat) (q : Nat × Instr × Nat) (h : tb_Mo_higher[i]? = some q) : decode prog_14_method_44_code q.1 = .ok q.2 := jdt (by decide +kernel : tb_Mo_higher.all (fun q => decide (decode prog_14_method_44_code q.1 = .ok q.2)) = true) h
theorem ok_Mo_higher : jOKV M_Mo_higher 4 := ⟨⟨gt7 131 rfl rfl, gt1 17 rfl rfl, (by decide : "FirstInModel" ≠ "java/lang/invoke/MethodHandle"), (by decide : "FirstInModel" ≠ "java/lang/invoke/VarHandle"), (by decide +kernel : (parseMethodDescriptor "(IIII)I").map (fun d => d.parameters.length) = some 4)⟩, gt7 129 rfl rfl, gt7 130 rfl rfl, rfl, nlt rfl⟩
set_option maxRecDepth 100000 in
set_option maxHeartbeats 4000000 in
theorem c_Mo_higher {G : jG} {S : hS} {V : hV} {v0 : Option Nat} {v1 : Int32} {v2 : Int32} {v3 : Int32} {v4 : Int32} {res : Int32} (hf : Mo_higher S v0 v1 v2 v3 v4 V = some res) : jC G M_Mo_higher [ar v0, ai v1, ai v2, ai v3, ai v4] (S, V) (some (ai res)) (S, V) := by
  unfold Mo_higher at hf
  obtain ⟨_, _, hf⟩ := jbind hf
  refine jC_of (pf_X12 _ _) rfl (nle rfl) ?_
  show jJ G M_Mo_higher (jEnd G M_Mo_higher (some (ai res)) (S, V)) 0 0 0 [(0, ar v0), (1, ai v1), (2, ai v2), (3, ai v3), (4, ai v4)] [] (S, V)
  refine j_aload_n (dt_Mo_higher 0 (0, .aload_n 0, 1) rfl) rfl ?_
  refine j_iload_n (dt_Mo_higher 1 (1, .iload_n 1, 1) rfl) rfl ?_
  obtain ⟨x1, hx1, hf⟩ := jbind hf
  obtain ⟨b2, hb2⟩ := r_Mo_isRoom hx1
  refine j_callV M_Mo_isRoom 1 [ai v1] (rest := []) (dt_Mo_higher 2 (2, .invokevirtual 297, 3) rfl) ml_X12_297 ok_Mo_isRoom (jfit rfl rfl ⟨rfl, rfl⟩ (nle rfl) (nlt rfl)) rfl rfl (nle rfl) ⟨rfl, rfl⟩ hb2 ((c_Mo_isRoom hx1)) ?_
  refine jite hf (fun hc hf => ?_) (fun hc hf => ?_)
  · refine j_if_eq (dt_Mo_higher 3 (5, .ifCond .eq 48, 3) rfl) rfl (fun _ => ?_) (fun q => absurd hc q)
    refine j_iconst (dt_Mo_higher 32 (53, .iconst (-1), 1) rfl) ic_m1 ?_
    cases hf
    exact j_iret (dt_Mo_higher 33 (54, .ireturn, 1) rfl) rfl
  · refine j_if_eq (dt_Mo_higher 3 (5, .ifCond .eq 48, 3) rfl) rfl (fun q => absurd q hc) (fun _ => ?_)
    refine j_aload_n (dt_Mo_higher 4 (8, .aload_n 0, 1) rfl) rfl ?_
    refine j_iload_n (dt_Mo_higher 5 (9, .iload_n 2, 1) rfl) rfl ?_
    obtain ⟨x3, hx3, hf⟩ := jbind hf
    obtain ⟨b4, hb4⟩ := r_Mo_isCourse hx3
    refine j_callV M_Mo_isCourse 1 [ai v2] (rest := []) (dt_Mo_higher 6 (10, .invokevirtual 307, 3) rfl) ml_X12_307 ok_Mo_isCourse (jfit rfl rfl ⟨rfl, rfl⟩ (nle rfl) (nlt rfl)) rfl rfl (nle rfl) ⟨rfl, rfl⟩ hb4 ((c_Mo_isCourse hx3)) ?_
    refine jite hf (fun hc hf => ?_) (fun hc hf => ?_)
    · refine j_if_eq (dt_Mo_higher 7 (13, .ifCond .eq 40, 3) rfl) rfl (fun _ => ?_) (fun q => absurd hc q)
      refine j_iconst (dt_Mo_higher 32 (53, .iconst (-1), 1) rfl) ic_m1 ?_
      cases hf
      exact j_iret (dt_Mo_higher 33 (54, .ireturn, 1) rfl) rfl
    · refine j_if_eq (dt_Mo_higher 7 (13, .ifCond .eq 40, 3) rfl) rfl (fun q => absurd q hc) (fun _ => ?_)
      refine j_iload_n (dt_Mo_higher 8 (16, .iload_n 3, 1) rfl) rfl ?_
      refine j_i2l (dt_Mo_higher 9 (17, .i2l, 1) rfl) ?_
      refine j_lconst (dt_Mo_higher 10 (18, .lconst 0, 1) rfl) lc_0 ?_
      refine j_aload_n (dt_Mo_higher 11 (19, .aload_n 0, 1) rfl) rfl ?_
      obtain ⟨x5, hx5, hf⟩ := jbind hf
      refine j_getR (dt_Mo_higher 12 (20, .getfield 96, 3) rfl) fl_X12_96 hx5 (fun _ _ => rfl) ?_
      refine j_iload_n (dt_Mo_higher 13 (23, .iload_n 1, 1) rfl) rfl ?_
      obtain ⟨x6, hx6, hf⟩ := jbind hf
      refine j_aldI (dt_Mo_higher 14 (24, .iaload, 1) rfl) hx6 ?_
      refine j_iconst (dt_Mo_higher 15 (25, .iconst 1, 1) rfl) ic_1 ?_
      refine j_isub (dt_Mo_higher 16 (26, .isub, 1) rfl) ?_
      refine j_i2l (dt_Mo_higher 17 (27, .i2l, 1) rfl) ?_
      refine j_callS M_Mo_in 3 [al ((v3 : Int32).toInt64), al 0, al ((x6 - 1 : Int32).toInt64)] (rest := []) (dt_Mo_higher 18 (28, .invokestatic 183, 3) rfl) ml_X12_183 ok_Mo_in (jfit rfl rfl ⟨rfl, rfl⟩ (nle rfl) (nlt rfl)) rfl rfl (nle rfl) ⟨rfl, rfl⟩ (c_Mo_in rfl) ?_
      refine jite hf (fun hc hf => ?_) (fun hc hf => ?_)
      · refine j_if_eq (dt_Mo_higher 19 (31, .ifCond .eq 22, 3) rfl) rfl (fun _ => ?_) (fun q => absurd hc q)
        refine j_iconst (dt_Mo_higher 32 (53, .iconst (-1), 1) rfl) ic_m1 ?_
        cases hf
        exact j_iret (dt_Mo_higher 33 (54, .ireturn, 1) rfl) rfl
      · refine j_if_eq (dt_Mo_higher 19 (31, .ifCond .eq 22, 3) rfl) rfl (fun q => absurd q hc) (fun _ => ?_)
        refine j_iload (dt_Mo_higher 20 (34, .iload 4, 2) rfl) rfl ?_
        refine j_i2l (dt_Mo_higher 21 (36, .i2l, 1) rfl) ?_
        refine j_lconst (dt_Mo_higher 22 (37, .lconst 0, 1) rfl) lc_0 ?_
        refine j_aload_n (dt_Mo_higher 23 (38, .aload_n 0, 1) rfl) rfl ?_
        obtain ⟨x7, hx7, hf⟩ := jbind hf
        refine j_getR (dt_Mo_higher 24 (39, .getfield 96, 3) rfl) fl_X12_96 hx7 (fun _ _ => rfl) ?_
        refine j_iload_n (dt_Mo_higher 25 (42, .iload_n 1, 1) rfl) rfl ?_
        obtain ⟨x8, hx8, hf⟩ := jbind hf
        refine j_aldI (dt_Mo_higher 26 (43, .iaload, 1) rfl) hx8 ?_
        refine j_iconst (dt_Mo_higher 27 (44, .iconst 1, 1) rfl) ic_1 ?_
        refine j_isub (dt_Mo_higher 28 (45, .isub, 1) rfl) ?_
        refine j_i2l (dt_Mo_higher 29 (46, .i2l, 1) rfl) ?_
        refine j_callS M_Mo_in 3 [al ((v4 : Int32).toInt64), al 0, al ((x8 - 1 : Int32).toInt64)] (rest := []) (dt_Mo_higher 30 (47, .invokestatic 183, 3) rfl) ml_X12_183 ok_Mo_in (jfit rfl rfl ⟨rfl, rfl⟩ (nle rfl) (nlt rfl)) rfl rfl (nle rfl) ⟨rfl, rfl⟩ (c_Mo_in rfl) ?_
        refine jite hf (fun hc hf => ?_) (fun hc hf => ?_)
        · refine j_if_ne (dt_Mo_higher 31 (50, .ifCond .ne 5, 3) rfl) rfl (fun q => absurd hc q) (fun _ => ?_)
          refine j_iconst (dt_Mo_higher 32 (53, .iconst (-1), 1) rfl) ic_m1 ?_
          cases hf
          exact j_iret (dt_Mo_higher 33 (54, .ireturn, 1) rfl) rfl
        · refine j_if_ne (dt_Mo_higher 31 (50, .ifCond .ne 5, 3) rfl) rfl (fun _ => ?_) (fun q => absurd q hc)
          refine j_aload_n (dt_Mo_higher 34 (55, .aload_n 0, 1) rfl) rfl ?_
          refine j_iload_n (dt_Mo_higher 35 (56, .iload_n 1, 1) rfl) rfl ?_
          refine j_iload_n (dt_Mo_higher 36 (57, .iload_n 2, 1) rfl) rfl ?_
          refine j_iload_n (dt_Mo_higher 37 (58, .iload_n 3, 1) rfl) rfl ?_
          refine j_iload (dt_Mo_higher 38 (59, .iload 4, 2) rfl) rfl ?_
          obtain ⟨x9, hx9, hf⟩ := jbind hf
          obtain ⟨b10, hb10⟩ := r_Mo_high hx9
          refine j_callV M_Mo_high 4 [ai v1, ai v2, ai v3, ai v4] (rest := []) (dt_Mo_higher 39 (61, .invokevirtual 310, 3) rfl) ml_X12_310 ok_Mo_high (jfit rfl rfl ⟨rfl, rfl⟩ (nle rfl) (nlt rfl)) rfl rfl (nle rfl) ⟨rfl, rfl⟩ hb10 ((c_Mo_high hx9)) ?_
          cases hf
          exact j_iret (dt_Mo_higher 40 (64, .ireturn, 1) rfl) rfl
theorem r_Mo_higher {S : hS} {V : hV} {v0 : Option Nat} {v1 : Int32} {v2 : Int32} {v3 : Int32} {v4 : Int32} {res : Int32} (hf : Mo_higher S v0 v1 v2 v3 v4 V = some res) : ∃ b, rc S 12 v0 = some b := by
  unfold Mo_higher at hf
  obtain ⟨b, hb, _⟩ := jbind hf
  exact ⟨b, hb⟩
def tb_Mo_whoMinds : List (Nat × Instr × Nat) := [(0, .aload_n 0, 1), (1, .getfield 26, 3), (4, .iconst 0, 1), (5, .aaload, 1), (6, .iload_n 1, 1), (7, .iaload, 1), (8, .iconst 2, 1), (9, .if_icmp .ne 21, 3), (12, .aload_n 0, 1), (13, .iload_n 2, 1), (14, .iload 4, 2), (16, .iload 5, 2), (18, .invokevirtual 314, 3), (21, .ifCond .eq 7, 3), (24, .iconst 3, 1), (25, .goto 4, 3), (28, .iconst 0, 1), (29, .ireturn, 1), (30, .aload_n 0, 1), (31, .iload_n 2, 1), (32, .iload_n 3, 1), (33, .iload 4, 2), (35, .iload 5, 2), (37, .invokevirtual 310, 3), (40, .istore 6, 2), (42, .aload_n 0, 1), (43, .getfield 26, 3), (46, .iconst 0, 1), (47, .aaload, 1), (48, .iload_n 1, 1), (49, .iaload, 1), (50, .ifCond .ne 20, 3), (53, .iload 6, 2), (55, .iconst 2, 1), (56, .if_icmp .eq 8, 3), (59, .iload 6, 2), (61, .ifCond .ne 7, 3), (64, .iconst 1, 1), (65, .goto 4, 3), (68, .iconst 0, 1), (69, .ireturn, 1), (70, .iload 6, 2), (72, .iconst 1, 1), (73, .if_icmp .ne 7, 3), (76, .iconst 2, 1), (77, .goto 14, 3), (80, .iload 6, 2), (82, .iconst 2, 1), (83, .if_icmp .ne 7, 3), (86, .iconst 1, 1), (87, .goto 4, 3), (90, .iconst 0, 1), (91, .ireturn, 1)]
theorem dt_Mo_whoMinds (i : Nat) (q : Nat × Instr × Nat) (h : tb_Mo_whoMinds[i]? = some q) : decode prog_14_method_45_code q.1 = .ok q.2 := jdt (by decide +kernel : tb_Mo_whoMinds.all (fun q => decide (decode prog_14_method_45_code q.1 = .ok q.2)) = true) h
theorem ok_Mo_whoMinds : jOKV M_Mo_whoMinds 5 := ⟨⟨gt7 161 rfl rfl, gt1 17 rfl rfl, (by decide : "FirstInModel" ≠ "java/lang/invoke/MethodHandle"), (by decide : "FirstInModel" ≠ "java/lang/invoke/VarHandle"), (by decide +kernel : (parseMethodDescriptor "(IIIII)I").map (fun d => d.parameters.length) = some 5)⟩, gt7 160 rfl rfl, gs_in 33 rfl, rfl, nlt rfl⟩
set_option maxRecDepth 100000 in
set_option maxHeartbeats 4000000 in
theorem c_Mo_whoMinds {G : jG} {S : hS} {V : hV} {v0 : Option Nat} {v1 : Int32} {v2 : Int32} {v3 : Int32} {v4 : Int32} {v5 : Int32} {res : Int32} (hf : Mo_whoMinds S v0 v1 v2 v3 v4 v5 V = some res) : jC G M_Mo_whoMinds [ar v0, ai v1, ai v2, ai v3, ai v4, ai v5] (S, V) (some (ai res)) (S, V) := by
  unfold Mo_whoMinds at hf
  obtain ⟨_, _, hf⟩ := jbind hf
  refine jC_of (pf_X12 _ _) rfl (nle rfl) ?_
  show jJ G M_Mo_whoMinds (jEnd G M_Mo_whoMinds (some (ai res)) (S, V)) 0 0 0 [(0, ar v0), (1, ai v1), (2, ai v2), (3, ai v3), (4, ai v4), (5, ai v5)] [] (S, V)
  refine j_aload_n (dt_Mo_whoMinds 0 (0, .aload_n 0, 1) rfl) rfl ?_
  obtain ⟨x1, hx1, hf⟩ := jbind hf
  refine j_getR (dt_Mo_whoMinds 1 (1, .getfield 26, 3) rfl) fl_X12_26 hx1 (fun _ _ => rfl) ?_
  refine j_iconst (dt_Mo_whoMinds 2 (4, .iconst 0, 1) rfl) ic_0 ?_
  obtain ⟨x2, hx2, hf⟩ := jbind hf
  refine j_aldR 107 (dt_Mo_whoMinds 3 (5, .aaload, 1) rfl) (by decide) hx2 ?_
  refine j_iload_n (dt_Mo_whoMinds 4 (6, .iload_n 1, 1) rfl) rfl ?_
  obtain ⟨x3, hx3, hf⟩ := jbind hf
  refine j_aldI (dt_Mo_whoMinds 5 (7, .iaload, 1) rfl) hx3 ?_
  refine j_iconst (dt_Mo_whoMinds 6 (8, .iconst 2, 1) rfl) ic_2 ?_
  refine jite hf (fun hc hf => ?_) (fun hc hf => ?_)
  · refine j_icmp_ne (dt_Mo_whoMinds 7 (9, .if_icmp .ne 21, 3) rfl) rfl (fun q => absurd hc q) (fun _ => ?_)
    refine j_aload_n (dt_Mo_whoMinds 8 (12, .aload_n 0, 1) rfl) rfl ?_
    refine j_iload_n (dt_Mo_whoMinds 9 (13, .iload_n 2, 1) rfl) rfl ?_
    refine j_iload (dt_Mo_whoMinds 10 (14, .iload 4, 2) rfl) rfl ?_
    refine j_iload (dt_Mo_whoMinds 11 (16, .iload 5, 2) rfl) rfl ?_
    obtain ⟨x9, hx9, hf⟩ := jbind hf
    obtain ⟨b10, hb10⟩ := r_Mo_beside hx9
    refine j_callV M_Mo_beside 3 [ai v2, ai v4, ai v5] (rest := []) (dt_Mo_whoMinds 12 (18, .invokevirtual 314, 3) rfl) ml_X12_314 ok_Mo_beside (jfit rfl rfl ⟨rfl, rfl⟩ (nle rfl) (nlt rfl)) rfl rfl (nle rfl) ⟨rfl, rfl⟩ hb10 ((c_Mo_beside hx9)) ?_
    refine jite hf (fun hc hf => ?_) (fun hc hf => ?_)
    · refine j_if_eq (dt_Mo_whoMinds 13 (21, .ifCond .eq 7, 3) rfl) rfl (fun _ => ?_) (fun q => absurd hc q)
      refine j_iconst (dt_Mo_whoMinds 16 (28, .iconst 0, 1) rfl) ic_0 ?_
      cases hf
      exact j_iret (dt_Mo_whoMinds 17 (29, .ireturn, 1) rfl) rfl
    · refine j_if_eq (dt_Mo_whoMinds 13 (21, .ifCond .eq 7, 3) rfl) rfl (fun q => absurd q hc) (fun _ => ?_)
      refine j_iconst (dt_Mo_whoMinds 14 (24, .iconst 3, 1) rfl) ic_3 ?_
      refine j_goto (dt_Mo_whoMinds 15 (25, .goto 4, 3) rfl) rfl ?_
      cases hf
      exact j_iret (dt_Mo_whoMinds 17 (29, .ireturn, 1) rfl) rfl
  · refine j_icmp_ne (dt_Mo_whoMinds 7 (9, .if_icmp .ne 21, 3) rfl) rfl (fun _ => ?_) (fun q => absurd q hc)
    refine j_aload_n (dt_Mo_whoMinds 18 (30, .aload_n 0, 1) rfl) rfl ?_
    refine j_iload_n (dt_Mo_whoMinds 19 (31, .iload_n 2, 1) rfl) rfl ?_
    refine j_iload_n (dt_Mo_whoMinds 20 (32, .iload_n 3, 1) rfl) rfl ?_
    refine j_iload (dt_Mo_whoMinds 21 (33, .iload 4, 2) rfl) rfl ?_
    refine j_iload (dt_Mo_whoMinds 22 (35, .iload 5, 2) rfl) rfl ?_
    obtain ⟨x4, hx4, hf⟩ := jbind hf
    obtain ⟨b5, hb5⟩ := r_Mo_high hx4
    refine j_callV M_Mo_high 4 [ai v2, ai v3, ai v4, ai v5] (rest := []) (dt_Mo_whoMinds 23 (37, .invokevirtual 310, 3) rfl) ml_X12_310 ok_Mo_high (jfit rfl rfl ⟨rfl, rfl⟩ (nle rfl) (nlt rfl)) rfl rfl (nle rfl) ⟨rfl, rfl⟩ hb5 ((c_Mo_high hx4)) ?_
    refine j_istore (dt_Mo_whoMinds 24 (40, .istore 6, 2) rfl) (nlt rfl) ?_
    refine j_aload_n (dt_Mo_whoMinds 25 (42, .aload_n 0, 1) rfl) rfl ?_
    obtain ⟨x6, hx6, hf⟩ := jbind hf
    refine j_getR (dt_Mo_whoMinds 26 (43, .getfield 26, 3) rfl) fl_X12_26 hx6 (fun _ _ => rfl) ?_
    refine j_iconst (dt_Mo_whoMinds 27 (46, .iconst 0, 1) rfl) ic_0 ?_
    obtain ⟨x7, hx7, hf⟩ := jbind hf
    refine j_aldR 107 (dt_Mo_whoMinds 28 (47, .aaload, 1) rfl) (by decide) hx7 ?_
    refine j_iload_n (dt_Mo_whoMinds 29 (48, .iload_n 1, 1) rfl) rfl ?_
    obtain ⟨x8, hx8, hf⟩ := jbind hf
    refine j_aldI (dt_Mo_whoMinds 30 (49, .iaload, 1) rfl) hx8 ?_
    refine jite hf (fun hc hf => ?_) (fun hc hf => ?_)
    · refine j_if_ne (dt_Mo_whoMinds 31 (50, .ifCond .ne 20, 3) rfl) rfl (fun q => absurd hc q) (fun _ => ?_)
      refine j_iload (dt_Mo_whoMinds 32 (53, .iload 6, 2) rfl) rfl ?_
      refine j_iconst (dt_Mo_whoMinds 33 (55, .iconst 2, 1) rfl) ic_2 ?_
      refine jite hf (fun hc hf => ?_) (fun hc hf => ?_)
      · refine j_icmp_eq (dt_Mo_whoMinds 34 (56, .if_icmp .eq 8, 3) rfl) rfl (fun _ => ?_) (fun q => absurd hc q)
        refine j_iconst (dt_Mo_whoMinds 37 (64, .iconst 1, 1) rfl) ic_1 ?_
        refine j_goto (dt_Mo_whoMinds 38 (65, .goto 4, 3) rfl) rfl ?_
        cases hf
        exact j_iret (dt_Mo_whoMinds 40 (69, .ireturn, 1) rfl) rfl
      · refine j_icmp_eq (dt_Mo_whoMinds 34 (56, .if_icmp .eq 8, 3) rfl) rfl (fun q => absurd q hc) (fun _ => ?_)
        refine j_iload (dt_Mo_whoMinds 35 (59, .iload 6, 2) rfl) rfl ?_
        refine jite hf (fun hc hf => ?_) (fun hc hf => ?_)
        · refine j_if_ne (dt_Mo_whoMinds 36 (61, .ifCond .ne 7, 3) rfl) rfl (fun q => absurd hc q) (fun _ => ?_)
          refine j_iconst (dt_Mo_whoMinds 37 (64, .iconst 1, 1) rfl) ic_1 ?_
          refine j_goto (dt_Mo_whoMinds 38 (65, .goto 4, 3) rfl) rfl ?_
          cases hf
          exact j_iret (dt_Mo_whoMinds 40 (69, .ireturn, 1) rfl) rfl
        · refine j_if_ne (dt_Mo_whoMinds 36 (61, .ifCond .ne 7, 3) rfl) rfl (fun _ => ?_) (fun q => absurd q hc)
          refine j_iconst (dt_Mo_whoMinds 39 (68, .iconst 0, 1) rfl) ic_0 ?_
          cases hf
          exact j_iret (dt_Mo_whoMinds 40 (69, .ireturn, 1) rfl) rfl
    · refine j_if_ne (dt_Mo_whoMinds 31 (50, .ifCond .ne 20, 3) rfl) rfl (fun _ => ?_) (fun q => absurd q hc)
      refine j_iload (dt_Mo_whoMinds 41 (70, .iload 6, 2) rfl) rfl ?_
      refine j_iconst (dt_Mo_whoMinds 42 (72, .iconst 1, 1) rfl) ic_1 ?_
      refine jite hf (fun hc hf => ?_) (fun hc hf => ?_)
      · refine j_icmp_ne (dt_Mo_whoMinds 43 (73, .if_icmp .ne 7, 3) rfl) rfl (fun q => absurd hc q) (fun _ => ?_)
        refine j_iconst (dt_Mo_whoMinds 44 (76, .iconst 2, 1) rfl) ic_2 ?_
        refine j_goto (dt_Mo_whoMinds 45 (77, .goto 14, 3) rfl) rfl ?_
        cases hf
        exact j_iret (dt_Mo_whoMinds 52 (91, .ireturn, 1) rfl) rfl
      · refine j_icmp_ne (dt_Mo_whoMinds 43 (73, .if_icmp .ne 7, 3) rfl) rfl (fun _ => ?_) (fun q => absurd q hc)
        refine j_iload (dt_Mo_whoMinds 46 (80, .iload 6, 2) rfl) rfl ?_
        refine j_iconst (dt_Mo_whoMinds 47 (82, .iconst 2, 1) rfl) ic_2 ?_
        refine jite hf (fun hc hf => ?_) (fun hc hf => ?_)
        · refine j_icmp_ne (dt_Mo_whoMinds 48 (83, .if_icmp .ne 7, 3) rfl) rfl (fun q => absurd hc q) (fun _ => ?_)
          refine j_iconst (dt_Mo_whoMinds 49 (86, .iconst 1, 1) rfl) ic_1 ?_
          refine j_goto (dt_Mo_whoMinds 50 (87, .goto 4, 3) rfl) rfl ?_
          cases hf
          exact j_iret (dt_Mo_whoMinds 52 (91, .ireturn, 1) rfl) rfl
        · refine j_icmp_ne (dt_Mo_whoMinds 48 (83, .if_icmp .ne 7, 3) rfl) rfl (fun _ => ?_) (fun q => absurd q hc)
          refine j_iconst (dt_Mo_whoMinds 51 (90, .iconst 0, 1) rfl) ic_0 ?_
          cases hf
          exact j_iret (dt_Mo_whoMinds 52 (91, .ireturn, 1) rfl) rfl
theorem r_Mo_whoMinds {S : hS} {V : hV} {v0 : Option Nat} {v1 : Int32} {v2 : Int32} {v3 : Int32} {v4 : Int32} {v5 : Int32} {res : Int32} (hf : Mo_whoMinds S v0 v1 v2 v3 v4 v5 V = some res) : ∃ b, rc S 12 v0 = some b := by
  unfold Mo_whoMinds at hf
  obtain ⟨b, hb, _⟩ := jbind hf
  exact ⟨b, hb⟩
def tb_Mo_finds : List (Nat × Instr × Nat) := [(0, .aload_n 0, 1), (1, .getfield 96, 3), (4, .iload_n 1, 1), (5, .iaload, 1), (6, .istore 4, 2), (8, .aload_n 0, 1), (9, .iconst 0, 1), (10, .putfield 317, 3), (13, .iconst 0, 1), (14, .istore 5, 2), (16, .iload 5, 2), (18, .bipush 10, 2), (20, .if_icmp .ge 17, 3), (23, .aload_n 0, 1), (24, .getfield 108, 3), (27, .iload 5, 2), (29, .iconst 0, 1), (30, .iastore, 1), (31, .iinc 5 1, 3), (34, .goto (-18), 3), (37, .iconst 0, 1), (38, .istore 5, 2), (40, .iload 5, 2), (42, .aload_n 0, 1), (43, .getfield 51, 3), (46, .iconst 0, 1), (47, .iaload, 1), (48, .if_icmp .ge 252, 3), (51, .iconst 0, 1), (52, .istore 6, 2), (54, .iload 6, 2), (56, .aload_n 0, 1), (57, .getfield 44, 3), (60, .iconst 0, 1), (61, .iaload, 1), (62, .if_icmp .ge 232, 3), (65, .aload_n 0, 1), (66, .getfield 26, 3), (69, .iconst 0, 1), (70, .aaload, 1), (71, .iload 5, 2), (73, .iaload, 1), (74, .ifCond .ne 7, 3), (77, .iconst 0, 1), (78, .goto 7, 3), (81, .iload 6, 2), (83, .iconst 1, 1), (84, .iadd, 1), (85, .istore 7, 2), (87, .iload 7, 2), (89, .aload_n 0, 1), (90, .getfield 44, 3), (93, .iconst 0, 1), (94, .iaload, 1), (95, .if_icmp .ge 193, 3), (98, .aload_n 0, 1), (99, .getfield 87, 3), (102, .iload 6, 2), (104, .iaload, 1), (105, .iload_n 1, 1), (106, .if_icmp .ne 176, 3), (109, .aload_n 0, 1), (110, .getfield 87, 3), (113, .iload 7, 2), (115, .iaload, 1), (116, .iload_n 1, 1), (117, .if_icmp .ne 165, 3), (120, .aload_n 0, 1), (121, .iload 5, 2), (123, .iload_n 1, 1), (124, .iload 6, 2), (126, .iload 7, 2), (128, .invokevirtual 320, 3), (131, .ifCond .ne 6, 3), (134, .goto 148, 3), (137, .aload_n 0, 1), (138, .iload 5, 2), (140, .iload_n 1, 1), (141, .iload_n 2, 1), (142, .aload_n 0, 1), (143, .getfield 90, 3), (146, .iload 6, 2), (148, .iaload, 1), (149, .iload_n 3, 1), (150, .iadd, 1), (151, .iload 4, 2), (153, .irem, 1), (154, .aload_n 0, 1), (155, .getfield 90, 3), (158, .iload 7, 2), (160, .iaload, 1), (161, .iload_n 3, 1), (162, .iadd, 1), (163, .iload 4, 2), (165, .irem, 1), (166, .invokevirtual 324, 3), (169, .istore 8, 2), (171, .iload 8, 2), (173, .ifCond .ne 6, 3), (176, .goto 106, 3), (179, .aload_n 0, 1), (180, .getfield 99, 3), (183, .aload_n 0, 1), (184, .getfield 317, 3), (187, .iload 5, 2), (189, .iastore, 1), (190, .aload_n 0, 1), (191, .getfield 102, 3), (194, .aload_n 0, 1), (195, .getfield 317, 3), (198, .iload 6, 2), (200, .iastore, 1), (201, .aload_n 0, 1), (202, .getfield 105, 3), (205, .aload_n 0, 1), (206, .getfield 317, 3), (209, .iload 7, 2), (211, .iastore, 1), (212, .aload_n 0, 1), (213, .dup, 1), (214, .getfield 317, 3), (217, .iconst 1, 1), (218, .iadd, 1), (219, .putfield 317, 3), (222, .aload_n 0, 1), (223, .getfield 108, 3), (226, .iload 6, 2), (228, .dup2, 1), (229, .iaload, 1), (230, .iload 8, 2), (232, .iconst 1, 1), (233, .iand, 1), (234, .ifCond .eq 15, 3), (237, .aload_n 0, 1), (238, .getfield 35, 3), (241, .iconst 0, 1), (242, .aaload, 1), (243, .iload 5, 2), (245, .iaload, 1), (246, .goto 4, 3), (249, .iconst 0, 1), (250, .iadd, 1), (251, .iastore, 1), (252, .aload_n 0, 1), (253, .getfield 108, 3), (256, .iload 7, 2), (258, .dup2, 1), (259, .iaload, 1), (260, .iload 8, 2), (262, .iconst 2, 1), (263, .iand, 1), (264, .ifCond .eq 15, 3), (267, .aload_n 0, 1), (268, .getfield 35, 3), (271, .iconst 0, 1), (272, .aaload, 1), (273, .iload 5, 2), (275, .iaload, 1), (276, .goto 4, 3), (279, .iconst 0, 1), (280, .iadd, 1), (281, .iastore, 1), (282, .iinc 7 1, 3), (285, .goto (-198), 3), (288, .iinc 6 1, 3), (291, .goto (-237), 3), (294, .iinc 5 1, 3), (297, .goto (-257), 3), (300, .return_, 1)]
theorem dt_Mo_finds (i : Nat) (q : Nat × Instr × Nat) (h : tb_Mo_finds[i]? = some q) : decode prog_14_method_46_code q.1 = .ok q.2 := jdt (by decide +kernel : tb_Mo_finds.all (fun q => decide (decode prog_14_method_46_code q.1 = .ok q.2)) = true) h
theorem ok_Mo_finds : jOKV M_Mo_finds 3 := ⟨⟨gt7 149 rfl rfl, gt1 17 rfl rfl, (by decide : "FirstInModel" ≠ "java/lang/invoke/MethodHandle"), (by decide : "FirstInModel" ≠ "java/lang/invoke/VarHandle"), (by decide +kernel : (parseMethodDescriptor "(III)V").map (fun d => d.parameters.length) = some 3)⟩, gt7 148 rfl rfl, gs_in 30 rfl, rfl, nlt rfl⟩
set_option maxRecDepth 100000 in
set_option maxHeartbeats 4000000 in
theorem c_Mo_finds {G : jG} {S : hS} {V : hV} {v0 : Option Nat} {v1 : Int32} {v2 : Int32} {v3 : Int32} {res : hV} (hf : Mo_finds S v0 v1 v2 v3 V = some res) : jC G M_Mo_finds [ar v0, ai v1, ai v2, ai v3] (S, V) none (S, res) := by
  unfold Mo_finds at hf
  obtain ⟨_, _, hf⟩ := jbind hf
  refine jC_of (pf_X12 _ _) rfl (nle rfl) ?_
  show jJ G M_Mo_finds (jEnd G M_Mo_finds none (S, res)) 0 0 0 [(0, ar v0), (1, ai v1), (2, ai v2), (3, ai v3)] [] (S, V)
  refine j_aload_n (dt_Mo_finds 0 (0, .aload_n 0, 1) rfl) rfl ?_
  obtain ⟨x1, hx1, hf⟩ := jbind hf
  refine j_getR (dt_Mo_finds 1 (1, .getfield 96, 3) rfl) fl_X12_96 hx1 (fun _ _ => rfl) ?_
  refine j_iload_n (dt_Mo_finds 2 (4, .iload_n 1, 1) rfl) rfl ?_
  obtain ⟨x2, hx2, hf⟩ := jbind hf
  refine j_aldI (dt_Mo_finds 3 (5, .iaload, 1) rfl) hx2 ?_
  refine j_istore (dt_Mo_finds 4 (6, .istore 4, 2) rfl) (nlt rfl) ?_
  refine j_aload_n (dt_Mo_finds 5 (8, .aload_n 0, 1) rfl) rfl ?_
  refine j_iconst (dt_Mo_finds 6 (9, .iconst 0, 1) rfl) ic_0 ?_
  obtain ⟨V3, hV3, hf⟩ := jbind hf
  refine j_putI (dt_Mo_finds 7 (10, .putfield 317, 3) rfl) fl_X12_317 hV3 rfl (Or.inl rfl) ?_
  refine j_iconst (dt_Mo_finds 8 (13, .iconst 0, 1) rfl) ic_0 ?_
  refine j_istore (dt_Mo_finds 9 (14, .istore 5, 2) rfl) (nlt rfl) ?_
  obtain ⟨t16, ht16, hf⟩ := jbind hf
  have hX16 : ∀ q16 : hV, q16 = t16 → jJ G M_Mo_finds (jEnd G M_Mo_finds none (S, res)) 0 0 37 [(0, ar v0), (1, ai v1), (2, ai v2), (3, ai v3), (4, ai x2)] [] (S, q16) := by
    intro q16 hq16
    subst hq16
    refine j_iconst (dt_Mo_finds 20 (37, .iconst 0, 1) rfl) ic_0 ?_
    refine j_istore (dt_Mo_finds 21 (38, .istore 5, 2) rfl) (nlt rfl) ?_
    obtain ⟨t40, ht40, hf⟩ := jbind hf
    have hX40 : ∀ q40 : hV, q40 = t40 → jJ G M_Mo_finds (jEnd G M_Mo_finds none (S, res)) 0 0 300 [] [] (S, q40) := by
      intro q40 hq40
      subst hq40
      cases hf
      exact j_vret (dt_Mo_finds 168 (300, .return_, 1) rfl) rfl
    refine j_sub (ls' := [(0, ar v0), (1, ai v1), (2, ai v2), (3, ai v3), (4, ai x2), (5, ai 0)]) rfl ?_
    refine jloop_J (C := fun s40 => jJ G M_Mo_finds (jEnd G M_Mo_finds none (S, res)) 0 0 40 [(0, ar v0), (1, ai v1), (2, ai v2), (3, ai v3), (4, ai x2), (5, ai s40.1)] [] (S, s40.2)) (fun s40 z40_ hy40 hin40 hout40 => ?_) _ _ ht40
    unfold Mo_finds_L40 at hy40
    refine j_iload (dt_Mo_finds 22 (40, .iload 5, 2) rfl) rfl ?_
    refine j_aload_n (dt_Mo_finds 23 (42, .aload_n 0, 1) rfl) rfl ?_
    obtain ⟨x6, hx6, hy40⟩ := jbind hy40
    refine j_getR (dt_Mo_finds 24 (43, .getfield 51, 3) rfl) fl_X12_51 hx6 (fun _ _ => rfl) ?_
    refine j_iconst (dt_Mo_finds 25 (46, .iconst 0, 1) rfl) ic_0 ?_
    obtain ⟨x7, hx7, hy40⟩ := jbind hy40
    refine j_aldI (dt_Mo_finds 26 (47, .iaload, 1) rfl) hx7 ?_
    refine jite hy40 (fun hc hy40 => ?_) (fun hc hy40 => ?_)
    · refine j_icmp_ge (dt_Mo_finds 27 (48, .if_icmp .ge 252, 3) rfl) rfl (fun _ => ?_) (fun q => absurd hc q)
      cases hy40
      have hz := hX40 _ (hout40 _ rfl)
      exact j_sub rfl hz
    · refine j_icmp_ge (dt_Mo_finds 27 (48, .if_icmp .ge 252, 3) rfl) rfl (fun q => absurd q hc) (fun _ => ?_)
      refine j_iconst (dt_Mo_finds 28 (51, .iconst 0, 1) rfl) ic_0 ?_
      refine j_istore (dt_Mo_finds 29 (52, .istore 6, 2) rfl) (nlt rfl) ?_
      obtain ⟨t54, ht54, hy40⟩ := jbind hy40
      have hX54 : ∀ q54 : hV, q54 = t54 → jJ G M_Mo_finds (jEnd G M_Mo_finds none (S, res)) 0 0 294 [(0, ar v0), (1, ai v1), (2, ai v2), (3, ai v3), (4, ai x2), (5, ai s40.1)] [] (S, q54) := by
        intro q54 hq54
        subst hq54
        refine j_iinc (dt_Mo_finds 166 (294, .iinc 5 1, 3) rfl) rfl (nlt rfl) (ii_1 _) ?_
        refine j_goto (dt_Mo_finds 167 (297, .goto (-257), 3) rfl) rfl ?_
        cases hy40
        have hz := hin40 _ rfl
        exact j_sub rfl hz
      refine j_sub (ls' := [(0, ar v0), (1, ai v1), (2, ai v2), (3, ai v3), (4, ai x2), (5, ai s40.1), (6, ai 0)]) rfl ?_
      refine jloop_J (C := fun s54 => jJ G M_Mo_finds (jEnd G M_Mo_finds none (S, res)) 0 0 54 [(0, ar v0), (1, ai v1), (2, ai v2), (3, ai v3), (4, ai x2), (5, ai s40.1), (6, ai s54.1)] [] (S, s54.2)) (fun s54 z54_ hy54 hin54 hout54 => ?_) _ _ ht54
      unfold Mo_finds_L54 at hy54
      refine j_iload (dt_Mo_finds 30 (54, .iload 6, 2) rfl) rfl ?_
      refine j_aload_n (dt_Mo_finds 31 (56, .aload_n 0, 1) rfl) rfl ?_
      obtain ⟨x8, hx8, hy54⟩ := jbind hy54
      refine j_getR (dt_Mo_finds 32 (57, .getfield 44, 3) rfl) fl_X12_44 hx8 (fun _ _ => rfl) ?_
      refine j_iconst (dt_Mo_finds 33 (60, .iconst 0, 1) rfl) ic_0 ?_
      obtain ⟨x9, hx9, hy54⟩ := jbind hy54
      refine j_aldI (dt_Mo_finds 34 (61, .iaload, 1) rfl) hx9 ?_
      refine jite hy54 (fun hc hy54 => ?_) (fun hc hy54 => ?_)
      · refine j_icmp_ge (dt_Mo_finds 35 (62, .if_icmp .ge 232, 3) rfl) rfl (fun _ => ?_) (fun q => absurd hc q)
        cases hy54
        have hz := hX54 _ (hout54 _ rfl)
        exact j_sub rfl hz
      · refine j_icmp_ge (dt_Mo_finds 35 (62, .if_icmp .ge 232, 3) rfl) rfl (fun q => absurd q hc) (fun _ => ?_)
        refine j_aload_n (dt_Mo_finds 36 (65, .aload_n 0, 1) rfl) rfl ?_
        obtain ⟨x10, hx10, hy54⟩ := jbind hy54
        refine j_getR (dt_Mo_finds 37 (66, .getfield 26, 3) rfl) fl_X12_26 hx10 (fun _ _ => rfl) ?_
        refine j_iconst (dt_Mo_finds 38 (69, .iconst 0, 1) rfl) ic_0 ?_
        obtain ⟨x11, hx11, hy54⟩ := jbind hy54
        refine j_aldR 107 (dt_Mo_finds 39 (70, .aaload, 1) rfl) (by decide) hx11 ?_
        refine j_iload (dt_Mo_finds 40 (71, .iload 5, 2) rfl) rfl ?_
        obtain ⟨x12, hx12, hy54⟩ := jbind hy54
        refine j_aldI (dt_Mo_finds 41 (73, .iaload, 1) rfl) hx12 ?_
        obtain ⟨j74, hj74, hy54⟩ := jbind hy54
        have hP74 : jJ G M_Mo_finds (jEnd G M_Mo_finds none (S, res)) 0 0 85 [(0, ar v0), (1, ai v1), (2, ai v2), (3, ai v3), (4, ai x2), (5, ai s40.1), (6, ai s54.1)] [ai j74] (S, s54.2) := by
          refine j_istore (dt_Mo_finds 48 (85, .istore 7, 2) rfl) (nlt rfl) ?_
          obtain ⟨t87, ht87, hy54⟩ := jbind hy54
          have hX87 : ∀ q87 : hV, q87 = t87 → jJ G M_Mo_finds (jEnd G M_Mo_finds none (S, res)) 0 0 288 [(0, ar v0), (1, ai v1), (2, ai v2), (3, ai v3), (4, ai x2), (5, ai s40.1), (6, ai s54.1)] [] (S, q87) := by
            intro q87 hq87
            subst hq87
            refine j_iinc (dt_Mo_finds 164 (288, .iinc 6 1, 3) rfl) rfl (nlt rfl) (ii_1 _) ?_
            refine j_goto (dt_Mo_finds 165 (291, .goto (-237), 3) rfl) rfl ?_
            cases hy54
            have hz := hin54 _ rfl
            exact j_sub rfl hz
          refine j_sub (ls' := [(0, ar v0), (1, ai v1), (2, ai v2), (3, ai v3), (4, ai x2), (5, ai s40.1), (6, ai s54.1), (7, ai j74)]) rfl ?_
          refine jloop_J (C := fun s87 => jJ G M_Mo_finds (jEnd G M_Mo_finds none (S, res)) 0 0 87 [(0, ar v0), (1, ai v1), (2, ai v2), (3, ai v3), (4, ai x2), (5, ai s40.1), (6, ai s54.1), (7, ai s87.1)] [] (S, s87.2)) (fun s87 z87_ hy87 hin87 hout87 => ?_) _ _ ht87
          unfold Mo_finds_L87 at hy87
          refine j_iload (dt_Mo_finds 49 (87, .iload 7, 2) rfl) rfl ?_
          refine j_aload_n (dt_Mo_finds 50 (89, .aload_n 0, 1) rfl) rfl ?_
          obtain ⟨x13, hx13, hy87⟩ := jbind hy87
          refine j_getR (dt_Mo_finds 51 (90, .getfield 44, 3) rfl) fl_X12_44 hx13 (fun _ _ => rfl) ?_
          refine j_iconst (dt_Mo_finds 52 (93, .iconst 0, 1) rfl) ic_0 ?_
          obtain ⟨x14, hx14, hy87⟩ := jbind hy87
          refine j_aldI (dt_Mo_finds 53 (94, .iaload, 1) rfl) hx14 ?_
          refine jite hy87 (fun hc hy87 => ?_) (fun hc hy87 => ?_)
          · refine j_icmp_ge (dt_Mo_finds 54 (95, .if_icmp .ge 193, 3) rfl) rfl (fun _ => ?_) (fun q => absurd hc q)
            cases hy87
            have hz := hX87 _ (hout87 _ rfl)
            exact j_sub rfl hz
          · refine j_icmp_ge (dt_Mo_finds 54 (95, .if_icmp .ge 193, 3) rfl) rfl (fun q => absurd q hc) (fun _ => ?_)
            refine j_aload_n (dt_Mo_finds 55 (98, .aload_n 0, 1) rfl) rfl ?_
            obtain ⟨x15, hx15, hy87⟩ := jbind hy87
            refine j_getR (dt_Mo_finds 56 (99, .getfield 87, 3) rfl) fl_X12_87 hx15 (fun _ _ => rfl) ?_
            refine j_iload (dt_Mo_finds 57 (102, .iload 6, 2) rfl) rfl ?_
            obtain ⟨x16, hx16, hy87⟩ := jbind hy87
            refine j_aldI (dt_Mo_finds 58 (104, .iaload, 1) rfl) hx16 ?_
            refine j_iload_n (dt_Mo_finds 59 (105, .iload_n 1, 1) rfl) rfl ?_
            refine jite hy87 (fun hc hy87 => ?_) (fun hc hy87 => ?_)
            · refine j_icmp_ne (dt_Mo_finds 60 (106, .if_icmp .ne 176, 3) rfl) rfl (fun q => absurd hc q) (fun _ => ?_)
              refine j_aload_n (dt_Mo_finds 61 (109, .aload_n 0, 1) rfl) rfl ?_
              obtain ⟨x17, hx17, hy87⟩ := jbind hy87
              refine j_getR (dt_Mo_finds 62 (110, .getfield 87, 3) rfl) fl_X12_87 hx17 (fun _ _ => rfl) ?_
              refine j_iload (dt_Mo_finds 63 (113, .iload 7, 2) rfl) rfl ?_
              obtain ⟨x18, hx18, hy87⟩ := jbind hy87
              refine j_aldI (dt_Mo_finds 64 (115, .iaload, 1) rfl) hx18 ?_
              refine j_iload_n (dt_Mo_finds 65 (116, .iload_n 1, 1) rfl) rfl ?_
              refine jite hy87 (fun hc hy87 => ?_) (fun hc hy87 => ?_)
              · refine j_icmp_ne (dt_Mo_finds 66 (117, .if_icmp .ne 165, 3) rfl) rfl (fun q => absurd hc q) (fun _ => ?_)
                refine j_aload_n (dt_Mo_finds 67 (120, .aload_n 0, 1) rfl) rfl ?_
                refine j_iload (dt_Mo_finds 68 (121, .iload 5, 2) rfl) rfl ?_
                refine j_iload_n (dt_Mo_finds 69 (123, .iload_n 1, 1) rfl) rfl ?_
                refine j_iload (dt_Mo_finds 70 (124, .iload 6, 2) rfl) rfl ?_
                refine j_iload (dt_Mo_finds 71 (126, .iload 7, 2) rfl) rfl ?_
                obtain ⟨x19, hx19, hy87⟩ := jbind hy87
                obtain ⟨b20, hb20⟩ := r_Mo_countsFor hx19
                refine j_callV M_Mo_countsFor 4 [ai s40.1, ai v1, ai s54.1, ai s87.1] (rest := []) (dt_Mo_finds 72 (128, .invokevirtual 320, 3) rfl) ml_X12_320 ok_Mo_countsFor (jfit rfl rfl ⟨rfl, rfl⟩ (nle rfl) (nlt rfl)) rfl rfl (nle rfl) ⟨rfl, rfl⟩ hb20 ((c_Mo_countsFor hx19)) ?_
                refine jite hy87 (fun hc hy87 => ?_) (fun hc hy87 => ?_)
                · refine j_if_ne (dt_Mo_finds 73 (131, .ifCond .ne 6, 3) rfl) rfl (fun q => absurd hc q) (fun _ => ?_)
                  refine j_goto (dt_Mo_finds 74 (134, .goto 148, 3) rfl) rfl ?_
                  refine j_iinc (dt_Mo_finds 162 (282, .iinc 7 1, 3) rfl) rfl (nlt rfl) (ii_1 _) ?_
                  refine j_goto (dt_Mo_finds 163 (285, .goto (-198), 3) rfl) rfl ?_
                  cases hy87
                  have hz := hin87 _ rfl
                  exact j_sub rfl hz
                · refine j_if_ne (dt_Mo_finds 73 (131, .ifCond .ne 6, 3) rfl) rfl (fun _ => ?_) (fun q => absurd q hc)
                  refine j_aload_n (dt_Mo_finds 75 (137, .aload_n 0, 1) rfl) rfl ?_
                  refine j_iload (dt_Mo_finds 76 (138, .iload 5, 2) rfl) rfl ?_
                  refine j_iload_n (dt_Mo_finds 77 (140, .iload_n 1, 1) rfl) rfl ?_
                  refine j_iload_n (dt_Mo_finds 78 (141, .iload_n 2, 1) rfl) rfl ?_
                  refine j_aload_n (dt_Mo_finds 79 (142, .aload_n 0, 1) rfl) rfl ?_
                  obtain ⟨x21, hx21, hy87⟩ := jbind hy87
                  refine j_getR (dt_Mo_finds 80 (143, .getfield 90, 3) rfl) fl_X12_90 hx21 (fun _ _ => rfl) ?_
                  refine j_iload (dt_Mo_finds 81 (146, .iload 6, 2) rfl) rfl ?_
                  obtain ⟨x22, hx22, hy87⟩ := jbind hy87
                  refine j_aldI (dt_Mo_finds 82 (148, .iaload, 1) rfl) hx22 ?_
                  refine j_iload_n (dt_Mo_finds 83 (149, .iload_n 3, 1) rfl) rfl ?_
                  refine j_iadd (dt_Mo_finds 84 (150, .iadd, 1) rfl) ?_
                  refine j_iload (dt_Mo_finds 85 (151, .iload 4, 2) rfl) rfl ?_
                  obtain ⟨_, hz, hy87⟩ := jbind hy87
                  refine j_irem (dt_Mo_finds 86 (153, .irem, 1) rfl) (jnz_ne hz) ?_
                  refine j_aload_n (dt_Mo_finds 87 (154, .aload_n 0, 1) rfl) rfl ?_
                  obtain ⟨x23, hx23, hy87⟩ := jbind hy87
                  refine j_getR (dt_Mo_finds 88 (155, .getfield 90, 3) rfl) fl_X12_90 hx23 (fun _ _ => rfl) ?_
                  refine j_iload (dt_Mo_finds 89 (158, .iload 7, 2) rfl) rfl ?_
                  obtain ⟨x24, hx24, hy87⟩ := jbind hy87
                  refine j_aldI (dt_Mo_finds 90 (160, .iaload, 1) rfl) hx24 ?_
                  refine j_iload_n (dt_Mo_finds 91 (161, .iload_n 3, 1) rfl) rfl ?_
                  refine j_iadd (dt_Mo_finds 92 (162, .iadd, 1) rfl) ?_
                  refine j_iload (dt_Mo_finds 93 (163, .iload 4, 2) rfl) rfl ?_
                  obtain ⟨_, hz, hy87⟩ := jbind hy87
                  refine j_irem (dt_Mo_finds 94 (165, .irem, 1) rfl) (jnz_ne hz) ?_
                  obtain ⟨x25, hx25, hy87⟩ := jbind hy87
                  obtain ⟨b26, hb26⟩ := r_Mo_whoMinds hx25
                  refine j_callV M_Mo_whoMinds 5 [ai s40.1, ai v1, ai v2, ai (irm (x22 + v3) x2), ai (irm (x24 + v3) x2)] (rest := []) (dt_Mo_finds 95 (166, .invokevirtual 324, 3) rfl) ml_X12_324 ok_Mo_whoMinds (jfit rfl rfl ⟨rfl, rfl⟩ (nle rfl) (nlt rfl)) rfl rfl (nle rfl) ⟨rfl, rfl⟩ hb26 ((c_Mo_whoMinds hx25)) ?_
                  refine j_istore (dt_Mo_finds 96 (169, .istore 8, 2) rfl) (nlt rfl) ?_
                  refine j_iload (dt_Mo_finds 97 (171, .iload 8, 2) rfl) rfl ?_
                  refine jite hy87 (fun hc hy87 => ?_) (fun hc hy87 => ?_)
                  · refine j_if_ne (dt_Mo_finds 98 (173, .ifCond .ne 6, 3) rfl) rfl (fun q => absurd hc q) (fun _ => ?_)
                    refine j_goto (dt_Mo_finds 99 (176, .goto 106, 3) rfl) rfl ?_
                    refine j_iinc (dt_Mo_finds 162 (282, .iinc 7 1, 3) rfl) rfl (nlt rfl) (ii_1 _) ?_
                    refine j_goto (dt_Mo_finds 163 (285, .goto (-198), 3) rfl) rfl ?_
                    cases hy87
                    have hz := hin87 _ rfl
                    exact j_sub rfl hz
                  · refine j_if_ne (dt_Mo_finds 98 (173, .ifCond .ne 6, 3) rfl) rfl (fun _ => ?_) (fun q => absurd q hc)
                    refine j_aload_n (dt_Mo_finds 100 (179, .aload_n 0, 1) rfl) rfl ?_
                    obtain ⟨x27, hx27, hy87⟩ := jbind hy87
                    refine j_getR (dt_Mo_finds 101 (180, .getfield 99, 3) rfl) fl_X12_99 hx27 (fun _ _ => rfl) ?_
                    refine j_aload_n (dt_Mo_finds 102 (183, .aload_n 0, 1) rfl) rfl ?_
                    obtain ⟨x28, hx28, hy87⟩ := jbind hy87
                    refine j_getI (dt_Mo_finds 103 (184, .getfield 317, 3) rfl) fl_X12_317 hx28 (fun _ _ => rfl) ?_
                    refine j_iload (dt_Mo_finds 104 (187, .iload 5, 2) rfl) rfl ?_
                    obtain ⟨V29, hV29, hy87⟩ := jbind hy87
                    refine j_astI (dt_Mo_finds 105 (189, .iastore, 1) rfl) hV29 ?_
                    refine j_aload_n (dt_Mo_finds 106 (190, .aload_n 0, 1) rfl) rfl ?_
                    obtain ⟨x30, hx30, hy87⟩ := jbind hy87
                    refine j_getR (dt_Mo_finds 107 (191, .getfield 102, 3) rfl) fl_X12_102 hx30 (fun _ _ => rfl) ?_
                    refine j_aload_n (dt_Mo_finds 108 (194, .aload_n 0, 1) rfl) rfl ?_
                    obtain ⟨x31, hx31, hy87⟩ := jbind hy87
                    refine j_getI (dt_Mo_finds 109 (195, .getfield 317, 3) rfl) fl_X12_317 hx31 (fun _ _ => rfl) ?_
                    refine j_iload (dt_Mo_finds 110 (198, .iload 6, 2) rfl) rfl ?_
                    obtain ⟨V32, hV32, hy87⟩ := jbind hy87
                    refine j_astI (dt_Mo_finds 111 (200, .iastore, 1) rfl) hV32 ?_
                    refine j_aload_n (dt_Mo_finds 112 (201, .aload_n 0, 1) rfl) rfl ?_
                    obtain ⟨x33, hx33, hy87⟩ := jbind hy87
                    refine j_getR (dt_Mo_finds 113 (202, .getfield 105, 3) rfl) fl_X12_105 hx33 (fun _ _ => rfl) ?_
                    refine j_aload_n (dt_Mo_finds 114 (205, .aload_n 0, 1) rfl) rfl ?_
                    obtain ⟨x34, hx34, hy87⟩ := jbind hy87
                    refine j_getI (dt_Mo_finds 115 (206, .getfield 317, 3) rfl) fl_X12_317 hx34 (fun _ _ => rfl) ?_
                    refine j_iload (dt_Mo_finds 116 (209, .iload 7, 2) rfl) rfl ?_
                    obtain ⟨V35, hV35, hy87⟩ := jbind hy87
                    refine j_astI (dt_Mo_finds 117 (211, .iastore, 1) rfl) hV35 ?_
                    refine j_aload_n (dt_Mo_finds 118 (212, .aload_n 0, 1) rfl) rfl ?_
                    refine j_dup (dt_Mo_finds 119 (213, .dup, 1) rfl) rfl ?_
                    obtain ⟨x36, hx36, hy87⟩ := jbind hy87
                    refine j_getI (dt_Mo_finds 120 (214, .getfield 317, 3) rfl) fl_X12_317 hx36 (fun _ _ => rfl) ?_
                    refine j_iconst (dt_Mo_finds 121 (217, .iconst 1, 1) rfl) ic_1 ?_
                    refine j_iadd (dt_Mo_finds 122 (218, .iadd, 1) rfl) ?_
                    obtain ⟨V37, hV37, hy87⟩ := jbind hy87
                    refine j_putI (dt_Mo_finds 123 (219, .putfield 317, 3) rfl) fl_X12_317 hV37 rfl (Or.inl rfl) ?_
                    refine j_aload_n (dt_Mo_finds 124 (222, .aload_n 0, 1) rfl) rfl ?_
                    obtain ⟨x38, hx38, hy87⟩ := jbind hy87
                    refine j_getR (dt_Mo_finds 125 (223, .getfield 108, 3) rfl) fl_X12_108 hx38 (fun _ _ => rfl) ?_
                    refine j_iload (dt_Mo_finds 126 (226, .iload 6, 2) rfl) rfl ?_
                    refine j_dup2 (dt_Mo_finds 127 (228, .dup2, 1) rfl) rfl rfl ?_
                    obtain ⟨x39, hx39, hy87⟩ := jbind hy87
                    refine j_aldI (dt_Mo_finds 128 (229, .iaload, 1) rfl) hx39 ?_
                    refine j_iload (dt_Mo_finds 129 (230, .iload 8, 2) rfl) rfl ?_
                    refine j_iconst (dt_Mo_finds 130 (232, .iconst 1, 1) rfl) ic_1 ?_
                    refine j_iand (dt_Mo_finds 131 (233, .iand, 1) rfl) ?_
                    obtain ⟨j234, hj234, hy87⟩ := jbind hy87
                    have hP234 : jJ G M_Mo_finds (jEnd G M_Mo_finds none (S, res)) 0 0 250 [(0, ar v0), (1, ai v1), (2, ai v2), (3, ai v3), (4, ai x2), (5, ai s40.1), (6, ai s54.1), (7, ai s87.1), (8, ai x25)] [ai j234, ai x39, ai s54.1, ar x38] (S, V37) := by
                      refine j_iadd (dt_Mo_finds 141 (250, .iadd, 1) rfl) ?_
                      obtain ⟨V40, hV40, hy87⟩ := jbind hy87
                      refine j_astI (dt_Mo_finds 142 (251, .iastore, 1) rfl) hV40 ?_
                      refine j_aload_n (dt_Mo_finds 143 (252, .aload_n 0, 1) rfl) rfl ?_
                      obtain ⟨x41, hx41, hy87⟩ := jbind hy87
                      refine j_getR (dt_Mo_finds 144 (253, .getfield 108, 3) rfl) fl_X12_108 hx41 (fun _ _ => rfl) ?_
                      refine j_iload (dt_Mo_finds 145 (256, .iload 7, 2) rfl) rfl ?_
                      refine j_dup2 (dt_Mo_finds 146 (258, .dup2, 1) rfl) rfl rfl ?_
                      obtain ⟨x42, hx42, hy87⟩ := jbind hy87
                      refine j_aldI (dt_Mo_finds 147 (259, .iaload, 1) rfl) hx42 ?_
                      refine j_iload (dt_Mo_finds 148 (260, .iload 8, 2) rfl) rfl ?_
                      refine j_iconst (dt_Mo_finds 149 (262, .iconst 2, 1) rfl) ic_2 ?_
                      refine j_iand (dt_Mo_finds 150 (263, .iand, 1) rfl) ?_
                      obtain ⟨j264, hj264, hy87⟩ := jbind hy87
                      have hP264 : jJ G M_Mo_finds (jEnd G M_Mo_finds none (S, res)) 0 0 280 [(0, ar v0), (1, ai v1), (2, ai v2), (3, ai v3), (4, ai x2), (5, ai s40.1), (6, ai s54.1), (7, ai s87.1)] [ai j264, ai x42, ai s87.1, ar x41] (S, V40) := by
                        refine j_iadd (dt_Mo_finds 160 (280, .iadd, 1) rfl) ?_
                        obtain ⟨V43, hV43, hy87⟩ := jbind hy87
                        refine j_astI (dt_Mo_finds 161 (281, .iastore, 1) rfl) hV43 ?_
                        refine j_iinc (dt_Mo_finds 162 (282, .iinc 7 1, 3) rfl) rfl (nlt rfl) (ii_1 _) ?_
                        refine j_goto (dt_Mo_finds 163 (285, .goto (-198), 3) rfl) rfl ?_
                        cases hy87
                        have hz := hin87 _ rfl
                        exact j_sub rfl hz
                      refine jite hj264 (fun hc hj264 => ?_) (fun hc hj264 => ?_)
                      · refine j_if_eq (dt_Mo_finds 151 (264, .ifCond .eq 15, 3) rfl) rfl (fun _ => ?_) (fun q => absurd hc q)
                        refine j_iconst (dt_Mo_finds 159 (279, .iconst 0, 1) rfl) ic_0 ?_
                        cases hj264
                        exact j_sub rfl hP264
                      · refine j_if_eq (dt_Mo_finds 151 (264, .ifCond .eq 15, 3) rfl) rfl (fun q => absurd q hc) (fun _ => ?_)
                        refine j_aload_n (dt_Mo_finds 152 (267, .aload_n 0, 1) rfl) rfl ?_
                        obtain ⟨x44, hx44, hj264⟩ := jbind hj264
                        refine j_getR (dt_Mo_finds 153 (268, .getfield 35, 3) rfl) fl_X12_35 hx44 (fun _ _ => rfl) ?_
                        refine j_iconst (dt_Mo_finds 154 (271, .iconst 0, 1) rfl) ic_0 ?_
                        obtain ⟨x45, hx45, hj264⟩ := jbind hj264
                        refine j_aldR 107 (dt_Mo_finds 155 (272, .aaload, 1) rfl) (by decide) hx45 ?_
                        refine j_iload (dt_Mo_finds 156 (273, .iload 5, 2) rfl) rfl ?_
                        obtain ⟨x46, hx46, hj264⟩ := jbind hj264
                        refine j_aldI (dt_Mo_finds 157 (275, .iaload, 1) rfl) hx46 ?_
                        refine j_goto (dt_Mo_finds 158 (276, .goto 4, 3) rfl) rfl ?_
                        cases hj264
                        exact j_sub rfl hP264
                    refine jite hj234 (fun hc hj234 => ?_) (fun hc hj234 => ?_)
                    · refine j_if_eq (dt_Mo_finds 132 (234, .ifCond .eq 15, 3) rfl) rfl (fun _ => ?_) (fun q => absurd hc q)
                      refine j_iconst (dt_Mo_finds 140 (249, .iconst 0, 1) rfl) ic_0 ?_
                      cases hj234
                      exact j_sub rfl hP234
                    · refine j_if_eq (dt_Mo_finds 132 (234, .ifCond .eq 15, 3) rfl) rfl (fun q => absurd q hc) (fun _ => ?_)
                      refine j_aload_n (dt_Mo_finds 133 (237, .aload_n 0, 1) rfl) rfl ?_
                      obtain ⟨x47, hx47, hj234⟩ := jbind hj234
                      refine j_getR (dt_Mo_finds 134 (238, .getfield 35, 3) rfl) fl_X12_35 hx47 (fun _ _ => rfl) ?_
                      refine j_iconst (dt_Mo_finds 135 (241, .iconst 0, 1) rfl) ic_0 ?_
                      obtain ⟨x48, hx48, hj234⟩ := jbind hj234
                      refine j_aldR 107 (dt_Mo_finds 136 (242, .aaload, 1) rfl) (by decide) hx48 ?_
                      refine j_iload (dt_Mo_finds 137 (243, .iload 5, 2) rfl) rfl ?_
                      obtain ⟨x49, hx49, hj234⟩ := jbind hj234
                      refine j_aldI (dt_Mo_finds 138 (245, .iaload, 1) rfl) hx49 ?_
                      refine j_goto (dt_Mo_finds 139 (246, .goto 4, 3) rfl) rfl ?_
                      cases hj234
                      exact j_sub rfl hP234
              · refine j_icmp_ne (dt_Mo_finds 66 (117, .if_icmp .ne 165, 3) rfl) rfl (fun _ => ?_) (fun q => absurd q hc)
                refine j_iinc (dt_Mo_finds 162 (282, .iinc 7 1, 3) rfl) rfl (nlt rfl) (ii_1 _) ?_
                refine j_goto (dt_Mo_finds 163 (285, .goto (-198), 3) rfl) rfl ?_
                cases hy87
                have hz := hin87 _ rfl
                exact j_sub rfl hz
            · refine j_icmp_ne (dt_Mo_finds 60 (106, .if_icmp .ne 176, 3) rfl) rfl (fun _ => ?_) (fun q => absurd q hc)
              refine j_iinc (dt_Mo_finds 162 (282, .iinc 7 1, 3) rfl) rfl (nlt rfl) (ii_1 _) ?_
              refine j_goto (dt_Mo_finds 163 (285, .goto (-198), 3) rfl) rfl ?_
              cases hy87
              have hz := hin87 _ rfl
              exact j_sub rfl hz
        refine jite hj74 (fun hc hj74 => ?_) (fun hc hj74 => ?_)
        · refine j_if_ne (dt_Mo_finds 42 (74, .ifCond .ne 7, 3) rfl) rfl (fun q => absurd hc q) (fun _ => ?_)
          refine j_iconst (dt_Mo_finds 43 (77, .iconst 0, 1) rfl) ic_0 ?_
          refine j_goto (dt_Mo_finds 44 (78, .goto 7, 3) rfl) rfl ?_
          cases hj74
          exact j_sub rfl hP74
        · refine j_if_ne (dt_Mo_finds 42 (74, .ifCond .ne 7, 3) rfl) rfl (fun _ => ?_) (fun q => absurd q hc)
          refine j_iload (dt_Mo_finds 45 (81, .iload 6, 2) rfl) rfl ?_
          refine j_iconst (dt_Mo_finds 46 (83, .iconst 1, 1) rfl) ic_1 ?_
          refine j_iadd (dt_Mo_finds 47 (84, .iadd, 1) rfl) ?_
          cases hj74
          exact j_sub rfl hP74
  refine j_sub (ls' := [(0, ar v0), (1, ai v1), (2, ai v2), (3, ai v3), (4, ai x2), (5, ai 0)]) rfl ?_
  refine jloop_J (C := fun s16 => jJ G M_Mo_finds (jEnd G M_Mo_finds none (S, res)) 0 0 16 [(0, ar v0), (1, ai v1), (2, ai v2), (3, ai v3), (4, ai x2), (5, ai s16.1)] [] (S, s16.2)) (fun s16 z16_ hy16 hin16 hout16 => ?_) _ _ ht16
  unfold Mo_finds_L16 at hy16
  refine j_iload (dt_Mo_finds 10 (16, .iload 5, 2) rfl) rfl ?_
  refine j_bipush (dt_Mo_finds 11 (18, .bipush 10, 2) rfl) bp_10 ?_
  refine jite hy16 (fun hc hy16 => ?_) (fun hc hy16 => ?_)
  · refine j_icmp_ge (dt_Mo_finds 12 (20, .if_icmp .ge 17, 3) rfl) rfl (fun _ => ?_) (fun q => absurd hc q)
    cases hy16
    have hz := hX16 _ (hout16 _ rfl)
    exact j_sub rfl hz
  · refine j_icmp_ge (dt_Mo_finds 12 (20, .if_icmp .ge 17, 3) rfl) rfl (fun q => absurd q hc) (fun _ => ?_)
    refine j_aload_n (dt_Mo_finds 13 (23, .aload_n 0, 1) rfl) rfl ?_
    obtain ⟨x4, hx4, hy16⟩ := jbind hy16
    refine j_getR (dt_Mo_finds 14 (24, .getfield 108, 3) rfl) fl_X12_108 hx4 (fun _ _ => rfl) ?_
    refine j_iload (dt_Mo_finds 15 (27, .iload 5, 2) rfl) rfl ?_
    refine j_iconst (dt_Mo_finds 16 (29, .iconst 0, 1) rfl) ic_0 ?_
    obtain ⟨V5, hV5, hy16⟩ := jbind hy16
    refine j_astI (dt_Mo_finds 17 (30, .iastore, 1) rfl) hV5 ?_
    refine j_iinc (dt_Mo_finds 18 (31, .iinc 5 1, 3) rfl) rfl (nlt rfl) (ii_1 _) ?_
    refine j_goto (dt_Mo_finds 19 (34, .goto (-18), 3) rfl) rfl ?_
    cases hy16
    have hz := hin16 _ rfl
    exact j_sub rfl hz
theorem r_Mo_finds {S : hS} {V : hV} {v0 : Option Nat} {v1 : Int32} {v2 : Int32} {v3 : Int32} {res : hV} (hf : Mo_finds S v0 v1 v2 v3 V = some res) : ∃ b, rc S 12 v0 = some b := by
  unfold Mo_finds at hf
  obtain ⟨b, hb, _⟩ := jbind hf
  exact ⟨b, hb⟩
def tb_Jd_max : List (Nat × Instr × Nat) := [(0, .iload_n 0, 1), (1, .iload_n 1, 1), (2, .if_icmp .lt 7, 3), (5, .iload_n 0, 1), (6, .goto 4, 3), (9, .iload_n 1, 1), (10, .ireturn, 1)]
theorem dt_Jd_max (i : Nat) (q : Nat × Instr × Nat) (h : tb_Jd_max[i]? = some q) : decode prog_16_method_65_code q.1 = .ok q.2 := jdt (by decide +kernel : tb_Jd_max.all (fun q => decide (decode prog_16_method_65_code q.1 = .ok q.2)) = true) h
theorem ok_Jd_max : jOKS M_Jd_max 2 := ⟨⟨gt4 161 rfl rfl, gt1 20 rfl rfl, (by decide : "java/lang/Math" ≠ "java/lang/invoke/MethodHandle"), (by decide : "java/lang/Math" ≠ "java/lang/invoke/VarHandle"), (by decide +kernel : (parseMethodDescriptor "(II)I").map (fun d => d.parameters.length) = some 2)⟩, gt4 160 rfl rfl⟩
set_option maxRecDepth 100000 in
set_option maxHeartbeats 4000000 in
theorem c_Jd_max {G : jG} {S : hS} {V : hV} {v0 : Int32} {v1 : Int32} {res : Int32} (hf : Jd_max v0 v1 = res) : jC G M_Jd_max [ai v0, ai v1] (S, V) (some (ai res)) (S, V) := by
  unfold Jd_max at hf
  refine jC_of (by decide +kernel) rfl (nle rfl) ?_
  show jJ G M_Jd_max (jEnd G M_Jd_max (some (ai res)) (S, V)) 0 0 0 [(0, ai v0), (1, ai v1)] [] (S, V)
  refine j_iload_n (dt_Jd_max 0 (0, .iload_n 0, 1) rfl) rfl ?_
  refine j_iload_n (dt_Jd_max 1 (1, .iload_n 1, 1) rfl) rfl ?_
  refine jite hf (fun hc hf => ?_) (fun hc hf => ?_)
  · refine j_icmp_lt (dt_Jd_max 2 (2, .if_icmp .lt 7, 3) rfl) rfl (fun _ => ?_) (fun q => absurd hc q)
    refine j_iload_n (dt_Jd_max 5 (9, .iload_n 1, 1) rfl) rfl ?_
    cases hf
    exact j_iret (dt_Jd_max 6 (10, .ireturn, 1) rfl) rfl
  · refine j_icmp_lt (dt_Jd_max 2 (2, .if_icmp .lt 7, 3) rfl) rfl (fun q => absurd q hc) (fun _ => ?_)
    refine j_iload_n (dt_Jd_max 3 (5, .iload_n 0, 1) rfl) rfl ?_
    refine j_goto (dt_Jd_max 4 (6, .goto 4, 3) rfl) rfl ?_
    cases hf
    exact j_iret (dt_Jd_max 6 (10, .ireturn, 1) rfl) rfl
